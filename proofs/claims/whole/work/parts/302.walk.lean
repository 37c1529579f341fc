/-! StripeTradeModel.law (I)I [('obj', 'm')] -/
set_option maxHeartbeats 4000000 in
set_option maxRecDepth 100000 in
theorem mpM_law_85 {p : Program} {l : Launch} {e : Env} {R : Room} {s : State} {m : MethodId} {args : Array Value} {below : List Frame} {meth : Method} {c : Code} {cells slots : Nat} {Q : State → Prop} {g : zG} (hI : zI g 581) (hC : zC g RX10 cX10_law 2 (some .int) p s m meth c args) (hR : 57 ≤ R.frames ∧ 60 * 57 ≤ R.locals ∧ cells ≤ R.cells ∧ slots ≤ R.slots) (m_place : Int32) (m_fed : Nat → Int32) (m_readTold : Nat → Int32) (m_told : Nat → Int32) (m_readBeast : Nat → Nat → Int32) (m_beast : Nat → Nat → Int32) (m_readGate : Nat → Nat → Int32) (m_gate : Nat → Nat → Int32) (m_readList : Nat → Nat → Int32) (m_list : Nat → Nat → Int32) (m_lawMany : Int32) (m_law : Nat → Nat → Int32) (m_stack : Nat → Int32) (m_known : Nat → Int32) (m_step : Nat → Nat → Int32) (m_steps : Int32) (m_now : Nat → Int32) (m_trial : Nat → Int32) (m_before : Nat → Nat → Int32) (m_kept : Nat → Nat → Int32) (m_works : Int32) (m_refusedSteps : Int32) (m_images : Int32) (m_spot : Int32) (m_begun : Int32) (m_doneSteps : Int32) (m_mixed : Nat → Int32) (m_fewest : Nat → Int32) (m_leastFees : Nat → Int32) (m_lots : Int32) (m_tars : Int32)  (N9 : Nat)   (res : Int32 × Int32 × Int32 × Int32 × Int32 × Int32 × Int32 × Int32 × Int32 × Int32 × (Nat → Int32) × Int32 × Int32 × (Nat → Nat → Int32) × (Nat → Nat → Int32)) (hfin : ∀ (r0 : Int32) (m_thrown : Int32) (m_tape : Int32) (m_size : Int32) (m_place : Int32) (m_at : Int32) (m_fault : Int32) (m_faultAt : Int32) (m_clauses : Int32) (m_open : Int32) (m_refused : Nat → Int32) (m_lawMany : Int32) (m_readLawMany : Int32) (m_law : Nat → Nat → Int32) (m_readLaw : Nat → Nat → Int32) (H : Heap) (locs : List Loc) (pc : Nat) (ls : Array Slot), (r0, m_thrown, m_tape, m_size, m_place, m_at, m_fault, m_faultAt, m_clauses, m_open, m_refused, m_lawMany, m_readLawMany, m_law, m_readLaw) = res → va_P g.1 zcl (zM g m_thrown m_tape m_size m_place m_at m_fault m_faultAt m_clauses m_open m_fed m_refused m_readTold m_told m_readBeast m_beast m_readGate m_gate m_readList m_list m_lawMany m_readLawMany m_law m_readLaw m_stack m_known m_step m_steps m_now m_trial m_before m_kept m_works m_refusedSteps m_images m_spot m_begun m_doneSteps m_mixed m_fewest m_leastFees m_lots m_tars) H → va_S (zF g 64 580 s.heap.size) s.heap H locs → decode cX10_law pc = .ok (.ireturn, 1) → W p l e R s m args below meth c H locs cells slots Q (F0 m pc ls [.int r0])) : ∀ (m_thrown : Int32) (m_tape : Int32) (m_size : Int32) (m_at : Int32) (m_fault : Int32) (m_faultAt : Int32) (m_clauses : Int32) (m_open : Int32) (m_refused : Nat → Int32) (m_readLawMany : Int32) (m_readLaw : Nat → Nat → Int32), pM_law_85 N9 m_place m_lawMany m_law m_thrown m_tape m_size m_at m_fault m_faultAt m_clauses m_open m_refused m_readLawMany m_readLaw = some res → ∀ (H : Heap) (locs : List Loc) (ls : Array Slot), va_P g.1 zcl (zM g m_thrown m_tape m_size m_place m_at m_fault m_faultAt m_clauses m_open m_fed m_refused m_readTold m_told m_readBeast m_beast m_readGate m_gate m_readList m_list m_lawMany m_readLawMany m_law m_readLaw m_stack m_known m_step m_steps m_now m_trial m_before m_kept m_works m_refusedSteps m_images m_spot m_begun m_doneSteps m_mixed m_fewest m_leastFees m_lots m_tars) H → va_S (zF g 64 580 s.heap.size) s.heap H locs → lv_has ls 2 [(0, .ref (g.2.1 64))] → W p l e R s m args below meth c H locs cells slots Q (F0 m 85 ls []) := by
  obtain ⟨hx, hb, hr, hml, hown, hts, hK, hlk, hST⟩ := id hC
  have hB : ∀ q, (zF g 64 580 s.heap.size) q → zB g q := zF.base hI (Nat.le_of_ble_eq_true rfl) hST.1
  intro m_thrown m_tape m_size m_at m_fault m_faultAt m_clauses m_open m_refused m_readLawMany m_readLaw hf H locs ls hP hS hl
  unfold pM_law_85 at hf
  refine lv_aload_n hx hb dX10_law_85 rfl (lv_at hl 0 rfl) ?_
  refine zg_m_fault hC hP (hC.fl mw_1394) dX10_law_86 ?_
  refine lv_if_eq (tgt := 97) hx hb dX10_law_89 (by decide) (fun hc_1 => ?_) (fun hc_1 => ?_)
  · have hf := zifp hc_1 hf
    refine lv_aload_n hx hb dX10_law_97 rfl (lv_at hl 0 rfl) ?_
    refine lv_iconst (v := (-1)) hx hb dX10_law_98 (by decide) ?_
    refine zp_m_place hC hP hI (fun k h1 h2 => zF.own h1 h2) hS (hC.fl mw_1392) dX10_law_99 (fun H locs hP hS => ?_)
    refine lv_aload_n hx hb dX10_law_102 rfl (lv_at hl 0 rfl) ?_
    refine lv_aload_n hx hb dX10_law_103 rfl (lv_at hl 0 rfl) ?_
    refine zg_m_readLawMany hC hP (hC.fl mw_1409) dX10_law_104 ?_
    refine zp_m_lawMany hC hP hI (fun k h1 h2 => zF.own h1 h2) hS (hC.fl mw_1408) dX10_law_107 (fun H locs hP hS => ?_)
    refine lv_aload_n hx hb dX10_law_110 rfl (lv_at hl 0 rfl) ?_
    refine zr_m_readLaw hC hP (hC.fl mw_1411) dX10_law_111 ?_
    refine lv_aload_n hx hb dX10_law_114 rfl (lv_at hl 0 rfl) ?_
    refine zr_m_law hC hP (hC.fl mw_1410) dX10_law_115 ?_
    refine lv_aload_n hx hb dX10_law_118 rfl (lv_at hl 0 rfl) ?_
    refine zg_m_lawMany hC hP (hC.fl mw_1408) dX10_law_119 ?_
    obtain ⟨m_law_2, hf_2, hf⟩ := zb1i hf
    refine zcallSv (As := [.ref (g.2.1 76), .ref (g.2.1 75), .int m_readLawMany]) (rest := []) hC hP hS hB (fun q h => zF.mono hS.1 h) (cpM_lays_i3 l hI H.size m_thrown m_tape m_size (-1) m_at m_fault m_faultAt m_clauses m_open m_fed m_refused m_readTold m_told m_readBeast m_beast m_readGate m_gate m_readList m_list m_readLawMany m_readLawMany m_law m_readLaw m_stack m_known m_step m_steps m_now m_trial m_before m_kept m_works m_refusedSteps m_images m_spot m_begun m_doneSteps m_mixed m_fewest m_leastFees m_lots m_tars m_readLawMany N9 hf_2) (hC.ml mw_1386) yo_X10_lays rfl hl.1 rfl (Nat.le_of_ble_eq_true rfl) ⟨by omega, by omega⟩ hR.2.2 dX10_law_122 (fun H locs hP hS _ _ => ?_)
    refine lv_iconst (v := 1) hx hb dX10_law_125 (by decide) ?_
    exact hfin _ _ _ _ _ _ _ _ _ _ _ _ _ _ _ H locs _ ls (Option.some.inj hf) hP hS dX10_law_126
  · have hf := zifn hc_1 hf
    refine lv_aload_n hx hb dX10_law_92 rfl (lv_at hl 0 rfl) ?_
    obtain ⟨r_3, m_place_3, hf_3, hf⟩ := zb2i hf
    refine zcallVi (As := []) (rest := []) hC hP hS hB (fun q h => zF.mono hS.1 h) (cpM_faulty l hI H.size m_thrown m_tape m_size m_place m_at m_fault m_faultAt m_clauses m_open m_fed m_refused m_readTold m_told m_readBeast m_beast m_readGate m_gate m_readList m_list m_lawMany m_readLawMany m_law m_readLaw m_stack m_known m_step m_steps m_now m_trial m_before m_kept m_works m_refusedSteps m_images m_spot m_begun m_doneSteps m_mixed m_fewest m_leastFees m_lots m_tars  N9 hf_3) (hC.ml mw_1592) yo_X10_faulty 0 (zfM rfl) rfl rfl rfl hl.1 rfl (Nat.le_of_ble_eq_true rfl) ⟨by omega, by omega⟩ hR.2.2 dX10_law_93 (fun H locs hP hS _ _ => ?_)
    exact hfin _ _ _ _ _ _ _ _ _ _ _ _ _ _ _ H locs _ ls (Option.some.inj hf) hP hS dX10_law_96
set_option maxHeartbeats 4000000 in
set_option maxRecDepth 100000 in
theorem mpM_law_30 {p : Program} {l : Launch} {e : Env} {R : Room} {s : State} {m : MethodId} {args : Array Value} {below : List Frame} {meth : Method} {c : Code} {cells slots : Nat} {Q : State → Prop} {g : zG} (hI : zI g 581) (hC : zC g RX10 cX10_law 2 (some .int) p s m meth c args) (hR : 57 ≤ R.frames ∧ 60 * 57 ≤ R.locals ∧ cells ≤ R.cells ∧ slots ≤ R.slots) (m_tape : Int32) (m_size : Int32) (m_place : Int32) (m_at : Int32) (m_fault : Int32) (m_faultAt : Int32) (m_clauses : Int32) (m_open : Int32) (m_fed : Nat → Int32) (m_refused : Nat → Int32) (m_readTold : Nat → Int32) (m_told : Nat → Int32) (m_readBeast : Nat → Nat → Int32) (m_beast : Nat → Nat → Int32) (m_readGate : Nat → Nat → Int32) (m_gate : Nat → Nat → Int32) (m_readList : Nat → Nat → Int32) (m_list : Nat → Nat → Int32) (m_lawMany : Int32) (m_readLawMany : Int32) (m_law : Nat → Nat → Int32) (m_readLaw : Nat → Nat → Int32) (m_stack : Nat → Int32) (m_known : Nat → Int32) (m_step : Nat → Nat → Int32) (m_steps : Int32) (m_now : Nat → Int32) (m_trial : Nat → Int32) (m_before : Nat → Nat → Int32) (m_kept : Nat → Nat → Int32) (m_works : Int32) (m_refusedSteps : Int32) (m_images : Int32) (m_spot : Int32) (m_begun : Int32) (m_doneSteps : Int32) (m_mixed : Nat → Int32) (m_fewest : Nat → Int32) (m_leastFees : Nat → Int32) (m_lots : Int32) (m_tars : Int32) (x1 : Int32) (N9 : Nat)   (res : Int32 × Int32 × Int32 × Int32 × Int32 × Int32 × Int32 × Int32 × Int32 × Int32 × (Nat → Int32) × Int32 × Int32 × (Nat → Nat → Int32) × (Nat → Nat → Int32)) (hfin : ∀ (r0 : Int32) (m_thrown : Int32) (m_tape : Int32) (m_size : Int32) (m_place : Int32) (m_at : Int32) (m_fault : Int32) (m_faultAt : Int32) (m_clauses : Int32) (m_open : Int32) (m_refused : Nat → Int32) (m_lawMany : Int32) (m_readLawMany : Int32) (m_law : Nat → Nat → Int32) (m_readLaw : Nat → Nat → Int32) (H : Heap) (locs : List Loc) (pc : Nat) (ls : Array Slot), (r0, m_thrown, m_tape, m_size, m_place, m_at, m_fault, m_faultAt, m_clauses, m_open, m_refused, m_lawMany, m_readLawMany, m_law, m_readLaw) = res → va_P g.1 zcl (zM g m_thrown m_tape m_size m_place m_at m_fault m_faultAt m_clauses m_open m_fed m_refused m_readTold m_told m_readBeast m_beast m_readGate m_gate m_readList m_list m_lawMany m_readLawMany m_law m_readLaw m_stack m_known m_step m_steps m_now m_trial m_before m_kept m_works m_refusedSteps m_images m_spot m_begun m_doneSteps m_mixed m_fewest m_leastFees m_lots m_tars) H → va_S (zF g 64 580 s.heap.size) s.heap H locs → decode cX10_law pc = .ok (.ireturn, 1) → W p l e R s m args below meth c H locs cells slots Q (F0 m pc ls [.int r0])) : ∀ (m_thrown : Int32) (s1 : Int32), pM_law_30 N9 m_tape m_size m_place m_at m_fault m_faultAt m_clauses m_open m_fed m_refused m_lawMany m_readLawMany m_law m_readLaw x1 m_thrown s1 = some res → ∀ (H : Heap) (locs : List Loc) (ls : Array Slot), va_P g.1 zcl (zM g m_thrown m_tape m_size m_place m_at m_fault m_faultAt m_clauses m_open m_fed m_refused m_readTold m_told m_readBeast m_beast m_readGate m_gate m_readList m_list m_lawMany m_readLawMany m_law m_readLaw m_stack m_known m_step m_steps m_now m_trial m_before m_kept m_works m_refusedSteps m_images m_spot m_begun m_doneSteps m_mixed m_fewest m_leastFees m_lots m_tars) H → va_S (zF g 64 580 s.heap.size) s.heap H locs → lv_has ls 2 [(0, .ref (g.2.1 64)), (1, .int x1)] → W p l e R s m args below meth c H locs cells slots Q (F0 m 30 ls [.int s1, .ref (g.2.1 64)]) := by
  obtain ⟨hx, hb, hr, hml, hown, hts, hK, hlk, hST⟩ := id hC
  have hB : ∀ q, (zF g 64 580 s.heap.size) q → zB g q := zF.base hI (Nat.le_of_ble_eq_true rfl) hST.1
  intro m_thrown s1 hf H locs ls hP hS hl
  have hk85 := mpM_law_85 (l := l) (e := e) (R := R) (below := below) (cells := cells) (slots := slots) (Q := Q) hI hC hR m_place m_fed m_readTold m_told m_readBeast m_beast m_readGate m_gate m_readList m_list m_lawMany m_law m_stack m_known m_step m_steps m_now m_trial m_before m_kept m_works m_refusedSteps m_images m_spot m_begun m_doneSteps m_mixed m_fewest m_leastFees m_lots m_tars N9 res hfin
  unfold pM_law_30 at hf
  refine lv_iconst (v := 1) hx hb dX10_law_30 (by decide) ?_
  refine lv_iconst (v := 1) hx hb dX10_law_31 (by decide) ?_
  obtain ⟨r_4, m_thrown_4, m_refused_4, hf_4, hf⟩ := zb3i hf
  refine zcallVi (As := [.int s1, .int 1, .int 1]) (rest := []) hC hP hS hB (fun q h => zF.mono hS.1 h) (cpM_bad l hI H.size m_thrown m_tape m_size m_place m_at m_fault m_faultAt m_clauses m_open m_fed m_refused m_readTold m_told m_readBeast m_beast m_readGate m_gate m_readList m_list m_lawMany m_readLawMany m_law m_readLaw m_stack m_known m_step m_steps m_now m_trial m_before m_kept m_works m_refusedSteps m_images m_spot m_begun m_doneSteps m_mixed m_fewest m_leastFees m_lots m_tars s1 (1 : Int32) (1 : Int32) N9 hf_4) (hC.ml mw_1531) yo_X10_bad 0 (zfM rfl) rfl rfl rfl hl.1 rfl (Nat.le_of_ble_eq_true rfl) ⟨by omega, by omega⟩ hR.2.2 dX10_law_32 (fun H locs hP hS _ _ => ?_)
  refine lv_if_eq (tgt := 40) hx hb dX10_law_35 (by decide) (fun hc_5 => ?_) (fun hc_5 => ?_)
  · have hf := zifp hc_5 hf
    refine lv_aload_n hx hb dX10_law_40 rfl (lv_at hl 0 rfl) ?_
    refine lv_iload_n hx hb dX10_law_41 rfl (lv_at hl 1 rfl) ?_
    obtain ⟨m_tape_6, m_size_6, m_at_6, m_fault_6, m_faultAt_6, m_clauses_6, m_open_6, hf_6, hf⟩ := zb7i hf
    refine zcallVv (As := [.int x1]) (rest := []) hC hP hS hB (fun q h => zF.mono hS.1 h) (cpM_starts l hI H.size m_thrown_4 m_tape m_size m_place m_at m_fault m_faultAt m_clauses m_open m_fed m_refused_4 m_readTold m_told m_readBeast m_beast m_readGate m_gate m_readList m_list m_lawMany m_readLawMany m_law m_readLaw m_stack m_known m_step m_steps m_now m_trial m_before m_kept m_works m_refusedSteps m_images m_spot m_begun m_doneSteps m_mixed m_fewest m_leastFees m_lots m_tars x1 N9 hf_6) (hC.ml mw_1535) yo_X10_starts 0 (zfM rfl) rfl rfl rfl hl.1 rfl (Nat.le_of_ble_eq_true rfl) ⟨by omega, by omega⟩ hR.2.2 dX10_law_42 (fun H locs hP hS _ _ => ?_)
    refine lv_aload_n hx hb dX10_law_45 rfl (lv_at hl 0 rfl) ?_
    refine lv_iconst (v := 0) hx hb dX10_law_46 (by decide) ?_
    refine zp_m_readLawMany hC hP hI (fun k h1 h2 => zF.own h1 h2) hS (hC.fl mw_1409) dX10_law_47 (fun H locs hP hS => ?_)
    refine lv_aload_n hx hb dX10_law_50 rfl (lv_at hl 0 rfl) ?_
    obtain ⟨m_at_7, m_fault_7, m_faultAt_7, m_open_7, m_readLawMany_7, m_readLaw_7, hf_7, hf⟩ := zb6i hf
    refine zcallVv (As := []) (rest := []) hC hP hS hB (fun q h => zF.mono hS.1 h) (cpM_sum l hI H.size m_thrown_4 m_tape_6 m_size_6 m_place m_at_6 m_fault_6 m_faultAt_6 m_clauses_6 m_open_6 m_fed m_refused_4 m_readTold m_told m_readBeast m_beast m_readGate m_gate m_readList m_list m_lawMany 0 m_law m_readLaw m_stack m_known m_step m_steps m_now m_trial m_before m_kept m_works m_refusedSteps m_images m_spot m_begun m_doneSteps m_mixed m_fewest m_leastFees m_lots m_tars  N9 hf_7) (hC.ml mw_1600) yo_X10_sum 0 (zfM rfl) rfl rfl rfl hl.1 rfl (Nat.le_of_ble_eq_true rfl) ⟨by omega, by omega⟩ hR.2.2 dX10_law_51 (fun H locs hP hS _ _ => ?_)
    refine lv_aload_n hx hb dX10_law_54 rfl (lv_at hl 0 rfl) ?_
    obtain ⟨m_at_8, hf_8, hf⟩ := zb1i hf
    refine zcallVv (As := []) (rest := []) hC hP hS hB (fun q h => zF.mono hS.1 h) (cpM_blanks l hI H.size m_thrown_4 m_tape_6 m_size_6 m_place m_at_7 m_fault_7 m_faultAt_7 m_clauses_6 m_open_7 m_fed m_refused_4 m_readTold m_told m_readBeast m_beast m_readGate m_gate m_readList m_list m_lawMany m_readLawMany_7 m_law m_readLaw_7 m_stack m_known m_step m_steps m_now m_trial m_before m_kept m_works m_refusedSteps m_images m_spot m_begun m_doneSteps m_mixed m_fewest m_leastFees m_lots m_tars  N9 hf_8) (hC.ml mw_1539) yo_X10_blanks 0 (zfM rfl) rfl rfl rfl hl.1 rfl (Nat.le_of_ble_eq_true rfl) ⟨by omega, by omega⟩ hR.2.2 dX10_law_55 (fun H locs hP hS _ _ => ?_)
    refine lv_aload_n hx hb dX10_law_58 rfl (lv_at hl 0 rfl) ?_
    refine zg_m_fault hC hP (hC.fl mw_1394) dX10_law_59 ?_
    refine lv_if_ne (tgt := 85) hx hb dX10_law_62 (by decide) (fun hc_9 => ?_) (fun hc_9 => ?_)
    · have hf := zifn hc_9 hf
      exact hk85 m_thrown_4 m_tape_6 m_size_6 m_at_8 m_fault_7 m_faultAt_7 m_clauses_6 m_open_7 m_refused_4 m_readLawMany_7 m_readLaw_7 hf H locs ls hP hS (lv_sub hl [0] rfl)
    · have hf := zifp hc_9 hf
      refine lv_aload_n hx hb dX10_law_65 rfl (lv_at hl 0 rfl) ?_
      refine zg_m_at hC hP (hC.fl mw_1393) dX10_law_66 ?_
      refine lv_aload_n hx hb dX10_law_69 rfl (lv_at hl 0 rfl) ?_
      refine zg_m_size hC hP (hC.fl mw_1391) dX10_law_70 ?_
      refine lv_icmp_ge (tgt := 85) hx hb dX10_law_73 (by decide) (fun hc_10 => ?_) (fun hc_10 => ?_)
      · have hf := zifp hc_10 hf
        exact hk85 m_thrown_4 m_tape_6 m_size_6 m_at_8 m_fault_7 m_faultAt_7 m_clauses_6 m_open_7 m_refused_4 m_readLawMany_7 m_readLaw_7 hf H locs ls hP hS (lv_sub hl [0] rfl)
      · have hf := zifn hc_10 hf
        refine lv_aload_n hx hb dX10_law_76 rfl (lv_at hl 0 rfl) ?_
        refine lv_iconst (v := 1) hx hb dX10_law_77 (by decide) ?_
        refine lv_aload_n hx hb dX10_law_78 rfl (lv_at hl 0 rfl) ?_
        refine zg_m_at hC hP (hC.fl mw_1393) dX10_law_79 ?_
        obtain ⟨m_fault_11, m_faultAt_11, hf_11, hf⟩ := zb2i hf
        refine zcallVv (As := [.int 1, .int m_at_8]) (rest := []) hC hP hS hB (fun q h => zF.mono hS.1 h) (cpM_wrong l hI H.size m_thrown_4 m_tape_6 m_size_6 m_place m_at_8 m_fault_7 m_faultAt_7 m_clauses_6 m_open_7 m_fed m_refused_4 m_readTold m_told m_readBeast m_beast m_readGate m_gate m_readList m_list m_lawMany m_readLawMany_7 m_law m_readLaw_7 m_stack m_known m_step m_steps m_now m_trial m_before m_kept m_works m_refusedSteps m_images m_spot m_begun m_doneSteps m_mixed m_fewest m_leastFees m_lots m_tars (1 : Int32) m_at_8 N9 hf_11) (hC.ml mw_1569) yo_X10_wrong 0 (zfM rfl) rfl rfl rfl hl.1 rfl (Nat.le_of_ble_eq_true rfl) ⟨by omega, by omega⟩ hR.2.2 dX10_law_82 (fun H locs hP hS _ _ => ?_)
        exact hk85 m_thrown_4 m_tape_6 m_size_6 m_at_8 m_fault_11 m_faultAt_11 m_clauses_6 m_open_7 m_refused_4 m_readLawMany_7 m_readLaw_7 hf H locs ls hP hS (lv_sub hl [0] rfl)
  · have hf := zifn hc_5 hf
    refine lv_iconst (v := 0) hx hb dX10_law_38 (by decide) ?_
    exact hfin _ _ _ _ _ _ _ _ _ _ _ _ _ _ _ H locs _ ls (Option.some.inj hf) hP hS dX10_law_39
set_option maxHeartbeats 4000000 in
set_option maxRecDepth 100000 in
theorem mpM_law_25 {p : Program} {l : Launch} {e : Env} {R : Room} {s : State} {m : MethodId} {args : Array Value} {below : List Frame} {meth : Method} {c : Code} {cells slots : Nat} {Q : State → Prop} {g : zG} (hI : zI g 581) (hC : zC g RX10 cX10_law 2 (some .int) p s m meth c args) (hR : 57 ≤ R.frames ∧ 60 * 57 ≤ R.locals ∧ cells ≤ R.cells ∧ slots ≤ R.slots) (m_tape : Int32) (m_size : Int32) (m_place : Int32) (m_at : Int32) (m_fault : Int32) (m_faultAt : Int32) (m_clauses : Int32) (m_open : Int32) (m_fed : Nat → Int32) (m_refused : Nat → Int32) (m_readTold : Nat → Int32) (m_told : Nat → Int32) (m_readBeast : Nat → Nat → Int32) (m_beast : Nat → Nat → Int32) (m_readGate : Nat → Nat → Int32) (m_gate : Nat → Nat → Int32) (m_readList : Nat → Nat → Int32) (m_list : Nat → Nat → Int32) (m_lawMany : Int32) (m_readLawMany : Int32) (m_law : Nat → Nat → Int32) (m_readLaw : Nat → Nat → Int32) (m_stack : Nat → Int32) (m_known : Nat → Int32) (m_step : Nat → Nat → Int32) (m_steps : Int32) (m_now : Nat → Int32) (m_trial : Nat → Int32) (m_before : Nat → Nat → Int32) (m_kept : Nat → Nat → Int32) (m_works : Int32) (m_refusedSteps : Int32) (m_images : Int32) (m_spot : Int32) (m_begun : Int32) (m_doneSteps : Int32) (m_mixed : Nat → Int32) (m_fewest : Nat → Int32) (m_leastFees : Nat → Int32) (m_lots : Int32) (m_tars : Int32) (x1 : Int32) (N9 : Nat)  (k30 : Int32 → Int32 → Option (Int32 × Int32 × Int32 × Int32 × Int32 × Int32 × Int32 × Int32 × Int32 × Int32 × (Nat → Int32) × Int32 × Int32 × (Nat → Nat → Int32) × (Nat → Nat → Int32))) (res : Int32 × Int32 × Int32 × Int32 × Int32 × Int32 × Int32 × Int32 × Int32 × Int32 × (Nat → Int32) × Int32 × Int32 × (Nat → Nat → Int32) × (Nat → Nat → Int32)) (hfin : ∀ (r0 : Int32) (m_thrown : Int32) (m_tape : Int32) (m_size : Int32) (m_place : Int32) (m_at : Int32) (m_fault : Int32) (m_faultAt : Int32) (m_clauses : Int32) (m_open : Int32) (m_refused : Nat → Int32) (m_lawMany : Int32) (m_readLawMany : Int32) (m_law : Nat → Nat → Int32) (m_readLaw : Nat → Nat → Int32) (H : Heap) (locs : List Loc) (pc : Nat) (ls : Array Slot), (r0, m_thrown, m_tape, m_size, m_place, m_at, m_fault, m_faultAt, m_clauses, m_open, m_refused, m_lawMany, m_readLawMany, m_law, m_readLaw) = res → va_P g.1 zcl (zM g m_thrown m_tape m_size m_place m_at m_fault m_faultAt m_clauses m_open m_fed m_refused m_readTold m_told m_readBeast m_beast m_readGate m_gate m_readList m_list m_lawMany m_readLawMany m_law m_readLaw m_stack m_known m_step m_steps m_now m_trial m_before m_kept m_works m_refusedSteps m_images m_spot m_begun m_doneSteps m_mixed m_fewest m_leastFees m_lots m_tars) H → va_S (zF g 64 580 s.heap.size) s.heap H locs → decode cX10_law pc = .ok (.ireturn, 1) → W p l e R s m args below meth c H locs cells slots Q (F0 m pc ls [.int r0])) (hk30 : ∀ (m_thrown : Int32) (s1 : Int32), k30 m_thrown s1 = some res → ∀ (H : Heap) (locs : List Loc) (ls : Array Slot), va_P g.1 zcl (zM g m_thrown m_tape m_size m_place m_at m_fault m_faultAt m_clauses m_open m_fed m_refused m_readTold m_told m_readBeast m_beast m_readGate m_gate m_readList m_list m_lawMany m_readLawMany m_law m_readLaw m_stack m_known m_step m_steps m_now m_trial m_before m_kept m_works m_refusedSteps m_images m_spot m_begun m_doneSteps m_mixed m_fewest m_leastFees m_lots m_tars) H → va_S (zF g 64 580 s.heap.size) s.heap H locs → lv_has ls 2 [(0, .ref (g.2.1 64)), (1, .int x1)] → W p l e R s m args below meth c H locs cells slots Q (F0 m 30 ls [.int s1, .ref (g.2.1 64)])) : ∀ (m_thrown : Int32), pM_law_25 N9 x1 k30 m_thrown = some res → ∀ (H : Heap) (locs : List Loc) (ls : Array Slot), va_P g.1 zcl (zM g m_thrown m_tape m_size m_place m_at m_fault m_faultAt m_clauses m_open m_fed m_refused m_readTold m_told m_readBeast m_beast m_readGate m_gate m_readList m_list m_lawMany m_readLawMany m_law m_readLaw m_stack m_known m_step m_steps m_now m_trial m_before m_kept m_works m_refusedSteps m_images m_spot m_begun m_doneSteps m_mixed m_fewest m_leastFees m_lots m_tars) H → va_S (zF g 64 580 s.heap.size) s.heap H locs → lv_has ls 2 [(0, .ref (g.2.1 64)), (1, .int x1)] → W p l e R s m args below meth c H locs cells slots Q (F0 m 25 ls [.ref (g.2.1 64)]) := by
  obtain ⟨hx, hb, hr, hml, hown, hts, hK, hlk, hST⟩ := id hC
  have hB : ∀ q, (zF g 64 580 s.heap.size) q → zB g q := zF.base hI (Nat.le_of_ble_eq_true rfl) hST.1
  intro m_thrown hf H locs ls hP hS hl
  unfold pM_law_25 at hf
  refine lv_iconst (v := 1) hx hb dX10_law_25 (by decide) ?_
  refine lv_goto (tgt := 30) hx hb dX10_law_26 (by decide) ?_
  exact hk30 m_thrown 1 hf H locs ls hP hS (lv_sub hl [0, 1] rfl)
set_option maxHeartbeats 4000000 in
set_option maxRecDepth 100000 in
theorem mpM_law {p : Program} {l : Launch} {e : Env} {R : Room} {s : State} {m : MethodId} {args : Array Value} {below : List Frame} {meth : Method} {c : Code} {cells slots : Nat} {Q : State → Prop} {g : zG} (hI : zI g 581) (hC : zC g RX10 cX10_law 2 (some .int) p s m meth c args) (hR : 57 ≤ R.frames ∧ 60 * 57 ≤ R.locals ∧ cells ≤ R.cells ∧ slots ≤ R.slots) (m_thrown : Int32) (m_tape : Int32) (m_size : Int32) (m_place : Int32) (m_at : Int32) (m_fault : Int32) (m_faultAt : Int32) (m_clauses : Int32) (m_open : Int32) (m_fed : Nat → Int32) (m_refused : Nat → Int32) (m_readTold : Nat → Int32) (m_told : Nat → Int32) (m_readBeast : Nat → Nat → Int32) (m_beast : Nat → Nat → Int32) (m_readGate : Nat → Nat → Int32) (m_gate : Nat → Nat → Int32) (m_readList : Nat → Nat → Int32) (m_list : Nat → Nat → Int32) (m_lawMany : Int32) (m_readLawMany : Int32) (m_law : Nat → Nat → Int32) (m_readLaw : Nat → Nat → Int32) (m_stack : Nat → Int32) (m_known : Nat → Int32) (m_step : Nat → Nat → Int32) (m_steps : Int32) (m_now : Nat → Int32) (m_trial : Nat → Int32) (m_before : Nat → Nat → Int32) (m_kept : Nat → Nat → Int32) (m_works : Int32) (m_refusedSteps : Int32) (m_images : Int32) (m_spot : Int32) (m_begun : Int32) (m_doneSteps : Int32) (m_mixed : Nat → Int32) (m_fewest : Nat → Int32) (m_leastFees : Nat → Int32) (m_lots : Int32) (m_tars : Int32) (x1 : Int32) (N9 : Nat)   (res : Int32 × Int32 × Int32 × Int32 × Int32 × Int32 × Int32 × Int32 × Int32 × Int32 × (Nat → Int32) × Int32 × Int32 × (Nat → Nat → Int32) × (Nat → Nat → Int32)) (hfin : ∀ (r0 : Int32) (m_thrown : Int32) (m_tape : Int32) (m_size : Int32) (m_place : Int32) (m_at : Int32) (m_fault : Int32) (m_faultAt : Int32) (m_clauses : Int32) (m_open : Int32) (m_refused : Nat → Int32) (m_lawMany : Int32) (m_readLawMany : Int32) (m_law : Nat → Nat → Int32) (m_readLaw : Nat → Nat → Int32) (H : Heap) (locs : List Loc) (pc : Nat) (ls : Array Slot), (r0, m_thrown, m_tape, m_size, m_place, m_at, m_fault, m_faultAt, m_clauses, m_open, m_refused, m_lawMany, m_readLawMany, m_law, m_readLaw) = res → va_P g.1 zcl (zM g m_thrown m_tape m_size m_place m_at m_fault m_faultAt m_clauses m_open m_fed m_refused m_readTold m_told m_readBeast m_beast m_readGate m_gate m_readList m_list m_lawMany m_readLawMany m_law m_readLaw m_stack m_known m_step m_steps m_now m_trial m_before m_kept m_works m_refusedSteps m_images m_spot m_begun m_doneSteps m_mixed m_fewest m_leastFees m_lots m_tars) H → va_S (zF g 64 580 s.heap.size) s.heap H locs → decode cX10_law pc = .ok (.ireturn, 1) → W p l e R s m args below meth c H locs cells slots Q (F0 m pc ls [.int r0])) : pM_law N9 m_thrown m_tape m_size m_place m_at m_fault m_faultAt m_clauses m_open m_fed m_refused m_lawMany m_readLawMany m_law m_readLaw x1 = some res → ∀ (H : Heap) (locs : List Loc) (ls : Array Slot), va_P g.1 zcl (zM g m_thrown m_tape m_size m_place m_at m_fault m_faultAt m_clauses m_open m_fed m_refused m_readTold m_told m_readBeast m_beast m_readGate m_gate m_readList m_list m_lawMany m_readLawMany m_law m_readLaw m_stack m_known m_step m_steps m_now m_trial m_before m_kept m_works m_refusedSteps m_images m_spot m_begun m_doneSteps m_mixed m_fewest m_leastFees m_lots m_tars) H → va_S (zF g 64 580 s.heap.size) s.heap H locs → lv_has ls 2 [(0, .ref (g.2.1 64)), (1, .int x1)] → W p l e R s m args below meth c H locs cells slots Q (F0 m 0 ls []) := by
  obtain ⟨hx, hb, hr, hml, hown, hts, hK, hlk, hST⟩ := id hC
  have hB : ∀ q, (zF g 64 580 s.heap.size) q → zB g q := zF.base hI (Nat.le_of_ble_eq_true rfl) hST.1
  intro  hf H locs ls hP hS hl
  have hk30 := mpM_law_30 (l := l) (e := e) (R := R) (below := below) (cells := cells) (slots := slots) (Q := Q) hI hC hR m_tape m_size m_place m_at m_fault m_faultAt m_clauses m_open m_fed m_refused m_readTold m_told m_readBeast m_beast m_readGate m_gate m_readList m_list m_lawMany m_readLawMany m_law m_readLaw m_stack m_known m_step m_steps m_now m_trial m_before m_kept m_works m_refusedSteps m_images m_spot m_begun m_doneSteps m_mixed m_fewest m_leastFees m_lots m_tars x1 N9 res hfin
  have hk25 := mpM_law_25 (l := l) (e := e) (R := R) (below := below) (cells := cells) (slots := slots) (Q := Q) hI hC hR m_tape m_size m_place m_at m_fault m_faultAt m_clauses m_open m_fed m_refused m_readTold m_told m_readBeast m_beast m_readGate m_gate m_readList m_list m_lawMany m_readLawMany m_law m_readLaw m_stack m_known m_step m_steps m_now m_trial m_before m_kept m_works m_refusedSteps m_images m_spot m_begun m_doneSteps m_mixed m_fewest m_leastFees m_lots m_tars x1 N9 (pM_law_30 N9 m_tape m_size m_place m_at m_fault m_faultAt m_clauses m_open m_fed m_refused m_lawMany m_readLawMany m_law m_readLaw x1) res hfin hk30
  unfold pM_law at hf
  refine lv_aload_n hx hb dX10_law_0 rfl (lv_at hl 0 rfl) ?_
  refine lv_iconst (v := 0) hx hb dX10_law_1 (by decide) ?_
  refine zp_m_thrown hC hP hI (fun k h1 h2 => zF.own h1 h2) hS (hC.fl mw_1389) dX10_law_2 (fun H locs hP hS => ?_)
  refine lv_aload_n hx hb dX10_law_5 rfl (lv_at hl 0 rfl) ?_
  refine lv_iload_n hx hb dX10_law_6 rfl (lv_at hl 1 rfl) ?_
  refine lv_iconst (v := 0) hx hb dX10_law_7 (by decide) ?_
  refine lv_aload_n hx hb dX10_law_8 rfl (lv_at hl 0 rfl) ?_
  refine zg_m_tape hC hP (hC.fl mw_1390) dX10_law_9 ?_
  obtain ⟨r_12, hf_12, hf⟩ := zb1i hf
  refine zcallP (As := [.int x1, .int 0, .int m_tape]) (rest := [.ref (g.2.1 64)]) hC hS hB (cpM_in l hI x1 (0 : Int32) m_tape N9 hf_12) (hC.ml mw_1528) yo_X10_in rfl hl.1 rfl (Nat.le_of_ble_eq_true rfl) ⟨by omega, by omega⟩ hR.2.2 dX10_law_12 (fun H locs hPk hS _ => ?_)
  have hP := hPk _ _ _ hP
  refine lv_if_eq (tgt := 25) hx hb dX10_law_15 (by decide) (fun hc_13 => ?_) (fun hc_13 => ?_)
  · have hf := zifp hc_13 hf
    exact hk25 0 hf H locs ls hP hS (lv_sub hl [0, 1] rfl)
  · have hf := zifn hc_13 hf
    refine lv_iload_n hx hb dX10_law_18 rfl (lv_at hl 1 rfl) ?_
    refine lv_sipush (v := 150) hx hb dX10_law_19 (by decide) ?_
    refine lv_icmp_le (tgt := 29) hx hb dX10_law_22 (by decide) (fun hc_14 => ?_) (fun hc_14 => ?_)
    · have hf := zifp hc_14 hf
      refine lv_iconst (v := 0) hx hb dX10_law_29 (by decide) ?_
      exact hk30 0 0 hf H locs ls hP hS (lv_sub hl [0, 1] rfl)
    · have hf := zifn hc_14 hf
      exact hk25 0 hf H locs ls hP hS (lv_sub hl [0, 1] rfl)
set_option maxHeartbeats 4000000 in
set_option maxRecDepth 100000 in
theorem cpM_law (l : Launch) {g : zG} (hI : zI g 581) (sz : Nat) (m_thrown : Int32) (m_tape : Int32) (m_size : Int32) (m_place : Int32) (m_at : Int32) (m_fault : Int32) (m_faultAt : Int32) (m_clauses : Int32) (m_open : Int32) (m_fed : Nat → Int32) (m_refused : Nat → Int32) (m_readTold : Nat → Int32) (m_told : Nat → Int32) (m_readBeast : Nat → Nat → Int32) (m_beast : Nat → Nat → Int32) (m_readGate : Nat → Nat → Int32) (m_gate : Nat → Nat → Int32) (m_readList : Nat → Nat → Int32) (m_list : Nat → Nat → Int32) (m_lawMany : Int32) (m_readLawMany : Int32) (m_law : Nat → Nat → Int32) (m_readLaw : Nat → Nat → Int32) (m_stack : Nat → Int32) (m_known : Nat → Int32) (m_step : Nat → Nat → Int32) (m_steps : Int32) (m_now : Nat → Int32) (m_trial : Nat → Int32) (m_before : Nat → Nat → Int32) (m_kept : Nat → Nat → Int32) (m_works : Int32) (m_refusedSteps : Int32) (m_images : Int32) (m_spot : Int32) (m_begun : Int32) (m_doneSteps : Int32) (m_mixed : Nat → Int32) (m_fewest : Nat → Int32) (m_leastFees : Nat → Int32) (m_lots : Int32) (m_tars : Int32) (x1 : Int32) (N9 : Nat) {r0 : Int32} {m_thrown' : Int32} {m_tape' : Int32} {m_size' : Int32} {m_place' : Int32} {m_at' : Int32} {m_fault' : Int32} {m_faultAt' : Int32} {m_clauses' : Int32} {m_open' : Int32} {m_refused' : Nat → Int32} {m_lawMany' : Int32} {m_readLawMany' : Int32} {m_law' : Nat → Nat → Int32} {m_readLaw' : Nat → Nat → Int32} (hf : pM_law N9  m_thrown m_tape m_size m_place m_at m_fault m_faultAt m_clauses m_open m_fed m_refused m_lawMany m_readLawMany m_law m_readLaw x1 = some (r0, m_thrown', m_tape', m_size', m_place', m_at', m_fault', m_faultAt', m_clauses', m_open', m_refused', m_lawMany', m_readLawMany', m_law', m_readLaw')) : zMi l yX10_law cX10_law 2 (some .int) 57 g (zM g m_thrown m_tape m_size m_place m_at m_fault m_faultAt m_clauses m_open m_fed m_refused m_readTold m_told m_readBeast m_beast m_readGate m_gate m_readList m_list m_lawMany m_readLawMany m_law m_readLaw m_stack m_known m_step m_steps m_now m_trial m_before m_kept m_works m_refusedSteps m_images m_spot m_begun m_doneSteps m_mixed m_fewest m_leastFees m_lots m_tars) (zM g m_thrown' m_tape' m_size' m_place' m_at' m_fault' m_faultAt' m_clauses' m_open' m_fed m_refused' m_readTold m_told m_readBeast m_beast m_readGate m_gate m_readList m_list m_lawMany' m_readLawMany' m_law' m_readLaw' m_stack m_known m_step m_steps m_now m_trial m_before m_kept m_works m_refusedSteps m_images m_spot m_begun m_doneSteps m_mixed m_fewest m_leastFees m_lots m_tars) sz (zF g 64 580 sz) [.ref (g.2.1 64), .int x1] r0 := by
  refine Met.ofW (cc := cX10_law) (maxL := 2) (ret := (some .int)) (by decide +kernel) rfl ?_
  intro p e s m args below meth c s₁ B hml hv
  obtain ⟨rfl, hsz, hP, hK, hST⟩ := hv
  subst hsz
  have hC := zstart (own := RX10) rfl B hml hK hST
  have hl := lv_entry ([.ref (g.2.1 64), .int x1]) (n := 2) (Nat.le_of_ble_eq_true rfl)
  rw [lg_entry_eq]
  generalize (lg_sl ([.ref (g.2.1 64), .int x1]) ++ List.replicate (2 - (lg_sl ([.ref (g.2.1 64), .int x1])).length) Slot.unset).toArray = ls at hl ⊢
  have hl : lv_has ls 2 [(0, .ref (g.2.1 64)), (1, .int x1)] := hl
  obtain ⟨hx, hb, hr, hml, hown, hts, hK, hlk, hST⟩ := id hC
  refine mpM_law hI hC ⟨Nat.le_refl _, Nat.le_refl _, Nat.le_refl _, Nat.le_refl _⟩ m_thrown m_tape m_size m_place m_at m_fault m_faultAt m_clauses m_open m_fed m_refused m_readTold m_told m_readBeast m_beast m_readGate m_gate m_readList m_list m_lawMany m_readLawMany m_law m_readLaw m_stack m_known m_step m_steps m_now m_trial m_before m_kept m_works m_refusedSteps m_images m_spot m_begun m_doneSteps m_mixed m_fewest m_leastFees m_lots m_tars x1 N9 (r0, m_thrown', m_tape', m_size', m_place', m_at', m_fault', m_faultAt', m_clauses', m_open', m_refused', m_lawMany', m_readLawMany', m_law', m_readLaw') ?_ hf _ _ ls hP va_S.rf hl
  intro r1 m_thrown1 m_tape1 m_size1 m_place1 m_at1 m_fault1 m_faultAt1 m_clauses1 m_open1 m_refused1 m_lawMany1 m_readLawMany1 m_law1 m_readLaw1 H locs pc ls he hP hS hd
  cases he
  exact W.iret hx hb hr (fun t ht hW => ⟨⟨_, (), rfl, rfl, by rw [← ht] at hP; exact hP⟩, hS.F ht⟩) hS.2.2 hd hlk
/-! StripeTradeModel.by (III)I [] -/
set_option maxHeartbeats 4000000 in
set_option maxRecDepth 100000 in
theorem mpM_by_73 {p : Program} {l : Launch} {e : Env} {R : Room} {s : State} {m : MethodId} {args : Array Value} {below : List Frame} {meth : Method} {c : Code} {cells slots : Nat} {Q : State → Prop} {g : zG} (hI : zI g 581) (hC : zC g RX10 cX10_by 3 (some .int) p s m meth c args) (hR : 2 ≤ R.frames ∧ 60 * 2 ≤ R.locals ∧ cells ≤ R.cells ∧ slots ≤ R.slots)   (N9 : Nat)   (res : Int32) (hfin : ∀ (r0 : Int32) (H : Heap) (locs : List Loc) (pc : Nat) (ls : Array Slot), r0 = res → True → va_S (fun _ => False) s.heap H locs → decode cX10_by pc = .ok (.ireturn, 1) → W p l e R s m args below meth c H locs cells slots Q (F0 m pc ls [.int r0])) : ∀ (s0 : Int32), pM_by_73 N9 s0 = some res → ∀ (H : Heap) (locs : List Loc) (ls : Array Slot), True → va_S (fun _ => False) s.heap H locs → lv_has ls 3 [] → W p l e R s m args below meth c H locs cells slots Q (F0 m 73 ls [.int s0]) := by
  obtain ⟨hx, hb, hr, hml, hown, hts, hK, hlk, hST⟩ := id hC
  have hB : ∀ q, (fun _ => False) q → zB g q := fun q h => h.elim
  intro s0 hf H locs ls hP hS hl
  unfold pM_by_73 at hf
  exact hfin _ H locs _ ls (Option.some.inj hf) hP hS dX10_by_73
set_option maxHeartbeats 4000000 in
set_option maxRecDepth 100000 in
theorem mpM_by_90 {p : Program} {l : Launch} {e : Env} {R : Room} {s : State} {m : MethodId} {args : Array Value} {below : List Frame} {meth : Method} {c : Code} {cells slots : Nat} {Q : State → Prop} {g : zG} (hI : zI g 581) (hC : zC g RX10 cX10_by 3 (some .int) p s m meth c args) (hR : 2 ≤ R.frames ∧ 60 * 2 ≤ R.locals ∧ cells ≤ R.cells ∧ slots ≤ R.slots)   (N9 : Nat)   (res : Int32) (hfin : ∀ (r0 : Int32) (H : Heap) (locs : List Loc) (pc : Nat) (ls : Array Slot), r0 = res → True → va_S (fun _ => False) s.heap H locs → decode cX10_by pc = .ok (.ireturn, 1) → W p l e R s m args below meth c H locs cells slots Q (F0 m pc ls [.int r0])) : ∀ (s0 : Int32), pM_by_90 N9 s0 = some res → ∀ (H : Heap) (locs : List Loc) (ls : Array Slot), True → va_S (fun _ => False) s.heap H locs → lv_has ls 3 [] → W p l e R s m args below meth c H locs cells slots Q (F0 m 90 ls [.int s0]) := by
  obtain ⟨hx, hb, hr, hml, hown, hts, hK, hlk, hST⟩ := id hC
  have hB : ∀ q, (fun _ => False) q → zB g q := fun q h => h.elim
  intro s0 hf H locs ls hP hS hl
  unfold pM_by_90 at hf
  exact hfin _ H locs _ ls (Option.some.inj hf) hP hS dX10_by_90
set_option maxHeartbeats 4000000 in
set_option maxRecDepth 100000 in
theorem mpM_by_83 {p : Program} {l : Launch} {e : Env} {R : Room} {s : State} {m : MethodId} {args : Array Value} {below : List Frame} {meth : Method} {c : Code} {cells slots : Nat} {Q : State → Prop} {g : zG} (hI : zI g 581) (hC : zC g RX10 cX10_by 3 (some .int) p s m meth c args) (hR : 2 ≤ R.frames ∧ 60 * 2 ≤ R.locals ∧ cells ≤ R.cells ∧ slots ≤ R.slots)   (N9 : Nat)  (k90 : Int32 → Option (Int32)) (res : Int32) (hfin : ∀ (r0 : Int32) (H : Heap) (locs : List Loc) (pc : Nat) (ls : Array Slot), r0 = res → True → va_S (fun _ => False) s.heap H locs → decode cX10_by pc = .ok (.ireturn, 1) → W p l e R s m args below meth c H locs cells slots Q (F0 m pc ls [.int r0])) (hk90 : ∀ (s0 : Int32), k90 s0 = some res → ∀ (H : Heap) (locs : List Loc) (ls : Array Slot), True → va_S (fun _ => False) s.heap H locs → lv_has ls 3 [] → W p l e R s m args below meth c H locs cells slots Q (F0 m 90 ls [.int s0])) : pM_by_83 N9 k90 = some res → ∀ (H : Heap) (locs : List Loc) (ls : Array Slot), True → va_S (fun _ => False) s.heap H locs → lv_has ls 3 [] → W p l e R s m args below meth c H locs cells slots Q (F0 m 83 ls []) := by
  obtain ⟨hx, hb, hr, hml, hown, hts, hK, hlk, hST⟩ := id hC
  have hB : ∀ q, (fun _ => False) q → zB g q := fun q h => h.elim
  intro  hf H locs ls hP hS hl
  unfold pM_by_83 at hf
  refine lv_iconst (v := 0) hx hb dX10_by_83 (by decide) ?_
  refine lv_goto (tgt := 90) hx hb dX10_by_84 (by decide) ?_
  exact hk90 0 hf H locs ls hP hS (lv_sub hl [] rfl)
set_option maxHeartbeats 4000000 in
set_option maxRecDepth 100000 in
theorem mpM_by {p : Program} {l : Launch} {e : Env} {R : Room} {s : State} {m : MethodId} {args : Array Value} {below : List Frame} {meth : Method} {c : Code} {cells slots : Nat} {Q : State → Prop} {g : zG} (hI : zI g 581) (hC : zC g RX10 cX10_by 3 (some .int) p s m meth c args) (hR : 2 ≤ R.frames ∧ 60 * 2 ≤ R.locals ∧ cells ≤ R.cells ∧ slots ≤ R.slots)  (x0 : Int32) (x1 : Int32) (x2 : Int32) (N9 : Nat)   (res : Int32) (hfin : ∀ (r0 : Int32) (H : Heap) (locs : List Loc) (pc : Nat) (ls : Array Slot), r0 = res → True → va_S (fun _ => False) s.heap H locs → decode cX10_by pc = .ok (.ireturn, 1) → W p l e R s m args below meth c H locs cells slots Q (F0 m pc ls [.int r0])) : pM_by N9 x0 x1 x2 = some res → ∀ (H : Heap) (locs : List Loc) (ls : Array Slot), True → va_S (fun _ => False) s.heap H locs → lv_has ls 3 [(0, .int x0), (1, .int x1), (2, .int x2)] → W p l e R s m args below meth c H locs cells slots Q (F0 m 0 ls []) := by
  obtain ⟨hx, hb, hr, hml, hown, hts, hK, hlk, hST⟩ := id hC
  have hB : ∀ q, (fun _ => False) q → zB g q := fun q h => h.elim
  intro  hf H locs ls hP hS hl
  have hk73 := mpM_by_73 (l := l) (e := e) (R := R) (below := below) (cells := cells) (slots := slots) (Q := Q) hI hC hR N9 res hfin
  have hk90 := mpM_by_90 (l := l) (e := e) (R := R) (below := below) (cells := cells) (slots := slots) (Q := Q) hI hC hR N9 res hfin
  have hk83 := mpM_by_83 (l := l) (e := e) (R := R) (below := below) (cells := cells) (slots := slots) (Q := Q) hI hC hR N9 (pM_by_90 N9) res hfin hk90
  unfold pM_by at hf
  refine lv_iload_n hx hb dX10_by_0 rfl (lv_at hl 0 rfl) ?_
  by_cases hc_1 : x0 = 2
  · have hf := zifp hc_1 hf
    refine lv_tableIn (off := 39) (tgt := 40) hx hb dX10_by_1 (by rw [hc_1]; decide) (by rw [hc_1]; decide) (by rw [hc_1]; rfl) (by decide) ?_
    refine lv_iload_n hx hb dX10_by_40 rfl (lv_at hl 1 rfl) ?_
    refine lv_iload_n hx hb dX10_by_41 rfl (lv_at hl 2 rfl) ?_
    refine lv_iadd hx hb dX10_by_42 ?_
    exact hfin _ H locs _ ls (Option.some.inj hf) hP hS dX10_by_43
  have hf := zifn hc_1 hf
  by_cases hc_2 : x0 = 3
  · have hf := zifp hc_2 hf
    refine lv_tableIn (off := 43) (tgt := 44) hx hb dX10_by_1 (by rw [hc_2]; decide) (by rw [hc_2]; decide) (by rw [hc_2]; rfl) (by decide) ?_
    refine lv_iload_n hx hb dX10_by_44 rfl (lv_at hl 1 rfl) ?_
    refine lv_iload_n hx hb dX10_by_45 rfl (lv_at hl 2 rfl) ?_
    refine lv_isub hx hb dX10_by_46 ?_
    exact hfin _ H locs _ ls (Option.some.inj hf) hP hS dX10_by_47
  have hf := zifn hc_2 hf
  by_cases hc_3 : x0 = 4
  · have hf := zifp hc_3 hf
    refine lv_tableIn (off := 47) (tgt := 48) hx hb dX10_by_1 (by rw [hc_3]; decide) (by rw [hc_3]; decide) (by rw [hc_3]; rfl) (by decide) ?_
    refine lv_iload_n hx hb dX10_by_48 rfl (lv_at hl 1 rfl) ?_
    refine lv_iload_n hx hb dX10_by_49 rfl (lv_at hl 2 rfl) ?_
    refine lv_imul hx hb dX10_by_50 ?_
    exact hfin _ H locs _ ls (Option.some.inj hf) hP hS dX10_by_51
  have hf := zifn hc_3 hf
  by_cases hc_4 : x0 = 5
  · have hf := zifp hc_4 hf
    refine lv_tableIn (off := 51) (tgt := 52) hx hb dX10_by_1 (by rw [hc_4]; decide) (by rw [hc_4]; decide) (by rw [hc_4]; rfl) (by decide) ?_
    refine lv_iload_n hx hb dX10_by_52 rfl (lv_at hl 2 rfl) ?_
    refine lv_if_ne (tgt := 60) hx hb dX10_by_53 (by decide) (fun hc_5 => ?_) (fun hc_5 => ?_)
    · have hf := zifn hc_5 hf
      refine lv_iload_n hx hb dX10_by_60 rfl (lv_at hl 2 rfl) ?_
      refine lv_iconst (v := (-1)) hx hb dX10_by_61 (by decide) ?_
      refine lv_icmp_ne (tgt := 70) hx hb dX10_by_62 (by decide) (fun hc_6 => ?_) (fun hc_6 => ?_)
      · have hf := zifn hc_6 hf
        refine lv_iload_n hx hb dX10_by_70 rfl (lv_at hl 1 rfl) ?_
        refine lv_iload_n hx hb dX10_by_71 rfl (lv_at hl 2 rfl) ?_
        obtain ⟨hd_7, hf⟩ := zite hf
        refine lv_idiv hx hb dX10_by_72 hd_7 ?_
        exact hk73 (x1 / x2) hf H locs ls hP hS (lv_sub hl [] rfl)
      · have hf := zifp hc_6 hf
        refine lv_iload_n hx hb dX10_by_65 rfl (lv_at hl 1 rfl) ?_
        refine lv_ineg hx hb dX10_by_66 ?_
        refine lv_goto (tgt := 73) hx hb dX10_by_67 (by decide) ?_
        exact hk73 (-x1) hf H locs ls hP hS (lv_sub hl [] rfl)
    · have hf := zifp hc_5 hf
      refine lv_iconst (v := 0) hx hb dX10_by_56 (by decide) ?_
      refine lv_goto (tgt := 73) hx hb dX10_by_57 (by decide) ?_
      exact hk73 0 hf H locs ls hP hS (lv_sub hl [] rfl)
  have hf := zifn hc_4 hf
  by_cases hc_8 : x0 = 6
  · have hf := zifp hc_8 hf
    refine lv_tableIn (off := 73) (tgt := 74) hx hb dX10_by_1 (by rw [hc_8]; decide) (by rw [hc_8]; decide) (by rw [hc_8]; rfl) (by decide) ?_
    refine lv_iload_n hx hb dX10_by_74 rfl (lv_at hl 2 rfl) ?_
    refine lv_if_eq (tgt := 83) hx hb dX10_by_75 (by decide) (fun hc_9 => ?_) (fun hc_9 => ?_)
    · have hf := zifp hc_9 hf
      exact hk83  hf H locs ls hP hS (lv_sub hl [] rfl)
    · have hf := zifn hc_9 hf
      refine lv_iload_n hx hb dX10_by_78 rfl (lv_at hl 2 rfl) ?_
      refine lv_iconst (v := (-1)) hx hb dX10_by_79 (by decide) ?_
      refine lv_icmp_ne (tgt := 87) hx hb dX10_by_80 (by decide) (fun hc_10 => ?_) (fun hc_10 => ?_)
      · have hf := zifn hc_10 hf
        refine lv_iload_n hx hb dX10_by_87 rfl (lv_at hl 1 rfl) ?_
        refine lv_iload_n hx hb dX10_by_88 rfl (lv_at hl 2 rfl) ?_
        obtain ⟨hd_11, hf⟩ := zite hf
        refine lv_irem hx hb dX10_by_89 hd_11 ?_
        exact hk90 (x1 - x1 / x2 * x2) hf H locs ls hP hS (lv_sub hl [] rfl)
      · have hf := zifp hc_10 hf
        exact hk83  hf H locs ls hP hS (lv_sub hl [] rfl)
  have hf := zifn hc_8 hf
  by_cases hc_12 : x0 = 7
  · have hf := zifp hc_12 hf
    refine lv_tableIn (off := 90) (tgt := 91) hx hb dX10_by_1 (by rw [hc_12]; decide) (by rw [hc_12]; decide) (by rw [hc_12]; rfl) (by decide) ?_
    refine lv_iload_n hx hb dX10_by_91 rfl (lv_at hl 1 rfl) ?_
    refine lv_iload_n hx hb dX10_by_92 rfl (lv_at hl 2 rfl) ?_
    obtain ⟨r_13, hf_13, hf⟩ := zb1i hf
    refine zcallP (As := [.int x1, .int x2]) (rest := []) hC hS hB (cpM_less l hI x1 x2 N9 hf_13) (hC.ml mw_1699) yo_X10_less rfl hl.1 rfl (Nat.le_of_ble_eq_true rfl) ⟨by omega, by omega⟩ hR.2.2 dX10_by_93 (fun H locs hPk hS _ => ?_)
    exact hfin _ H locs _ ls (Option.some.inj hf) hP hS dX10_by_96
  have hf := zifn hc_12 hf
  have nhc_1 := zne (k := 2) hc_1
  have nhc_2 := zne (k := 3) hc_2
  have nhc_3 := zne (k := 4) hc_3
  have nhc_4 := zne (k := 5) hc_4
  have nhc_8 := zne (k := 6) hc_8
  have nhc_12 := zne (k := 7) hc_12
  refine lv_tableOut (tgt := 97) hx hb dX10_by_1 (by omega) (by decide) ?_
  refine lv_iload_n hx hb dX10_by_97 rfl (lv_at hl 1 rfl) ?_
  refine lv_iload_n hx hb dX10_by_98 rfl (lv_at hl 2 rfl) ?_
  obtain ⟨r_14, hf_14, hf⟩ := zb1i hf
  refine zcallP (As := [.int x1, .int x2]) (rest := []) hC hS hB (cpM_more l hI x1 x2 N9 hf_14) (hC.ml mw_1702) yo_X10_more rfl hl.1 rfl (Nat.le_of_ble_eq_true rfl) ⟨by omega, by omega⟩ hR.2.2 dX10_by_99 (fun H locs hPk hS _ => ?_)
  exact hfin _ H locs _ ls (Option.some.inj hf) hP hS dX10_by_102
set_option maxHeartbeats 4000000 in
set_option maxRecDepth 100000 in
theorem cpM_by (l : Launch) {g : zG} (hI : zI g 581)  (x0 : Int32)  (x1 : Int32)  (x2 : Int32) (N9 : Nat) {r0 : Int32} (hf : pM_by N9  x0 x1 x2 = some r0) : zMp l yX10_by cX10_by 3 (some .int) 2 g [.int x0, .int x1, .int x2] r0 := by
  refine Met.ofW (cc := cX10_by) (maxL := 3) (ret := (some .int)) (by decide +kernel) rfl ?_
  intro p e s m args below meth c s₁ B hml hv
  obtain ⟨rfl, hK, hST⟩ := hv
  have hP : True := trivial
  have hC := zstart (own := RX10) rfl B hml hK hST
  have hl := lv_entry ([.int x0, .int x1, .int x2]) (n := 3) (Nat.le_of_ble_eq_true rfl)
  rw [lg_entry_eq]
  generalize (lg_sl ([.int x0, .int x1, .int x2]) ++ List.replicate (3 - (lg_sl ([.int x0, .int x1, .int x2])).length) Slot.unset).toArray = ls at hl ⊢
  have hl : lv_has ls 3 [(0, .int x0), (1, .int x1), (2, .int x2)] := hl
  obtain ⟨hx, hb, hr, hml, hown, hts, hK, hlk, hST⟩ := id hC
  refine mpM_by hI hC ⟨Nat.le_refl _, Nat.le_refl _, Nat.le_refl _, Nat.le_refl _⟩ x0 x1 x2 N9 r0 ?_ hf _ _ ls hP va_S.rf hl
  intro r1 H locs pc ls he hP hS hd
  cases he
  exact W.iret hx hb hr (fun t ht hW => ⟨⟨_, (), rfl, rfl, trivial⟩, hS.F ht⟩) hS.2.2 hd hlk
/-! StripeTradeModel.byLaw ()I [('obj', 'm')] -/
set_option maxHeartbeats 4000000 in
set_option maxRecDepth 100000 in
theorem mpM_byLaw_128 {p : Program} {l : Launch} {e : Env} {R : Room} {s : State} {m : MethodId} {args : Array Value} {below : List Frame} {meth : Method} {c : Code} {cells slots : Nat} {Q : State → Prop} {g : zG} (hI : zI g 581) (hC : zC g RX10 cX10_byLaw 3 (some .int) p s m meth c args) (hR : 3 ≤ R.frames ∧ 60 * 3 ≤ R.locals ∧ cells ≤ R.cells ∧ slots ≤ R.slots) (m_thrown : Int32) (m_tape : Int32) (m_size : Int32) (m_place : Int32) (m_at : Int32) (m_fault : Int32) (m_faultAt : Int32) (m_clauses : Int32) (m_open : Int32) (m_fed : Nat → Int32) (m_refused : Nat → Int32) (m_readTold : Nat → Int32) (m_told : Nat → Int32) (m_readBeast : Nat → Nat → Int32) (m_beast : Nat → Nat → Int32) (m_readGate : Nat → Nat → Int32) (m_gate : Nat → Nat → Int32) (m_readList : Nat → Nat → Int32) (m_list : Nat → Nat → Int32) (m_lawMany : Int32) (m_readLawMany : Int32) (m_law : Nat → Nat → Int32) (m_readLaw : Nat → Nat → Int32) (m_known : Nat → Int32) (m_step : Nat → Nat → Int32) (m_steps : Int32) (m_now : Nat → Int32) (m_trial : Nat → Int32) (m_before : Nat → Nat → Int32) (m_kept : Nat → Nat → Int32) (m_works : Int32) (m_refusedSteps : Int32) (m_images : Int32) (m_spot : Int32) (m_begun : Int32) (m_doneSteps : Int32) (m_mixed : Nat → Int32) (m_fewest : Nat → Int32) (m_leastFees : Nat → Int32) (m_lots : Int32) (m_tars : Int32)  (N9 : Nat)  (k25 : (Nat → Int32) → Int32 → Int32 → Option (Int32 × (Nat → Int32))) (res : Int32 × (Nat → Int32)) (hfin : ∀ (r0 : Int32) (m_stack : Nat → Int32) (H : Heap) (locs : List Loc) (pc : Nat) (ls : Array Slot), (r0, m_stack) = res → va_P g.1 zcl (zM g m_thrown m_tape m_size m_place m_at m_fault m_faultAt m_clauses m_open m_fed m_refused m_readTold m_told m_readBeast m_beast m_readGate m_gate m_readList m_list m_lawMany m_readLawMany m_law m_readLaw m_stack m_known m_step m_steps m_now m_trial m_before m_kept m_works m_refusedSteps m_images m_spot m_begun m_doneSteps m_mixed m_fewest m_leastFees m_lots m_tars) H → va_S (zF g 64 580 s.heap.size) s.heap H locs → decode cX10_byLaw pc = .ok (.ireturn, 1) → W p l e R s m args below meth c H locs cells slots Q (F0 m pc ls [.int r0])) (hk25 : ∀ (m_stack : Nat → Int32) (x1 : Int32) (x2 : Int32), k25 m_stack x1 x2 = some res → ∀ (H : Heap) (locs : List Loc) (ls : Array Slot), va_P g.1 zcl (zM g m_thrown m_tape m_size m_place m_at m_fault m_faultAt m_clauses m_open m_fed m_refused m_readTold m_told m_readBeast m_beast m_readGate m_gate m_readList m_list m_lawMany m_readLawMany m_law m_readLaw m_stack m_known m_step m_steps m_now m_trial m_before m_kept m_works m_refusedSteps m_images m_spot m_begun m_doneSteps m_mixed m_fewest m_leastFees m_lots m_tars) H → va_S (zF g 64 580 s.heap.size) s.heap H locs → lv_has ls 3 [(0, .ref (g.2.1 64)), (1, .int x1), (2, .int x2)] → W p l e R s m args below meth c H locs cells slots Q (F0 m 25 ls [])) : ∀ (m_stack : Nat → Int32) (x1 : Int32) (x2 : Int32), pM_byLaw_128 N9 k25 m_stack x1 x2 = some res → ∀ (H : Heap) (locs : List Loc) (ls : Array Slot), va_P g.1 zcl (zM g m_thrown m_tape m_size m_place m_at m_fault m_faultAt m_clauses m_open m_fed m_refused m_readTold m_told m_readBeast m_beast m_readGate m_gate m_readList m_list m_lawMany m_readLawMany m_law m_readLaw m_stack m_known m_step m_steps m_now m_trial m_before m_kept m_works m_refusedSteps m_images m_spot m_begun m_doneSteps m_mixed m_fewest m_leastFees m_lots m_tars) H → va_S (zF g 64 580 s.heap.size) s.heap H locs → lv_has ls 3 [(0, .ref (g.2.1 64)), (1, .int x1), (2, .int x2)] → W p l e R s m args below meth c H locs cells slots Q (F0 m 128 ls []) := by
  obtain ⟨hx, hb, hr, hml, hown, hts, hK, hlk, hST⟩ := id hC
  have hB : ∀ q, (zF g 64 580 s.heap.size) q → zB g q := zF.base hI (Nat.le_of_ble_eq_true rfl) hST.1
  intro m_stack x1 x2 hf H locs ls hP hS hl
  unfold pM_byLaw_128 at hf
  refine lv_iinc (v := x2 + 1) (lv' := [(2, .int (x2 + 1)), (0, .ref (g.2.1 64)), (1, .int x1)]) hx hb dX10_byLaw_128 hl (k := 2) rfl rfl (by decide) rfl (fun ls hl => ?_)
  refine lv_goto (tgt := 25) hx hb dX10_byLaw_131 (by decide) ?_
  exact hk25 m_stack x1 (x2 + 1) hf H locs ls hP hS (lv_sub hl [1, 2, 0] rfl)
set_option maxHeartbeats 4000000 in
set_option maxRecDepth 100000 in
theorem mpM_byLaw_85 {p : Program} {l : Launch} {e : Env} {R : Room} {s : State} {m : MethodId} {args : Array Value} {below : List Frame} {meth : Method} {c : Code} {cells slots : Nat} {Q : State → Prop} {g : zG} (hI : zI g 581) (hC : zC g RX10 cX10_byLaw 3 (some .int) p s m meth c args) (hR : 3 ≤ R.frames ∧ 60 * 3 ≤ R.locals ∧ cells ≤ R.cells ∧ slots ≤ R.slots) (m_thrown : Int32) (m_tape : Int32) (m_size : Int32) (m_place : Int32) (m_at : Int32) (m_fault : Int32) (m_faultAt : Int32) (m_clauses : Int32) (m_open : Int32) (m_fed : Nat → Int32) (m_refused : Nat → Int32) (m_readTold : Nat → Int32) (m_told : Nat → Int32) (m_readBeast : Nat → Nat → Int32) (m_beast : Nat → Nat → Int32) (m_readGate : Nat → Nat → Int32) (m_gate : Nat → Nat → Int32) (m_readList : Nat → Nat → Int32) (m_list : Nat → Nat → Int32) (m_lawMany : Int32) (m_readLawMany : Int32) (m_law : Nat → Nat → Int32) (m_readLaw : Nat → Nat → Int32) (m_known : Nat → Int32) (m_step : Nat → Nat → Int32) (m_steps : Int32) (m_now : Nat → Int32) (m_trial : Nat → Int32) (m_before : Nat → Nat → Int32) (m_kept : Nat → Nat → Int32) (m_works : Int32) (m_refusedSteps : Int32) (m_images : Int32) (m_spot : Int32) (m_begun : Int32) (m_doneSteps : Int32) (m_mixed : Nat → Int32) (m_fewest : Nat → Int32) (m_leastFees : Nat → Int32) (m_lots : Int32) (m_tars : Int32)  (N9 : Nat)  (k128 : (Nat → Int32) → Int32 → Int32 → Option (Int32 × (Nat → Int32))) (res : Int32 × (Nat → Int32)) (hfin : ∀ (r0 : Int32) (m_stack : Nat → Int32) (H : Heap) (locs : List Loc) (pc : Nat) (ls : Array Slot), (r0, m_stack) = res → va_P g.1 zcl (zM g m_thrown m_tape m_size m_place m_at m_fault m_faultAt m_clauses m_open m_fed m_refused m_readTold m_told m_readBeast m_beast m_readGate m_gate m_readList m_list m_lawMany m_readLawMany m_law m_readLaw m_stack m_known m_step m_steps m_now m_trial m_before m_kept m_works m_refusedSteps m_images m_spot m_begun m_doneSteps m_mixed m_fewest m_leastFees m_lots m_tars) H → va_S (zF g 64 580 s.heap.size) s.heap H locs → decode cX10_byLaw pc = .ok (.ireturn, 1) → W p l e R s m args below meth c H locs cells slots Q (F0 m pc ls [.int r0])) (hk128 : ∀ (m_stack : Nat → Int32) (x1 : Int32) (x2 : Int32), k128 m_stack x1 x2 = some res → ∀ (H : Heap) (locs : List Loc) (ls : Array Slot), va_P g.1 zcl (zM g m_thrown m_tape m_size m_place m_at m_fault m_faultAt m_clauses m_open m_fed m_refused m_readTold m_told m_readBeast m_beast m_readGate m_gate m_readList m_list m_lawMany m_readLawMany m_law m_readLaw m_stack m_known m_step m_steps m_now m_trial m_before m_kept m_works m_refusedSteps m_images m_spot m_begun m_doneSteps m_mixed m_fewest m_leastFees m_lots m_tars) H → va_S (zF g 64 580 s.heap.size) s.heap H locs → lv_has ls 3 [(0, .ref (g.2.1 64)), (1, .int x1), (2, .int x2)] → W p l e R s m args below meth c H locs cells slots Q (F0 m 128 ls [])) : ∀ (m_stack : Nat → Int32) (x1 : Int32) (x2 : Int32) (s1 : Int32) (s2 : Int32), pM_byLaw_85 N9 k128 m_stack x1 x2 s1 s2 = some res → ∀ (H : Heap) (locs : List Loc) (ls : Array Slot), va_P g.1 zcl (zM g m_thrown m_tape m_size m_place m_at m_fault m_faultAt m_clauses m_open m_fed m_refused m_readTold m_told m_readBeast m_beast m_readGate m_gate m_readList m_list m_lawMany m_readLawMany m_law m_readLaw m_stack m_known m_step m_steps m_now m_trial m_before m_kept m_works m_refusedSteps m_images m_spot m_begun m_doneSteps m_mixed m_fewest m_leastFees m_lots m_tars) H → va_S (zF g 64 580 s.heap.size) s.heap H locs → lv_has ls 3 [(0, .ref (g.2.1 64)), (1, .int x1), (2, .int x2)] → W p l e R s m args below meth c H locs cells slots Q (F0 m 85 ls [.int s2, .int s1, .ref (g.2.1 77)]) := by
  obtain ⟨hx, hb, hr, hml, hown, hts, hK, hlk, hST⟩ := id hC
  have hB : ∀ q, (zF g 64 580 s.heap.size) q → zB g q := zF.base hI (Nat.le_of_ble_eq_true rfl) hST.1
  intro m_stack x1 x2 s1 s2 hf H locs ls hP hS hl
  unfold pM_byLaw_85 at hf
  obtain ⟨hz_1, hf⟩ := zite hf
  refine zs_m_stack hC hP hI (fun k h1 h2 => zF.own h1 h2) hS hz_1 dX10_byLaw_85 (fun H locs hP hS => ?_)
  refine lv_iinc (v := x1 + 1) (lv' := [(1, .int (x1 + 1)), (0, .ref (g.2.1 64)), (2, .int x2)]) hx hb dX10_byLaw_86 hl (k := 1) rfl rfl (by decide) rfl (fun ls hl => ?_)
  refine lv_goto (tgt := 128) hx hb dX10_byLaw_89 (by decide) ?_
  exact hk128 (upd m_stack s1.toNatClampNeg s2) (x1 + 1) x2 hf H locs ls hP hS (lv_sub hl [1, 0, 2] rfl)
set_option maxHeartbeats 4000000 in
set_option maxRecDepth 100000 in
theorem mpM_byLaw_25 {p : Program} {l : Launch} {e : Env} {R : Room} {s : State} {m : MethodId} {args : Array Value} {below : List Frame} {meth : Method} {c : Code} {cells slots : Nat} {Q : State → Prop} {g : zG} (hI : zI g 581) (hC : zC g RX10 cX10_byLaw 3 (some .int) p s m meth c args) (hR : 3 ≤ R.frames ∧ 60 * 3 ≤ R.locals ∧ cells ≤ R.cells ∧ slots ≤ R.slots) (m_thrown : Int32) (m_tape : Int32) (m_size : Int32) (m_place : Int32) (m_at : Int32) (m_fault : Int32) (m_faultAt : Int32) (m_clauses : Int32) (m_open : Int32) (m_fed : Nat → Int32) (m_refused : Nat → Int32) (m_readTold : Nat → Int32) (m_told : Nat → Int32) (m_readBeast : Nat → Nat → Int32) (m_beast : Nat → Nat → Int32) (m_readGate : Nat → Nat → Int32) (m_gate : Nat → Nat → Int32) (m_readList : Nat → Nat → Int32) (m_list : Nat → Nat → Int32) (m_lawMany : Int32) (m_readLawMany : Int32) (m_law : Nat → Nat → Int32) (m_readLaw : Nat → Nat → Int32) (m_known : Nat → Int32) (m_step : Nat → Nat → Int32) (m_steps : Int32) (m_now : Nat → Int32) (m_trial : Nat → Int32) (m_before : Nat → Nat → Int32) (m_kept : Nat → Nat → Int32) (m_works : Int32) (m_refusedSteps : Int32) (m_images : Int32) (m_spot : Int32) (m_begun : Int32) (m_doneSteps : Int32) (m_mixed : Nat → Int32) (m_fewest : Nat → Int32) (m_leastFees : Nat → Int32) (m_lots : Int32) (m_tars : Int32)  (N9 : Nat)   (res : Int32 × (Nat → Int32)) (hfin : ∀ (r0 : Int32) (m_stack : Nat → Int32) (H : Heap) (locs : List Loc) (pc : Nat) (ls : Array Slot), (r0, m_stack) = res → va_P g.1 zcl (zM g m_thrown m_tape m_size m_place m_at m_fault m_faultAt m_clauses m_open m_fed m_refused m_readTold m_told m_readBeast m_beast m_readGate m_gate m_readList m_list m_lawMany m_readLawMany m_law m_readLaw m_stack m_known m_step m_steps m_now m_trial m_before m_kept m_works m_refusedSteps m_images m_spot m_begun m_doneSteps m_mixed m_fewest m_leastFees m_lots m_tars) H → va_S (zF g 64 580 s.heap.size) s.heap H locs → decode cX10_byLaw pc = .ok (.ireturn, 1) → W p l e R s m args below meth c H locs cells slots Q (F0 m pc ls [.int r0])) : ∀ (n9 : Nat) (m_stack : Nat → Int32) (x1 : Int32) (x2 : Int32), pM_byLaw_25 N9 m_lawMany m_law m_known n9 m_stack x1 x2 = some res → ∀ (H : Heap) (locs : List Loc) (ls : Array Slot), va_P g.1 zcl (zM g m_thrown m_tape m_size m_place m_at m_fault m_faultAt m_clauses m_open m_fed m_refused m_readTold m_told m_readBeast m_beast m_readGate m_gate m_readList m_list m_lawMany m_readLawMany m_law m_readLaw m_stack m_known m_step m_steps m_now m_trial m_before m_kept m_works m_refusedSteps m_images m_spot m_begun m_doneSteps m_mixed m_fewest m_leastFees m_lots m_tars) H → va_S (zF g 64 580 s.heap.size) s.heap H locs → lv_has ls 3 [(0, .ref (g.2.1 64)), (1, .int x1), (2, .int x2)] → W p l e R s m args below meth c H locs cells slots Q (F0 m 25 ls []) := by
  obtain ⟨hx, hb, hr, hml, hown, hts, hK, hlk, hST⟩ := id hC
  have hB : ∀ q, (zF g 64 580 s.heap.size) q → zB g q := zF.base hI (Nat.le_of_ble_eq_true rfl) hST.1
  intro n9
  induction n9 with
  | zero => intro m_stack x1 x2 hf; cases hf
  | succ n9 ih =>
    intro m_stack x1 x2 hf H locs ls hP hS hl
    have hk25 := ih
    have hk128 := mpM_byLaw_128 (l := l) (e := e) (R := R) (below := below) (cells := cells) (slots := slots) (Q := Q) hI hC hR m_thrown m_tape m_size m_place m_at m_fault m_faultAt m_clauses m_open m_fed m_refused m_readTold m_told m_readBeast m_beast m_readGate m_gate m_readList m_list m_lawMany m_readLawMany m_law m_readLaw m_known m_step m_steps m_now m_trial m_before m_kept m_works m_refusedSteps m_images m_spot m_begun m_doneSteps m_mixed m_fewest m_leastFees m_lots m_tars N9 (pM_byLaw_25 N9 m_lawMany m_law m_known n9) res hfin hk25
    have hk85 := mpM_byLaw_85 (l := l) (e := e) (R := R) (below := below) (cells := cells) (slots := slots) (Q := Q) hI hC hR m_thrown m_tape m_size m_place m_at m_fault m_faultAt m_clauses m_open m_fed m_refused m_readTold m_told m_readBeast m_beast m_readGate m_gate m_readList m_list m_lawMany m_readLawMany m_law m_readLaw m_known m_step m_steps m_now m_trial m_before m_kept m_works m_refusedSteps m_images m_spot m_begun m_doneSteps m_mixed m_fewest m_leastFees m_lots m_tars N9 (pM_byLaw_128 N9 (pM_byLaw_25 N9 m_lawMany m_law m_known n9)) res hfin hk128
    unfold pM_byLaw_25 at hf
    refine lv_iload_n hx hb dX10_byLaw_25 rfl (lv_at hl 2 rfl) ?_
    refine lv_aload_n hx hb dX10_byLaw_26 rfl (lv_at hl 0 rfl) ?_
    refine zg_m_lawMany hC hP (hC.fl mw_1408) dX10_byLaw_27 ?_
    refine lv_icmp_ge (tgt := 134) hx hb dX10_byLaw_30 (by decide) (fun hc_2 => ?_) (fun hc_2 => ?_)
    · have hf := zifp hc_2 hf
      refine lv_bipush (v := 99) hx hb dX10_byLaw_134 (by decide) ?_
      refine lv_iconst (v := 0) hx hb dX10_byLaw_136 (by decide) ?_
      refine lv_aload_n hx hb dX10_byLaw_137 rfl (lv_at hl 0 rfl) ?_
      refine zr_m_stack hC hP (hC.fl mw_1412) dX10_byLaw_138 ?_
      refine lv_iconst (v := 0) hx hb dX10_byLaw_141 (by decide) ?_
      obtain ⟨hz_3, hf⟩ := zite hf
      refine zl_m_stack hC hP hz_3 dX10_byLaw_142 ?_
      obtain ⟨r_4, hf_4, hf⟩ := zb1i hf
      refine zcallP (As := [.int 0, .int (m_stack (0 : Int32).toNatClampNeg)]) (rest := [.int 99]) hC hS hB (cpM_more l hI (0 : Int32) (m_stack (0 : Int32).toNatClampNeg) N9 hf_4) (hC.ml mw_1702) yo_X10_more rfl hl.1 rfl (Nat.le_of_ble_eq_true rfl) ⟨by omega, by omega⟩ hR.2.2 dX10_byLaw_143 (fun H locs hPk hS _ => ?_)
      have hP := hPk _ _ _ hP
      obtain ⟨r_5, hf_5, hf⟩ := zb1i hf
      refine zcallP (As := [.int 99, .int r_4]) (rest := []) hC hS hB (cpM_less l hI (99 : Int32) r_4 N9 hf_5) (hC.ml mw_1699) yo_X10_less rfl hl.1 rfl (Nat.le_of_ble_eq_true rfl) ⟨by omega, by omega⟩ hR.2.2 dX10_byLaw_146 (fun H locs hPk hS _ => ?_)
      have hP := hPk _ _ _ hP
      exact hfin _ _ H locs _ ls (Option.some.inj hf) hP hS dX10_byLaw_149
    · have hf := zifn hc_2 hf
      refine lv_aload_n hx hb dX10_byLaw_33 rfl (lv_at hl 0 rfl) ?_
      refine zr_m_law hC hP (hC.fl mw_1410) dX10_byLaw_34 ?_
      refine lv_iload_n hx hb dX10_byLaw_37 rfl (lv_at hl 2 rfl) ?_
      obtain ⟨hz_6, hf⟩ := zite hf
      refine zq_m_law hC hP hz_6 dX10_byLaw_38 ?_
      refine lv_iconst (v := 0) hx hb dX10_byLaw_39 (by decide) ?_
      obtain ⟨hz_7, hf⟩ := zite hf
      refine zl_m_law hC hP hz_6 hz_7 dX10_byLaw_40 ?_
      refine lv_iconst (v := 2) hx hb dX10_byLaw_41 (by decide) ?_
      refine lv_icmp_ge (tgt := 92) hx hb dX10_byLaw_42 (by decide) (fun hc_8 => ?_) (fun hc_8 => ?_)
      · have hf := zifp hc_8 hf
        refine lv_iinc (v := x1 + (-1)) (lv' := [(1, .int (x1 + (-1))), (0, .ref (g.2.1 64)), (2, .int x2)]) hx hb dX10_byLaw_92 hl (k := 1) rfl rfl (by decide) rfl (fun ls hl => ?_)
        refine lv_aload_n hx hb dX10_byLaw_95 rfl (lv_at hl 1 rfl) ?_
        refine zr_m_stack hC hP (hC.fl mw_1412) dX10_byLaw_96 ?_
        refine lv_iload_n hx hb dX10_byLaw_99 rfl (lv_at hl 0 rfl) ?_
        refine lv_iconst (v := 1) hx hb dX10_byLaw_100 (by decide) ?_
        refine lv_isub hx hb dX10_byLaw_101 ?_
        refine lv_aload_n hx hb dX10_byLaw_102 rfl (lv_at hl 1 rfl) ?_
        refine zr_m_law hC hP (hC.fl mw_1410) dX10_byLaw_103 ?_
        refine lv_iload_n hx hb dX10_byLaw_106 rfl (lv_at hl 2 rfl) ?_
        refine zq_m_law hC hP hz_6 dX10_byLaw_107 ?_
        refine lv_iconst (v := 0) hx hb dX10_byLaw_108 (by decide) ?_
        refine zl_m_law hC hP hz_6 hz_7 dX10_byLaw_109 ?_
        refine lv_aload_n hx hb dX10_byLaw_110 rfl (lv_at hl 1 rfl) ?_
        refine zr_m_stack hC hP (hC.fl mw_1412) dX10_byLaw_111 ?_
        refine lv_iload_n hx hb dX10_byLaw_114 rfl (lv_at hl 0 rfl) ?_
        refine lv_iconst (v := 1) hx hb dX10_byLaw_115 (by decide) ?_
        refine lv_isub hx hb dX10_byLaw_116 ?_
        obtain ⟨hz_9, hf⟩ := zite hf
        refine zl_m_stack hC hP hz_9 dX10_byLaw_117 ?_
        refine lv_aload_n hx hb dX10_byLaw_118 rfl (lv_at hl 1 rfl) ?_
        refine zr_m_stack hC hP (hC.fl mw_1412) dX10_byLaw_119 ?_
        refine lv_iload_n hx hb dX10_byLaw_122 rfl (lv_at hl 0 rfl) ?_
        obtain ⟨hz_10, hf⟩ := zite hf
        refine zl_m_stack hC hP hz_10 dX10_byLaw_123 ?_
        obtain ⟨r_11, hf_11, hf⟩ := zb1i hf
        refine zcallP (As := [.int (m_law x2.toNatClampNeg (0 : Int32).toNatClampNeg), .int (m_stack ((x1 + (-1)) - 1).toNatClampNeg), .int (m_stack (x1 + (-1)).toNatClampNeg)]) (rest := [.int ((x1 + (-1)) - 1), .ref (g.2.1 77)]) hC hS hB (cpM_by l hI (m_law x2.toNatClampNeg (0 : Int32).toNatClampNeg) (m_stack ((x1 + (-1)) - 1).toNatClampNeg) (m_stack (x1 + (-1)).toNatClampNeg) N9 hf_11) (hC.ml mw_1696) yo_X10_by rfl hl.1 rfl (Nat.le_of_ble_eq_true rfl) ⟨by omega, by omega⟩ hR.2.2 dX10_byLaw_124 (fun H locs hPk hS _ => ?_)
        have hP := hPk _ _ _ hP
        refine zs_m_stack hC hP hI (fun k h1 h2 => zF.own h1 h2) hS hz_9 dX10_byLaw_127 (fun H locs hP hS => ?_)
        exact hk128 (upd m_stack ((x1 + (-1)) - 1).toNatClampNeg r_11) (x1 + (-1)) x2 hf H locs ls hP hS (lv_sub hl [1, 0, 2] rfl)
      · have hf := zifn hc_8 hf
        refine lv_aload_n hx hb dX10_byLaw_45 rfl (lv_at hl 0 rfl) ?_
        refine zr_m_stack hC hP (hC.fl mw_1412) dX10_byLaw_46 ?_
        refine lv_iload_n hx hb dX10_byLaw_49 rfl (lv_at hl 1 rfl) ?_
        refine lv_aload_n hx hb dX10_byLaw_50 rfl (lv_at hl 0 rfl) ?_
        refine zr_m_law hC hP (hC.fl mw_1410) dX10_byLaw_51 ?_
        refine lv_iload_n hx hb dX10_byLaw_54 rfl (lv_at hl 2 rfl) ?_
        refine zq_m_law hC hP hz_6 dX10_byLaw_55 ?_
        refine lv_iconst (v := 0) hx hb dX10_byLaw_56 (by decide) ?_
        refine zl_m_law hC hP hz_6 hz_7 dX10_byLaw_57 ?_
        refine lv_if_ne (tgt := 72) hx hb dX10_byLaw_58 (by decide) (fun hc_12 => ?_) (fun hc_12 => ?_)
        · have hf := zifn hc_12 hf
          refine lv_aload_n hx hb dX10_byLaw_72 rfl (lv_at hl 0 rfl) ?_
          refine zr_m_known hC hP (hC.fl mw_1413) dX10_byLaw_73 ?_
          refine lv_aload_n hx hb dX10_byLaw_76 rfl (lv_at hl 0 rfl) ?_
          refine zr_m_law hC hP (hC.fl mw_1410) dX10_byLaw_77 ?_
          refine lv_iload_n hx hb dX10_byLaw_80 rfl (lv_at hl 2 rfl) ?_
          refine zq_m_law hC hP hz_6 dX10_byLaw_81 ?_
          refine lv_iconst (v := 1) hx hb dX10_byLaw_82 (by decide) ?_
          obtain ⟨hz_13, hf⟩ := zite hf
          refine zl_m_law hC hP hz_6 hz_13 dX10_byLaw_83 ?_
          obtain ⟨hz_14, hf⟩ := zite hf
          refine zl_m_known hC hP hz_14 dX10_byLaw_84 ?_
          exact hk85 m_stack x1 x2 x1 (m_known (m_law x2.toNatClampNeg (1 : Int32).toNatClampNeg).toNatClampNeg) hf H locs ls hP hS (lv_sub hl [0, 1, 2] rfl)
        · have hf := zifp hc_12 hf
          refine lv_aload_n hx hb dX10_byLaw_61 rfl (lv_at hl 0 rfl) ?_
          refine zr_m_law hC hP (hC.fl mw_1410) dX10_byLaw_62 ?_
          refine lv_iload_n hx hb dX10_byLaw_65 rfl (lv_at hl 2 rfl) ?_
          refine zq_m_law hC hP hz_6 dX10_byLaw_66 ?_
          refine lv_iconst (v := 1) hx hb dX10_byLaw_67 (by decide) ?_
          obtain ⟨hz_15, hf⟩ := zite hf
          refine zl_m_law hC hP hz_6 hz_15 dX10_byLaw_68 ?_
          refine lv_goto (tgt := 85) hx hb dX10_byLaw_69 (by decide) ?_
          exact hk85 m_stack x1 x2 x1 (m_law x2.toNatClampNeg (1 : Int32).toNatClampNeg) hf H locs ls hP hS (lv_sub hl [0, 1, 2] rfl)
set_option maxHeartbeats 4000000 in
set_option maxRecDepth 100000 in
theorem mpM_byLaw {p : Program} {l : Launch} {e : Env} {R : Room} {s : State} {m : MethodId} {args : Array Value} {below : List Frame} {meth : Method} {c : Code} {cells slots : Nat} {Q : State → Prop} {g : zG} (hI : zI g 581) (hC : zC g RX10 cX10_byLaw 3 (some .int) p s m meth c args) (hR : 3 ≤ R.frames ∧ 60 * 3 ≤ R.locals ∧ cells ≤ R.cells ∧ slots ≤ R.slots) (m_thrown : Int32) (m_tape : Int32) (m_size : Int32) (m_place : Int32) (m_at : Int32) (m_fault : Int32) (m_faultAt : Int32) (m_clauses : Int32) (m_open : Int32) (m_fed : Nat → Int32) (m_refused : Nat → Int32) (m_readTold : Nat → Int32) (m_told : Nat → Int32) (m_readBeast : Nat → Nat → Int32) (m_beast : Nat → Nat → Int32) (m_readGate : Nat → Nat → Int32) (m_gate : Nat → Nat → Int32) (m_readList : Nat → Nat → Int32) (m_list : Nat → Nat → Int32) (m_lawMany : Int32) (m_readLawMany : Int32) (m_law : Nat → Nat → Int32) (m_readLaw : Nat → Nat → Int32) (m_stack : Nat → Int32) (m_known : Nat → Int32) (m_step : Nat → Nat → Int32) (m_steps : Int32) (m_now : Nat → Int32) (m_trial : Nat → Int32) (m_before : Nat → Nat → Int32) (m_kept : Nat → Nat → Int32) (m_works : Int32) (m_refusedSteps : Int32) (m_images : Int32) (m_spot : Int32) (m_begun : Int32) (m_doneSteps : Int32) (m_mixed : Nat → Int32) (m_fewest : Nat → Int32) (m_leastFees : Nat → Int32) (m_lots : Int32) (m_tars : Int32)  (N9 : Nat)   (res : Int32 × (Nat → Int32)) (hfin : ∀ (r0 : Int32) (m_stack : Nat → Int32) (H : Heap) (locs : List Loc) (pc : Nat) (ls : Array Slot), (r0, m_stack) = res → va_P g.1 zcl (zM g m_thrown m_tape m_size m_place m_at m_fault m_faultAt m_clauses m_open m_fed m_refused m_readTold m_told m_readBeast m_beast m_readGate m_gate m_readList m_list m_lawMany m_readLawMany m_law m_readLaw m_stack m_known m_step m_steps m_now m_trial m_before m_kept m_works m_refusedSteps m_images m_spot m_begun m_doneSteps m_mixed m_fewest m_leastFees m_lots m_tars) H → va_S (zF g 64 580 s.heap.size) s.heap H locs → decode cX10_byLaw pc = .ok (.ireturn, 1) → W p l e R s m args below meth c H locs cells slots Q (F0 m pc ls [.int r0])) : pM_byLaw N9 m_lawMany m_law m_stack m_known = some res → ∀ (H : Heap) (locs : List Loc) (ls : Array Slot), va_P g.1 zcl (zM g m_thrown m_tape m_size m_place m_at m_fault m_faultAt m_clauses m_open m_fed m_refused m_readTold m_told m_readBeast m_beast m_readGate m_gate m_readList m_list m_lawMany m_readLawMany m_law m_readLaw m_stack m_known m_step m_steps m_now m_trial m_before m_kept m_works m_refusedSteps m_images m_spot m_begun m_doneSteps m_mixed m_fewest m_leastFees m_lots m_tars) H → va_S (zF g 64 580 s.heap.size) s.heap H locs → lv_has ls 3 [(0, .ref (g.2.1 64))] → W p l e R s m args below meth c H locs cells slots Q (F0 m 0 ls []) := by
  obtain ⟨hx, hb, hr, hml, hown, hts, hK, hlk, hST⟩ := id hC
  have hB : ∀ q, (zF g 64 580 s.heap.size) q → zB g q := zF.base hI (Nat.le_of_ble_eq_true rfl) hST.1
  intro  hf H locs ls hP hS hl
  have hk25 := mpM_byLaw_25 (l := l) (e := e) (R := R) (below := below) (cells := cells) (slots := slots) (Q := Q) hI hC hR m_thrown m_tape m_size m_place m_at m_fault m_faultAt m_clauses m_open m_fed m_refused m_readTold m_told m_readBeast m_beast m_readGate m_gate m_readList m_list m_lawMany m_readLawMany m_law m_readLaw m_known m_step m_steps m_now m_trial m_before m_kept m_works m_refusedSteps m_images m_spot m_begun m_doneSteps m_mixed m_fewest m_leastFees m_lots m_tars N9 res hfin N9
  unfold pM_byLaw at hf
  refine lv_iconst (v := 0) hx hb dX10_byLaw_0 (by decide) ?_
  refine lv_istore_n (lv' := [(1, .int 0), (0, .ref (g.2.1 64))]) hx hb dX10_byLaw_1 rfl hl (by decide) rfl (fun ls hl => ?_)
  refine lv_aload_n hx hb dX10_byLaw_2 rfl (lv_at hl 1 rfl) ?_
  refine zr_m_stack hC hP (hC.fl mw_1412) dX10_byLaw_3 ?_
  refine lv_iconst (v := 0) hx hb dX10_byLaw_6 (by decide) ?_
  refine lv_aload_n hx hb dX10_byLaw_7 rfl (lv_at hl 1 rfl) ?_
  refine zr_m_known hC hP (hC.fl mw_1413) dX10_byLaw_8 ?_
  refine lv_iconst (v := 0) hx hb dX10_byLaw_11 (by decide) ?_
  obtain ⟨hz_16, hf⟩ := zite hf
  refine zl_m_known hC hP hz_16 dX10_byLaw_12 ?_
  refine lv_iconst (v := 2) hx hb dX10_byLaw_13 (by decide) ?_
  refine lv_aload_n hx hb dX10_byLaw_14 rfl (lv_at hl 1 rfl) ?_
  refine zr_m_known hC hP (hC.fl mw_1413) dX10_byLaw_15 ?_
  refine lv_iconst (v := 1) hx hb dX10_byLaw_18 (by decide) ?_
  obtain ⟨hz_17, hf⟩ := zite hf
  refine zl_m_known hC hP hz_17 dX10_byLaw_19 ?_
  refine lv_imul hx hb dX10_byLaw_20 ?_
  refine lv_iadd hx hb dX10_byLaw_21 ?_
  refine lv_topi (fun v_18 ev_18 => ?_)
  have hf := zleti ev_18 hf
  obtain ⟨hz_19, hf⟩ := zite hf
  refine zs_m_stack hC hP hI (fun k h1 h2 => zF.own h1 h2) hS hz_19 dX10_byLaw_22 (fun H locs hP hS => ?_)
  refine lv_iconst (v := 0) hx hb dX10_byLaw_23 (by decide) ?_
  refine lv_istore_n (lv' := [(2, .int 0), (1, .int 0), (0, .ref (g.2.1 64))]) hx hb dX10_byLaw_24 rfl hl (by decide) rfl (fun ls hl => ?_)
  exact hk25 (upd m_stack (0 : Int32).toNatClampNeg v_18) 0 0 hf H locs ls hP hS (lv_sub hl [2, 1, 0] rfl)
set_option maxHeartbeats 4000000 in
set_option maxRecDepth 100000 in
theorem cpM_byLaw (l : Launch) {g : zG} (hI : zI g 581) (sz : Nat) (m_thrown : Int32) (m_tape : Int32) (m_size : Int32) (m_place : Int32) (m_at : Int32) (m_fault : Int32) (m_faultAt : Int32) (m_clauses : Int32) (m_open : Int32) (m_fed : Nat → Int32) (m_refused : Nat → Int32) (m_readTold : Nat → Int32) (m_told : Nat → Int32) (m_readBeast : Nat → Nat → Int32) (m_beast : Nat → Nat → Int32) (m_readGate : Nat → Nat → Int32) (m_gate : Nat → Nat → Int32) (m_readList : Nat → Nat → Int32) (m_list : Nat → Nat → Int32) (m_lawMany : Int32) (m_readLawMany : Int32) (m_law : Nat → Nat → Int32) (m_readLaw : Nat → Nat → Int32) (m_stack : Nat → Int32) (m_known : Nat → Int32) (m_step : Nat → Nat → Int32) (m_steps : Int32) (m_now : Nat → Int32) (m_trial : Nat → Int32) (m_before : Nat → Nat → Int32) (m_kept : Nat → Nat → Int32) (m_works : Int32) (m_refusedSteps : Int32) (m_images : Int32) (m_spot : Int32) (m_begun : Int32) (m_doneSteps : Int32) (m_mixed : Nat → Int32) (m_fewest : Nat → Int32) (m_leastFees : Nat → Int32) (m_lots : Int32) (m_tars : Int32) (N9 : Nat) {r0 : Int32} {m_stack' : Nat → Int32} (hf : pM_byLaw N9  m_lawMany m_law m_stack m_known = some (r0, m_stack')) : zMi l yX10_byLaw cX10_byLaw 3 (some .int) 3 g (zM g m_thrown m_tape m_size m_place m_at m_fault m_faultAt m_clauses m_open m_fed m_refused m_readTold m_told m_readBeast m_beast m_readGate m_gate m_readList m_list m_lawMany m_readLawMany m_law m_readLaw m_stack m_known m_step m_steps m_now m_trial m_before m_kept m_works m_refusedSteps m_images m_spot m_begun m_doneSteps m_mixed m_fewest m_leastFees m_lots m_tars) (zM g m_thrown m_tape m_size m_place m_at m_fault m_faultAt m_clauses m_open m_fed m_refused m_readTold m_told m_readBeast m_beast m_readGate m_gate m_readList m_list m_lawMany m_readLawMany m_law m_readLaw m_stack' m_known m_step m_steps m_now m_trial m_before m_kept m_works m_refusedSteps m_images m_spot m_begun m_doneSteps m_mixed m_fewest m_leastFees m_lots m_tars) sz (zF g 64 580 sz) [.ref (g.2.1 64)] r0 := by
  refine Met.ofW (cc := cX10_byLaw) (maxL := 3) (ret := (some .int)) (by decide +kernel) rfl ?_
  intro p e s m args below meth c s₁ B hml hv
  obtain ⟨rfl, hsz, hP, hK, hST⟩ := hv
  subst hsz
  have hC := zstart (own := RX10) rfl B hml hK hST
  have hl := lv_entry ([.ref (g.2.1 64)]) (n := 3) (Nat.le_of_ble_eq_true rfl)
  rw [lg_entry_eq]
  generalize (lg_sl ([.ref (g.2.1 64)]) ++ List.replicate (3 - (lg_sl ([.ref (g.2.1 64)])).length) Slot.unset).toArray = ls at hl ⊢
  have hl : lv_has ls 3 [(0, .ref (g.2.1 64))] := hl
  obtain ⟨hx, hb, hr, hml, hown, hts, hK, hlk, hST⟩ := id hC
  refine mpM_byLaw hI hC ⟨Nat.le_refl _, Nat.le_refl _, Nat.le_refl _, Nat.le_refl _⟩ m_thrown m_tape m_size m_place m_at m_fault m_faultAt m_clauses m_open m_fed m_refused m_readTold m_told m_readBeast m_beast m_readGate m_gate m_readList m_list m_lawMany m_readLawMany m_law m_readLaw m_stack m_known m_step m_steps m_now m_trial m_before m_kept m_works m_refusedSteps m_images m_spot m_begun m_doneSteps m_mixed m_fewest m_leastFees m_lots m_tars N9 (r0, m_stack') ?_ hf _ _ ls hP va_S.rf hl
  intro r1 m_stack1 H locs pc ls he hP hS hd
  cases he
  exact W.iret hx hb hr (fun t ht hW => ⟨⟨_, (), rfl, rfl, by rw [← ht] at hP; exact hP⟩, hS.F ht⟩) hS.2.2 hd hlk
/-! StripeTradeModel.stepHere ()I [('obj', 'm')] -/
set_option maxHeartbeats 4000000 in
set_option maxRecDepth 100000 in
theorem mpM_stepHere_127 {p : Program} {l : Launch} {e : Env} {R : Room} {s : State} {m : MethodId} {args : Array Value} {below : List Frame} {meth : Method} {c : Code} {cells slots : Nat} {Q : State → Prop} {g : zG} (hI : zI g 581) (hC : zC g RX10 cX10_stepHere 1 (some .int) p s m meth c args) (hR : 6 ≤ R.frames ∧ 60 * 6 ≤ R.locals ∧ cells ≤ R.cells ∧ slots ≤ R.slots) (m_thrown : Int32) (m_tape : Int32) (m_size : Int32) (m_place : Int32) (m_fault : Int32) (m_faultAt : Int32) (m_clauses : Int32) (m_open : Int32) (m_fed : Nat → Int32) (m_refused : Nat → Int32) (m_readTold : Nat → Int32) (m_told : Nat → Int32) (m_readBeast : Nat → Nat → Int32) (m_beast : Nat → Nat → Int32) (m_readGate : Nat → Nat → Int32) (m_gate : Nat → Nat → Int32) (m_readList : Nat → Nat → Int32) (m_list : Nat → Nat → Int32) (m_lawMany : Int32) (m_readLawMany : Int32) (m_law : Nat → Nat → Int32) (m_readLaw : Nat → Nat → Int32) (m_stack : Nat → Int32) (m_known : Nat → Int32) (m_step : Nat → Nat → Int32) (m_steps : Int32) (m_now : Nat → Int32) (m_trial : Nat → Int32) (m_before : Nat → Nat → Int32) (m_kept : Nat → Nat → Int32) (m_works : Int32) (m_refusedSteps : Int32) (m_images : Int32) (m_spot : Int32) (m_begun : Int32) (m_doneSteps : Int32) (m_mixed : Nat → Int32) (m_fewest : Nat → Int32) (m_leastFees : Nat → Int32) (m_lots : Int32) (m_tars : Int32)  (N9 : Nat)   (res : Int32 × Int32) (hfin : ∀ (r0 : Int32) (m_at : Int32) (H : Heap) (locs : List Loc) (pc : Nat) (ls : Array Slot), (r0, m_at) = res → va_P g.1 zcl (zM g m_thrown m_tape m_size m_place m_at m_fault m_faultAt m_clauses m_open m_fed m_refused m_readTold m_told m_readBeast m_beast m_readGate m_gate m_readList m_list m_lawMany m_readLawMany m_law m_readLaw m_stack m_known m_step m_steps m_now m_trial m_before m_kept m_works m_refusedSteps m_images m_spot m_begun m_doneSteps m_mixed m_fewest m_leastFees m_lots m_tars) H → va_S (zF g 64 580 s.heap.size) s.heap H locs → decode cX10_stepHere pc = .ok (.ireturn, 1) → W p l e R s m args below meth c H locs cells slots Q (F0 m pc ls [.int r0])) : ∀ (m_at : Int32) (s0 : Int32), pM_stepHere_127 N9 m_at s0 = some res → ∀ (H : Heap) (locs : List Loc) (ls : Array Slot), va_P g.1 zcl (zM g m_thrown m_tape m_size m_place m_at m_fault m_faultAt m_clauses m_open m_fed m_refused m_readTold m_told m_readBeast m_beast m_readGate m_gate m_readList m_list m_lawMany m_readLawMany m_law m_readLaw m_stack m_known m_step m_steps m_now m_trial m_before m_kept m_works m_refusedSteps m_images m_spot m_begun m_doneSteps m_mixed m_fewest m_leastFees m_lots m_tars) H → va_S (zF g 64 580 s.heap.size) s.heap H locs → lv_has ls 1 [] → W p l e R s m args below meth c H locs cells slots Q (F0 m 127 ls [.int s0]) := by
  obtain ⟨hx, hb, hr, hml, hown, hts, hK, hlk, hST⟩ := id hC
  have hB : ∀ q, (zF g 64 580 s.heap.size) q → zB g q := zF.base hI (Nat.le_of_ble_eq_true rfl) hST.1
  intro m_at s0 hf H locs ls hP hS hl
  unfold pM_stepHere_127 at hf
  exact hfin _ _ H locs _ ls (Option.some.inj hf) hP hS dX10_stepHere_127
set_option maxHeartbeats 4000000 in
set_option maxRecDepth 100000 in
theorem mpM_stepHere {p : Program} {l : Launch} {e : Env} {R : Room} {s : State} {m : MethodId} {args : Array Value} {below : List Frame} {meth : Method} {c : Code} {cells slots : Nat} {Q : State → Prop} {g : zG} (hI : zI g 581) (hC : zC g RX10 cX10_stepHere 1 (some .int) p s m meth c args) (hR : 6 ≤ R.frames ∧ 60 * 6 ≤ R.locals ∧ cells ≤ R.cells ∧ slots ≤ R.slots) (m_thrown : Int32) (m_tape : Int32) (m_size : Int32) (m_place : Int32) (m_at : Int32) (m_fault : Int32) (m_faultAt : Int32) (m_clauses : Int32) (m_open : Int32) (m_fed : Nat → Int32) (m_refused : Nat → Int32) (m_readTold : Nat → Int32) (m_told : Nat → Int32) (m_readBeast : Nat → Nat → Int32) (m_beast : Nat → Nat → Int32) (m_readGate : Nat → Nat → Int32) (m_gate : Nat → Nat → Int32) (m_readList : Nat → Nat → Int32) (m_list : Nat → Nat → Int32) (m_lawMany : Int32) (m_readLawMany : Int32) (m_law : Nat → Nat → Int32) (m_readLaw : Nat → Nat → Int32) (m_stack : Nat → Int32) (m_known : Nat → Int32) (m_step : Nat → Nat → Int32) (m_steps : Int32) (m_now : Nat → Int32) (m_trial : Nat → Int32) (m_before : Nat → Nat → Int32) (m_kept : Nat → Nat → Int32) (m_works : Int32) (m_refusedSteps : Int32) (m_images : Int32) (m_spot : Int32) (m_begun : Int32) (m_doneSteps : Int32) (m_mixed : Nat → Int32) (m_fewest : Nat → Int32) (m_leastFees : Nat → Int32) (m_lots : Int32) (m_tars : Int32)  (N9 : Nat)   (res : Int32 × Int32) (hfin : ∀ (r0 : Int32) (m_at : Int32) (H : Heap) (locs : List Loc) (pc : Nat) (ls : Array Slot), (r0, m_at) = res → va_P g.1 zcl (zM g m_thrown m_tape m_size m_place m_at m_fault m_faultAt m_clauses m_open m_fed m_refused m_readTold m_told m_readBeast m_beast m_readGate m_gate m_readList m_list m_lawMany m_readLawMany m_law m_readLaw m_stack m_known m_step m_steps m_now m_trial m_before m_kept m_works m_refusedSteps m_images m_spot m_begun m_doneSteps m_mixed m_fewest m_leastFees m_lots m_tars) H → va_S (zF g 64 580 s.heap.size) s.heap H locs → decode cX10_stepHere pc = .ok (.ireturn, 1) → W p l e R s m args below meth c H locs cells slots Q (F0 m pc ls [.int r0])) : pM_stepHere N9 m_size m_at m_fault m_fed = some res → ∀ (H : Heap) (locs : List Loc) (ls : Array Slot), va_P g.1 zcl (zM g m_thrown m_tape m_size m_place m_at m_fault m_faultAt m_clauses m_open m_fed m_refused m_readTold m_told m_readBeast m_beast m_readGate m_gate m_readList m_list m_lawMany m_readLawMany m_law m_readLaw m_stack m_known m_step m_steps m_now m_trial m_before m_kept m_works m_refusedSteps m_images m_spot m_begun m_doneSteps m_mixed m_fewest m_leastFees m_lots m_tars) H → va_S (zF g 64 580 s.heap.size) s.heap H locs → lv_has ls 1 [(0, .ref (g.2.1 64))] → W p l e R s m args below meth c H locs cells slots Q (F0 m 0 ls []) := by
  obtain ⟨hx, hb, hr, hml, hown, hts, hK, hlk, hST⟩ := id hC
  have hB : ∀ q, (zF g 64 580 s.heap.size) q → zB g q := zF.base hI (Nat.le_of_ble_eq_true rfl) hST.1
  intro  hf H locs ls hP hS hl
  have hk127 := mpM_stepHere_127 (l := l) (e := e) (R := R) (below := below) (cells := cells) (slots := slots) (Q := Q) hI hC hR m_thrown m_tape m_size m_place m_fault m_faultAt m_clauses m_open m_fed m_refused m_readTold m_told m_readBeast m_beast m_readGate m_gate m_readList m_list m_lawMany m_readLawMany m_law m_readLaw m_stack m_known m_step m_steps m_now m_trial m_before m_kept m_works m_refusedSteps m_images m_spot m_begun m_doneSteps m_mixed m_fewest m_leastFees m_lots m_tars N9 res hfin
  unfold pM_stepHere at hf
  refine lv_aload_n hx hb dX10_stepHere_0 rfl (lv_at hl 0 rfl) ?_
  refine lv_bipush (v := 20) hx hb dX10_stepHere_1 (by decide) ?_
  refine lv_iconst (v := 1) hx hb dX10_stepHere_3 (by decide) ?_
  refine lv_bipush (v := 18) hx hb dX10_stepHere_4 (by decide) ?_
  refine lv_iconst (v := 0) hx hb dX10_stepHere_6 (by decide) ?_
  refine lv_iconst (v := 0) hx hb dX10_stepHere_7 (by decide) ?_
  refine lv_iconst (v := 0) hx hb dX10_stepHere_8 (by decide) ?_
  obtain ⟨r_1, m_at_1, hf_1, hf⟩ := zb2i hf
  refine zcallVi (As := [.int 20, .int 1, .int 18, .int 0, .int 0, .int 0]) (rest := []) hC hP hS hB (fun q h => zF.mono hS.1 h) (cpM_isWord l hI H.size m_thrown m_tape m_size m_place m_at m_fault m_faultAt m_clauses m_open m_fed m_refused m_readTold m_told m_readBeast m_beast m_readGate m_gate m_readList m_list m_lawMany m_readLawMany m_law m_readLaw m_stack m_known m_step m_steps m_now m_trial m_before m_kept m_works m_refusedSteps m_images m_spot m_begun m_doneSteps m_mixed m_fewest m_leastFees m_lots m_tars (20 : Int32) (1 : Int32) (18 : Int32) (0 : Int32) (0 : Int32) (0 : Int32) N9 hf_1) (hC.ml mw_1555) yo_X10_isWord 0 (zfM rfl) rfl rfl rfl hl.1 rfl (Nat.le_of_ble_eq_true rfl) ⟨by omega, by omega⟩ hR.2.2 dX10_stepHere_9 (fun H locs hP hS _ _ => ?_)
  refine lv_if_eq (tgt := 17) hx hb dX10_stepHere_12 (by decide) (fun hc_2 => ?_) (fun hc_2 => ?_)
  · have hf := zifp hc_2 hf
    refine lv_aload_n hx hb dX10_stepHere_17 rfl (lv_at hl 0 rfl) ?_
    refine lv_bipush (v := 18) hx hb dX10_stepHere_18 (by decide) ?_
    refine lv_bipush (v := 21) hx hb dX10_stepHere_20 (by decide) ?_
    refine lv_iconst (v := 2) hx hb dX10_stepHere_22 (by decide) ?_
    refine lv_iconst (v := 0) hx hb dX10_stepHere_23 (by decide) ?_
    refine lv_iconst (v := 0) hx hb dX10_stepHere_24 (by decide) ?_
    refine lv_iconst (v := 0) hx hb dX10_stepHere_25 (by decide) ?_
    obtain ⟨r_3, m_at_3, hf_3, hf⟩ := zb2i hf
    refine zcallVi (As := [.int 18, .int 21, .int 2, .int 0, .int 0, .int 0]) (rest := []) hC hP hS hB (fun q h => zF.mono hS.1 h) (cpM_isWord l hI H.size m_thrown m_tape m_size m_place m_at_1 m_fault m_faultAt m_clauses m_open m_fed m_refused m_readTold m_told m_readBeast m_beast m_readGate m_gate m_readList m_list m_lawMany m_readLawMany m_law m_readLaw m_stack m_known m_step m_steps m_now m_trial m_before m_kept m_works m_refusedSteps m_images m_spot m_begun m_doneSteps m_mixed m_fewest m_leastFees m_lots m_tars (18 : Int32) (21 : Int32) (2 : Int32) (0 : Int32) (0 : Int32) (0 : Int32) N9 hf_3) (hC.ml mw_1555) yo_X10_isWord 0 (zfM rfl) rfl rfl rfl hl.1 rfl (Nat.le_of_ble_eq_true rfl) ⟨by omega, by omega⟩ hR.2.2 dX10_stepHere_26 (fun H locs hP hS _ _ => ?_)
    refine lv_if_eq (tgt := 34) hx hb dX10_stepHere_29 (by decide) (fun hc_4 => ?_) (fun hc_4 => ?_)
    · have hf := zifp hc_4 hf
      refine lv_aload_n hx hb dX10_stepHere_34 rfl (lv_at hl 0 rfl) ?_
      refine lv_bipush (v := 23) hx hb dX10_stepHere_35 (by decide) ?_
      refine lv_iconst (v := 1) hx hb dX10_stepHere_37 (by decide) ?_
      refine lv_bipush (v := 19) hx hb dX10_stepHere_38 (by decide) ?_
      refine lv_bipush (v := 8) hx hb dX10_stepHere_40 (by decide) ?_
      refine lv_iconst (v := 0) hx hb dX10_stepHere_42 (by decide) ?_
      refine lv_iconst (v := 0) hx hb dX10_stepHere_43 (by decide) ?_
      obtain ⟨r_5, m_at_5, hf_5, hf⟩ := zb2i hf
      refine zcallVi (As := [.int 23, .int 1, .int 19, .int 8, .int 0, .int 0]) (rest := []) hC hP hS hB (fun q h => zF.mono hS.1 h) (cpM_isWord l hI H.size m_thrown m_tape m_size m_place m_at_3 m_fault m_faultAt m_clauses m_open m_fed m_refused m_readTold m_told m_readBeast m_beast m_readGate m_gate m_readList m_list m_lawMany m_readLawMany m_law m_readLaw m_stack m_known m_step m_steps m_now m_trial m_before m_kept m_works m_refusedSteps m_images m_spot m_begun m_doneSteps m_mixed m_fewest m_leastFees m_lots m_tars (23 : Int32) (1 : Int32) (19 : Int32) (8 : Int32) (0 : Int32) (0 : Int32) N9 hf_5) (hC.ml mw_1555) yo_X10_isWord 0 (zfM rfl) rfl rfl rfl hl.1 rfl (Nat.le_of_ble_eq_true rfl) ⟨by omega, by omega⟩ hR.2.2 dX10_stepHere_44 (fun H locs hP hS _ _ => ?_)
      refine lv_if_eq (tgt := 52) hx hb dX10_stepHere_47 (by decide) (fun hc_6 => ?_) (fun hc_6 => ?_)
      · have hf := zifp hc_6 hf
        refine lv_aload_n hx hb dX10_stepHere_52 rfl (lv_at hl 0 rfl) ?_
        refine lv_bipush (v := 16) hx hb dX10_stepHere_53 (by decide) ?_
        refine lv_iconst (v := 1) hx hb dX10_stepHere_55 (by decide) ?_
        refine lv_bipush (v := 19) hx hb dX10_stepHere_56 (by decide) ?_
        refine lv_bipush (v := 19) hx hb dX10_stepHere_58 (by decide) ?_
        refine lv_iconst (v := 0) hx hb dX10_stepHere_60 (by decide) ?_
        refine lv_iconst (v := 0) hx hb dX10_stepHere_61 (by decide) ?_
        obtain ⟨r_7, m_at_7, hf_7, hf⟩ := zb2i hf
        refine zcallVi (As := [.int 16, .int 1, .int 19, .int 19, .int 0, .int 0]) (rest := []) hC hP hS hB (fun q h => zF.mono hS.1 h) (cpM_isWord l hI H.size m_thrown m_tape m_size m_place m_at_5 m_fault m_faultAt m_clauses m_open m_fed m_refused m_readTold m_told m_readBeast m_beast m_readGate m_gate m_readList m_list m_lawMany m_readLawMany m_law m_readLaw m_stack m_known m_step m_steps m_now m_trial m_before m_kept m_works m_refusedSteps m_images m_spot m_begun m_doneSteps m_mixed m_fewest m_leastFees m_lots m_tars (16 : Int32) (1 : Int32) (19 : Int32) (19 : Int32) (0 : Int32) (0 : Int32) N9 hf_7) (hC.ml mw_1555) yo_X10_isWord 0 (zfM rfl) rfl rfl rfl hl.1 rfl (Nat.le_of_ble_eq_true rfl) ⟨by omega, by omega⟩ hR.2.2 dX10_stepHere_62 (fun H locs hP hS _ _ => ?_)
        refine lv_if_eq (tgt := 70) hx hb dX10_stepHere_65 (by decide) (fun hc_8 => ?_) (fun hc_8 => ?_)
        · have hf := zifp hc_8 hf
          refine lv_aload_n hx hb dX10_stepHere_70 rfl (lv_at hl 0 rfl) ?_
          refine lv_bipush (v := 6) hx hb dX10_stepHere_71 (by decide) ?_
          refine lv_bipush (v := 15) hx hb dX10_stepHere_73 (by decide) ?_
          refine lv_iconst (v := 1) hx hb dX10_stepHere_75 (by decide) ?_
          refine lv_bipush (v := 12) hx hb dX10_stepHere_76 (by decide) ?_
          refine lv_iconst (v := 0) hx hb dX10_stepHere_78 (by decide) ?_
          refine lv_iconst (v := 0) hx hb dX10_stepHere_79 (by decide) ?_
          obtain ⟨r_9, m_at_9, hf_9, hf⟩ := zb2i hf
          refine zcallVi (As := [.int 6, .int 15, .int 1, .int 12, .int 0, .int 0]) (rest := []) hC hP hS hB (fun q h => zF.mono hS.1 h) (cpM_isWord l hI H.size m_thrown m_tape m_size m_place m_at_7 m_fault m_faultAt m_clauses m_open m_fed m_refused m_readTold m_told m_readBeast m_beast m_readGate m_gate m_readList m_list m_lawMany m_readLawMany m_law m_readLaw m_stack m_known m_step m_steps m_now m_trial m_before m_kept m_works m_refusedSteps m_images m_spot m_begun m_doneSteps m_mixed m_fewest m_leastFees m_lots m_tars (6 : Int32) (15 : Int32) (1 : Int32) (12 : Int32) (0 : Int32) (0 : Int32) N9 hf_9) (hC.ml mw_1555) yo_X10_isWord 0 (zfM rfl) rfl rfl rfl hl.1 rfl (Nat.le_of_ble_eq_true rfl) ⟨by omega, by omega⟩ hR.2.2 dX10_stepHere_80 (fun H locs hP hS _ _ => ?_)
          refine lv_if_eq (tgt := 88) hx hb dX10_stepHere_83 (by decide) (fun hc_10 => ?_) (fun hc_10 => ?_)
          · have hf := zifp hc_10 hf
            refine lv_aload_n hx hb dX10_stepHere_88 rfl (lv_at hl 0 rfl) ?_
            refine lv_bipush (v := 25) hx hb dX10_stepHere_89 (by decide) ?_
            refine lv_iconst (v := 5) hx hb dX10_stepHere_91 (by decide) ?_
            refine lv_iconst (v := 1) hx hb dX10_stepHere_92 (by decide) ?_
            refine lv_bipush (v := 18) hx hb dX10_stepHere_93 (by decide) ?_
            refine lv_iconst (v := 0) hx hb dX10_stepHere_95 (by decide) ?_
            refine lv_iconst (v := 0) hx hb dX10_stepHere_96 (by decide) ?_
            obtain ⟨r_11, m_at_11, hf_11, hf⟩ := zb2i hf
            refine zcallVi (As := [.int 25, .int 5, .int 1, .int 18, .int 0, .int 0]) (rest := []) hC hP hS hB (fun q h => zF.mono hS.1 h) (cpM_isWord l hI H.size m_thrown m_tape m_size m_place m_at_9 m_fault m_faultAt m_clauses m_open m_fed m_refused m_readTold m_told m_readBeast m_beast m_readGate m_gate m_readList m_list m_lawMany m_readLawMany m_law m_readLaw m_stack m_known m_step m_steps m_now m_trial m_before m_kept m_works m_refusedSteps m_images m_spot m_begun m_doneSteps m_mixed m_fewest m_leastFees m_lots m_tars (25 : Int32) (5 : Int32) (1 : Int32) (18 : Int32) (0 : Int32) (0 : Int32) N9 hf_11) (hC.ml mw_1555) yo_X10_isWord 0 (zfM rfl) rfl rfl rfl hl.1 rfl (Nat.le_of_ble_eq_true rfl) ⟨by omega, by omega⟩ hR.2.2 dX10_stepHere_97 (fun H locs hP hS _ _ => ?_)
            refine lv_if_eq (tgt := 105) hx hb dX10_stepHere_100 (by decide) (fun hc_12 => ?_) (fun hc_12 => ?_)
            · have hf := zifp hc_12 hf
              refine lv_aload_n hx hb dX10_stepHere_105 rfl (lv_at hl 0 rfl) ?_
              refine lv_iconst (v := 1) hx hb dX10_stepHere_106 (by decide) ?_
              refine lv_bipush (v := 7) hx hb dX10_stepHere_107 (by decide) ?_
              refine lv_iconst (v := 1) hx hb dX10_stepHere_109 (by decide) ?_
              refine lv_bipush (v := 9) hx hb dX10_stepHere_110 (by decide) ?_
              refine lv_bipush (v := 14) hx hb dX10_stepHere_112 (by decide) ?_
              refine lv_iconst (v := 0) hx hb dX10_stepHere_114 (by decide) ?_
              obtain ⟨r_13, m_at_13, hf_13, hf⟩ := zb2i hf
              refine zcallVi (As := [.int 1, .int 7, .int 1, .int 9, .int 14, .int 0]) (rest := []) hC hP hS hB (fun q h => zF.mono hS.1 h) (cpM_isWord l hI H.size m_thrown m_tape m_size m_place m_at_11 m_fault m_faultAt m_clauses m_open m_fed m_refused m_readTold m_told m_readBeast m_beast m_readGate m_gate m_readList m_list m_lawMany m_readLawMany m_law m_readLaw m_stack m_known m_step m_steps m_now m_trial m_before m_kept m_works m_refusedSteps m_images m_spot m_begun m_doneSteps m_mixed m_fewest m_leastFees m_lots m_tars (1 : Int32) (7 : Int32) (1 : Int32) (9 : Int32) (14 : Int32) (0 : Int32) N9 hf_13) (hC.ml mw_1555) yo_X10_isWord 0 (zfM rfl) rfl rfl rfl hl.1 rfl (Nat.le_of_ble_eq_true rfl) ⟨by omega, by omega⟩ hR.2.2 dX10_stepHere_115 (fun H locs hP hS _ _ => ?_)
              refine lv_if_eq (tgt := 126) hx hb dX10_stepHere_118 (by decide) (fun hc_14 => ?_) (fun hc_14 => ?_)
              · have hf := zifp hc_14 hf
                refine lv_iconst (v := (-1)) hx hb dX10_stepHere_126 (by decide) ?_
                exact hk127 m_at_13 (-1) hf H locs ls hP hS (lv_sub hl [] rfl)
              · have hf := zifn hc_14 hf
                refine lv_bipush (v := 6) hx hb dX10_stepHere_121 (by decide) ?_
                refine lv_goto (tgt := 127) hx hb dX10_stepHere_123 (by decide) ?_
                exact hk127 m_at_13 6 hf H locs ls hP hS (lv_sub hl [] rfl)
            · have hf := zifn hc_12 hf
              refine lv_iconst (v := 5) hx hb dX10_stepHere_103 (by decide) ?_
              exact hfin _ _ H locs _ ls (Option.some.inj hf) hP hS dX10_stepHere_104
          · have hf := zifn hc_10 hf
            refine lv_iconst (v := 4) hx hb dX10_stepHere_86 (by decide) ?_
            exact hfin _ _ H locs _ ls (Option.some.inj hf) hP hS dX10_stepHere_87
        · have hf := zifn hc_8 hf
          refine lv_iconst (v := 3) hx hb dX10_stepHere_68 (by decide) ?_
          exact hfin _ _ H locs _ ls (Option.some.inj hf) hP hS dX10_stepHere_69
      · have hf := zifn hc_6 hf
        refine lv_iconst (v := 2) hx hb dX10_stepHere_50 (by decide) ?_
        exact hfin _ _ H locs _ ls (Option.some.inj hf) hP hS dX10_stepHere_51
    · have hf := zifn hc_4 hf
      refine lv_iconst (v := 1) hx hb dX10_stepHere_32 (by decide) ?_
      exact hfin _ _ H locs _ ls (Option.some.inj hf) hP hS dX10_stepHere_33
  · have hf := zifn hc_2 hf
    refine lv_iconst (v := 0) hx hb dX10_stepHere_15 (by decide) ?_
    exact hfin _ _ H locs _ ls (Option.some.inj hf) hP hS dX10_stepHere_16
set_option maxHeartbeats 4000000 in
set_option maxRecDepth 100000 in
theorem cpM_stepHere (l : Launch) {g : zG} (hI : zI g 581) (sz : Nat) (m_thrown : Int32) (m_tape : Int32) (m_size : Int32) (m_place : Int32) (m_at : Int32) (m_fault : Int32) (m_faultAt : Int32) (m_clauses : Int32) (m_open : Int32) (m_fed : Nat → Int32) (m_refused : Nat → Int32) (m_readTold : Nat → Int32) (m_told : Nat → Int32) (m_readBeast : Nat → Nat → Int32) (m_beast : Nat → Nat → Int32) (m_readGate : Nat → Nat → Int32) (m_gate : Nat → Nat → Int32) (m_readList : Nat → Nat → Int32) (m_list : Nat → Nat → Int32) (m_lawMany : Int32) (m_readLawMany : Int32) (m_law : Nat → Nat → Int32) (m_readLaw : Nat → Nat → Int32) (m_stack : Nat → Int32) (m_known : Nat → Int32) (m_step : Nat → Nat → Int32) (m_steps : Int32) (m_now : Nat → Int32) (m_trial : Nat → Int32) (m_before : Nat → Nat → Int32) (m_kept : Nat → Nat → Int32) (m_works : Int32) (m_refusedSteps : Int32) (m_images : Int32) (m_spot : Int32) (m_begun : Int32) (m_doneSteps : Int32) (m_mixed : Nat → Int32) (m_fewest : Nat → Int32) (m_leastFees : Nat → Int32) (m_lots : Int32) (m_tars : Int32) (N9 : Nat) {r0 : Int32} {m_at' : Int32} (hf : pM_stepHere N9  m_size m_at m_fault m_fed = some (r0, m_at')) : zMi l yX10_stepHere cX10_stepHere 1 (some .int) 6 g (zM g m_thrown m_tape m_size m_place m_at m_fault m_faultAt m_clauses m_open m_fed m_refused m_readTold m_told m_readBeast m_beast m_readGate m_gate m_readList m_list m_lawMany m_readLawMany m_law m_readLaw m_stack m_known m_step m_steps m_now m_trial m_before m_kept m_works m_refusedSteps m_images m_spot m_begun m_doneSteps m_mixed m_fewest m_leastFees m_lots m_tars) (zM g m_thrown m_tape m_size m_place m_at' m_fault m_faultAt m_clauses m_open m_fed m_refused m_readTold m_told m_readBeast m_beast m_readGate m_gate m_readList m_list m_lawMany m_readLawMany m_law m_readLaw m_stack m_known m_step m_steps m_now m_trial m_before m_kept m_works m_refusedSteps m_images m_spot m_begun m_doneSteps m_mixed m_fewest m_leastFees m_lots m_tars) sz (zF g 64 580 sz) [.ref (g.2.1 64)] r0 := by
  refine Met.ofW (cc := cX10_stepHere) (maxL := 1) (ret := (some .int)) (by decide +kernel) rfl ?_
  intro p e s m args below meth c s₁ B hml hv
  obtain ⟨rfl, hsz, hP, hK, hST⟩ := hv
  subst hsz
  have hC := zstart (own := RX10) rfl B hml hK hST
  have hl := lv_entry ([.ref (g.2.1 64)]) (n := 1) (Nat.le_of_ble_eq_true rfl)
  rw [lg_entry_eq]
  generalize (lg_sl ([.ref (g.2.1 64)]) ++ List.replicate (1 - (lg_sl ([.ref (g.2.1 64)])).length) Slot.unset).toArray = ls at hl ⊢
  have hl : lv_has ls 1 [(0, .ref (g.2.1 64))] := hl
  obtain ⟨hx, hb, hr, hml, hown, hts, hK, hlk, hST⟩ := id hC
  refine mpM_stepHere hI hC ⟨Nat.le_refl _, Nat.le_refl _, Nat.le_refl _, Nat.le_refl _⟩ m_thrown m_tape m_size m_place m_at m_fault m_faultAt m_clauses m_open m_fed m_refused m_readTold m_told m_readBeast m_beast m_readGate m_gate m_readList m_list m_lawMany m_readLawMany m_law m_readLaw m_stack m_known m_step m_steps m_now m_trial m_before m_kept m_works m_refusedSteps m_images m_spot m_begun m_doneSteps m_mixed m_fewest m_leastFees m_lots m_tars N9 (r0, m_at') ?_ hf _ _ ls hP va_S.rf hl
  intro r1 m_at1 H locs pc ls he hP hS hd
  cases he
  exact W.iret hx hb hr (fun t ht hW => ⟨⟨_, (), rfl, rfl, by rw [← ht] at hP; exact hP⟩, hS.F ht⟩) hS.2.2 hd hlk
/-! StripeTradeModel.readsStep ()V [('obj', 'm')] -/
set_option maxHeartbeats 4000000 in
set_option maxRecDepth 100000 in
theorem mpM_readsStepo_253 {p : Program} {l : Launch} {e : Env} {R : Room} {s : State} {m : MethodId} {args : Array Value} {below : List Frame} {meth : Method} {c : Code} {cells slots : Nat} {Q : State → Prop} {g : zG} {d9 : Nat} (hI : zI g 581) (hC : zC g RX10 cX10_readsStep 4 none p s m meth c args) (hR : (7 + (d9 + 1)) ≤ R.frames ∧ 60 * (7 + (d9 + 1)) ≤ R.locals ∧ cells ≤ R.cells ∧ slots ≤ R.slots) (m_thrown : Int32) (m_tape : Int32) (m_size : Int32) (m_place : Int32) (m_clauses : Int32) (m_fed : Nat → Int32) (m_refused : Nat → Int32) (m_readTold : Nat → Int32) (m_told : Nat → Int32) (m_readBeast : Nat → Nat → Int32) (m_beast : Nat → Nat → Int32) (m_readGate : Nat → Nat → Int32) (m_gate : Nat → Nat → Int32) (m_readList : Nat → Nat → Int32) (m_list : Nat → Nat → Int32) (m_lawMany : Int32) (m_readLawMany : Int32) (m_law : Nat → Nat → Int32) (m_readLaw : Nat → Nat → Int32) (m_stack : Nat → Int32) (m_known : Nat → Int32) (m_now : Nat → Int32) (m_trial : Nat → Int32) (m_before : Nat → Nat → Int32) (m_kept : Nat → Nat → Int32) (m_works : Int32) (m_refusedSteps : Int32) (m_images : Int32) (m_spot : Int32) (m_begun : Int32) (m_doneSteps : Int32) (m_mixed : Nat → Int32) (m_fewest : Nat → Int32) (m_leastFees : Nat → Int32) (m_lots : Int32) (m_tars : Int32) (r2 : Int32) (N9 : Nat) (q_pM_readsStep : Int32 → Int32 → Int32 → Int32 → Int32 → (Nat → Int32) → (Nat → Int32) → (Nat → Nat → Int32) → Int32 → (Nat → Int32) → Option (Int32 × Int32 × Int32 × Int32 × (Nat → Nat → Int32) × Int32)) (hq_pM_readsStep : ∀ {g : zG} (_ : zI g 581) (sz : Nat) (m_thrown : Int32) (m_tape : Int32) (m_size : Int32) (m_place : Int32) (m_at : Int32) (m_fault : Int32) (m_faultAt : Int32) (m_clauses : Int32) (m_open : Int32) (m_fed : Nat → Int32) (m_refused : Nat → Int32) (m_readTold : Nat → Int32) (m_told : Nat → Int32) (m_readBeast : Nat → Nat → Int32) (m_beast : Nat → Nat → Int32) (m_readGate : Nat → Nat → Int32) (m_gate : Nat → Nat → Int32) (m_readList : Nat → Nat → Int32) (m_list : Nat → Nat → Int32) (m_lawMany : Int32) (m_readLawMany : Int32) (m_law : Nat → Nat → Int32) (m_readLaw : Nat → Nat → Int32) (m_stack : Nat → Int32) (m_known : Nat → Int32) (m_step : Nat → Nat → Int32) (m_steps : Int32) (m_now : Nat → Int32) (m_trial : Nat → Int32) (m_before : Nat → Nat → Int32) (m_kept : Nat → Nat → Int32) (m_works : Int32) (m_refusedSteps : Int32) (m_images : Int32) (m_spot : Int32) (m_begun : Int32) (m_doneSteps : Int32) (m_mixed : Nat → Int32) (m_fewest : Nat → Int32) (m_leastFees : Nat → Int32) (m_lots : Int32) (m_tars : Int32)  {m_at' : Int32} {m_fault' : Int32} {m_faultAt' : Int32} {m_open' : Int32} {m_step' : Nat → Nat → Int32} {m_steps' : Int32}, q_pM_readsStep m_size m_at m_fault m_faultAt m_open m_fed m_told m_step m_steps m_now = some (m_at', m_fault', m_faultAt', m_open', m_step', m_steps') → zMv l yX10_readsStep cX10_readsStep 4 none (7 + d9) g (zM g m_thrown m_tape m_size m_place m_at m_fault m_faultAt m_clauses m_open m_fed m_refused m_readTold m_told m_readBeast m_beast m_readGate m_gate m_readList m_list m_lawMany m_readLawMany m_law m_readLaw m_stack m_known m_step m_steps m_now m_trial m_before m_kept m_works m_refusedSteps m_images m_spot m_begun m_doneSteps m_mixed m_fewest m_leastFees m_lots m_tars) (zM g m_thrown m_tape m_size m_place m_at' m_fault' m_faultAt' m_clauses m_open' m_fed m_refused m_readTold m_told m_readBeast m_beast m_readGate m_gate m_readList m_list m_lawMany m_readLawMany m_law m_readLaw m_stack m_known m_step' m_steps' m_now m_trial m_before m_kept m_works m_refusedSteps m_images m_spot m_begun m_doneSteps m_mixed m_fewest m_leastFees m_lots m_tars) sz (zF g 64 580 sz) [.ref (g.2.1 64)])  (res : Int32 × Int32 × Int32 × Int32 × (Nat → Nat → Int32) × Int32) (hfin : ∀ (m_at : Int32) (m_fault : Int32) (m_faultAt : Int32) (m_open : Int32) (m_step : Nat → Nat → Int32) (m_steps : Int32) (H : Heap) (locs : List Loc) (pc : Nat) (ls : Array Slot), (m_at, m_fault, m_faultAt, m_open, m_step, m_steps) = res → va_P g.1 zcl (zM g m_thrown m_tape m_size m_place m_at m_fault m_faultAt m_clauses m_open m_fed m_refused m_readTold m_told m_readBeast m_beast m_readGate m_gate m_readList m_list m_lawMany m_readLawMany m_law m_readLaw m_stack m_known m_step m_steps m_now m_trial m_before m_kept m_works m_refusedSteps m_images m_spot m_begun m_doneSteps m_mixed m_fewest m_leastFees m_lots m_tars) H → va_S (zF g 64 580 s.heap.size) s.heap H locs → decode cX10_readsStep pc = .ok (.return_, 1) → W p l e R s m args below meth c H locs cells slots Q (F0 m pc ls [])) : ∀ (m_at : Int32) (m_fault : Int32) (m_faultAt : Int32) (m_open : Int32) (m_step : Nat → Nat → Int32) (m_steps : Int32), pM_readsStepo_253 N9 q_pM_readsStep m_size m_fed r2 m_at m_fault m_faultAt m_open m_step m_steps = some res → ∀ (H : Heap) (locs : List Loc) (ls : Array Slot), va_P g.1 zcl (zM g m_thrown m_tape m_size m_place m_at m_fault m_faultAt m_clauses m_open m_fed m_refused m_readTold m_told m_readBeast m_beast m_readGate m_gate m_readList m_list m_lawMany m_readLawMany m_law m_readLaw m_stack m_known m_step m_steps m_now m_trial m_before m_kept m_works m_refusedSteps m_images m_spot m_begun m_doneSteps m_mixed m_fewest m_leastFees m_lots m_tars) H → va_S (zF g 64 580 s.heap.size) s.heap H locs → lv_has ls 4 [(0, .ref (g.2.1 64)), (2, .ref (g.2.1 (481 + r2.toNatClampNeg)))] → W p l e R s m args below meth c H locs cells slots Q (F0 m 253 ls []) := by
  obtain ⟨hx, hb, hr, hml, hown, hts, hK, hlk, hST⟩ := id hC
  have hB : ∀ q, (zF g 64 580 s.heap.size) q → zB g q := zF.base hI (Nat.le_of_ble_eq_true rfl) hST.1
  intro m_at m_fault m_faultAt m_open m_step m_steps hf H locs ls hP hS hl
  unfold pM_readsStepo_253 at hf
  refine lv_aload_n hx hb dX10_readsStep_253 rfl (lv_at hl 1 rfl) ?_
  refine lv_iconst (v := 3) hx hb dX10_readsStep_254 (by decide) ?_
  refine lv_aload_n hx hb dX10_readsStep_255 rfl (lv_at hl 0 rfl) ?_
  refine zg_m_steps hC hP (hC.fl mw_1415) dX10_readsStep_256 ?_
  obtain ⟨hz_1, hf⟩ := zite hf
  obtain ⟨hz_2, hf⟩ := zite hf
  refine zs_m_step hC hP hI (fun k h1 h2 => zF.own h1 h2) hS hz_1 hz_2 dX10_readsStep_259 (fun H locs hP hS => ?_)
  refine lv_aload_n hx hb dX10_readsStep_260 rfl (lv_at hl 0 rfl) ?_
  refine lv_bipush (v := 59) hx hb dX10_readsStep_261 (by decide) ?_
  obtain ⟨m_at_3, m_fault_3, m_faultAt_3, hf_3, hf⟩ := zb3i hf
  refine zcallVv (As := [.int 59]) (rest := []) hC hP hS hB (fun q h => zF.mono hS.1 h) (cpM_sign l hI H.size m_thrown m_tape m_size m_place m_at m_fault m_faultAt m_clauses m_open m_fed m_refused m_readTold m_told m_readBeast m_beast m_readGate m_gate m_readList m_list m_lawMany m_readLawMany m_law m_readLaw m_stack m_known (va_up m_step r2.toNatClampNeg (upd (m_step r2.toNatClampNeg) (3 : Int32).toNatClampNeg m_steps)) m_steps m_now m_trial m_before m_kept m_works m_refusedSteps m_images m_spot m_begun m_doneSteps m_mixed m_fewest m_leastFees m_lots m_tars (59 : Int32) N9 hf_3) (hC.ml mw_1588) yo_X10_sign 0 (zfM rfl) rfl rfl rfl hl.1 rfl (Nat.le_of_ble_eq_true rfl) ⟨by omega, by omega⟩ hR.2.2 dX10_readsStep_263 (fun H locs hP hS _ _ => ?_)
  exact hfin _ _ _ _ _ _ H locs _ ls (Option.some.inj hf) hP hS dX10_readsStep_266
set_option maxHeartbeats 4000000 in
set_option maxRecDepth 100000 in
theorem mpM_readsStepo_237 {p : Program} {l : Launch} {e : Env} {R : Room} {s : State} {m : MethodId} {args : Array Value} {below : List Frame} {meth : Method} {c : Code} {cells slots : Nat} {Q : State → Prop} {g : zG} {d9 : Nat} (hI : zI g 581) (hC : zC g RX10 cX10_readsStep 4 none p s m meth c args) (hR : (7 + (d9 + 1)) ≤ R.frames ∧ 60 * (7 + (d9 + 1)) ≤ R.locals ∧ cells ≤ R.cells ∧ slots ≤ R.slots) (m_thrown : Int32) (m_tape : Int32) (m_size : Int32) (m_place : Int32) (m_clauses : Int32) (m_fed : Nat → Int32) (m_refused : Nat → Int32) (m_readTold : Nat → Int32) (m_told : Nat → Int32) (m_readBeast : Nat → Nat → Int32) (m_beast : Nat → Nat → Int32) (m_readGate : Nat → Nat → Int32) (m_gate : Nat → Nat → Int32) (m_readList : Nat → Nat → Int32) (m_list : Nat → Nat → Int32) (m_lawMany : Int32) (m_readLawMany : Int32) (m_law : Nat → Nat → Int32) (m_readLaw : Nat → Nat → Int32) (m_stack : Nat → Int32) (m_known : Nat → Int32) (m_now : Nat → Int32) (m_trial : Nat → Int32) (m_before : Nat → Nat → Int32) (m_kept : Nat → Nat → Int32) (m_works : Int32) (m_refusedSteps : Int32) (m_images : Int32) (m_spot : Int32) (m_begun : Int32) (m_doneSteps : Int32) (m_mixed : Nat → Int32) (m_fewest : Nat → Int32) (m_leastFees : Nat → Int32) (m_lots : Int32) (m_tars : Int32) (r2 : Int32) (N9 : Nat) (q_pM_readsStep : Int32 → Int32 → Int32 → Int32 → Int32 → (Nat → Int32) → (Nat → Int32) → (Nat → Nat → Int32) → Int32 → (Nat → Int32) → Option (Int32 × Int32 × Int32 × Int32 × (Nat → Nat → Int32) × Int32)) (hq_pM_readsStep : ∀ {g : zG} (_ : zI g 581) (sz : Nat) (m_thrown : Int32) (m_tape : Int32) (m_size : Int32) (m_place : Int32) (m_at : Int32) (m_fault : Int32) (m_faultAt : Int32) (m_clauses : Int32) (m_open : Int32) (m_fed : Nat → Int32) (m_refused : Nat → Int32) (m_readTold : Nat → Int32) (m_told : Nat → Int32) (m_readBeast : Nat → Nat → Int32) (m_beast : Nat → Nat → Int32) (m_readGate : Nat → Nat → Int32) (m_gate : Nat → Nat → Int32) (m_readList : Nat → Nat → Int32) (m_list : Nat → Nat → Int32) (m_lawMany : Int32) (m_readLawMany : Int32) (m_law : Nat → Nat → Int32) (m_readLaw : Nat → Nat → Int32) (m_stack : Nat → Int32) (m_known : Nat → Int32) (m_step : Nat → Nat → Int32) (m_steps : Int32) (m_now : Nat → Int32) (m_trial : Nat → Int32) (m_before : Nat → Nat → Int32) (m_kept : Nat → Nat → Int32) (m_works : Int32) (m_refusedSteps : Int32) (m_images : Int32) (m_spot : Int32) (m_begun : Int32) (m_doneSteps : Int32) (m_mixed : Nat → Int32) (m_fewest : Nat → Int32) (m_leastFees : Nat → Int32) (m_lots : Int32) (m_tars : Int32)  {m_at' : Int32} {m_fault' : Int32} {m_faultAt' : Int32} {m_open' : Int32} {m_step' : Nat → Nat → Int32} {m_steps' : Int32}, q_pM_readsStep m_size m_at m_fault m_faultAt m_open m_fed m_told m_step m_steps m_now = some (m_at', m_fault', m_faultAt', m_open', m_step', m_steps') → zMv l yX10_readsStep cX10_readsStep 4 none (7 + d9) g (zM g m_thrown m_tape m_size m_place m_at m_fault m_faultAt m_clauses m_open m_fed m_refused m_readTold m_told m_readBeast m_beast m_readGate m_gate m_readList m_list m_lawMany m_readLawMany m_law m_readLaw m_stack m_known m_step m_steps m_now m_trial m_before m_kept m_works m_refusedSteps m_images m_spot m_begun m_doneSteps m_mixed m_fewest m_leastFees m_lots m_tars) (zM g m_thrown m_tape m_size m_place m_at' m_fault' m_faultAt' m_clauses m_open' m_fed m_refused m_readTold m_told m_readBeast m_beast m_readGate m_gate m_readList m_list m_lawMany m_readLawMany m_law m_readLaw m_stack m_known m_step' m_steps' m_now m_trial m_before m_kept m_works m_refusedSteps m_images m_spot m_begun m_doneSteps m_mixed m_fewest m_leastFees m_lots m_tars) sz (zF g 64 580 sz) [.ref (g.2.1 64)]) (k253 : Int32 → Int32 → Int32 → Int32 → (Nat → Nat → Int32) → Int32 → Option (Int32 × Int32 × Int32 × Int32 × (Nat → Nat → Int32) × Int32)) (res : Int32 × Int32 × Int32 × Int32 × (Nat → Nat → Int32) × Int32) (hfin : ∀ (m_at : Int32) (m_fault : Int32) (m_faultAt : Int32) (m_open : Int32) (m_step : Nat → Nat → Int32) (m_steps : Int32) (H : Heap) (locs : List Loc) (pc : Nat) (ls : Array Slot), (m_at, m_fault, m_faultAt, m_open, m_step, m_steps) = res → va_P g.1 zcl (zM g m_thrown m_tape m_size m_place m_at m_fault m_faultAt m_clauses m_open m_fed m_refused m_readTold m_told m_readBeast m_beast m_readGate m_gate m_readList m_list m_lawMany m_readLawMany m_law m_readLaw m_stack m_known m_step m_steps m_now m_trial m_before m_kept m_works m_refusedSteps m_images m_spot m_begun m_doneSteps m_mixed m_fewest m_leastFees m_lots m_tars) H → va_S (zF g 64 580 s.heap.size) s.heap H locs → decode cX10_readsStep pc = .ok (.return_, 1) → W p l e R s m args below meth c H locs cells slots Q (F0 m pc ls [])) (hk253 : ∀ (m_at : Int32) (m_fault : Int32) (m_faultAt : Int32) (m_open : Int32) (m_step : Nat → Nat → Int32) (m_steps : Int32), k253 m_at m_fault m_faultAt m_open m_step m_steps = some res → ∀ (H : Heap) (locs : List Loc) (ls : Array Slot), va_P g.1 zcl (zM g m_thrown m_tape m_size m_place m_at m_fault m_faultAt m_clauses m_open m_fed m_refused m_readTold m_told m_readBeast m_beast m_readGate m_gate m_readList m_list m_lawMany m_readLawMany m_law m_readLaw m_stack m_known m_step m_steps m_now m_trial m_before m_kept m_works m_refusedSteps m_images m_spot m_begun m_doneSteps m_mixed m_fewest m_leastFees m_lots m_tars) H → va_S (zF g 64 580 s.heap.size) s.heap H locs → lv_has ls 4 [(0, .ref (g.2.1 64)), (2, .ref (g.2.1 (481 + r2.toNatClampNeg)))] → W p l e R s m args below meth c H locs cells slots Q (F0 m 253 ls [])) : ∀ (m_at : Int32) (m_fault : Int32) (m_faultAt : Int32) (m_open : Int32) (m_step : Nat → Nat → Int32) (m_steps : Int32), pM_readsStepo_237 N9 q_pM_readsStep m_size m_fed r2 k253 m_at m_fault m_faultAt m_open m_step m_steps = some res → ∀ (H : Heap) (locs : List Loc) (ls : Array Slot), va_P g.1 zcl (zM g m_thrown m_tape m_size m_place m_at m_fault m_faultAt m_clauses m_open m_fed m_refused m_readTold m_told m_readBeast m_beast m_readGate m_gate m_readList m_list m_lawMany m_readLawMany m_law m_readLaw m_stack m_known m_step m_steps m_now m_trial m_before m_kept m_works m_refusedSteps m_images m_spot m_begun m_doneSteps m_mixed m_fewest m_leastFees m_lots m_tars) H → va_S (zF g 64 580 s.heap.size) s.heap H locs → lv_has ls 4 [(0, .ref (g.2.1 64)), (2, .ref (g.2.1 (481 + r2.toNatClampNeg)))] → W p l e R s m args below meth c H locs cells slots Q (F0 m 237 ls []) := by
  obtain ⟨hx, hb, hr, hml, hown, hts, hK, hlk, hST⟩ := id hC
  have hB : ∀ q, (zF g 64 580 s.heap.size) q → zB g q := zF.base hI (Nat.le_of_ble_eq_true rfl) hST.1
  intro m_at m_fault m_faultAt m_open m_step m_steps hf H locs ls hP hS hl
  unfold pM_readsStepo_237 at hf
  refine lv_aload_n hx hb dX10_readsStep_237 rfl (lv_at hl 0 rfl) ?_
  refine lv_bipush (v := 93) hx hb dX10_readsStep_238 (by decide) ?_
  obtain ⟨m_at_4, m_fault_4, m_faultAt_4, hf_4, hf⟩ := zb3i hf
  refine zcallVv (As := [.int 93]) (rest := []) hC hP hS hB (fun q h => zF.mono hS.1 h) (cpM_sign l hI H.size m_thrown m_tape m_size m_place m_at m_fault m_faultAt m_clauses m_open m_fed m_refused m_readTold m_told m_readBeast m_beast m_readGate m_gate m_readList m_list m_lawMany m_readLawMany m_law m_readLaw m_stack m_known m_step m_steps m_now m_trial m_before m_kept m_works m_refusedSteps m_images m_spot m_begun m_doneSteps m_mixed m_fewest m_leastFees m_lots m_tars (93 : Int32) N9 hf_4) (hC.ml mw_1588) yo_X10_sign 0 (zfM rfl) rfl rfl rfl hl.1 rfl (Nat.le_of_ble_eq_true rfl) ⟨by omega, by omega⟩ hR.2.2 dX10_readsStep_240 (fun H locs hP hS _ _ => ?_)
  refine lv_aload_n hx hb dX10_readsStep_243 rfl (lv_at hl 0 rfl) ?_
  refine lv_dup hx hb dX10_readsStep_244 rfl ?_
  refine zg_m_open hC hP (hC.fl mw_1397) dX10_readsStep_245 ?_
  refine lv_iconst (v := 1) hx hb dX10_readsStep_248 (by decide) ?_
  refine lv_isub hx hb dX10_readsStep_249 ?_
  refine zp_m_open hC hP hI (fun k h1 h2 => zF.own h1 h2) hS (hC.fl mw_1397) dX10_readsStep_250 (fun H locs hP hS => ?_)
  exact hk253 m_at_4 m_fault_4 m_faultAt_4 (m_open - 1) m_step m_steps hf H locs ls hP hS (lv_sub hl [0, 1] rfl)
set_option maxHeartbeats 4000000 in
set_option maxRecDepth 100000 in
theorem mpM_readsStepo_206 {p : Program} {l : Launch} {e : Env} {R : Room} {s : State} {m : MethodId} {args : Array Value} {below : List Frame} {meth : Method} {c : Code} {cells slots : Nat} {Q : State → Prop} {g : zG} {d9 : Nat} (hI : zI g 581) (hC : zC g RX10 cX10_readsStep 4 none p s m meth c args) (hR : (7 + (d9 + 1)) ≤ R.frames ∧ 60 * (7 + (d9 + 1)) ≤ R.locals ∧ cells ≤ R.cells ∧ slots ≤ R.slots) (m_thrown : Int32) (m_tape : Int32) (m_size : Int32) (m_place : Int32) (m_clauses : Int32) (m_fed : Nat → Int32) (m_refused : Nat → Int32) (m_readTold : Nat → Int32) (m_told : Nat → Int32) (m_readBeast : Nat → Nat → Int32) (m_beast : Nat → Nat → Int32) (m_readGate : Nat → Nat → Int32) (m_gate : Nat → Nat → Int32) (m_readList : Nat → Nat → Int32) (m_list : Nat → Nat → Int32) (m_lawMany : Int32) (m_readLawMany : Int32) (m_law : Nat → Nat → Int32) (m_readLaw : Nat → Nat → Int32) (m_stack : Nat → Int32) (m_known : Nat → Int32) (m_now : Nat → Int32) (m_trial : Nat → Int32) (m_before : Nat → Nat → Int32) (m_kept : Nat → Nat → Int32) (m_works : Int32) (m_refusedSteps : Int32) (m_images : Int32) (m_spot : Int32) (m_begun : Int32) (m_doneSteps : Int32) (m_mixed : Nat → Int32) (m_fewest : Nat → Int32) (m_leastFees : Nat → Int32) (m_lots : Int32) (m_tars : Int32) (r2 : Int32) (N9 : Nat) (q_pM_readsStep : Int32 → Int32 → Int32 → Int32 → Int32 → (Nat → Int32) → (Nat → Int32) → (Nat → Nat → Int32) → Int32 → (Nat → Int32) → Option (Int32 × Int32 × Int32 × Int32 × (Nat → Nat → Int32) × Int32)) (hq_pM_readsStep : ∀ {g : zG} (_ : zI g 581) (sz : Nat) (m_thrown : Int32) (m_tape : Int32) (m_size : Int32) (m_place : Int32) (m_at : Int32) (m_fault : Int32) (m_faultAt : Int32) (m_clauses : Int32) (m_open : Int32) (m_fed : Nat → Int32) (m_refused : Nat → Int32) (m_readTold : Nat → Int32) (m_told : Nat → Int32) (m_readBeast : Nat → Nat → Int32) (m_beast : Nat → Nat → Int32) (m_readGate : Nat → Nat → Int32) (m_gate : Nat → Nat → Int32) (m_readList : Nat → Nat → Int32) (m_list : Nat → Nat → Int32) (m_lawMany : Int32) (m_readLawMany : Int32) (m_law : Nat → Nat → Int32) (m_readLaw : Nat → Nat → Int32) (m_stack : Nat → Int32) (m_known : Nat → Int32) (m_step : Nat → Nat → Int32) (m_steps : Int32) (m_now : Nat → Int32) (m_trial : Nat → Int32) (m_before : Nat → Nat → Int32) (m_kept : Nat → Nat → Int32) (m_works : Int32) (m_refusedSteps : Int32) (m_images : Int32) (m_spot : Int32) (m_begun : Int32) (m_doneSteps : Int32) (m_mixed : Nat → Int32) (m_fewest : Nat → Int32) (m_leastFees : Nat → Int32) (m_lots : Int32) (m_tars : Int32)  {m_at' : Int32} {m_fault' : Int32} {m_faultAt' : Int32} {m_open' : Int32} {m_step' : Nat → Nat → Int32} {m_steps' : Int32}, q_pM_readsStep m_size m_at m_fault m_faultAt m_open m_fed m_told m_step m_steps m_now = some (m_at', m_fault', m_faultAt', m_open', m_step', m_steps') → zMv l yX10_readsStep cX10_readsStep 4 none (7 + d9) g (zM g m_thrown m_tape m_size m_place m_at m_fault m_faultAt m_clauses m_open m_fed m_refused m_readTold m_told m_readBeast m_beast m_readGate m_gate m_readList m_list m_lawMany m_readLawMany m_law m_readLaw m_stack m_known m_step m_steps m_now m_trial m_before m_kept m_works m_refusedSteps m_images m_spot m_begun m_doneSteps m_mixed m_fewest m_leastFees m_lots m_tars) (zM g m_thrown m_tape m_size m_place m_at' m_fault' m_faultAt' m_clauses m_open' m_fed m_refused m_readTold m_told m_readBeast m_beast m_readGate m_gate m_readList m_list m_lawMany m_readLawMany m_law m_readLaw m_stack m_known m_step' m_steps' m_now m_trial m_before m_kept m_works m_refusedSteps m_images m_spot m_begun m_doneSteps m_mixed m_fewest m_leastFees m_lots m_tars) sz (zF g 64 580 sz) [.ref (g.2.1 64)]) (k253 : Int32 → Int32 → Int32 → Int32 → (Nat → Nat → Int32) → Int32 → Option (Int32 × Int32 × Int32 × Int32 × (Nat → Nat → Int32) × Int32)) (res : Int32 × Int32 × Int32 × Int32 × (Nat → Nat → Int32) × Int32) (hfin : ∀ (m_at : Int32) (m_fault : Int32) (m_faultAt : Int32) (m_open : Int32) (m_step : Nat → Nat → Int32) (m_steps : Int32) (H : Heap) (locs : List Loc) (pc : Nat) (ls : Array Slot), (m_at, m_fault, m_faultAt, m_open, m_step, m_steps) = res → va_P g.1 zcl (zM g m_thrown m_tape m_size m_place m_at m_fault m_faultAt m_clauses m_open m_fed m_refused m_readTold m_told m_readBeast m_beast m_readGate m_gate m_readList m_list m_lawMany m_readLawMany m_law m_readLaw m_stack m_known m_step m_steps m_now m_trial m_before m_kept m_works m_refusedSteps m_images m_spot m_begun m_doneSteps m_mixed m_fewest m_leastFees m_lots m_tars) H → va_S (zF g 64 580 s.heap.size) s.heap H locs → decode cX10_readsStep pc = .ok (.return_, 1) → W p l e R s m args below meth c H locs cells slots Q (F0 m pc ls [])) (hk253 : ∀ (m_at : Int32) (m_fault : Int32) (m_faultAt : Int32) (m_open : Int32) (m_step : Nat → Nat → Int32) (m_steps : Int32), k253 m_at m_fault m_faultAt m_open m_step m_steps = some res → ∀ (H : Heap) (locs : List Loc) (ls : Array Slot), va_P g.1 zcl (zM g m_thrown m_tape m_size m_place m_at m_fault m_faultAt m_clauses m_open m_fed m_refused m_readTold m_told m_readBeast m_beast m_readGate m_gate m_readList m_list m_lawMany m_readLawMany m_law m_readLaw m_stack m_known m_step m_steps m_now m_trial m_before m_kept m_works m_refusedSteps m_images m_spot m_begun m_doneSteps m_mixed m_fewest m_leastFees m_lots m_tars) H → va_S (zF g 64 580 s.heap.size) s.heap H locs → lv_has ls 4 [(0, .ref (g.2.1 64)), (2, .ref (g.2.1 (481 + r2.toNatClampNeg)))] → W p l e R s m args below meth c H locs cells slots Q (F0 m 253 ls [])) : ∀ (n9 : Nat) (m_at : Int32) (m_fault : Int32) (m_faultAt : Int32) (m_open : Int32) (m_step : Nat → Nat → Int32) (m_steps : Int32), pM_readsStepo_206 N9 q_pM_readsStep m_size m_fed m_told m_now r2 k253 n9 m_at m_fault m_faultAt m_open m_step m_steps = some res → ∀ (H : Heap) (locs : List Loc) (ls : Array Slot), va_P g.1 zcl (zM g m_thrown m_tape m_size m_place m_at m_fault m_faultAt m_clauses m_open m_fed m_refused m_readTold m_told m_readBeast m_beast m_readGate m_gate m_readList m_list m_lawMany m_readLawMany m_law m_readLaw m_stack m_known m_step m_steps m_now m_trial m_before m_kept m_works m_refusedSteps m_images m_spot m_begun m_doneSteps m_mixed m_fewest m_leastFees m_lots m_tars) H → va_S (zF g 64 580 s.heap.size) s.heap H locs → lv_has ls 4 [(0, .ref (g.2.1 64)), (2, .ref (g.2.1 (481 + r2.toNatClampNeg)))] → W p l e R s m args below meth c H locs cells slots Q (F0 m 206 ls []) := by
  obtain ⟨hx, hb, hr, hml, hown, hts, hK, hlk, hST⟩ := id hC
  have hB : ∀ q, (zF g 64 580 s.heap.size) q → zB g q := zF.base hI (Nat.le_of_ble_eq_true rfl) hST.1
  intro n9
  induction n9 with
  | zero => intro m_at m_fault m_faultAt m_open m_step m_steps hf; cases hf
  | succ n9 ih =>
    intro m_at m_fault m_faultAt m_open m_step m_steps hf H locs ls hP hS hl
    have hk206 := ih
    have hk237 := mpM_readsStepo_237 (l := l) (e := e) (R := R) (below := below) (cells := cells) (slots := slots) (Q := Q) hI hC hR m_thrown m_tape m_size m_place m_clauses m_fed m_refused m_readTold m_told m_readBeast m_beast m_readGate m_gate m_readList m_list m_lawMany m_readLawMany m_law m_readLaw m_stack m_known m_now m_trial m_before m_kept m_works m_refusedSteps m_images m_spot m_begun m_doneSteps m_mixed m_fewest m_leastFees m_lots m_tars r2 N9 q_pM_readsStep hq_pM_readsStep k253 res hfin hk253
    unfold pM_readsStepo_206 at hf
    refine lv_aload_n hx hb dX10_readsStep_206 rfl (lv_at hl 0 rfl) ?_
    refine zg_m_fault hC hP (hC.fl mw_1394) dX10_readsStep_207 ?_
    refine lv_if_ne (tgt := 237) hx hb dX10_readsStep_210 (by decide) (fun hc_5 => ?_) (fun hc_5 => ?_)
    · have hf := zifn hc_5 hf
      exact hk237 m_at m_fault m_faultAt m_open m_step m_steps hf H locs ls hP hS (lv_sub hl [0, 1] rfl)
    · have hf := zifp hc_5 hf
      refine lv_aload_n hx hb dX10_readsStep_213 rfl (lv_at hl 0 rfl) ?_
      refine lv_aload_n hx hb dX10_readsStep_214 rfl (lv_at hl 0 rfl) ?_
      refine zg_m_at hC hP (hC.fl mw_1393) dX10_readsStep_215 ?_
      obtain ⟨r_6, hf_6, hf⟩ := zb1i hf
      refine zcallVi (As := [.int m_at]) (rest := []) hC hP hS hB (fun q h => zF.mono hS.1 h) (cpM_byteAt l hI H.size m_thrown m_tape m_size m_place m_at m_fault m_faultAt m_clauses m_open m_fed m_refused m_readTold m_told m_readBeast m_beast m_readGate m_gate m_readList m_list m_lawMany m_readLawMany m_law m_readLaw m_stack m_known m_step m_steps m_now m_trial m_before m_kept m_works m_refusedSteps m_images m_spot m_begun m_doneSteps m_mixed m_fewest m_leastFees m_lots m_tars m_at N9 hf_6) (hC.ml mw_1543) yo_X10_byteAt 0 (zfM rfl) rfl rfl rfl hl.1 rfl (Nat.le_of_ble_eq_true rfl) ⟨by omega, by omega⟩ hR.2.2 dX10_readsStep_218 (fun H locs hP hS _ _ => ?_)
      refine lv_bipush (v := 93) hx hb dX10_readsStep_221 (by decide) ?_
      refine lv_icmp_eq (tgt := 237) hx hb dX10_readsStep_223 (by decide) (fun hc_7 => ?_) (fun hc_7 => ?_)
      · have hf := zifp hc_7 hf
        exact hk237 m_at m_fault m_faultAt m_open m_step m_steps hf H locs ls hP hS (lv_sub hl [0, 1] rfl)
      · have hf := zifn hc_7 hf
        refine lv_aload_n hx hb dX10_readsStep_226 rfl (lv_at hl 0 rfl) ?_
        obtain ⟨m_at_8, m_fault_8, m_faultAt_8, m_open_8, m_step_8, m_steps_8, hf_8, hf⟩ := zb6i hf
        refine zcallVv (As := []) (rest := []) hC hP hS hB (fun q h => zF.mono hS.1 h) (hq_pM_readsStep hI H.size m_thrown m_tape m_size m_place m_at m_fault m_faultAt m_clauses m_open m_fed m_refused m_readTold m_told m_readBeast m_beast m_readGate m_gate m_readList m_list m_lawMany m_readLawMany m_law m_readLaw m_stack m_known m_step m_steps m_now m_trial m_before m_kept m_works m_refusedSteps m_images m_spot m_begun m_doneSteps m_mixed m_fewest m_leastFees m_lots m_tars  hf_8) (hC.ml mw_1640) yo_X10_readsStep 0 (zfM rfl) rfl rfl rfl hl.1 rfl (Nat.le_of_ble_eq_true rfl) ⟨by omega, by omega⟩ hR.2.2 dX10_readsStep_227 (fun H locs hP hS _ _ => ?_)
        refine lv_aload_n hx hb dX10_readsStep_230 rfl (lv_at hl 0 rfl) ?_
        obtain ⟨m_at_9, hf_9, hf⟩ := zb1i hf
        refine zcallVv (As := []) (rest := []) hC hP hS hB (fun q h => zF.mono hS.1 h) (cpM_blanks l hI H.size m_thrown m_tape m_size m_place m_at_8 m_fault_8 m_faultAt_8 m_clauses m_open_8 m_fed m_refused m_readTold m_told m_readBeast m_beast m_readGate m_gate m_readList m_list m_lawMany m_readLawMany m_law m_readLaw m_stack m_known m_step_8 m_steps_8 m_now m_trial m_before m_kept m_works m_refusedSteps m_images m_spot m_begun m_doneSteps m_mixed m_fewest m_leastFees m_lots m_tars  N9 hf_9) (hC.ml mw_1539) yo_X10_blanks 0 (zfM rfl) rfl rfl rfl hl.1 rfl (Nat.le_of_ble_eq_true rfl) ⟨by omega, by omega⟩ hR.2.2 dX10_readsStep_231 (fun H locs hP hS _ _ => ?_)
        refine lv_goto (tgt := 206) hx hb dX10_readsStep_234 (by decide) ?_
        exact hk206 m_at_9 m_fault_8 m_faultAt_8 m_open_8 m_step_8 m_steps_8 hf H locs ls hP hS (lv_sub hl [0, 1] rfl)
set_option maxHeartbeats 4000000 in
set_option maxRecDepth 100000 in
theorem mpM_readsStepo_180 {p : Program} {l : Launch} {e : Env} {R : Room} {s : State} {m : MethodId} {args : Array Value} {below : List Frame} {meth : Method} {c : Code} {cells slots : Nat} {Q : State → Prop} {g : zG} {d9 : Nat} (hI : zI g 581) (hC : zC g RX10 cX10_readsStep 4 none p s m meth c args) (hR : (7 + (d9 + 1)) ≤ R.frames ∧ 60 * (7 + (d9 + 1)) ≤ R.locals ∧ cells ≤ R.cells ∧ slots ≤ R.slots) (m_thrown : Int32) (m_tape : Int32) (m_size : Int32) (m_place : Int32) (m_clauses : Int32) (m_open : Int32) (m_fed : Nat → Int32) (m_refused : Nat → Int32) (m_readTold : Nat → Int32) (m_told : Nat → Int32) (m_readBeast : Nat → Nat → Int32) (m_beast : Nat → Nat → Int32) (m_readGate : Nat → Nat → Int32) (m_gate : Nat → Nat → Int32) (m_readList : Nat → Nat → Int32) (m_list : Nat → Nat → Int32) (m_lawMany : Int32) (m_readLawMany : Int32) (m_law : Nat → Nat → Int32) (m_readLaw : Nat → Nat → Int32) (m_stack : Nat → Int32) (m_known : Nat → Int32) (m_steps : Int32) (m_now : Nat → Int32) (m_trial : Nat → Int32) (m_before : Nat → Nat → Int32) (m_kept : Nat → Nat → Int32) (m_works : Int32) (m_refusedSteps : Int32) (m_images : Int32) (m_spot : Int32) (m_begun : Int32) (m_doneSteps : Int32) (m_mixed : Nat → Int32) (m_fewest : Nat → Int32) (m_leastFees : Nat → Int32) (m_lots : Int32) (m_tars : Int32) (r2 : Int32) (x1 : Int32) (N9 : Nat) (q_pM_readsStep : Int32 → Int32 → Int32 → Int32 → Int32 → (Nat → Int32) → (Nat → Int32) → (Nat → Nat → Int32) → Int32 → (Nat → Int32) → Option (Int32 × Int32 × Int32 × Int32 × (Nat → Nat → Int32) × Int32)) (hq_pM_readsStep : ∀ {g : zG} (_ : zI g 581) (sz : Nat) (m_thrown : Int32) (m_tape : Int32) (m_size : Int32) (m_place : Int32) (m_at : Int32) (m_fault : Int32) (m_faultAt : Int32) (m_clauses : Int32) (m_open : Int32) (m_fed : Nat → Int32) (m_refused : Nat → Int32) (m_readTold : Nat → Int32) (m_told : Nat → Int32) (m_readBeast : Nat → Nat → Int32) (m_beast : Nat → Nat → Int32) (m_readGate : Nat → Nat → Int32) (m_gate : Nat → Nat → Int32) (m_readList : Nat → Nat → Int32) (m_list : Nat → Nat → Int32) (m_lawMany : Int32) (m_readLawMany : Int32) (m_law : Nat → Nat → Int32) (m_readLaw : Nat → Nat → Int32) (m_stack : Nat → Int32) (m_known : Nat → Int32) (m_step : Nat → Nat → Int32) (m_steps : Int32) (m_now : Nat → Int32) (m_trial : Nat → Int32) (m_before : Nat → Nat → Int32) (m_kept : Nat → Nat → Int32) (m_works : Int32) (m_refusedSteps : Int32) (m_images : Int32) (m_spot : Int32) (m_begun : Int32) (m_doneSteps : Int32) (m_mixed : Nat → Int32) (m_fewest : Nat → Int32) (m_leastFees : Nat → Int32) (m_lots : Int32) (m_tars : Int32)  {m_at' : Int32} {m_fault' : Int32} {m_faultAt' : Int32} {m_open' : Int32} {m_step' : Nat → Nat → Int32} {m_steps' : Int32}, q_pM_readsStep m_size m_at m_fault m_faultAt m_open m_fed m_told m_step m_steps m_now = some (m_at', m_fault', m_faultAt', m_open', m_step', m_steps') → zMv l yX10_readsStep cX10_readsStep 4 none (7 + d9) g (zM g m_thrown m_tape m_size m_place m_at m_fault m_faultAt m_clauses m_open m_fed m_refused m_readTold m_told m_readBeast m_beast m_readGate m_gate m_readList m_list m_lawMany m_readLawMany m_law m_readLaw m_stack m_known m_step m_steps m_now m_trial m_before m_kept m_works m_refusedSteps m_images m_spot m_begun m_doneSteps m_mixed m_fewest m_leastFees m_lots m_tars) (zM g m_thrown m_tape m_size m_place m_at' m_fault' m_faultAt' m_clauses m_open' m_fed m_refused m_readTold m_told m_readBeast m_beast m_readGate m_gate m_readList m_list m_lawMany m_readLawMany m_law m_readLaw m_stack m_known m_step' m_steps' m_now m_trial m_before m_kept m_works m_refusedSteps m_images m_spot m_begun m_doneSteps m_mixed m_fewest m_leastFees m_lots m_tars) sz (zF g 64 580 sz) [.ref (g.2.1 64)])  (res : Int32 × Int32 × Int32 × Int32 × (Nat → Nat → Int32) × Int32) (hfin : ∀ (m_at : Int32) (m_fault : Int32) (m_faultAt : Int32) (m_open : Int32) (m_step : Nat → Nat → Int32) (m_steps : Int32) (H : Heap) (locs : List Loc) (pc : Nat) (ls : Array Slot), (m_at, m_fault, m_faultAt, m_open, m_step, m_steps) = res → va_P g.1 zcl (zM g m_thrown m_tape m_size m_place m_at m_fault m_faultAt m_clauses m_open m_fed m_refused m_readTold m_told m_readBeast m_beast m_readGate m_gate m_readList m_list m_lawMany m_readLawMany m_law m_readLaw m_stack m_known m_step m_steps m_now m_trial m_before m_kept m_works m_refusedSteps m_images m_spot m_begun m_doneSteps m_mixed m_fewest m_leastFees m_lots m_tars) H → va_S (zF g 64 580 s.heap.size) s.heap H locs → decode cX10_readsStep pc = .ok (.return_, 1) → W p l e R s m args below meth c H locs cells slots Q (F0 m pc ls [])) : ∀ (m_at : Int32) (m_fault : Int32) (m_faultAt : Int32) (m_step : Nat → Nat → Int32), pM_readsStepo_180 N9 q_pM_readsStep m_size m_open m_fed m_told m_steps m_now x1 r2 m_at m_fault m_faultAt m_step = some res → ∀ (H : Heap) (locs : List Loc) (ls : Array Slot), va_P g.1 zcl (zM g m_thrown m_tape m_size m_place m_at m_fault m_faultAt m_clauses m_open m_fed m_refused m_readTold m_told m_readBeast m_beast m_readGate m_gate m_readList m_list m_lawMany m_readLawMany m_law m_readLaw m_stack m_known m_step m_steps m_now m_trial m_before m_kept m_works m_refusedSteps m_images m_spot m_begun m_doneSteps m_mixed m_fewest m_leastFees m_lots m_tars) H → va_S (zF g 64 580 s.heap.size) s.heap H locs → lv_has ls 4 [(0, .ref (g.2.1 64)), (1, .int x1), (2, .ref (g.2.1 (481 + r2.toNatClampNeg)))] → W p l e R s m args below meth c H locs cells slots Q (F0 m 180 ls []) := by
  obtain ⟨hx, hb, hr, hml, hown, hts, hK, hlk, hST⟩ := id hC
  have hB : ∀ q, (zF g 64 580 s.heap.size) q → zB g q := zF.base hI (Nat.le_of_ble_eq_true rfl) hST.1
  intro m_at m_fault m_faultAt m_step hf H locs ls hP hS hl
  have hk253 := mpM_readsStepo_253 (l := l) (e := e) (R := R) (below := below) (cells := cells) (slots := slots) (Q := Q) hI hC hR m_thrown m_tape m_size m_place m_clauses m_fed m_refused m_readTold m_told m_readBeast m_beast m_readGate m_gate m_readList m_list m_lawMany m_readLawMany m_law m_readLaw m_stack m_known m_now m_trial m_before m_kept m_works m_refusedSteps m_images m_spot m_begun m_doneSteps m_mixed m_fewest m_leastFees m_lots m_tars r2 N9 q_pM_readsStep hq_pM_readsStep res hfin
  have hk206 := mpM_readsStepo_206 (l := l) (e := e) (R := R) (below := below) (cells := cells) (slots := slots) (Q := Q) hI hC hR m_thrown m_tape m_size m_place m_clauses m_fed m_refused m_readTold m_told m_readBeast m_beast m_readGate m_gate m_readList m_list m_lawMany m_readLawMany m_law m_readLaw m_stack m_known m_now m_trial m_before m_kept m_works m_refusedSteps m_images m_spot m_begun m_doneSteps m_mixed m_fewest m_leastFees m_lots m_tars r2 N9 q_pM_readsStep hq_pM_readsStep (pM_readsStepo_253 N9 q_pM_readsStep m_size m_fed r2) res hfin hk253 N9
  unfold pM_readsStepo_180 at hf
  refine lv_iload_n hx hb dX10_readsStep_180 rfl (lv_at hl 1 rfl) ?_
  refine lv_bipush (v := 6) hx hb dX10_readsStep_181 (by decide) ?_
  refine lv_icmp_ne (tgt := 253) hx hb dX10_readsStep_183 (by decide) (fun hc_10 => ?_) (fun hc_10 => ?_)
  · have hf := zifn hc_10 hf
    exact hk253 m_at m_fault m_faultAt m_open m_step m_steps hf H locs ls hP hS (lv_sub hl [0, 2] rfl)
  · have hf := zifp hc_10 hf
    refine lv_aload_n hx hb dX10_readsStep_186 rfl (lv_at hl 2 rfl) ?_
    refine lv_iconst (v := 1) hx hb dX10_readsStep_187 (by decide) ?_
    refine lv_aload_n hx hb dX10_readsStep_188 rfl (lv_at hl 0 rfl) ?_
    refine lv_iconst (v := 0) hx hb dX10_readsStep_189 (by decide) ?_
    refine lv_bipush (v := 30) hx hb dX10_readsStep_190 (by decide) ?_
    obtain ⟨r_11, m_at_11, m_fault_11, m_faultAt_11, hf_11, hf⟩ := zb4i hf
    refine zcallVi (As := [.int 0, .int 30]) (rest := [.int 1, .ref (g.2.1 (481 + r2.toNatClampNeg))]) hC hP hS hB (fun q h => zF.mono hS.1 h) (cpM_number l hI H.size m_thrown m_tape m_size m_place m_at m_fault m_faultAt m_clauses m_open m_fed m_refused m_readTold m_told m_readBeast m_beast m_readGate m_gate m_readList m_list m_lawMany m_readLawMany m_law m_readLaw m_stack m_known m_step m_steps m_now m_trial m_before m_kept m_works m_refusedSteps m_images m_spot m_begun m_doneSteps m_mixed m_fewest m_leastFees m_lots m_tars (0 : Int32) (30 : Int32) N9 hf_11) (hC.ml mw_1580) yo_X10_number 0 (zfM rfl) rfl rfl rfl hl.1 rfl (Nat.le_of_ble_eq_true rfl) ⟨by omega, by omega⟩ hR.2.2 dX10_readsStep_192 (fun H locs hP hS _ _ => ?_)
    obtain ⟨hz_12, hf⟩ := zite hf
    obtain ⟨hz_13, hf⟩ := zite hf
    refine zs_m_step hC hP hI (fun k h1 h2 => zF.own h1 h2) hS hz_12 hz_13 dX10_readsStep_195 (fun H locs hP hS => ?_)
    refine lv_aload_n hx hb dX10_readsStep_196 rfl (lv_at hl 0 rfl) ?_
    refine lv_bipush (v := 91) hx hb dX10_readsStep_197 (by decide) ?_
    obtain ⟨m_at_14, m_fault_14, m_faultAt_14, hf_14, hf⟩ := zb3i hf
    refine zcallVv (As := [.int 91]) (rest := []) hC hP hS hB (fun q h => zF.mono hS.1 h) (cpM_sign l hI H.size m_thrown m_tape m_size m_place m_at_11 m_fault_11 m_faultAt_11 m_clauses m_open m_fed m_refused m_readTold m_told m_readBeast m_beast m_readGate m_gate m_readList m_list m_lawMany m_readLawMany m_law m_readLaw m_stack m_known (va_up m_step r2.toNatClampNeg (upd (m_step r2.toNatClampNeg) (1 : Int32).toNatClampNeg r_11)) m_steps m_now m_trial m_before m_kept m_works m_refusedSteps m_images m_spot m_begun m_doneSteps m_mixed m_fewest m_leastFees m_lots m_tars (91 : Int32) N9 hf_14) (hC.ml mw_1588) yo_X10_sign 0 (zfM rfl) rfl rfl rfl hl.1 rfl (Nat.le_of_ble_eq_true rfl) ⟨by omega, by omega⟩ hR.2.2 dX10_readsStep_199 (fun H locs hP hS _ _ => ?_)
    refine lv_aload_n hx hb dX10_readsStep_202 rfl (lv_at hl 0 rfl) ?_
    obtain ⟨m_at_15, hf_15, hf⟩ := zb1i hf
    refine zcallVv (As := []) (rest := []) hC hP hS hB (fun q h => zF.mono hS.1 h) (cpM_blanks l hI H.size m_thrown m_tape m_size m_place m_at_14 m_fault_14 m_faultAt_14 m_clauses m_open m_fed m_refused m_readTold m_told m_readBeast m_beast m_readGate m_gate m_readList m_list m_lawMany m_readLawMany m_law m_readLaw m_stack m_known (va_up m_step r2.toNatClampNeg (upd (m_step r2.toNatClampNeg) (1 : Int32).toNatClampNeg r_11)) m_steps m_now m_trial m_before m_kept m_works m_refusedSteps m_images m_spot m_begun m_doneSteps m_mixed m_fewest m_leastFees m_lots m_tars  N9 hf_15) (hC.ml mw_1539) yo_X10_blanks 0 (zfM rfl) rfl rfl rfl hl.1 rfl (Nat.le_of_ble_eq_true rfl) ⟨by omega, by omega⟩ hR.2.2 dX10_readsStep_203 (fun H locs hP hS _ _ => ?_)
    exact hk206 m_at_15 m_fault_14 m_faultAt_14 m_open (va_up m_step r2.toNatClampNeg (upd (m_step r2.toNatClampNeg) (1 : Int32).toNatClampNeg r_11)) m_steps hf H locs ls hP hS (lv_sub hl [0, 2] rfl)
set_option maxHeartbeats 4000000 in
set_option maxRecDepth 100000 in
theorem mpM_readsStepo_127 {p : Program} {l : Launch} {e : Env} {R : Room} {s : State} {m : MethodId} {args : Array Value} {below : List Frame} {meth : Method} {c : Code} {cells slots : Nat} {Q : State → Prop} {g : zG} {d9 : Nat} (hI : zI g 581) (hC : zC g RX10 cX10_readsStep 4 none p s m meth c args) (hR : (7 + (d9 + 1)) ≤ R.frames ∧ 60 * (7 + (d9 + 1)) ≤ R.locals ∧ cells ≤ R.cells ∧ slots ≤ R.slots) (m_thrown : Int32) (m_tape : Int32) (m_size : Int32) (m_place : Int32) (m_clauses : Int32) (m_open : Int32) (m_fed : Nat → Int32) (m_refused : Nat → Int32) (m_readTold : Nat → Int32) (m_told : Nat → Int32) (m_readBeast : Nat → Nat → Int32) (m_beast : Nat → Nat → Int32) (m_readGate : Nat → Nat → Int32) (m_gate : Nat → Nat → Int32) (m_readList : Nat → Nat → Int32) (m_list : Nat → Nat → Int32) (m_lawMany : Int32) (m_readLawMany : Int32) (m_law : Nat → Nat → Int32) (m_readLaw : Nat → Nat → Int32) (m_stack : Nat → Int32) (m_known : Nat → Int32) (m_steps : Int32) (m_now : Nat → Int32) (m_trial : Nat → Int32) (m_before : Nat → Nat → Int32) (m_kept : Nat → Nat → Int32) (m_works : Int32) (m_refusedSteps : Int32) (m_images : Int32) (m_spot : Int32) (m_begun : Int32) (m_doneSteps : Int32) (m_mixed : Nat → Int32) (m_fewest : Nat → Int32) (m_leastFees : Nat → Int32) (m_lots : Int32) (m_tars : Int32) (r2 : Int32) (x1 : Int32) (N9 : Nat) (q_pM_readsStep : Int32 → Int32 → Int32 → Int32 → Int32 → (Nat → Int32) → (Nat → Int32) → (Nat → Nat → Int32) → Int32 → (Nat → Int32) → Option (Int32 × Int32 × Int32 × Int32 × (Nat → Nat → Int32) × Int32)) (hq_pM_readsStep : ∀ {g : zG} (_ : zI g 581) (sz : Nat) (m_thrown : Int32) (m_tape : Int32) (m_size : Int32) (m_place : Int32) (m_at : Int32) (m_fault : Int32) (m_faultAt : Int32) (m_clauses : Int32) (m_open : Int32) (m_fed : Nat → Int32) (m_refused : Nat → Int32) (m_readTold : Nat → Int32) (m_told : Nat → Int32) (m_readBeast : Nat → Nat → Int32) (m_beast : Nat → Nat → Int32) (m_readGate : Nat → Nat → Int32) (m_gate : Nat → Nat → Int32) (m_readList : Nat → Nat → Int32) (m_list : Nat → Nat → Int32) (m_lawMany : Int32) (m_readLawMany : Int32) (m_law : Nat → Nat → Int32) (m_readLaw : Nat → Nat → Int32) (m_stack : Nat → Int32) (m_known : Nat → Int32) (m_step : Nat → Nat → Int32) (m_steps : Int32) (m_now : Nat → Int32) (m_trial : Nat → Int32) (m_before : Nat → Nat → Int32) (m_kept : Nat → Nat → Int32) (m_works : Int32) (m_refusedSteps : Int32) (m_images : Int32) (m_spot : Int32) (m_begun : Int32) (m_doneSteps : Int32) (m_mixed : Nat → Int32) (m_fewest : Nat → Int32) (m_leastFees : Nat → Int32) (m_lots : Int32) (m_tars : Int32)  {m_at' : Int32} {m_fault' : Int32} {m_faultAt' : Int32} {m_open' : Int32} {m_step' : Nat → Nat → Int32} {m_steps' : Int32}, q_pM_readsStep m_size m_at m_fault m_faultAt m_open m_fed m_told m_step m_steps m_now = some (m_at', m_fault', m_faultAt', m_open', m_step', m_steps') → zMv l yX10_readsStep cX10_readsStep 4 none (7 + d9) g (zM g m_thrown m_tape m_size m_place m_at m_fault m_faultAt m_clauses m_open m_fed m_refused m_readTold m_told m_readBeast m_beast m_readGate m_gate m_readList m_list m_lawMany m_readLawMany m_law m_readLaw m_stack m_known m_step m_steps m_now m_trial m_before m_kept m_works m_refusedSteps m_images m_spot m_begun m_doneSteps m_mixed m_fewest m_leastFees m_lots m_tars) (zM g m_thrown m_tape m_size m_place m_at' m_fault' m_faultAt' m_clauses m_open' m_fed m_refused m_readTold m_told m_readBeast m_beast m_readGate m_gate m_readList m_list m_lawMany m_readLawMany m_law m_readLaw m_stack m_known m_step' m_steps' m_now m_trial m_before m_kept m_works m_refusedSteps m_images m_spot m_begun m_doneSteps m_mixed m_fewest m_leastFees m_lots m_tars) sz (zF g 64 580 sz) [.ref (g.2.1 64)])  (res : Int32 × Int32 × Int32 × Int32 × (Nat → Nat → Int32) × Int32) (hfin : ∀ (m_at : Int32) (m_fault : Int32) (m_faultAt : Int32) (m_open : Int32) (m_step : Nat → Nat → Int32) (m_steps : Int32) (H : Heap) (locs : List Loc) (pc : Nat) (ls : Array Slot), (m_at, m_fault, m_faultAt, m_open, m_step, m_steps) = res → va_P g.1 zcl (zM g m_thrown m_tape m_size m_place m_at m_fault m_faultAt m_clauses m_open m_fed m_refused m_readTold m_told m_readBeast m_beast m_readGate m_gate m_readList m_list m_lawMany m_readLawMany m_law m_readLaw m_stack m_known m_step m_steps m_now m_trial m_before m_kept m_works m_refusedSteps m_images m_spot m_begun m_doneSteps m_mixed m_fewest m_leastFees m_lots m_tars) H → va_S (zF g 64 580 s.heap.size) s.heap H locs → decode cX10_readsStep pc = .ok (.return_, 1) → W p l e R s m args below meth c H locs cells slots Q (F0 m pc ls [])) : ∀ (m_at : Int32) (m_fault : Int32) (m_faultAt : Int32) (m_step : Nat → Nat → Int32), pM_readsStepo_127 N9 q_pM_readsStep m_size m_open m_fed m_told m_steps m_now x1 r2 m_at m_fault m_faultAt m_step = some res → ∀ (H : Heap) (locs : List Loc) (ls : Array Slot), va_P g.1 zcl (zM g m_thrown m_tape m_size m_place m_at m_fault m_faultAt m_clauses m_open m_fed m_refused m_readTold m_told m_readBeast m_beast m_readGate m_gate m_readList m_list m_lawMany m_readLawMany m_law m_readLaw m_stack m_known m_step m_steps m_now m_trial m_before m_kept m_works m_refusedSteps m_images m_spot m_begun m_doneSteps m_mixed m_fewest m_leastFees m_lots m_tars) H → va_S (zF g 64 580 s.heap.size) s.heap H locs → lv_has ls 4 [(0, .ref (g.2.1 64)), (1, .int x1), (2, .ref (g.2.1 (481 + r2.toNatClampNeg)))] → W p l e R s m args below meth c H locs cells slots Q (F0 m 127 ls []) := by
  obtain ⟨hx, hb, hr, hml, hown, hts, hK, hlk, hST⟩ := id hC
  have hB : ∀ q, (zF g 64 580 s.heap.size) q → zB g q := zF.base hI (Nat.le_of_ble_eq_true rfl) hST.1
  intro m_at m_fault m_faultAt m_step hf H locs ls hP hS hl
  have hk180 := mpM_readsStepo_180 (l := l) (e := e) (R := R) (below := below) (cells := cells) (slots := slots) (Q := Q) hI hC hR m_thrown m_tape m_size m_place m_clauses m_open m_fed m_refused m_readTold m_told m_readBeast m_beast m_readGate m_gate m_readList m_list m_lawMany m_readLawMany m_law m_readLaw m_stack m_known m_steps m_now m_trial m_before m_kept m_works m_refusedSteps m_images m_spot m_begun m_doneSteps m_mixed m_fewest m_leastFees m_lots m_tars r2 x1 N9 q_pM_readsStep hq_pM_readsStep res hfin
  unfold pM_readsStepo_127 at hf
  refine lv_iload_n hx hb dX10_readsStep_127 rfl (lv_at hl 1 rfl) ?_
  refine lv_iconst (v := 4) hx hb dX10_readsStep_128 (by decide) ?_
  refine lv_icmp_ne (tgt := 180) hx hb dX10_readsStep_129 (by decide) (fun hc_16 => ?_) (fun hc_16 => ?_)
  · have hf := zifn hc_16 hf
    exact hk180 m_at m_fault m_faultAt m_step hf H locs ls hP hS (lv_sub hl [0, 1, 2] rfl)
  · have hf := zifp hc_16 hf
    refine lv_aload_n hx hb dX10_readsStep_132 rfl (lv_at hl 0 rfl) ?_
    obtain ⟨m_at_17, hf_17, hf⟩ := zb1i hf
    refine zcallVv (As := []) (rest := []) hC hP hS hB (fun q h => zF.mono hS.1 h) (cpM_blanks l hI H.size m_thrown m_tape m_size m_place m_at m_fault m_faultAt m_clauses m_open m_fed m_refused m_readTold m_told m_readBeast m_beast m_readGate m_gate m_readList m_list m_lawMany m_readLawMany m_law m_readLaw m_stack m_known m_step m_steps m_now m_trial m_before m_kept m_works m_refusedSteps m_images m_spot m_begun m_doneSteps m_mixed m_fewest m_leastFees m_lots m_tars  N9 hf_17) (hC.ml mw_1539) yo_X10_blanks 0 (zfM rfl) rfl rfl rfl hl.1 rfl (Nat.le_of_ble_eq_true rfl) ⟨by omega, by omega⟩ hR.2.2 dX10_readsStep_133 (fun H locs hP hS _ _ => ?_)
    refine lv_aload_n hx hb dX10_readsStep_136 rfl (lv_at hl 0 rfl) ?_
    refine zg_m_at hC hP (hC.fl mw_1393) dX10_readsStep_137 ?_
    refine lv_istore_n (lv' := [(3, .int m_at_17), (0, .ref (g.2.1 64)), (1, .int x1), (2, .ref (g.2.1 (481 + r2.toNatClampNeg)))]) hx hb dX10_readsStep_140 rfl hl (by decide) rfl (fun ls hl => ?_)
    refine lv_aload_n hx hb dX10_readsStep_141 rfl (lv_at hl 3 rfl) ?_
    refine lv_iconst (v := 2) hx hb dX10_readsStep_142 (by decide) ?_
    refine lv_aload_n hx hb dX10_readsStep_143 rfl (lv_at hl 1 rfl) ?_
    refine lv_iconst (v := 0) hx hb dX10_readsStep_144 (by decide) ?_
    refine lv_aload_n hx hb dX10_readsStep_145 rfl (lv_at hl 1 rfl) ?_
    refine zr_m_now hC hP (hC.fl mw_1416) dX10_readsStep_146 ?_
    refine lv_bipush (v := 42) hx hb dX10_readsStep_149 (by decide) ?_
    obtain ⟨hz_18, hf⟩ := zite hf
    refine zl_m_now hC hP hz_18 dX10_readsStep_151 ?_
    refine lv_iconst (v := 1) hx hb dX10_readsStep_152 (by decide) ?_
    refine lv_isub hx hb dX10_readsStep_153 ?_
    obtain ⟨r_19, m_at_19, m_fault_19, m_faultAt_19, hf_19, hf⟩ := zb4i hf
    refine zcallVi (As := [.int 0, .int ((m_now (42 : Int32).toNatClampNeg) - 1)]) (rest := [.int 2, .ref (g.2.1 (481 + r2.toNatClampNeg))]) hC hP hS hB (fun q h => zF.mono hS.1 h) (cpM_number l hI H.size m_thrown m_tape m_size m_place m_at_17 m_fault m_faultAt m_clauses m_open m_fed m_refused m_readTold m_told m_readBeast m_beast m_readGate m_gate m_readList m_list m_lawMany m_readLawMany m_law m_readLaw m_stack m_known m_step m_steps m_now m_trial m_before m_kept m_works m_refusedSteps m_images m_spot m_begun m_doneSteps m_mixed m_fewest m_leastFees m_lots m_tars (0 : Int32) ((m_now (42 : Int32).toNatClampNeg) - 1) N9 hf_19) (hC.ml mw_1580) yo_X10_number 0 (zfM rfl) rfl rfl rfl hl.1 rfl (Nat.le_of_ble_eq_true rfl) ⟨by omega, by omega⟩ hR.2.2 dX10_readsStep_154 (fun H locs hP hS _ _ => ?_)
    obtain ⟨hz_20, hf⟩ := zite hf
    obtain ⟨hz_21, hf⟩ := zite hf
    refine zs_m_step hC hP hI (fun k h1 h2 => zF.own h1 h2) hS hz_20 hz_21 dX10_readsStep_157 (fun H locs hP hS => ?_)
    refine lv_aload_n hx hb dX10_readsStep_158 rfl (lv_at hl 1 rfl) ?_
    refine zg_m_fault hC hP (hC.fl mw_1394) dX10_readsStep_159 ?_
    refine lv_if_ne (tgt := 180) hx hb dX10_readsStep_162 (by decide) (fun hc_22 => ?_) (fun hc_22 => ?_)
    · have hf := zifn hc_22 hf
      exact hk180 m_at_19 m_fault_19 m_faultAt_19 (va_up m_step r2.toNatClampNeg (upd (m_step r2.toNatClampNeg) (2 : Int32).toNatClampNeg r_19)) hf H locs ls hP hS (lv_sub hl [1, 2, 3] rfl)
    · have hf := zifp hc_22 hf
      refine lv_aload_n hx hb dX10_readsStep_165 rfl (lv_at hl 3 rfl) ?_
      refine lv_iconst (v := 1) hx hb dX10_readsStep_166 (by decide) ?_
      obtain ⟨hz_23, hf⟩ := zite hf
      refine zl_m_step hC hP hz_20 hz_23 dX10_readsStep_167 ?_
      refine lv_aload_n hx hb dX10_readsStep_168 rfl (lv_at hl 3 rfl) ?_
      refine lv_iconst (v := 2) hx hb dX10_readsStep_169 (by decide) ?_
      refine zl_m_step hC hP hz_20 hz_21 dX10_readsStep_170 ?_
      refine lv_icmp_ne (tgt := 180) hx hb dX10_readsStep_171 (by decide) (fun hc_24 => ?_) (fun hc_24 => ?_)
      · have hf := zifn hc_24 hf
        exact hk180 m_at_19 m_fault_19 m_faultAt_19 (va_up m_step r2.toNatClampNeg (upd (m_step r2.toNatClampNeg) (2 : Int32).toNatClampNeg r_19)) hf H locs ls hP hS (lv_sub hl [1, 2, 3] rfl)
      · have hf := zifp hc_24 hf
        refine lv_aload_n hx hb dX10_readsStep_174 rfl (lv_at hl 1 rfl) ?_
        refine lv_iconst (v := 2) hx hb dX10_readsStep_175 (by decide) ?_
        refine lv_iload_n hx hb dX10_readsStep_176 rfl (lv_at hl 0 rfl) ?_
        obtain ⟨m_fault_25, m_faultAt_25, hf_25, hf⟩ := zb2i hf
        refine zcallVv (As := [.int 2, .int m_at_17]) (rest := []) hC hP hS hB (fun q h => zF.mono hS.1 h) (cpM_wrong l hI H.size m_thrown m_tape m_size m_place m_at_19 m_fault_19 m_faultAt_19 m_clauses m_open m_fed m_refused m_readTold m_told m_readBeast m_beast m_readGate m_gate m_readList m_list m_lawMany m_readLawMany m_law m_readLaw m_stack m_known (va_up m_step r2.toNatClampNeg (upd (m_step r2.toNatClampNeg) (2 : Int32).toNatClampNeg r_19)) m_steps m_now m_trial m_before m_kept m_works m_refusedSteps m_images m_spot m_begun m_doneSteps m_mixed m_fewest m_leastFees m_lots m_tars (2 : Int32) m_at_17 N9 hf_25) (hC.ml mw_1569) yo_X10_wrong 0 (zfM rfl) rfl rfl rfl hl.1 rfl (Nat.le_of_ble_eq_true rfl) ⟨by omega, by omega⟩ hR.2.2 dX10_readsStep_177 (fun H locs hP hS _ _ => ?_)
        exact hk180 m_at_19 m_fault_25 m_faultAt_25 (va_up m_step r2.toNatClampNeg (upd (m_step r2.toNatClampNeg) (2 : Int32).toNatClampNeg r_19)) hf H locs ls hP hS (lv_sub hl [1, 2, 3] rfl)
set_option maxHeartbeats 4000000 in
set_option maxRecDepth 100000 in
theorem mpM_readsStepo_106 {p : Program} {l : Launch} {e : Env} {R : Room} {s : State} {m : MethodId} {args : Array Value} {below : List Frame} {meth : Method} {c : Code} {cells slots : Nat} {Q : State → Prop} {g : zG} {d9 : Nat} (hI : zI g 581) (hC : zC g RX10 cX10_readsStep 4 none p s m meth c args) (hR : (7 + (d9 + 1)) ≤ R.frames ∧ 60 * (7 + (d9 + 1)) ≤ R.locals ∧ cells ≤ R.cells ∧ slots ≤ R.slots) (m_thrown : Int32) (m_tape : Int32) (m_size : Int32) (m_place : Int32) (m_clauses : Int32) (m_open : Int32) (m_fed : Nat → Int32) (m_refused : Nat → Int32) (m_readTold : Nat → Int32) (m_told : Nat → Int32) (m_readBeast : Nat → Nat → Int32) (m_beast : Nat → Nat → Int32) (m_readGate : Nat → Nat → Int32) (m_gate : Nat → Nat → Int32) (m_readList : Nat → Nat → Int32) (m_list : Nat → Nat → Int32) (m_lawMany : Int32) (m_readLawMany : Int32) (m_law : Nat → Nat → Int32) (m_readLaw : Nat → Nat → Int32) (m_stack : Nat → Int32) (m_known : Nat → Int32) (m_steps : Int32) (m_now : Nat → Int32) (m_trial : Nat → Int32) (m_before : Nat → Nat → Int32) (m_kept : Nat → Nat → Int32) (m_works : Int32) (m_refusedSteps : Int32) (m_images : Int32) (m_spot : Int32) (m_begun : Int32) (m_doneSteps : Int32) (m_mixed : Nat → Int32) (m_fewest : Nat → Int32) (m_leastFees : Nat → Int32) (m_lots : Int32) (m_tars : Int32) (r2 : Int32) (x1 : Int32) (N9 : Nat) (q_pM_readsStep : Int32 → Int32 → Int32 → Int32 → Int32 → (Nat → Int32) → (Nat → Int32) → (Nat → Nat → Int32) → Int32 → (Nat → Int32) → Option (Int32 × Int32 × Int32 × Int32 × (Nat → Nat → Int32) × Int32)) (hq_pM_readsStep : ∀ {g : zG} (_ : zI g 581) (sz : Nat) (m_thrown : Int32) (m_tape : Int32) (m_size : Int32) (m_place : Int32) (m_at : Int32) (m_fault : Int32) (m_faultAt : Int32) (m_clauses : Int32) (m_open : Int32) (m_fed : Nat → Int32) (m_refused : Nat → Int32) (m_readTold : Nat → Int32) (m_told : Nat → Int32) (m_readBeast : Nat → Nat → Int32) (m_beast : Nat → Nat → Int32) (m_readGate : Nat → Nat → Int32) (m_gate : Nat → Nat → Int32) (m_readList : Nat → Nat → Int32) (m_list : Nat → Nat → Int32) (m_lawMany : Int32) (m_readLawMany : Int32) (m_law : Nat → Nat → Int32) (m_readLaw : Nat → Nat → Int32) (m_stack : Nat → Int32) (m_known : Nat → Int32) (m_step : Nat → Nat → Int32) (m_steps : Int32) (m_now : Nat → Int32) (m_trial : Nat → Int32) (m_before : Nat → Nat → Int32) (m_kept : Nat → Nat → Int32) (m_works : Int32) (m_refusedSteps : Int32) (m_images : Int32) (m_spot : Int32) (m_begun : Int32) (m_doneSteps : Int32) (m_mixed : Nat → Int32) (m_fewest : Nat → Int32) (m_leastFees : Nat → Int32) (m_lots : Int32) (m_tars : Int32)  {m_at' : Int32} {m_fault' : Int32} {m_faultAt' : Int32} {m_open' : Int32} {m_step' : Nat → Nat → Int32} {m_steps' : Int32}, q_pM_readsStep m_size m_at m_fault m_faultAt m_open m_fed m_told m_step m_steps m_now = some (m_at', m_fault', m_faultAt', m_open', m_step', m_steps') → zMv l yX10_readsStep cX10_readsStep 4 none (7 + d9) g (zM g m_thrown m_tape m_size m_place m_at m_fault m_faultAt m_clauses m_open m_fed m_refused m_readTold m_told m_readBeast m_beast m_readGate m_gate m_readList m_list m_lawMany m_readLawMany m_law m_readLaw m_stack m_known m_step m_steps m_now m_trial m_before m_kept m_works m_refusedSteps m_images m_spot m_begun m_doneSteps m_mixed m_fewest m_leastFees m_lots m_tars) (zM g m_thrown m_tape m_size m_place m_at' m_fault' m_faultAt' m_clauses m_open' m_fed m_refused m_readTold m_told m_readBeast m_beast m_readGate m_gate m_readList m_list m_lawMany m_readLawMany m_law m_readLaw m_stack m_known m_step' m_steps' m_now m_trial m_before m_kept m_works m_refusedSteps m_images m_spot m_begun m_doneSteps m_mixed m_fewest m_leastFees m_lots m_tars) sz (zF g 64 580 sz) [.ref (g.2.1 64)])  (res : Int32 × Int32 × Int32 × Int32 × (Nat → Nat → Int32) × Int32) (hfin : ∀ (m_at : Int32) (m_fault : Int32) (m_faultAt : Int32) (m_open : Int32) (m_step : Nat → Nat → Int32) (m_steps : Int32) (H : Heap) (locs : List Loc) (pc : Nat) (ls : Array Slot), (m_at, m_fault, m_faultAt, m_open, m_step, m_steps) = res → va_P g.1 zcl (zM g m_thrown m_tape m_size m_place m_at m_fault m_faultAt m_clauses m_open m_fed m_refused m_readTold m_told m_readBeast m_beast m_readGate m_gate m_readList m_list m_lawMany m_readLawMany m_law m_readLaw m_stack m_known m_step m_steps m_now m_trial m_before m_kept m_works m_refusedSteps m_images m_spot m_begun m_doneSteps m_mixed m_fewest m_leastFees m_lots m_tars) H → va_S (zF g 64 580 s.heap.size) s.heap H locs → decode cX10_readsStep pc = .ok (.return_, 1) → W p l e R s m args below meth c H locs cells slots Q (F0 m pc ls [])) : ∀ (m_at : Int32) (m_fault : Int32) (m_faultAt : Int32) (m_step : Nat → Nat → Int32), pM_readsStepo_106 N9 q_pM_readsStep m_size m_open m_fed m_told m_steps m_now x1 r2 m_at m_fault m_faultAt m_step = some res → ∀ (H : Heap) (locs : List Loc) (ls : Array Slot), va_P g.1 zcl (zM g m_thrown m_tape m_size m_place m_at m_fault m_faultAt m_clauses m_open m_fed m_refused m_readTold m_told m_readBeast m_beast m_readGate m_gate m_readList m_list m_lawMany m_readLawMany m_law m_readLaw m_stack m_known m_step m_steps m_now m_trial m_before m_kept m_works m_refusedSteps m_images m_spot m_begun m_doneSteps m_mixed m_fewest m_leastFees m_lots m_tars) H → va_S (zF g 64 580 s.heap.size) s.heap H locs → lv_has ls 4 [(0, .ref (g.2.1 64)), (1, .int x1), (2, .ref (g.2.1 (481 + r2.toNatClampNeg)))] → W p l e R s m args below meth c H locs cells slots Q (F0 m 106 ls []) := by
  obtain ⟨hx, hb, hr, hml, hown, hts, hK, hlk, hST⟩ := id hC
  have hB : ∀ q, (zF g 64 580 s.heap.size) q → zB g q := zF.base hI (Nat.le_of_ble_eq_true rfl) hST.1
  intro m_at m_fault m_faultAt m_step hf H locs ls hP hS hl
  have hk127 := mpM_readsStepo_127 (l := l) (e := e) (R := R) (below := below) (cells := cells) (slots := slots) (Q := Q) hI hC hR m_thrown m_tape m_size m_place m_clauses m_open m_fed m_refused m_readTold m_told m_readBeast m_beast m_readGate m_gate m_readList m_list m_lawMany m_readLawMany m_law m_readLaw m_stack m_known m_steps m_now m_trial m_before m_kept m_works m_refusedSteps m_images m_spot m_begun m_doneSteps m_mixed m_fewest m_leastFees m_lots m_tars r2 x1 N9 q_pM_readsStep hq_pM_readsStep res hfin
  unfold pM_readsStepo_106 at hf
  refine lv_iload_n hx hb dX10_readsStep_106 rfl (lv_at hl 1 rfl) ?_
  refine lv_iconst (v := 3) hx hb dX10_readsStep_107 (by decide) ?_
  refine lv_icmp_ne (tgt := 127) hx hb dX10_readsStep_108 (by decide) (fun hc_26 => ?_) (fun hc_26 => ?_)
  · have hf := zifn hc_26 hf
    exact hk127 m_at m_fault m_faultAt m_step hf H locs ls hP hS (lv_sub hl [0, 1, 2] rfl)
  · have hf := zifp hc_26 hf
    refine lv_aload_n hx hb dX10_readsStep_111 rfl (lv_at hl 2 rfl) ?_
    refine lv_iconst (v := 2) hx hb dX10_readsStep_112 (by decide) ?_
    refine lv_aload_n hx hb dX10_readsStep_113 rfl (lv_at hl 0 rfl) ?_
    refine lv_iconst (v := 0) hx hb dX10_readsStep_114 (by decide) ?_
    refine lv_aload_n hx hb dX10_readsStep_115 rfl (lv_at hl 0 rfl) ?_
    refine zr_m_told hC hP (hC.fl mw_1401) dX10_readsStep_116 ?_
    refine lv_iconst (v := 1) hx hb dX10_readsStep_119 (by decide) ?_
    obtain ⟨hz_27, hf⟩ := zite hf
    refine zl_m_told hC hP hz_27 dX10_readsStep_120 ?_
    refine lv_iconst (v := 1) hx hb dX10_readsStep_121 (by decide) ?_
    refine lv_isub hx hb dX10_readsStep_122 ?_
    obtain ⟨r_28, m_at_28, m_fault_28, m_faultAt_28, hf_28, hf⟩ := zb4i hf
    refine zcallVi (As := [.int 0, .int ((m_told (1 : Int32).toNatClampNeg) - 1)]) (rest := [.int 2, .ref (g.2.1 (481 + r2.toNatClampNeg))]) hC hP hS hB (fun q h => zF.mono hS.1 h) (cpM_number l hI H.size m_thrown m_tape m_size m_place m_at m_fault m_faultAt m_clauses m_open m_fed m_refused m_readTold m_told m_readBeast m_beast m_readGate m_gate m_readList m_list m_lawMany m_readLawMany m_law m_readLaw m_stack m_known m_step m_steps m_now m_trial m_before m_kept m_works m_refusedSteps m_images m_spot m_begun m_doneSteps m_mixed m_fewest m_leastFees m_lots m_tars (0 : Int32) ((m_told (1 : Int32).toNatClampNeg) - 1) N9 hf_28) (hC.ml mw_1580) yo_X10_number 0 (zfM rfl) rfl rfl rfl hl.1 rfl (Nat.le_of_ble_eq_true rfl) ⟨by omega, by omega⟩ hR.2.2 dX10_readsStep_123 (fun H locs hP hS _ _ => ?_)
    obtain ⟨hz_29, hf⟩ := zite hf
    obtain ⟨hz_30, hf⟩ := zite hf
    refine zs_m_step hC hP hI (fun k h1 h2 => zF.own h1 h2) hS hz_29 hz_30 dX10_readsStep_126 (fun H locs hP hS => ?_)
    exact hk127 m_at_28 m_fault_28 m_faultAt_28 (va_up m_step r2.toNatClampNeg (upd (m_step r2.toNatClampNeg) (2 : Int32).toNatClampNeg r_28)) hf H locs ls hP hS (lv_sub hl [0, 1, 2] rfl)
set_option maxHeartbeats 4000000 in
set_option maxRecDepth 100000 in
theorem mpM_readsStepo_91 {p : Program} {l : Launch} {e : Env} {R : Room} {s : State} {m : MethodId} {args : Array Value} {below : List Frame} {meth : Method} {c : Code} {cells slots : Nat} {Q : State → Prop} {g : zG} {d9 : Nat} (hI : zI g 581) (hC : zC g RX10 cX10_readsStep 4 none p s m meth c args) (hR : (7 + (d9 + 1)) ≤ R.frames ∧ 60 * (7 + (d9 + 1)) ≤ R.locals ∧ cells ≤ R.cells ∧ slots ≤ R.slots) (m_thrown : Int32) (m_tape : Int32) (m_size : Int32) (m_place : Int32) (m_clauses : Int32) (m_open : Int32) (m_fed : Nat → Int32) (m_refused : Nat → Int32) (m_readTold : Nat → Int32) (m_told : Nat → Int32) (m_readBeast : Nat → Nat → Int32) (m_beast : Nat → Nat → Int32) (m_readGate : Nat → Nat → Int32) (m_gate : Nat → Nat → Int32) (m_readList : Nat → Nat → Int32) (m_list : Nat → Nat → Int32) (m_lawMany : Int32) (m_readLawMany : Int32) (m_law : Nat → Nat → Int32) (m_readLaw : Nat → Nat → Int32) (m_stack : Nat → Int32) (m_known : Nat → Int32) (m_now : Nat → Int32) (m_trial : Nat → Int32) (m_before : Nat → Nat → Int32) (m_kept : Nat → Nat → Int32) (m_works : Int32) (m_refusedSteps : Int32) (m_images : Int32) (m_spot : Int32) (m_begun : Int32) (m_doneSteps : Int32) (m_mixed : Nat → Int32) (m_fewest : Nat → Int32) (m_leastFees : Nat → Int32) (m_lots : Int32) (m_tars : Int32) (x1 : Int32) (N9 : Nat) (q_pM_readsStep : Int32 → Int32 → Int32 → Int32 → Int32 → (Nat → Int32) → (Nat → Int32) → (Nat → Nat → Int32) → Int32 → (Nat → Int32) → Option (Int32 × Int32 × Int32 × Int32 × (Nat → Nat → Int32) × Int32)) (hq_pM_readsStep : ∀ {g : zG} (_ : zI g 581) (sz : Nat) (m_thrown : Int32) (m_tape : Int32) (m_size : Int32) (m_place : Int32) (m_at : Int32) (m_fault : Int32) (m_faultAt : Int32) (m_clauses : Int32) (m_open : Int32) (m_fed : Nat → Int32) (m_refused : Nat → Int32) (m_readTold : Nat → Int32) (m_told : Nat → Int32) (m_readBeast : Nat → Nat → Int32) (m_beast : Nat → Nat → Int32) (m_readGate : Nat → Nat → Int32) (m_gate : Nat → Nat → Int32) (m_readList : Nat → Nat → Int32) (m_list : Nat → Nat → Int32) (m_lawMany : Int32) (m_readLawMany : Int32) (m_law : Nat → Nat → Int32) (m_readLaw : Nat → Nat → Int32) (m_stack : Nat → Int32) (m_known : Nat → Int32) (m_step : Nat → Nat → Int32) (m_steps : Int32) (m_now : Nat → Int32) (m_trial : Nat → Int32) (m_before : Nat → Nat → Int32) (m_kept : Nat → Nat → Int32) (m_works : Int32) (m_refusedSteps : Int32) (m_images : Int32) (m_spot : Int32) (m_begun : Int32) (m_doneSteps : Int32) (m_mixed : Nat → Int32) (m_fewest : Nat → Int32) (m_leastFees : Nat → Int32) (m_lots : Int32) (m_tars : Int32)  {m_at' : Int32} {m_fault' : Int32} {m_faultAt' : Int32} {m_open' : Int32} {m_step' : Nat → Nat → Int32} {m_steps' : Int32}, q_pM_readsStep m_size m_at m_fault m_faultAt m_open m_fed m_told m_step m_steps m_now = some (m_at', m_fault', m_faultAt', m_open', m_step', m_steps') → zMv l yX10_readsStep cX10_readsStep 4 none (7 + d9) g (zM g m_thrown m_tape m_size m_place m_at m_fault m_faultAt m_clauses m_open m_fed m_refused m_readTold m_told m_readBeast m_beast m_readGate m_gate m_readList m_list m_lawMany m_readLawMany m_law m_readLaw m_stack m_known m_step m_steps m_now m_trial m_before m_kept m_works m_refusedSteps m_images m_spot m_begun m_doneSteps m_mixed m_fewest m_leastFees m_lots m_tars) (zM g m_thrown m_tape m_size m_place m_at' m_fault' m_faultAt' m_clauses m_open' m_fed m_refused m_readTold m_told m_readBeast m_beast m_readGate m_gate m_readList m_list m_lawMany m_readLawMany m_law m_readLaw m_stack m_known m_step' m_steps' m_now m_trial m_before m_kept m_works m_refusedSteps m_images m_spot m_begun m_doneSteps m_mixed m_fewest m_leastFees m_lots m_tars) sz (zF g 64 580 sz) [.ref (g.2.1 64)])  (res : Int32 × Int32 × Int32 × Int32 × (Nat → Nat → Int32) × Int32) (hfin : ∀ (m_at : Int32) (m_fault : Int32) (m_faultAt : Int32) (m_open : Int32) (m_step : Nat → Nat → Int32) (m_steps : Int32) (H : Heap) (locs : List Loc) (pc : Nat) (ls : Array Slot), (m_at, m_fault, m_faultAt, m_open, m_step, m_steps) = res → va_P g.1 zcl (zM g m_thrown m_tape m_size m_place m_at m_fault m_faultAt m_clauses m_open m_fed m_refused m_readTold m_told m_readBeast m_beast m_readGate m_gate m_readList m_list m_lawMany m_readLawMany m_law m_readLaw m_stack m_known m_step m_steps m_now m_trial m_before m_kept m_works m_refusedSteps m_images m_spot m_begun m_doneSteps m_mixed m_fewest m_leastFees m_lots m_tars) H → va_S (zF g 64 580 s.heap.size) s.heap H locs → decode cX10_readsStep pc = .ok (.return_, 1) → W p l e R s m args below meth c H locs cells slots Q (F0 m pc ls [])) : ∀ (m_at : Int32) (m_fault : Int32) (m_faultAt : Int32) (m_step : Nat → Nat → Int32) (m_steps : Int32) (r2 : Int32), pM_readsStepo_91 N9 q_pM_readsStep m_size m_open m_fed m_told m_now x1 m_at m_fault m_faultAt m_step m_steps r2 = some res → ∀ (H : Heap) (locs : List Loc) (ls : Array Slot), va_P g.1 zcl (zM g m_thrown m_tape m_size m_place m_at m_fault m_faultAt m_clauses m_open m_fed m_refused m_readTold m_told m_readBeast m_beast m_readGate m_gate m_readList m_list m_lawMany m_readLawMany m_law m_readLaw m_stack m_known m_step m_steps m_now m_trial m_before m_kept m_works m_refusedSteps m_images m_spot m_begun m_doneSteps m_mixed m_fewest m_leastFees m_lots m_tars) H → va_S (zF g 64 580 s.heap.size) s.heap H locs → lv_has ls 4 [(0, .ref (g.2.1 64)), (1, .int x1), (2, .ref (g.2.1 (481 + r2.toNatClampNeg)))] → W p l e R s m args below meth c H locs cells slots Q (F0 m 91 ls []) := by
  obtain ⟨hx, hb, hr, hml, hown, hts, hK, hlk, hST⟩ := id hC
  have hB : ∀ q, (zF g 64 580 s.heap.size) q → zB g q := zF.base hI (Nat.le_of_ble_eq_true rfl) hST.1
  intro m_at m_fault m_faultAt m_step m_steps r2 hf H locs ls hP hS hl
  have hk106 := mpM_readsStepo_106 (l := l) (e := e) (R := R) (below := below) (cells := cells) (slots := slots) (Q := Q) hI hC hR m_thrown m_tape m_size m_place m_clauses m_open m_fed m_refused m_readTold m_told m_readBeast m_beast m_readGate m_gate m_readList m_list m_lawMany m_readLawMany m_law m_readLaw m_stack m_known m_steps m_now m_trial m_before m_kept m_works m_refusedSteps m_images m_spot m_begun m_doneSteps m_mixed m_fewest m_leastFees m_lots m_tars r2 x1 N9 q_pM_readsStep hq_pM_readsStep res hfin
  unfold pM_readsStepo_91 at hf
  refine lv_iload_n hx hb dX10_readsStep_91 rfl (lv_at hl 1 rfl) ?_
  refine lv_iconst (v := 2) hx hb dX10_readsStep_92 (by decide) ?_
  refine lv_icmp_ge (tgt := 106) hx hb dX10_readsStep_93 (by decide) (fun hc_31 => ?_) (fun hc_31 => ?_)
  · have hf := zifp hc_31 hf
    exact hk106 m_at m_fault m_faultAt m_step hf H locs ls hP hS (lv_sub hl [0, 1, 2] rfl)
  · have hf := zifn hc_31 hf
    refine lv_aload_n hx hb dX10_readsStep_96 rfl (lv_at hl 2 rfl) ?_
    refine lv_iconst (v := 2) hx hb dX10_readsStep_97 (by decide) ?_
    refine lv_aload_n hx hb dX10_readsStep_98 rfl (lv_at hl 0 rfl) ?_
    refine lv_iconst (v := 0) hx hb dX10_readsStep_99 (by decide) ?_
    refine lv_bipush (v := 7) hx hb dX10_readsStep_100 (by decide) ?_
    obtain ⟨r_32, m_at_32, m_fault_32, m_faultAt_32, hf_32, hf⟩ := zb4i hf
    refine zcallVi (As := [.int 0, .int 7]) (rest := [.int 2, .ref (g.2.1 (481 + r2.toNatClampNeg))]) hC hP hS hB (fun q h => zF.mono hS.1 h) (cpM_number l hI H.size m_thrown m_tape m_size m_place m_at m_fault m_faultAt m_clauses m_open m_fed m_refused m_readTold m_told m_readBeast m_beast m_readGate m_gate m_readList m_list m_lawMany m_readLawMany m_law m_readLaw m_stack m_known m_step m_steps m_now m_trial m_before m_kept m_works m_refusedSteps m_images m_spot m_begun m_doneSteps m_mixed m_fewest m_leastFees m_lots m_tars (0 : Int32) (7 : Int32) N9 hf_32) (hC.ml mw_1580) yo_X10_number 0 (zfM rfl) rfl rfl rfl hl.1 rfl (Nat.le_of_ble_eq_true rfl) ⟨by omega, by omega⟩ hR.2.2 dX10_readsStep_102 (fun H locs hP hS _ _ => ?_)
    obtain ⟨hz_33, hf⟩ := zite hf
    obtain ⟨hz_34, hf⟩ := zite hf
    refine zs_m_step hC hP hI (fun k h1 h2 => zF.own h1 h2) hS hz_33 hz_34 dX10_readsStep_105 (fun H locs hP hS => ?_)
    exact hk106 m_at_32 m_fault_32 m_faultAt_32 (va_up m_step r2.toNatClampNeg (upd (m_step r2.toNatClampNeg) (2 : Int32).toNatClampNeg r_32)) hf H locs ls hP hS (lv_sub hl [0, 1, 2] rfl)
set_option maxHeartbeats 4000000 in
set_option maxRecDepth 100000 in
theorem mpM_readsStepo_33 {p : Program} {l : Launch} {e : Env} {R : Room} {s : State} {m : MethodId} {args : Array Value} {below : List Frame} {meth : Method} {c : Code} {cells slots : Nat} {Q : State → Prop} {g : zG} {d9 : Nat} (hI : zI g 581) (hC : zC g RX10 cX10_readsStep 4 none p s m meth c args) (hR : (7 + (d9 + 1)) ≤ R.frames ∧ 60 * (7 + (d9 + 1)) ≤ R.locals ∧ cells ≤ R.cells ∧ slots ≤ R.slots) (m_thrown : Int32) (m_tape : Int32) (m_size : Int32) (m_place : Int32) (m_at : Int32) (m_clauses : Int32) (m_fed : Nat → Int32) (m_refused : Nat → Int32) (m_readTold : Nat → Int32) (m_told : Nat → Int32) (m_readBeast : Nat → Nat → Int32) (m_beast : Nat → Nat → Int32) (m_readGate : Nat → Nat → Int32) (m_gate : Nat → Nat → Int32) (m_readList : Nat → Nat → Int32) (m_list : Nat → Nat → Int32) (m_lawMany : Int32) (m_readLawMany : Int32) (m_law : Nat → Nat → Int32) (m_readLaw : Nat → Nat → Int32) (m_stack : Nat → Int32) (m_known : Nat → Int32) (m_step : Nat → Nat → Int32) (m_steps : Int32) (m_now : Nat → Int32) (m_trial : Nat → Int32) (m_before : Nat → Nat → Int32) (m_kept : Nat → Nat → Int32) (m_works : Int32) (m_refusedSteps : Int32) (m_images : Int32) (m_spot : Int32) (m_begun : Int32) (m_doneSteps : Int32) (m_mixed : Nat → Int32) (m_fewest : Nat → Int32) (m_leastFees : Nat → Int32) (m_lots : Int32) (m_tars : Int32) (x1 : Int32) (N9 : Nat) (q_pM_readsStep : Int32 → Int32 → Int32 → Int32 → Int32 → (Nat → Int32) → (Nat → Int32) → (Nat → Nat → Int32) → Int32 → (Nat → Int32) → Option (Int32 × Int32 × Int32 × Int32 × (Nat → Nat → Int32) × Int32)) (hq_pM_readsStep : ∀ {g : zG} (_ : zI g 581) (sz : Nat) (m_thrown : Int32) (m_tape : Int32) (m_size : Int32) (m_place : Int32) (m_at : Int32) (m_fault : Int32) (m_faultAt : Int32) (m_clauses : Int32) (m_open : Int32) (m_fed : Nat → Int32) (m_refused : Nat → Int32) (m_readTold : Nat → Int32) (m_told : Nat → Int32) (m_readBeast : Nat → Nat → Int32) (m_beast : Nat → Nat → Int32) (m_readGate : Nat → Nat → Int32) (m_gate : Nat → Nat → Int32) (m_readList : Nat → Nat → Int32) (m_list : Nat → Nat → Int32) (m_lawMany : Int32) (m_readLawMany : Int32) (m_law : Nat → Nat → Int32) (m_readLaw : Nat → Nat → Int32) (m_stack : Nat → Int32) (m_known : Nat → Int32) (m_step : Nat → Nat → Int32) (m_steps : Int32) (m_now : Nat → Int32) (m_trial : Nat → Int32) (m_before : Nat → Nat → Int32) (m_kept : Nat → Nat → Int32) (m_works : Int32) (m_refusedSteps : Int32) (m_images : Int32) (m_spot : Int32) (m_begun : Int32) (m_doneSteps : Int32) (m_mixed : Nat → Int32) (m_fewest : Nat → Int32) (m_leastFees : Nat → Int32) (m_lots : Int32) (m_tars : Int32)  {m_at' : Int32} {m_fault' : Int32} {m_faultAt' : Int32} {m_open' : Int32} {m_step' : Nat → Nat → Int32} {m_steps' : Int32}, q_pM_readsStep m_size m_at m_fault m_faultAt m_open m_fed m_told m_step m_steps m_now = some (m_at', m_fault', m_faultAt', m_open', m_step', m_steps') → zMv l yX10_readsStep cX10_readsStep 4 none (7 + d9) g (zM g m_thrown m_tape m_size m_place m_at m_fault m_faultAt m_clauses m_open m_fed m_refused m_readTold m_told m_readBeast m_beast m_readGate m_gate m_readList m_list m_lawMany m_readLawMany m_law m_readLaw m_stack m_known m_step m_steps m_now m_trial m_before m_kept m_works m_refusedSteps m_images m_spot m_begun m_doneSteps m_mixed m_fewest m_leastFees m_lots m_tars) (zM g m_thrown m_tape m_size m_place m_at' m_fault' m_faultAt' m_clauses m_open' m_fed m_refused m_readTold m_told m_readBeast m_beast m_readGate m_gate m_readList m_list m_lawMany m_readLawMany m_law m_readLaw m_stack m_known m_step' m_steps' m_now m_trial m_before m_kept m_works m_refusedSteps m_images m_spot m_begun m_doneSteps m_mixed m_fewest m_leastFees m_lots m_tars) sz (zF g 64 580 sz) [.ref (g.2.1 64)])  (res : Int32 × Int32 × Int32 × Int32 × (Nat → Nat → Int32) × Int32) (hfin : ∀ (m_at : Int32) (m_fault : Int32) (m_faultAt : Int32) (m_open : Int32) (m_step : Nat → Nat → Int32) (m_steps : Int32) (H : Heap) (locs : List Loc) (pc : Nat) (ls : Array Slot), (m_at, m_fault, m_faultAt, m_open, m_step, m_steps) = res → va_P g.1 zcl (zM g m_thrown m_tape m_size m_place m_at m_fault m_faultAt m_clauses m_open m_fed m_refused m_readTold m_told m_readBeast m_beast m_readGate m_gate m_readList m_list m_lawMany m_readLawMany m_law m_readLaw m_stack m_known m_step m_steps m_now m_trial m_before m_kept m_works m_refusedSteps m_images m_spot m_begun m_doneSteps m_mixed m_fewest m_leastFees m_lots m_tars) H → va_S (zF g 64 580 s.heap.size) s.heap H locs → decode cX10_readsStep pc = .ok (.return_, 1) → W p l e R s m args below meth c H locs cells slots Q (F0 m pc ls [])) : ∀ (m_fault : Int32) (m_faultAt : Int32) (m_open : Int32), pM_readsStepo_33 N9 q_pM_readsStep m_size m_at m_fed m_told m_step m_steps m_now x1 m_fault m_faultAt m_open = some res → ∀ (H : Heap) (locs : List Loc) (ls : Array Slot), va_P g.1 zcl (zM g m_thrown m_tape m_size m_place m_at m_fault m_faultAt m_clauses m_open m_fed m_refused m_readTold m_told m_readBeast m_beast m_readGate m_gate m_readList m_list m_lawMany m_readLawMany m_law m_readLaw m_stack m_known m_step m_steps m_now m_trial m_before m_kept m_works m_refusedSteps m_images m_spot m_begun m_doneSteps m_mixed m_fewest m_leastFees m_lots m_tars) H → va_S (zF g 64 580 s.heap.size) s.heap H locs → lv_has ls 4 [(0, .ref (g.2.1 64)), (1, .int x1)] → W p l e R s m args below meth c H locs cells slots Q (F0 m 33 ls []) := by
  obtain ⟨hx, hb, hr, hml, hown, hts, hK, hlk, hST⟩ := id hC
  have hB : ∀ q, (zF g 64 580 s.heap.size) q → zB g q := zF.base hI (Nat.le_of_ble_eq_true rfl) hST.1
  intro m_fault m_faultAt m_open hf H locs ls hP hS hl
  have hk91 := mpM_readsStepo_91 (l := l) (e := e) (R := R) (below := below) (cells := cells) (slots := slots) (Q := Q) hI hC hR m_thrown m_tape m_size m_place m_clauses m_open m_fed m_refused m_readTold m_told m_readBeast m_beast m_readGate m_gate m_readList m_list m_lawMany m_readLawMany m_law m_readLaw m_stack m_known m_now m_trial m_before m_kept m_works m_refusedSteps m_images m_spot m_begun m_doneSteps m_mixed m_fewest m_leastFees m_lots m_tars x1 N9 q_pM_readsStep hq_pM_readsStep res hfin
  unfold pM_readsStepo_33 at hf
  refine lv_aload_n hx hb dX10_readsStep_33 rfl (lv_at hl 0 rfl) ?_
  refine zg_m_fault hC hP (hC.fl mw_1394) dX10_readsStep_34 ?_
  refine lv_if_eq (tgt := 41) hx hb dX10_readsStep_37 (by decide) (fun hc_35 => ?_) (fun hc_35 => ?_)
  · have hf := zifp hc_35 hf
    refine lv_aload_n hx hb dX10_readsStep_41 rfl (lv_at hl 0 rfl) ?_
    obtain ⟨m_at_36, hf_36, hf⟩ := zb1i hf
    refine zcallVv (As := []) (rest := []) hC hP hS hB (fun q h => zF.mono hS.1 h) (cpM_skipWord l hI H.size m_thrown m_tape m_size m_place m_at m_fault m_faultAt m_clauses m_open m_fed m_refused m_readTold m_told m_readBeast m_beast m_readGate m_gate m_readList m_list m_lawMany m_readLawMany m_law m_readLaw m_stack m_known m_step m_steps m_now m_trial m_before m_kept m_works m_refusedSteps m_images m_spot m_begun m_doneSteps m_mixed m_fewest m_leastFees m_lots m_tars  N9 hf_36) (hC.ml mw_1576) yo_X10_skipWord 0 (zfM rfl) rfl rfl rfl hl.1 rfl (Nat.le_of_ble_eq_true rfl) ⟨by omega, by omega⟩ hR.2.2 dX10_readsStep_42 (fun H locs hP hS _ _ => ?_)
    refine lv_aload_n hx hb dX10_readsStep_45 rfl (lv_at hl 0 rfl) ?_
    refine zr_m_step hC hP (hC.fl mw_1414) dX10_readsStep_46 ?_
    refine lv_aload_n hx hb dX10_readsStep_49 rfl (lv_at hl 0 rfl) ?_
    refine zg_m_steps hC hP (hC.fl mw_1415) dX10_readsStep_50 ?_
    obtain ⟨hz_37, hf⟩ := zite hf
    refine zq_m_step hC hP hz_37 dX10_readsStep_53 ?_
    refine lv_astore_n (lv' := [(2, .ref (g.2.1 (481 + m_steps.toNatClampNeg))), (0, .ref (g.2.1 64)), (1, .int x1)]) hx hb dX10_readsStep_54 rfl hl (by decide) rfl (fun ls hl => ?_)
    refine lv_aload_n hx hb dX10_readsStep_55 rfl (lv_at hl 1 rfl) ?_
    refine lv_dup hx hb dX10_readsStep_56 rfl ?_
    refine zg_m_steps hC hP (hC.fl mw_1415) dX10_readsStep_57 ?_
    refine lv_iconst (v := 1) hx hb dX10_readsStep_60 (by decide) ?_
    refine lv_iadd hx hb dX10_readsStep_61 ?_
    refine zp_m_steps hC hP hI (fun k h1 h2 => zF.own h1 h2) hS (hC.fl mw_1415) dX10_readsStep_62 (fun H locs hP hS => ?_)
    refine lv_aload_n hx hb dX10_readsStep_65 rfl (lv_at hl 0 rfl) ?_
    refine lv_iconst (v := 0) hx hb dX10_readsStep_66 (by decide) ?_
    refine lv_iload_n hx hb dX10_readsStep_67 rfl (lv_at hl 2 rfl) ?_
    obtain ⟨hz_38, hf⟩ := zite hf
    refine zs_m_step hC hP hI (fun k h1 h2 => zF.own h1 h2) hS hz_37 hz_38 dX10_readsStep_68 (fun H locs hP hS => ?_)
    refine lv_iload_n hx hb dX10_readsStep_69 rfl (lv_at hl 2 rfl) ?_
    refine lv_iconst (v := 5) hx hb dX10_readsStep_70 (by decide) ?_
    refine lv_icmp_ge (tgt := 91) hx hb dX10_readsStep_71 (by decide) (fun hc_39 => ?_) (fun hc_39 => ?_)
    · have hf := zifp hc_39 hf
      exact hk91 m_at_36 m_fault m_faultAt (va_up m_step m_steps.toNatClampNeg (upd (m_step m_steps.toNatClampNeg) (0 : Int32).toNatClampNeg x1)) (m_steps + 1) m_steps hf H locs ls hP hS (lv_sub hl [1, 2, 0] rfl)
    · have hf := zifn hc_39 hf
      refine lv_aload_n hx hb dX10_readsStep_74 rfl (lv_at hl 0 rfl) ?_
      refine lv_iconst (v := 1) hx hb dX10_readsStep_75 (by decide) ?_
      refine lv_aload_n hx hb dX10_readsStep_76 rfl (lv_at hl 1 rfl) ?_
      refine lv_iconst (v := 0) hx hb dX10_readsStep_77 (by decide) ?_
      refine lv_aload_n hx hb dX10_readsStep_78 rfl (lv_at hl 1 rfl) ?_
      refine zr_m_now hC hP (hC.fl mw_1416) dX10_readsStep_79 ?_
      refine lv_bipush (v := 42) hx hb dX10_readsStep_82 (by decide) ?_
      obtain ⟨hz_40, hf⟩ := zite hf
      refine zl_m_now hC hP hz_40 dX10_readsStep_84 ?_
      refine lv_iconst (v := 1) hx hb dX10_readsStep_85 (by decide) ?_
      refine lv_isub hx hb dX10_readsStep_86 ?_
      obtain ⟨r_41, m_at_41, m_fault_41, m_faultAt_41, hf_41, hf⟩ := zb4i hf
      refine zcallVi (As := [.int 0, .int ((m_now (42 : Int32).toNatClampNeg) - 1)]) (rest := [.int 1, .ref (g.2.1 (481 + m_steps.toNatClampNeg))]) hC hP hS hB (fun q h => zF.mono hS.1 h) (cpM_number l hI H.size m_thrown m_tape m_size m_place m_at_36 m_fault m_faultAt m_clauses m_open m_fed m_refused m_readTold m_told m_readBeast m_beast m_readGate m_gate m_readList m_list m_lawMany m_readLawMany m_law m_readLaw m_stack m_known (va_up m_step m_steps.toNatClampNeg (upd (m_step m_steps.toNatClampNeg) (0 : Int32).toNatClampNeg x1)) (m_steps + 1) m_now m_trial m_before m_kept m_works m_refusedSteps m_images m_spot m_begun m_doneSteps m_mixed m_fewest m_leastFees m_lots m_tars (0 : Int32) ((m_now (42 : Int32).toNatClampNeg) - 1) N9 hf_41) (hC.ml mw_1580) yo_X10_number 0 (zfM rfl) rfl rfl rfl hl.1 rfl (Nat.le_of_ble_eq_true rfl) ⟨by omega, by omega⟩ hR.2.2 dX10_readsStep_87 (fun H locs hP hS _ _ => ?_)
      obtain ⟨hz_42, hf⟩ := zite hf
      refine zs_m_step hC hP hI (fun k h1 h2 => zF.own h1 h2) hS hz_37 hz_42 dX10_readsStep_90 (fun H locs hP hS => ?_)
      obtain ⟨m_step_43, em_step_43⟩ : ∃ y, y = va_up (va_up m_step m_steps.toNatClampNeg (upd (m_step m_steps.toNatClampNeg) (0 : Int32).toNatClampNeg x1)) m_steps.toNatClampNeg (upd ((va_up m_step m_steps.toNatClampNeg (upd (m_step m_steps.toNatClampNeg) (0 : Int32).toNatClampNeg x1)) m_steps.toNatClampNeg) (1 : Int32).toNatClampNeg r_41) := ⟨_, rfl⟩
      rw [← em_step_43] at hP
      have hf := zleti em_step_43 hf
      exact hk91 m_at_41 m_fault_41 m_faultAt_41 m_step_43 (m_steps + 1) m_steps hf H locs ls hP hS (lv_sub hl [1, 2, 0] rfl)
  · have hf := zifn hc_35 hf
    exact hfin _ _ _ _ _ _ H locs _ ls (Option.some.inj hf) hP hS dX10_readsStep_40
set_option maxHeartbeats 4000000 in
set_option maxRecDepth 100000 in
theorem mpM_readsStepo_19 {p : Program} {l : Launch} {e : Env} {R : Room} {s : State} {m : MethodId} {args : Array Value} {below : List Frame} {meth : Method} {c : Code} {cells slots : Nat} {Q : State → Prop} {g : zG} {d9 : Nat} (hI : zI g 581) (hC : zC g RX10 cX10_readsStep 4 none p s m meth c args) (hR : (7 + (d9 + 1)) ≤ R.frames ∧ 60 * (7 + (d9 + 1)) ≤ R.locals ∧ cells ≤ R.cells ∧ slots ≤ R.slots) (m_thrown : Int32) (m_tape : Int32) (m_size : Int32) (m_place : Int32) (m_clauses : Int32) (m_open : Int32) (m_fed : Nat → Int32) (m_refused : Nat → Int32) (m_readTold : Nat → Int32) (m_told : Nat → Int32) (m_readBeast : Nat → Nat → Int32) (m_beast : Nat → Nat → Int32) (m_readGate : Nat → Nat → Int32) (m_gate : Nat → Nat → Int32) (m_readList : Nat → Nat → Int32) (m_list : Nat → Nat → Int32) (m_lawMany : Int32) (m_readLawMany : Int32) (m_law : Nat → Nat → Int32) (m_readLaw : Nat → Nat → Int32) (m_stack : Nat → Int32) (m_known : Nat → Int32) (m_step : Nat → Nat → Int32) (m_steps : Int32) (m_now : Nat → Int32) (m_trial : Nat → Int32) (m_before : Nat → Nat → Int32) (m_kept : Nat → Nat → Int32) (m_works : Int32) (m_refusedSteps : Int32) (m_images : Int32) (m_spot : Int32) (m_begun : Int32) (m_doneSteps : Int32) (m_mixed : Nat → Int32) (m_fewest : Nat → Int32) (m_leastFees : Nat → Int32) (m_lots : Int32) (m_tars : Int32)  (N9 : Nat) (q_pM_readsStep : Int32 → Int32 → Int32 → Int32 → Int32 → (Nat → Int32) → (Nat → Int32) → (Nat → Nat → Int32) → Int32 → (Nat → Int32) → Option (Int32 × Int32 × Int32 × Int32 × (Nat → Nat → Int32) × Int32)) (hq_pM_readsStep : ∀ {g : zG} (_ : zI g 581) (sz : Nat) (m_thrown : Int32) (m_tape : Int32) (m_size : Int32) (m_place : Int32) (m_at : Int32) (m_fault : Int32) (m_faultAt : Int32) (m_clauses : Int32) (m_open : Int32) (m_fed : Nat → Int32) (m_refused : Nat → Int32) (m_readTold : Nat → Int32) (m_told : Nat → Int32) (m_readBeast : Nat → Nat → Int32) (m_beast : Nat → Nat → Int32) (m_readGate : Nat → Nat → Int32) (m_gate : Nat → Nat → Int32) (m_readList : Nat → Nat → Int32) (m_list : Nat → Nat → Int32) (m_lawMany : Int32) (m_readLawMany : Int32) (m_law : Nat → Nat → Int32) (m_readLaw : Nat → Nat → Int32) (m_stack : Nat → Int32) (m_known : Nat → Int32) (m_step : Nat → Nat → Int32) (m_steps : Int32) (m_now : Nat → Int32) (m_trial : Nat → Int32) (m_before : Nat → Nat → Int32) (m_kept : Nat → Nat → Int32) (m_works : Int32) (m_refusedSteps : Int32) (m_images : Int32) (m_spot : Int32) (m_begun : Int32) (m_doneSteps : Int32) (m_mixed : Nat → Int32) (m_fewest : Nat → Int32) (m_leastFees : Nat → Int32) (m_lots : Int32) (m_tars : Int32)  {m_at' : Int32} {m_fault' : Int32} {m_faultAt' : Int32} {m_open' : Int32} {m_step' : Nat → Nat → Int32} {m_steps' : Int32}, q_pM_readsStep m_size m_at m_fault m_faultAt m_open m_fed m_told m_step m_steps m_now = some (m_at', m_fault', m_faultAt', m_open', m_step', m_steps') → zMv l yX10_readsStep cX10_readsStep 4 none (7 + d9) g (zM g m_thrown m_tape m_size m_place m_at m_fault m_faultAt m_clauses m_open m_fed m_refused m_readTold m_told m_readBeast m_beast m_readGate m_gate m_readList m_list m_lawMany m_readLawMany m_law m_readLaw m_stack m_known m_step m_steps m_now m_trial m_before m_kept m_works m_refusedSteps m_images m_spot m_begun m_doneSteps m_mixed m_fewest m_leastFees m_lots m_tars) (zM g m_thrown m_tape m_size m_place m_at' m_fault' m_faultAt' m_clauses m_open' m_fed m_refused m_readTold m_told m_readBeast m_beast m_readGate m_gate m_readList m_list m_lawMany m_readLawMany m_law m_readLaw m_stack m_known m_step' m_steps' m_now m_trial m_before m_kept m_works m_refusedSteps m_images m_spot m_begun m_doneSteps m_mixed m_fewest m_leastFees m_lots m_tars) sz (zF g 64 580 sz) [.ref (g.2.1 64)])  (res : Int32 × Int32 × Int32 × Int32 × (Nat → Nat → Int32) × Int32) (hfin : ∀ (m_at : Int32) (m_fault : Int32) (m_faultAt : Int32) (m_open : Int32) (m_step : Nat → Nat → Int32) (m_steps : Int32) (H : Heap) (locs : List Loc) (pc : Nat) (ls : Array Slot), (m_at, m_fault, m_faultAt, m_open, m_step, m_steps) = res → va_P g.1 zcl (zM g m_thrown m_tape m_size m_place m_at m_fault m_faultAt m_clauses m_open m_fed m_refused m_readTold m_told m_readBeast m_beast m_readGate m_gate m_readList m_list m_lawMany m_readLawMany m_law m_readLaw m_stack m_known m_step m_steps m_now m_trial m_before m_kept m_works m_refusedSteps m_images m_spot m_begun m_doneSteps m_mixed m_fewest m_leastFees m_lots m_tars) H → va_S (zF g 64 580 s.heap.size) s.heap H locs → decode cX10_readsStep pc = .ok (.return_, 1) → W p l e R s m args below meth c H locs cells slots Q (F0 m pc ls [])) : ∀ (m_at : Int32) (m_fault : Int32) (m_faultAt : Int32) (x1 : Int32), pM_readsStepo_19 N9 q_pM_readsStep m_size m_open m_fed m_told m_step m_steps m_now m_at m_fault m_faultAt x1 = some res → ∀ (H : Heap) (locs : List Loc) (ls : Array Slot), va_P g.1 zcl (zM g m_thrown m_tape m_size m_place m_at m_fault m_faultAt m_clauses m_open m_fed m_refused m_readTold m_told m_readBeast m_beast m_readGate m_gate m_readList m_list m_lawMany m_readLawMany m_law m_readLaw m_stack m_known m_step m_steps m_now m_trial m_before m_kept m_works m_refusedSteps m_images m_spot m_begun m_doneSteps m_mixed m_fewest m_leastFees m_lots m_tars) H → va_S (zF g 64 580 s.heap.size) s.heap H locs → lv_has ls 4 [(0, .ref (g.2.1 64)), (1, .int x1)] → W p l e R s m args below meth c H locs cells slots Q (F0 m 19 ls []) := by
  obtain ⟨hx, hb, hr, hml, hown, hts, hK, hlk, hST⟩ := id hC
  have hB : ∀ q, (zF g 64 580 s.heap.size) q → zB g q := zF.base hI (Nat.le_of_ble_eq_true rfl) hST.1
  intro m_at m_fault m_faultAt x1 hf H locs ls hP hS hl
  have hk33 := mpM_readsStepo_33 (l := l) (e := e) (R := R) (below := below) (cells := cells) (slots := slots) (Q := Q) hI hC hR m_thrown m_tape m_size m_place m_at m_clauses m_fed m_refused m_readTold m_told m_readBeast m_beast m_readGate m_gate m_readList m_list m_lawMany m_readLawMany m_law m_readLaw m_stack m_known m_step m_steps m_now m_trial m_before m_kept m_works m_refusedSteps m_images m_spot m_begun m_doneSteps m_mixed m_fewest m_leastFees m_lots m_tars x1 N9 q_pM_readsStep hq_pM_readsStep res hfin
  unfold pM_readsStepo_19 at hf
  refine lv_iload_n hx hb dX10_readsStep_19 rfl (lv_at hl 1 rfl) ?_
  refine lv_bipush (v := 6) hx hb dX10_readsStep_20 (by decide) ?_
  refine lv_icmp_ne (tgt := 33) hx hb dX10_readsStep_22 (by decide) (fun hc_44 => ?_) (fun hc_44 => ?_)
  · have hf := zifn hc_44 hf
    exact hk33 m_fault m_faultAt m_open hf H locs ls hP hS (lv_sub hl [0, 1] rfl)
  · have hf := zifp hc_44 hf
    refine lv_aload_n hx hb dX10_readsStep_25 rfl (lv_at hl 0 rfl) ?_
    obtain ⟨r_45, m_fault_45, m_faultAt_45, m_open_45, hf_45, hf⟩ := zb4i hf
    refine zcallVi (As := []) (rest := []) hC hP hS hB (fun q h => zF.mono hS.1 h) (cpM_opensOne l hI H.size m_thrown m_tape m_size m_place m_at m_fault m_faultAt m_clauses m_open m_fed m_refused m_readTold m_told m_readBeast m_beast m_readGate m_gate m_readList m_list m_lawMany m_readLawMany m_law m_readLaw m_stack m_known m_step m_steps m_now m_trial m_before m_kept m_works m_refusedSteps m_images m_spot m_begun m_doneSteps m_mixed m_fewest m_leastFees m_lots m_tars  N9 hf_45) (hC.ml mw_1612) yo_X10_opensOne 0 (zfM rfl) rfl rfl rfl hl.1 rfl (Nat.le_of_ble_eq_true rfl) ⟨by omega, by omega⟩ hR.2.2 dX10_readsStep_26 (fun H locs hP hS _ _ => ?_)
    refine lv_if_ne (tgt := 33) hx hb dX10_readsStep_29 (by decide) (fun hc_46 => ?_) (fun hc_46 => ?_)
    · have hf := zifn hc_46 hf
      exact hk33 m_fault_45 m_faultAt_45 m_open_45 hf H locs ls hP hS (lv_sub hl [0, 1] rfl)
    · have hf := zifp hc_46 hf
      exact hfin _ _ _ _ _ _ H locs _ ls (Option.some.inj hf) hP hS dX10_readsStep_32
set_option maxHeartbeats 4000000 in
set_option maxRecDepth 100000 in
theorem mpM_readsStepo {p : Program} {l : Launch} {e : Env} {R : Room} {s : State} {m : MethodId} {args : Array Value} {below : List Frame} {meth : Method} {c : Code} {cells slots : Nat} {Q : State → Prop} {g : zG} {d9 : Nat} (hI : zI g 581) (hC : zC g RX10 cX10_readsStep 4 none p s m meth c args) (hR : (7 + (d9 + 1)) ≤ R.frames ∧ 60 * (7 + (d9 + 1)) ≤ R.locals ∧ cells ≤ R.cells ∧ slots ≤ R.slots) (m_thrown : Int32) (m_tape : Int32) (m_size : Int32) (m_place : Int32) (m_at : Int32) (m_fault : Int32) (m_faultAt : Int32) (m_clauses : Int32) (m_open : Int32) (m_fed : Nat → Int32) (m_refused : Nat → Int32) (m_readTold : Nat → Int32) (m_told : Nat → Int32) (m_readBeast : Nat → Nat → Int32) (m_beast : Nat → Nat → Int32) (m_readGate : Nat → Nat → Int32) (m_gate : Nat → Nat → Int32) (m_readList : Nat → Nat → Int32) (m_list : Nat → Nat → Int32) (m_lawMany : Int32) (m_readLawMany : Int32) (m_law : Nat → Nat → Int32) (m_readLaw : Nat → Nat → Int32) (m_stack : Nat → Int32) (m_known : Nat → Int32) (m_step : Nat → Nat → Int32) (m_steps : Int32) (m_now : Nat → Int32) (m_trial : Nat → Int32) (m_before : Nat → Nat → Int32) (m_kept : Nat → Nat → Int32) (m_works : Int32) (m_refusedSteps : Int32) (m_images : Int32) (m_spot : Int32) (m_begun : Int32) (m_doneSteps : Int32) (m_mixed : Nat → Int32) (m_fewest : Nat → Int32) (m_leastFees : Nat → Int32) (m_lots : Int32) (m_tars : Int32)  (N9 : Nat) (q_pM_readsStep : Int32 → Int32 → Int32 → Int32 → Int32 → (Nat → Int32) → (Nat → Int32) → (Nat → Nat → Int32) → Int32 → (Nat → Int32) → Option (Int32 × Int32 × Int32 × Int32 × (Nat → Nat → Int32) × Int32)) (hq_pM_readsStep : ∀ {g : zG} (_ : zI g 581) (sz : Nat) (m_thrown : Int32) (m_tape : Int32) (m_size : Int32) (m_place : Int32) (m_at : Int32) (m_fault : Int32) (m_faultAt : Int32) (m_clauses : Int32) (m_open : Int32) (m_fed : Nat → Int32) (m_refused : Nat → Int32) (m_readTold : Nat → Int32) (m_told : Nat → Int32) (m_readBeast : Nat → Nat → Int32) (m_beast : Nat → Nat → Int32) (m_readGate : Nat → Nat → Int32) (m_gate : Nat → Nat → Int32) (m_readList : Nat → Nat → Int32) (m_list : Nat → Nat → Int32) (m_lawMany : Int32) (m_readLawMany : Int32) (m_law : Nat → Nat → Int32) (m_readLaw : Nat → Nat → Int32) (m_stack : Nat → Int32) (m_known : Nat → Int32) (m_step : Nat → Nat → Int32) (m_steps : Int32) (m_now : Nat → Int32) (m_trial : Nat → Int32) (m_before : Nat → Nat → Int32) (m_kept : Nat → Nat → Int32) (m_works : Int32) (m_refusedSteps : Int32) (m_images : Int32) (m_spot : Int32) (m_begun : Int32) (m_doneSteps : Int32) (m_mixed : Nat → Int32) (m_fewest : Nat → Int32) (m_leastFees : Nat → Int32) (m_lots : Int32) (m_tars : Int32)  {m_at' : Int32} {m_fault' : Int32} {m_faultAt' : Int32} {m_open' : Int32} {m_step' : Nat → Nat → Int32} {m_steps' : Int32}, q_pM_readsStep m_size m_at m_fault m_faultAt m_open m_fed m_told m_step m_steps m_now = some (m_at', m_fault', m_faultAt', m_open', m_step', m_steps') → zMv l yX10_readsStep cX10_readsStep 4 none (7 + d9) g (zM g m_thrown m_tape m_size m_place m_at m_fault m_faultAt m_clauses m_open m_fed m_refused m_readTold m_told m_readBeast m_beast m_readGate m_gate m_readList m_list m_lawMany m_readLawMany m_law m_readLaw m_stack m_known m_step m_steps m_now m_trial m_before m_kept m_works m_refusedSteps m_images m_spot m_begun m_doneSteps m_mixed m_fewest m_leastFees m_lots m_tars) (zM g m_thrown m_tape m_size m_place m_at' m_fault' m_faultAt' m_clauses m_open' m_fed m_refused m_readTold m_told m_readBeast m_beast m_readGate m_gate m_readList m_list m_lawMany m_readLawMany m_law m_readLaw m_stack m_known m_step' m_steps' m_now m_trial m_before m_kept m_works m_refusedSteps m_images m_spot m_begun m_doneSteps m_mixed m_fewest m_leastFees m_lots m_tars) sz (zF g 64 580 sz) [.ref (g.2.1 64)])  (res : Int32 × Int32 × Int32 × Int32 × (Nat → Nat → Int32) × Int32) (hfin : ∀ (m_at : Int32) (m_fault : Int32) (m_faultAt : Int32) (m_open : Int32) (m_step : Nat → Nat → Int32) (m_steps : Int32) (H : Heap) (locs : List Loc) (pc : Nat) (ls : Array Slot), (m_at, m_fault, m_faultAt, m_open, m_step, m_steps) = res → va_P g.1 zcl (zM g m_thrown m_tape m_size m_place m_at m_fault m_faultAt m_clauses m_open m_fed m_refused m_readTold m_told m_readBeast m_beast m_readGate m_gate m_readList m_list m_lawMany m_readLawMany m_law m_readLaw m_stack m_known m_step m_steps m_now m_trial m_before m_kept m_works m_refusedSteps m_images m_spot m_begun m_doneSteps m_mixed m_fewest m_leastFees m_lots m_tars) H → va_S (zF g 64 580 s.heap.size) s.heap H locs → decode cX10_readsStep pc = .ok (.return_, 1) → W p l e R s m args below meth c H locs cells slots Q (F0 m pc ls [])) : pM_readsStepo N9 q_pM_readsStep m_size m_at m_fault m_faultAt m_open m_fed m_told m_step m_steps m_now = some res → ∀ (H : Heap) (locs : List Loc) (ls : Array Slot), va_P g.1 zcl (zM g m_thrown m_tape m_size m_place m_at m_fault m_faultAt m_clauses m_open m_fed m_refused m_readTold m_told m_readBeast m_beast m_readGate m_gate m_readList m_list m_lawMany m_readLawMany m_law m_readLaw m_stack m_known m_step m_steps m_now m_trial m_before m_kept m_works m_refusedSteps m_images m_spot m_begun m_doneSteps m_mixed m_fewest m_leastFees m_lots m_tars) H → va_S (zF g 64 580 s.heap.size) s.heap H locs → lv_has ls 4 [(0, .ref (g.2.1 64))] → W p l e R s m args below meth c H locs cells slots Q (F0 m 0 ls []) := by
  obtain ⟨hx, hb, hr, hml, hown, hts, hK, hlk, hST⟩ := id hC
  have hB : ∀ q, (zF g 64 580 s.heap.size) q → zB g q := zF.base hI (Nat.le_of_ble_eq_true rfl) hST.1
  intro  hf H locs ls hP hS hl
  have hk19 := mpM_readsStepo_19 (l := l) (e := e) (R := R) (below := below) (cells := cells) (slots := slots) (Q := Q) hI hC hR m_thrown m_tape m_size m_place m_clauses m_open m_fed m_refused m_readTold m_told m_readBeast m_beast m_readGate m_gate m_readList m_list m_lawMany m_readLawMany m_law m_readLaw m_stack m_known m_step m_steps m_now m_trial m_before m_kept m_works m_refusedSteps m_images m_spot m_begun m_doneSteps m_mixed m_fewest m_leastFees m_lots m_tars N9 q_pM_readsStep hq_pM_readsStep res hfin
  unfold pM_readsStepo at hf
  refine lv_aload_n hx hb dX10_readsStep_0 rfl (lv_at hl 0 rfl) ?_
  obtain ⟨r_47, m_at_47, hf_47, hf⟩ := zb2i hf
  refine zcallVi (As := []) (rest := []) hC hP hS hB (fun q h => zF.mono hS.1 h) (cpM_stepHere l hI H.size m_thrown m_tape m_size m_place m_at m_fault m_faultAt m_clauses m_open m_fed m_refused m_readTold m_told m_readBeast m_beast m_readGate m_gate m_readList m_list m_lawMany m_readLawMany m_law m_readLaw m_stack m_known m_step m_steps m_now m_trial m_before m_kept m_works m_refusedSteps m_images m_spot m_begun m_doneSteps m_mixed m_fewest m_leastFees m_lots m_tars  N9 hf_47) (hC.ml mw_1644) yo_X10_stepHere 0 (zfM rfl) rfl rfl rfl hl.1 rfl (Nat.le_of_ble_eq_true rfl) ⟨by omega, by omega⟩ hR.2.2 dX10_readsStep_1 (fun H locs hP hS _ _ => ?_)
  refine lv_istore_n (lv' := [(1, .int r_47), (0, .ref (g.2.1 64))]) hx hb dX10_readsStep_4 rfl hl (by decide) rfl (fun ls hl => ?_)
  refine lv_iload_n hx hb dX10_readsStep_5 rfl (lv_at hl 0 rfl) ?_
  refine lv_iconst (v := (-1)) hx hb dX10_readsStep_6 (by decide) ?_
  refine lv_icmp_ne (tgt := 19) hx hb dX10_readsStep_7 (by decide) (fun hc_48 => ?_) (fun hc_48 => ?_)
  · have hf := zifn hc_48 hf
    exact hk19 m_at_47 m_fault m_faultAt r_47 hf H locs ls hP hS (lv_sub hl [1, 0] rfl)
  · have hf := zifp hc_48 hf
    refine lv_aload_n hx hb dX10_readsStep_10 rfl (lv_at hl 1 rfl) ?_
    refine lv_iconst (v := 1) hx hb dX10_readsStep_11 (by decide) ?_
    refine lv_aload_n hx hb dX10_readsStep_12 rfl (lv_at hl 1 rfl) ?_
    refine zg_m_at hC hP (hC.fl mw_1393) dX10_readsStep_13 ?_
    obtain ⟨m_fault_49, m_faultAt_49, hf_49, hf⟩ := zb2i hf
    refine zcallVv (As := [.int 1, .int m_at_47]) (rest := []) hC hP hS hB (fun q h => zF.mono hS.1 h) (cpM_wrong l hI H.size m_thrown m_tape m_size m_place m_at_47 m_fault m_faultAt m_clauses m_open m_fed m_refused m_readTold m_told m_readBeast m_beast m_readGate m_gate m_readList m_list m_lawMany m_readLawMany m_law m_readLaw m_stack m_known m_step m_steps m_now m_trial m_before m_kept m_works m_refusedSteps m_images m_spot m_begun m_doneSteps m_mixed m_fewest m_leastFees m_lots m_tars (1 : Int32) m_at_47 N9 hf_49) (hC.ml mw_1569) yo_X10_wrong 0 (zfM rfl) rfl rfl rfl hl.1 rfl (Nat.le_of_ble_eq_true rfl) ⟨by omega, by omega⟩ hR.2.2 dX10_readsStep_16 (fun H locs hP hS _ _ => ?_)
    exact hk19 m_at_47 m_fault_49 m_faultAt_49 r_47 hf H locs ls hP hS (lv_sub hl [1, 0] rfl)
set_option maxHeartbeats 4000000 in
set_option maxRecDepth 100000 in
theorem opM_readsStep (l : Launch) {g : zG} {d9 : Nat} (hI : zI g 581) (sz : Nat) (m_thrown : Int32) (m_tape : Int32) (m_size : Int32) (m_place : Int32) (m_at : Int32) (m_fault : Int32) (m_faultAt : Int32) (m_clauses : Int32) (m_open : Int32) (m_fed : Nat → Int32) (m_refused : Nat → Int32) (m_readTold : Nat → Int32) (m_told : Nat → Int32) (m_readBeast : Nat → Nat → Int32) (m_beast : Nat → Nat → Int32) (m_readGate : Nat → Nat → Int32) (m_gate : Nat → Nat → Int32) (m_readList : Nat → Nat → Int32) (m_list : Nat → Nat → Int32) (m_lawMany : Int32) (m_readLawMany : Int32) (m_law : Nat → Nat → Int32) (m_readLaw : Nat → Nat → Int32) (m_stack : Nat → Int32) (m_known : Nat → Int32) (m_step : Nat → Nat → Int32) (m_steps : Int32) (m_now : Nat → Int32) (m_trial : Nat → Int32) (m_before : Nat → Nat → Int32) (m_kept : Nat → Nat → Int32) (m_works : Int32) (m_refusedSteps : Int32) (m_images : Int32) (m_spot : Int32) (m_begun : Int32) (m_doneSteps : Int32) (m_mixed : Nat → Int32) (m_fewest : Nat → Int32) (m_leastFees : Nat → Int32) (m_lots : Int32) (m_tars : Int32) (N9 : Nat) (q_pM_readsStep : Int32 → Int32 → Int32 → Int32 → Int32 → (Nat → Int32) → (Nat → Int32) → (Nat → Nat → Int32) → Int32 → (Nat → Int32) → Option (Int32 × Int32 × Int32 × Int32 × (Nat → Nat → Int32) × Int32)) (hq_pM_readsStep : ∀ {g : zG} (_ : zI g 581) (sz : Nat) (m_thrown : Int32) (m_tape : Int32) (m_size : Int32) (m_place : Int32) (m_at : Int32) (m_fault : Int32) (m_faultAt : Int32) (m_clauses : Int32) (m_open : Int32) (m_fed : Nat → Int32) (m_refused : Nat → Int32) (m_readTold : Nat → Int32) (m_told : Nat → Int32) (m_readBeast : Nat → Nat → Int32) (m_beast : Nat → Nat → Int32) (m_readGate : Nat → Nat → Int32) (m_gate : Nat → Nat → Int32) (m_readList : Nat → Nat → Int32) (m_list : Nat → Nat → Int32) (m_lawMany : Int32) (m_readLawMany : Int32) (m_law : Nat → Nat → Int32) (m_readLaw : Nat → Nat → Int32) (m_stack : Nat → Int32) (m_known : Nat → Int32) (m_step : Nat → Nat → Int32) (m_steps : Int32) (m_now : Nat → Int32) (m_trial : Nat → Int32) (m_before : Nat → Nat → Int32) (m_kept : Nat → Nat → Int32) (m_works : Int32) (m_refusedSteps : Int32) (m_images : Int32) (m_spot : Int32) (m_begun : Int32) (m_doneSteps : Int32) (m_mixed : Nat → Int32) (m_fewest : Nat → Int32) (m_leastFees : Nat → Int32) (m_lots : Int32) (m_tars : Int32)  {m_at' : Int32} {m_fault' : Int32} {m_faultAt' : Int32} {m_open' : Int32} {m_step' : Nat → Nat → Int32} {m_steps' : Int32}, q_pM_readsStep m_size m_at m_fault m_faultAt m_open m_fed m_told m_step m_steps m_now = some (m_at', m_fault', m_faultAt', m_open', m_step', m_steps') → zMv l yX10_readsStep cX10_readsStep 4 none (7 + d9) g (zM g m_thrown m_tape m_size m_place m_at m_fault m_faultAt m_clauses m_open m_fed m_refused m_readTold m_told m_readBeast m_beast m_readGate m_gate m_readList m_list m_lawMany m_readLawMany m_law m_readLaw m_stack m_known m_step m_steps m_now m_trial m_before m_kept m_works m_refusedSteps m_images m_spot m_begun m_doneSteps m_mixed m_fewest m_leastFees m_lots m_tars) (zM g m_thrown m_tape m_size m_place m_at' m_fault' m_faultAt' m_clauses m_open' m_fed m_refused m_readTold m_told m_readBeast m_beast m_readGate m_gate m_readList m_list m_lawMany m_readLawMany m_law m_readLaw m_stack m_known m_step' m_steps' m_now m_trial m_before m_kept m_works m_refusedSteps m_images m_spot m_begun m_doneSteps m_mixed m_fewest m_leastFees m_lots m_tars) sz (zF g 64 580 sz) [.ref (g.2.1 64)]) {m_at' : Int32} {m_fault' : Int32} {m_faultAt' : Int32} {m_open' : Int32} {m_step' : Nat → Nat → Int32} {m_steps' : Int32} (hf : pM_readsStepo N9 q_pM_readsStep m_size m_at m_fault m_faultAt m_open m_fed m_told m_step m_steps m_now = some (m_at', m_fault', m_faultAt', m_open', m_step', m_steps')) : zMv l yX10_readsStep cX10_readsStep 4 none (7 + (d9 + 1)) g (zM g m_thrown m_tape m_size m_place m_at m_fault m_faultAt m_clauses m_open m_fed m_refused m_readTold m_told m_readBeast m_beast m_readGate m_gate m_readList m_list m_lawMany m_readLawMany m_law m_readLaw m_stack m_known m_step m_steps m_now m_trial m_before m_kept m_works m_refusedSteps m_images m_spot m_begun m_doneSteps m_mixed m_fewest m_leastFees m_lots m_tars) (zM g m_thrown m_tape m_size m_place m_at' m_fault' m_faultAt' m_clauses m_open' m_fed m_refused m_readTold m_told m_readBeast m_beast m_readGate m_gate m_readList m_list m_lawMany m_readLawMany m_law m_readLaw m_stack m_known m_step' m_steps' m_now m_trial m_before m_kept m_works m_refusedSteps m_images m_spot m_begun m_doneSteps m_mixed m_fewest m_leastFees m_lots m_tars) sz (zF g 64 580 sz) [.ref (g.2.1 64)] := by
  refine Met.ofW (cc := cX10_readsStep) (maxL := 4) (ret := none) (by decide +kernel) rfl ?_
  intro p e s m args below meth c s₁ B hml hv
  obtain ⟨rfl, hsz, hP, hK, hST⟩ := hv
  subst hsz
  have hC := zstart (own := RX10) rfl B hml hK hST
  have hl := lv_entry ([.ref (g.2.1 64)]) (n := 4) (Nat.le_of_ble_eq_true rfl)
  rw [lg_entry_eq]
  generalize (lg_sl ([.ref (g.2.1 64)]) ++ List.replicate (4 - (lg_sl ([.ref (g.2.1 64)])).length) Slot.unset).toArray = ls at hl ⊢
  have hl : lv_has ls 4 [(0, .ref (g.2.1 64))] := hl
  obtain ⟨hx, hb, hr, hml, hown, hts, hK, hlk, hST⟩ := id hC
  refine mpM_readsStepo hI hC ⟨Nat.le_refl _, Nat.le_refl _, Nat.le_refl _, Nat.le_refl _⟩ m_thrown m_tape m_size m_place m_at m_fault m_faultAt m_clauses m_open m_fed m_refused m_readTold m_told m_readBeast m_beast m_readGate m_gate m_readList m_list m_lawMany m_readLawMany m_law m_readLaw m_stack m_known m_step m_steps m_now m_trial m_before m_kept m_works m_refusedSteps m_images m_spot m_begun m_doneSteps m_mixed m_fewest m_leastFees m_lots m_tars N9 q_pM_readsStep hq_pM_readsStep (m_at', m_fault', m_faultAt', m_open', m_step', m_steps') ?_ hf _ _ ls hP va_S.rf hl
  intro m_at1 m_fault1 m_faultAt1 m_open1 m_step1 m_steps1 H locs pc ls he hP hS hd
  cases he
  exact W.vret hx hb hr (fun t ht hW => ⟨⟨(), rfl, trivial, by rw [← ht] at hP; exact hP⟩, hS.F ht⟩) hS.2.2 hd hlk
set_option maxHeartbeats 4000000 in
theorem tgpM_readsStep (l : Launch) (N9 : Nat) : ∀ d9 : Nat, (∀ {g : zG} (_ : zI g 581) (sz : Nat) (m_thrown : Int32) (m_tape : Int32) (m_size : Int32) (m_place : Int32) (m_at : Int32) (m_fault : Int32) (m_faultAt : Int32) (m_clauses : Int32) (m_open : Int32) (m_fed : Nat → Int32) (m_refused : Nat → Int32) (m_readTold : Nat → Int32) (m_told : Nat → Int32) (m_readBeast : Nat → Nat → Int32) (m_beast : Nat → Nat → Int32) (m_readGate : Nat → Nat → Int32) (m_gate : Nat → Nat → Int32) (m_readList : Nat → Nat → Int32) (m_list : Nat → Nat → Int32) (m_lawMany : Int32) (m_readLawMany : Int32) (m_law : Nat → Nat → Int32) (m_readLaw : Nat → Nat → Int32) (m_stack : Nat → Int32) (m_known : Nat → Int32) (m_step : Nat → Nat → Int32) (m_steps : Int32) (m_now : Nat → Int32) (m_trial : Nat → Int32) (m_before : Nat → Nat → Int32) (m_kept : Nat → Nat → Int32) (m_works : Int32) (m_refusedSteps : Int32) (m_images : Int32) (m_spot : Int32) (m_begun : Int32) (m_doneSteps : Int32) (m_mixed : Nat → Int32) (m_fewest : Nat → Int32) (m_leastFees : Nat → Int32) (m_lots : Int32) (m_tars : Int32)  {m_at' : Int32} {m_fault' : Int32} {m_faultAt' : Int32} {m_open' : Int32} {m_step' : Nat → Nat → Int32} {m_steps' : Int32}, gpM_readsStep N9 d9 m_size m_at m_fault m_faultAt m_open m_fed m_told m_step m_steps m_now = some (m_at', m_fault', m_faultAt', m_open', m_step', m_steps') → zMv l yX10_readsStep cX10_readsStep 4 none (7 + d9) g (zM g m_thrown m_tape m_size m_place m_at m_fault m_faultAt m_clauses m_open m_fed m_refused m_readTold m_told m_readBeast m_beast m_readGate m_gate m_readList m_list m_lawMany m_readLawMany m_law m_readLaw m_stack m_known m_step m_steps m_now m_trial m_before m_kept m_works m_refusedSteps m_images m_spot m_begun m_doneSteps m_mixed m_fewest m_leastFees m_lots m_tars) (zM g m_thrown m_tape m_size m_place m_at' m_fault' m_faultAt' m_clauses m_open' m_fed m_refused m_readTold m_told m_readBeast m_beast m_readGate m_gate m_readList m_list m_lawMany m_readLawMany m_law m_readLaw m_stack m_known m_step' m_steps' m_now m_trial m_before m_kept m_works m_refusedSteps m_images m_spot m_begun m_doneSteps m_mixed m_fewest m_leastFees m_lots m_tars) sz (zF g 64 580 sz) [.ref (g.2.1 64)]) := by
  intro d9
  induction d9 with
  | zero => exact (by intros; rename_i hf; cases hf)
  | succ d9 ih =>
    exact (by
      intro g hI sz m_thrown m_tape m_size m_place m_at m_fault m_faultAt m_clauses m_open m_fed m_refused m_readTold m_told m_readBeast m_beast m_readGate m_gate m_readList m_list m_lawMany m_readLawMany m_law m_readLaw m_stack m_known m_step m_steps m_now m_trial m_before m_kept m_works m_refusedSteps m_images m_spot m_begun m_doneSteps m_mixed m_fewest m_leastFees m_lots m_tars m_at' m_fault' m_faultAt' m_open' m_step' m_steps' hf
      exact opM_readsStep l hI sz m_thrown m_tape m_size m_place m_at m_fault m_faultAt m_clauses m_open m_fed m_refused m_readTold m_told m_readBeast m_beast m_readGate m_gate m_readList m_list m_lawMany m_readLawMany m_law m_readLaw m_stack m_known m_step m_steps m_now m_trial m_before m_kept m_works m_refusedSteps m_images m_spot m_begun m_doneSteps m_mixed m_fewest m_leastFees m_lots m_tars N9 _ ih hf)
theorem cpM_readsStep (l : Launch) {g : zG} (hI : zI g 581) (sz : Nat) (m_thrown : Int32) (m_tape : Int32) (m_size : Int32) (m_place : Int32) (m_at : Int32) (m_fault : Int32) (m_faultAt : Int32) (m_clauses : Int32) (m_open : Int32) (m_fed : Nat → Int32) (m_refused : Nat → Int32) (m_readTold : Nat → Int32) (m_told : Nat → Int32) (m_readBeast : Nat → Nat → Int32) (m_beast : Nat → Nat → Int32) (m_readGate : Nat → Nat → Int32) (m_gate : Nat → Nat → Int32) (m_readList : Nat → Nat → Int32) (m_list : Nat → Nat → Int32) (m_lawMany : Int32) (m_readLawMany : Int32) (m_law : Nat → Nat → Int32) (m_readLaw : Nat → Nat → Int32) (m_stack : Nat → Int32) (m_known : Nat → Int32) (m_step : Nat → Nat → Int32) (m_steps : Int32) (m_now : Nat → Int32) (m_trial : Nat → Int32) (m_before : Nat → Nat → Int32) (m_kept : Nat → Nat → Int32) (m_works : Int32) (m_refusedSteps : Int32) (m_images : Int32) (m_spot : Int32) (m_begun : Int32) (m_doneSteps : Int32) (m_mixed : Nat → Int32) (m_fewest : Nat → Int32) (m_leastFees : Nat → Int32) (m_lots : Int32) (m_tars : Int32) (N9 : Nat) {m_at' : Int32} {m_fault' : Int32} {m_faultAt' : Int32} {m_open' : Int32} {m_step' : Nat → Nat → Int32} {m_steps' : Int32} (hf : pM_readsStep N9 m_size m_at m_fault m_faultAt m_open m_fed m_told m_step m_steps m_now = some (m_at', m_fault', m_faultAt', m_open', m_step', m_steps')) : zMv l yX10_readsStep cX10_readsStep 4 none 55 g (zM g m_thrown m_tape m_size m_place m_at m_fault m_faultAt m_clauses m_open m_fed m_refused m_readTold m_told m_readBeast m_beast m_readGate m_gate m_readList m_list m_lawMany m_readLawMany m_law m_readLaw m_stack m_known m_step m_steps m_now m_trial m_before m_kept m_works m_refusedSteps m_images m_spot m_begun m_doneSteps m_mixed m_fewest m_leastFees m_lots m_tars) (zM g m_thrown m_tape m_size m_place m_at' m_fault' m_faultAt' m_clauses m_open' m_fed m_refused m_readTold m_told m_readBeast m_beast m_readGate m_gate m_readList m_list m_lawMany m_readLawMany m_law m_readLaw m_stack m_known m_step' m_steps' m_now m_trial m_before m_kept m_works m_refusedSteps m_images m_spot m_begun m_doneSteps m_mixed m_fewest m_leastFees m_lots m_tars) sz (zF g 64 580 sz) [.ref (g.2.1 64)] := tgpM_readsStep l N9 48 hI sz m_thrown m_tape m_size m_place m_at m_fault m_faultAt m_clauses m_open m_fed m_refused m_readTold m_told m_readBeast m_beast m_readGate m_gate m_readList m_list m_lawMany m_readLawMany m_law m_readLaw m_stack m_known m_step m_steps m_now m_trial m_before m_kept m_works m_refusedSteps m_images m_spot m_begun m_doneSteps m_mixed m_fewest m_leastFees m_lots m_tars hf
/-! StripeTradeModel.fault ()I [('obj', 'm')] -/
set_option maxHeartbeats 4000000 in
set_option maxRecDepth 100000 in
theorem mpM_fault {p : Program} {l : Launch} {e : Env} {R : Room} {s : State} {m : MethodId} {args : Array Value} {below : List Frame} {meth : Method} {c : Code} {cells slots : Nat} {Q : State → Prop} {g : zG} (hI : zI g 581) (hC : zC g RX10 cX10_fault 1 (some .int) p s m meth c args) (hR : 1 ≤ R.frames ∧ 60 * 1 ≤ R.locals ∧ cells ≤ R.cells ∧ slots ≤ R.slots) (m_thrown : Int32) (m_tape : Int32) (m_size : Int32) (m_place : Int32) (m_at : Int32) (m_fault : Int32) (m_faultAt : Int32) (m_clauses : Int32) (m_open : Int32) (m_fed : Nat → Int32) (m_refused : Nat → Int32) (m_readTold : Nat → Int32) (m_told : Nat → Int32) (m_readBeast : Nat → Nat → Int32) (m_beast : Nat → Nat → Int32) (m_readGate : Nat → Nat → Int32) (m_gate : Nat → Nat → Int32) (m_readList : Nat → Nat → Int32) (m_list : Nat → Nat → Int32) (m_lawMany : Int32) (m_readLawMany : Int32) (m_law : Nat → Nat → Int32) (m_readLaw : Nat → Nat → Int32) (m_stack : Nat → Int32) (m_known : Nat → Int32) (m_step : Nat → Nat → Int32) (m_steps : Int32) (m_now : Nat → Int32) (m_trial : Nat → Int32) (m_before : Nat → Nat → Int32) (m_kept : Nat → Nat → Int32) (m_works : Int32) (m_refusedSteps : Int32) (m_images : Int32) (m_spot : Int32) (m_begun : Int32) (m_doneSteps : Int32) (m_mixed : Nat → Int32) (m_fewest : Nat → Int32) (m_leastFees : Nat → Int32) (m_lots : Int32) (m_tars : Int32)  (N9 : Nat)   (res : Int32 × Int32) (hfin : ∀ (r0 : Int32) (m_thrown : Int32) (H : Heap) (locs : List Loc) (pc : Nat) (ls : Array Slot), (r0, m_thrown) = res → va_P g.1 zcl (zM g m_thrown m_tape m_size m_place m_at m_fault m_faultAt m_clauses m_open m_fed m_refused m_readTold m_told m_readBeast m_beast m_readGate m_gate m_readList m_list m_lawMany m_readLawMany m_law m_readLaw m_stack m_known m_step m_steps m_now m_trial m_before m_kept m_works m_refusedSteps m_images m_spot m_begun m_doneSteps m_mixed m_fewest m_leastFees m_lots m_tars) H → va_S (zF g 64 580 s.heap.size) s.heap H locs → decode cX10_fault pc = .ok (.ireturn, 1) → W p l e R s m args below meth c H locs cells slots Q (F0 m pc ls [.int r0])) : pM_fault N9 m_thrown m_place = some res → ∀ (H : Heap) (locs : List Loc) (ls : Array Slot), va_P g.1 zcl (zM g m_thrown m_tape m_size m_place m_at m_fault m_faultAt m_clauses m_open m_fed m_refused m_readTold m_told m_readBeast m_beast m_readGate m_gate m_readList m_list m_lawMany m_readLawMany m_law m_readLaw m_stack m_known m_step m_steps m_now m_trial m_before m_kept m_works m_refusedSteps m_images m_spot m_begun m_doneSteps m_mixed m_fewest m_leastFees m_lots m_tars) H → va_S (zF g 64 580 s.heap.size) s.heap H locs → lv_has ls 1 [(0, .ref (g.2.1 64))] → W p l e R s m args below meth c H locs cells slots Q (F0 m 0 ls []) := by
  obtain ⟨hx, hb, hr, hml, hown, hts, hK, hlk, hST⟩ := id hC
  have hB : ∀ q, (zF g 64 580 s.heap.size) q → zB g q := zF.base hI (Nat.le_of_ble_eq_true rfl) hST.1
  intro  hf H locs ls hP hS hl
  unfold pM_fault at hf
  refine lv_aload_n hx hb dX10_fault_0 rfl (lv_at hl 0 rfl) ?_
  refine lv_iconst (v := 0) hx hb dX10_fault_1 (by decide) ?_
  refine zp_m_thrown hC hP hI (fun k h1 h2 => zF.own h1 h2) hS (hC.fl mw_1389) dX10_fault_2 (fun H locs hP hS => ?_)
  refine lv_aload_n hx hb dX10_fault_5 rfl (lv_at hl 0 rfl) ?_
  refine zg_m_place hC hP (hC.fl mw_1392) dX10_fault_6 ?_
  exact hfin _ _ H locs _ ls (Option.some.inj hf) hP hS dX10_fault_9
set_option maxHeartbeats 4000000 in
set_option maxRecDepth 100000 in
theorem cpM_fault (l : Launch) {g : zG} (hI : zI g 581) (sz : Nat) (m_thrown : Int32) (m_tape : Int32) (m_size : Int32) (m_place : Int32) (m_at : Int32) (m_fault : Int32) (m_faultAt : Int32) (m_clauses : Int32) (m_open : Int32) (m_fed : Nat → Int32) (m_refused : Nat → Int32) (m_readTold : Nat → Int32) (m_told : Nat → Int32) (m_readBeast : Nat → Nat → Int32) (m_beast : Nat → Nat → Int32) (m_readGate : Nat → Nat → Int32) (m_gate : Nat → Nat → Int32) (m_readList : Nat → Nat → Int32) (m_list : Nat → Nat → Int32) (m_lawMany : Int32) (m_readLawMany : Int32) (m_law : Nat → Nat → Int32) (m_readLaw : Nat → Nat → Int32) (m_stack : Nat → Int32) (m_known : Nat → Int32) (m_step : Nat → Nat → Int32) (m_steps : Int32) (m_now : Nat → Int32) (m_trial : Nat → Int32) (m_before : Nat → Nat → Int32) (m_kept : Nat → Nat → Int32) (m_works : Int32) (m_refusedSteps : Int32) (m_images : Int32) (m_spot : Int32) (m_begun : Int32) (m_doneSteps : Int32) (m_mixed : Nat → Int32) (m_fewest : Nat → Int32) (m_leastFees : Nat → Int32) (m_lots : Int32) (m_tars : Int32) (N9 : Nat) {r0 : Int32} {m_thrown' : Int32} (hf : pM_fault N9  m_thrown m_place = some (r0, m_thrown')) : zMi l yX10_fault cX10_fault 1 (some .int) 1 g (zM g m_thrown m_tape m_size m_place m_at m_fault m_faultAt m_clauses m_open m_fed m_refused m_readTold m_told m_readBeast m_beast m_readGate m_gate m_readList m_list m_lawMany m_readLawMany m_law m_readLaw m_stack m_known m_step m_steps m_now m_trial m_before m_kept m_works m_refusedSteps m_images m_spot m_begun m_doneSteps m_mixed m_fewest m_leastFees m_lots m_tars) (zM g m_thrown' m_tape m_size m_place m_at m_fault m_faultAt m_clauses m_open m_fed m_refused m_readTold m_told m_readBeast m_beast m_readGate m_gate m_readList m_list m_lawMany m_readLawMany m_law m_readLaw m_stack m_known m_step m_steps m_now m_trial m_before m_kept m_works m_refusedSteps m_images m_spot m_begun m_doneSteps m_mixed m_fewest m_leastFees m_lots m_tars) sz (zF g 64 580 sz) [.ref (g.2.1 64)] r0 := by
  refine Met.ofW (cc := cX10_fault) (maxL := 1) (ret := (some .int)) (by decide +kernel) rfl ?_
  intro p e s m args below meth c s₁ B hml hv
  obtain ⟨rfl, hsz, hP, hK, hST⟩ := hv
  subst hsz
  have hC := zstart (own := RX10) rfl B hml hK hST
  have hl := lv_entry ([.ref (g.2.1 64)]) (n := 1) (Nat.le_of_ble_eq_true rfl)
  rw [lg_entry_eq]
  generalize (lg_sl ([.ref (g.2.1 64)]) ++ List.replicate (1 - (lg_sl ([.ref (g.2.1 64)])).length) Slot.unset).toArray = ls at hl ⊢
  have hl : lv_has ls 1 [(0, .ref (g.2.1 64))] := hl
  obtain ⟨hx, hb, hr, hml, hown, hts, hK, hlk, hST⟩ := id hC
  refine mpM_fault hI hC ⟨Nat.le_refl _, Nat.le_refl _, Nat.le_refl _, Nat.le_refl _⟩ m_thrown m_tape m_size m_place m_at m_fault m_faultAt m_clauses m_open m_fed m_refused m_readTold m_told m_readBeast m_beast m_readGate m_gate m_readList m_list m_lawMany m_readLawMany m_law m_readLaw m_stack m_known m_step m_steps m_now m_trial m_before m_kept m_works m_refusedSteps m_images m_spot m_begun m_doneSteps m_mixed m_fewest m_leastFees m_lots m_tars N9 (r0, m_thrown') ?_ hf _ _ ls hP va_S.rf hl
  intro r1 m_thrown1 H locs pc ls he hP hS hd
  cases he
  exact W.iret hx hb hr (fun t ht hW => ⟨⟨_, (), rfl, rfl, by rw [← ht] at hP; exact hP⟩, hS.F ht⟩) hS.2.2 hd hlk
/-! StripeTradeModel.ones (I)I [] -/
set_option maxHeartbeats 4000000 in
set_option maxRecDepth 100000 in
theorem mpM_ones_4 {p : Program} {l : Launch} {e : Env} {R : Room} {s : State} {m : MethodId} {args : Array Value} {below : List Frame} {meth : Method} {c : Code} {cells slots : Nat} {Q : State → Prop} {g : zG} (hI : zI g 581) (hC : zC g RX10 cX10_ones 3 (some .int) p s m meth c args) (hR : 1 ≤ R.frames ∧ 60 * 1 ≤ R.locals ∧ cells ≤ R.cells ∧ slots ≤ R.slots)  (x0 : Int32) (N9 : Nat)   (res : Int32) (hfin : ∀ (r0 : Int32) (H : Heap) (locs : List Loc) (pc : Nat) (ls : Array Slot), r0 = res → True → va_S (fun _ => False) s.heap H locs → decode cX10_ones pc = .ok (.ireturn, 1) → W p l e R s m args below meth c H locs cells slots Q (F0 m pc ls [.int r0])) : ∀ (n9 : Nat) (x1 : Int32) (x2 : Int32), pM_ones_4 N9 x0 n9 x1 x2 = some res → ∀ (H : Heap) (locs : List Loc) (ls : Array Slot), True → va_S (fun _ => False) s.heap H locs → lv_has ls 3 [(0, .int x0), (1, .int x1), (2, .int x2)] → W p l e R s m args below meth c H locs cells slots Q (F0 m 4 ls []) := by
  obtain ⟨hx, hb, hr, hml, hown, hts, hK, hlk, hST⟩ := id hC
  have hB : ∀ q, (fun _ => False) q → zB g q := fun q h => h.elim
  intro n9
  induction n9 with
  | zero => intro x1 x2 hf; cases hf
  | succ n9 ih =>
    intro x1 x2 hf H locs ls hP hS hl
    have hk4 := ih
    unfold pM_ones_4 at hf
    refine lv_iload_n hx hb dX10_ones_4 rfl (lv_at hl 2 rfl) ?_
    refine lv_bipush (v := 8) hx hb dX10_ones_5 (by decide) ?_
    refine lv_icmp_ge (tgt := 24) hx hb dX10_ones_7 (by decide) (fun hc_1 => ?_) (fun hc_1 => ?_)
    · have hf := zifp hc_1 hf
      refine lv_iload_n hx hb dX10_ones_24 rfl (lv_at hl 1 rfl) ?_
      exact hfin _ H locs _ ls (Option.some.inj hf) hP hS dX10_ones_25
    · have hf := zifn hc_1 hf
      refine lv_iload_n hx hb dX10_ones_10 rfl (lv_at hl 1 rfl) ?_
      refine lv_iload_n hx hb dX10_ones_11 rfl (lv_at hl 0 rfl) ?_
      refine lv_iload_n hx hb dX10_ones_12 rfl (lv_at hl 2 rfl) ?_
      refine lv_ishr hx hb dX10_ones_13 ?_
      refine lv_iconst (v := 1) hx hb dX10_ones_14 (by decide) ?_
      refine lv_iand hx hb dX10_ones_15 ?_
      refine lv_iadd hx hb dX10_ones_16 ?_
      refine lv_topi (fun v_2 ev_2 => ?_)
      have hf := zleti ev_2 hf
      refine lv_istore_n (lv' := [(1, .int v_2), (0, .int x0), (2, .int x2)]) hx hb dX10_ones_17 rfl hl (by decide) rfl (fun ls hl => ?_)
      refine lv_iinc (v := x2 + 1) (lv' := [(2, .int (x2 + 1)), (1, .int v_2), (0, .int x0)]) hx hb dX10_ones_18 hl (k := 2) rfl rfl (by decide) rfl (fun ls hl => ?_)
      refine lv_goto (tgt := 4) hx hb dX10_ones_21 (by decide) ?_
      exact hk4 v_2 (x2 + 1) hf H locs ls hP hS (lv_sub hl [2, 1, 0] rfl)
set_option maxHeartbeats 4000000 in
set_option maxRecDepth 100000 in
theorem mpM_ones {p : Program} {l : Launch} {e : Env} {R : Room} {s : State} {m : MethodId} {args : Array Value} {below : List Frame} {meth : Method} {c : Code} {cells slots : Nat} {Q : State → Prop} {g : zG} (hI : zI g 581) (hC : zC g RX10 cX10_ones 3 (some .int) p s m meth c args) (hR : 1 ≤ R.frames ∧ 60 * 1 ≤ R.locals ∧ cells ≤ R.cells ∧ slots ≤ R.slots)  (x0 : Int32) (N9 : Nat)   (res : Int32) (hfin : ∀ (r0 : Int32) (H : Heap) (locs : List Loc) (pc : Nat) (ls : Array Slot), r0 = res → True → va_S (fun _ => False) s.heap H locs → decode cX10_ones pc = .ok (.ireturn, 1) → W p l e R s m args below meth c H locs cells slots Q (F0 m pc ls [.int r0])) : pM_ones N9 x0 = some res → ∀ (H : Heap) (locs : List Loc) (ls : Array Slot), True → va_S (fun _ => False) s.heap H locs → lv_has ls 3 [(0, .int x0)] → W p l e R s m args below meth c H locs cells slots Q (F0 m 0 ls []) := by
  obtain ⟨hx, hb, hr, hml, hown, hts, hK, hlk, hST⟩ := id hC
  have hB : ∀ q, (fun _ => False) q → zB g q := fun q h => h.elim
  intro  hf H locs ls hP hS hl
  have hk4 := mpM_ones_4 (l := l) (e := e) (R := R) (below := below) (cells := cells) (slots := slots) (Q := Q) hI hC hR x0 N9 res hfin N9
  unfold pM_ones at hf
  refine lv_iconst (v := 0) hx hb dX10_ones_0 (by decide) ?_
  refine lv_istore_n (lv' := [(1, .int 0), (0, .int x0)]) hx hb dX10_ones_1 rfl hl (by decide) rfl (fun ls hl => ?_)
  refine lv_iconst (v := 0) hx hb dX10_ones_2 (by decide) ?_
  refine lv_istore_n (lv' := [(2, .int 0), (1, .int 0), (0, .int x0)]) hx hb dX10_ones_3 rfl hl (by decide) rfl (fun ls hl => ?_)
  exact hk4 0 0 hf H locs ls hP hS (lv_sub hl [2, 1, 0] rfl)
set_option maxHeartbeats 4000000 in
set_option maxRecDepth 100000 in
theorem cpM_ones (l : Launch) {g : zG} (hI : zI g 581)  (x0 : Int32) (N9 : Nat) {r0 : Int32} (hf : pM_ones N9  x0 = some r0) : zMp l yX10_ones cX10_ones 3 (some .int) 1 g [.int x0] r0 := by
  refine Met.ofW (cc := cX10_ones) (maxL := 3) (ret := (some .int)) (by decide +kernel) rfl ?_
  intro p e s m args below meth c s₁ B hml hv
  obtain ⟨rfl, hK, hST⟩ := hv
  have hP : True := trivial
  have hC := zstart (own := RX10) rfl B hml hK hST
  have hl := lv_entry ([.int x0]) (n := 3) (Nat.le_of_ble_eq_true rfl)
  rw [lg_entry_eq]
  generalize (lg_sl ([.int x0]) ++ List.replicate (3 - (lg_sl ([.int x0])).length) Slot.unset).toArray = ls at hl ⊢
  have hl : lv_has ls 3 [(0, .int x0)] := hl
  obtain ⟨hx, hb, hr, hml, hown, hts, hK, hlk, hST⟩ := id hC
  refine mpM_ones hI hC ⟨Nat.le_refl _, Nat.le_refl _, Nat.le_refl _, Nat.le_refl _⟩ x0 N9 r0 ?_ hf _ _ ls hP va_S.rf hl
  intro r1 H locs pc ls he hP hS hd
  cases he
  exact W.iret hx hb hr (fun t ht hW => ⟨⟨_, (), rfl, rfl, trivial⟩, hS.F ht⟩) hS.2.2 hd hlk
/-! StripeTradeModel.nearOf (II)I [('obj', 'm')] -/
set_option maxHeartbeats 4000000 in
set_option maxRecDepth 100000 in
theorem mpM_nearOf_59 {p : Program} {l : Launch} {e : Env} {R : Room} {s : State} {m : MethodId} {args : Array Value} {below : List Frame} {meth : Method} {c : Code} {cells slots : Nat} {Q : State → Prop} {g : zG} (hI : zI g 581) (hC : zC g RX10 cX10_nearOf 6 (some .int) p s m meth c args) (hR : 2 ≤ R.frames ∧ 60 * 2 ≤ R.locals ∧ cells ≤ R.cells ∧ slots ≤ R.slots) (m_thrown : Int32) (m_tape : Int32) (m_size : Int32) (m_place : Int32) (m_at : Int32) (m_fault : Int32) (m_faultAt : Int32) (m_clauses : Int32) (m_open : Int32) (m_fed : Nat → Int32) (m_refused : Nat → Int32) (m_readTold : Nat → Int32) (m_told : Nat → Int32) (m_readBeast : Nat → Nat → Int32) (m_beast : Nat → Nat → Int32) (m_readGate : Nat → Nat → Int32) (m_gate : Nat → Nat → Int32) (m_readList : Nat → Nat → Int32) (m_list : Nat → Nat → Int32) (m_lawMany : Int32) (m_readLawMany : Int32) (m_law : Nat → Nat → Int32) (m_readLaw : Nat → Nat → Int32) (m_stack : Nat → Int32) (m_known : Nat → Int32) (m_step : Nat → Nat → Int32) (m_steps : Int32) (m_now : Nat → Int32) (m_trial : Nat → Int32) (m_before : Nat → Nat → Int32) (m_kept : Nat → Nat → Int32) (m_works : Int32) (m_refusedSteps : Int32) (m_images : Int32) (m_spot : Int32) (m_begun : Int32) (m_doneSteps : Int32) (m_mixed : Nat → Int32) (m_fewest : Nat → Int32) (m_leastFees : Nat → Int32) (m_lots : Int32) (m_tars : Int32) (x1 : Int32) (x2 : Int32) (N9 : Nat)  (k5 : Int32 → Int32 → Option (Int32)) (res : Int32) (hfin : ∀ (r0 : Int32) (H : Heap) (locs : List Loc) (pc : Nat) (ls : Array Slot), r0 = res → va_P g.1 zcl (zM g m_thrown m_tape m_size m_place m_at m_fault m_faultAt m_clauses m_open m_fed m_refused m_readTold m_told m_readBeast m_beast m_readGate m_gate m_readList m_list m_lawMany m_readLawMany m_law m_readLaw m_stack m_known m_step m_steps m_now m_trial m_before m_kept m_works m_refusedSteps m_images m_spot m_begun m_doneSteps m_mixed m_fewest m_leastFees m_lots m_tars) H → va_S (zF g 64 580 s.heap.size) s.heap H locs → decode cX10_nearOf pc = .ok (.ireturn, 1) → W p l e R s m args below meth c H locs cells slots Q (F0 m pc ls [.int r0])) (hk5 : ∀ (x3 : Int32) (x4 : Int32), k5 x3 x4 = some res → ∀ (H : Heap) (locs : List Loc) (ls : Array Slot), va_P g.1 zcl (zM g m_thrown m_tape m_size m_place m_at m_fault m_faultAt m_clauses m_open m_fed m_refused m_readTold m_told m_readBeast m_beast m_readGate m_gate m_readList m_list m_lawMany m_readLawMany m_law m_readLaw m_stack m_known m_step m_steps m_now m_trial m_before m_kept m_works m_refusedSteps m_images m_spot m_begun m_doneSteps m_mixed m_fewest m_leastFees m_lots m_tars) H → va_S (zF g 64 580 s.heap.size) s.heap H locs → lv_has ls 6 [(0, .ref (g.2.1 64)), (1, .int x1), (2, .int x2), (3, .int x3), (4, .int x4)] → W p l e R s m args below meth c H locs cells slots Q (F0 m 5 ls [])) : ∀ (x3 : Int32) (x4 : Int32), pM_nearOf_59 N9 x1 x2 k5 x3 x4 = some res → ∀ (H : Heap) (locs : List Loc) (ls : Array Slot), va_P g.1 zcl (zM g m_thrown m_tape m_size m_place m_at m_fault m_faultAt m_clauses m_open m_fed m_refused m_readTold m_told m_readBeast m_beast m_readGate m_gate m_readList m_list m_lawMany m_readLawMany m_law m_readLaw m_stack m_known m_step m_steps m_now m_trial m_before m_kept m_works m_refusedSteps m_images m_spot m_begun m_doneSteps m_mixed m_fewest m_leastFees m_lots m_tars) H → va_S (zF g 64 580 s.heap.size) s.heap H locs → lv_has ls 6 [(0, .ref (g.2.1 64)), (1, .int x1), (2, .int x2), (3, .int x3), (4, .int x4)] → W p l e R s m args below meth c H locs cells slots Q (F0 m 59 ls []) := by
  obtain ⟨hx, hb, hr, hml, hown, hts, hK, hlk, hST⟩ := id hC
  have hB : ∀ q, (zF g 64 580 s.heap.size) q → zB g q := zF.base hI (Nat.le_of_ble_eq_true rfl) hST.1
  intro x3 x4 hf H locs ls hP hS hl
  unfold pM_nearOf_59 at hf
  refine lv_iinc (v := x4 + 1) (lv' := [(4, .int (x4 + 1)), (0, .ref (g.2.1 64)), (1, .int x1), (2, .int x2), (3, .int x3)]) hx hb dX10_nearOf_59 hl (k := 4) rfl rfl (by decide) rfl (fun ls hl => ?_)
  refine lv_goto (tgt := 5) hx hb dX10_nearOf_62 (by decide) ?_
  exact hk5 x3 (x4 + 1) hf H locs ls hP hS (lv_sub hl [1, 2, 3, 4, 0] rfl)
set_option maxHeartbeats 4000000 in
set_option maxRecDepth 100000 in
theorem mpM_nearOf_56 {p : Program} {l : Launch} {e : Env} {R : Room} {s : State} {m : MethodId} {args : Array Value} {below : List Frame} {meth : Method} {c : Code} {cells slots : Nat} {Q : State → Prop} {g : zG} (hI : zI g 581) (hC : zC g RX10 cX10_nearOf 6 (some .int) p s m meth c args) (hR : 2 ≤ R.frames ∧ 60 * 2 ≤ R.locals ∧ cells ≤ R.cells ∧ slots ≤ R.slots) (m_thrown : Int32) (m_tape : Int32) (m_size : Int32) (m_place : Int32) (m_at : Int32) (m_fault : Int32) (m_faultAt : Int32) (m_clauses : Int32) (m_open : Int32) (m_fed : Nat → Int32) (m_refused : Nat → Int32) (m_readTold : Nat → Int32) (m_told : Nat → Int32) (m_readBeast : Nat → Nat → Int32) (m_beast : Nat → Nat → Int32) (m_readGate : Nat → Nat → Int32) (m_gate : Nat → Nat → Int32) (m_readList : Nat → Nat → Int32) (m_list : Nat → Nat → Int32) (m_lawMany : Int32) (m_readLawMany : Int32) (m_law : Nat → Nat → Int32) (m_readLaw : Nat → Nat → Int32) (m_stack : Nat → Int32) (m_known : Nat → Int32) (m_step : Nat → Nat → Int32) (m_steps : Int32) (m_now : Nat → Int32) (m_trial : Nat → Int32) (m_before : Nat → Nat → Int32) (m_kept : Nat → Nat → Int32) (m_works : Int32) (m_refusedSteps : Int32) (m_images : Int32) (m_spot : Int32) (m_begun : Int32) (m_doneSteps : Int32) (m_mixed : Nat → Int32) (m_fewest : Nat → Int32) (m_leastFees : Nat → Int32) (m_lots : Int32) (m_tars : Int32) (x1 : Int32) (x2 : Int32) (N9 : Nat)  (k59 : Int32 → Int32 → Option (Int32)) (res : Int32) (hfin : ∀ (r0 : Int32) (H : Heap) (locs : List Loc) (pc : Nat) (ls : Array Slot), r0 = res → va_P g.1 zcl (zM g m_thrown m_tape m_size m_place m_at m_fault m_faultAt m_clauses m_open m_fed m_refused m_readTold m_told m_readBeast m_beast m_readGate m_gate m_readList m_list m_lawMany m_readLawMany m_law m_readLaw m_stack m_known m_step m_steps m_now m_trial m_before m_kept m_works m_refusedSteps m_images m_spot m_begun m_doneSteps m_mixed m_fewest m_leastFees m_lots m_tars) H → va_S (zF g 64 580 s.heap.size) s.heap H locs → decode cX10_nearOf pc = .ok (.ireturn, 1) → W p l e R s m args below meth c H locs cells slots Q (F0 m pc ls [.int r0])) (hk59 : ∀ (x3 : Int32) (x4 : Int32), k59 x3 x4 = some res → ∀ (H : Heap) (locs : List Loc) (ls : Array Slot), va_P g.1 zcl (zM g m_thrown m_tape m_size m_place m_at m_fault m_faultAt m_clauses m_open m_fed m_refused m_readTold m_told m_readBeast m_beast m_readGate m_gate m_readList m_list m_lawMany m_readLawMany m_law m_readLaw m_stack m_known m_step m_steps m_now m_trial m_before m_kept m_works m_refusedSteps m_images m_spot m_begun m_doneSteps m_mixed m_fewest m_leastFees m_lots m_tars) H → va_S (zF g 64 580 s.heap.size) s.heap H locs → lv_has ls 6 [(0, .ref (g.2.1 64)), (1, .int x1), (2, .int x2), (3, .int x3), (4, .int x4)] → W p l e R s m args below meth c H locs cells slots Q (F0 m 59 ls [])) : ∀ (x4 : Int32) (x5 : Int32), pM_nearOf_56 N9 x1 x2 k59 x4 x5 = some res → ∀ (H : Heap) (locs : List Loc) (ls : Array Slot), va_P g.1 zcl (zM g m_thrown m_tape m_size m_place m_at m_fault m_faultAt m_clauses m_open m_fed m_refused m_readTold m_told m_readBeast m_beast m_readGate m_gate m_readList m_list m_lawMany m_readLawMany m_law m_readLaw m_stack m_known m_step m_steps m_now m_trial m_before m_kept m_works m_refusedSteps m_images m_spot m_begun m_doneSteps m_mixed m_fewest m_leastFees m_lots m_tars) H → va_S (zF g 64 580 s.heap.size) s.heap H locs → lv_has ls 6 [(0, .ref (g.2.1 64)), (1, .int x1), (2, .int x2), (4, .int x4), (5, .int x5)] → W p l e R s m args below meth c H locs cells slots Q (F0 m 56 ls []) := by
  obtain ⟨hx, hb, hr, hml, hown, hts, hK, hlk, hST⟩ := id hC
  have hB : ∀ q, (zF g 64 580 s.heap.size) q → zB g q := zF.base hI (Nat.le_of_ble_eq_true rfl) hST.1
  intro x4 x5 hf H locs ls hP hS hl
  unfold pM_nearOf_56 at hf
  refine lv_iload hx hb dX10_nearOf_56 (lv_at hl 4 rfl) ?_
  refine lv_istore_n (lv' := [(3, .int x5), (0, .ref (g.2.1 64)), (1, .int x1), (2, .int x2), (4, .int x4), (5, .int x5)]) hx hb dX10_nearOf_58 rfl hl (by decide) rfl (fun ls hl => ?_)
  exact hk59 x5 x4 hf H locs ls hP hS (lv_sub hl [1, 2, 3, 0, 4] rfl)
set_option maxHeartbeats 4000000 in
set_option maxRecDepth 100000 in
theorem mpM_nearOf_5 {p : Program} {l : Launch} {e : Env} {R : Room} {s : State} {m : MethodId} {args : Array Value} {below : List Frame} {meth : Method} {c : Code} {cells slots : Nat} {Q : State → Prop} {g : zG} (hI : zI g 581) (hC : zC g RX10 cX10_nearOf 6 (some .int) p s m meth c args) (hR : 2 ≤ R.frames ∧ 60 * 2 ≤ R.locals ∧ cells ≤ R.cells ∧ slots ≤ R.slots) (m_thrown : Int32) (m_tape : Int32) (m_size : Int32) (m_place : Int32) (m_at : Int32) (m_fault : Int32) (m_faultAt : Int32) (m_clauses : Int32) (m_open : Int32) (m_fed : Nat → Int32) (m_refused : Nat → Int32) (m_readTold : Nat → Int32) (m_told : Nat → Int32) (m_readBeast : Nat → Nat → Int32) (m_beast : Nat → Nat → Int32) (m_readGate : Nat → Nat → Int32) (m_gate : Nat → Nat → Int32) (m_readList : Nat → Nat → Int32) (m_list : Nat → Nat → Int32) (m_lawMany : Int32) (m_readLawMany : Int32) (m_law : Nat → Nat → Int32) (m_readLaw : Nat → Nat → Int32) (m_stack : Nat → Int32) (m_known : Nat → Int32) (m_step : Nat → Nat → Int32) (m_steps : Int32) (m_now : Nat → Int32) (m_trial : Nat → Int32) (m_before : Nat → Nat → Int32) (m_kept : Nat → Nat → Int32) (m_works : Int32) (m_refusedSteps : Int32) (m_images : Int32) (m_spot : Int32) (m_begun : Int32) (m_doneSteps : Int32) (m_mixed : Nat → Int32) (m_fewest : Nat → Int32) (m_leastFees : Nat → Int32) (m_lots : Int32) (m_tars : Int32) (x1 : Int32) (x2 : Int32) (N9 : Nat)   (res : Int32) (hfin : ∀ (r0 : Int32) (H : Heap) (locs : List Loc) (pc : Nat) (ls : Array Slot), r0 = res → va_P g.1 zcl (zM g m_thrown m_tape m_size m_place m_at m_fault m_faultAt m_clauses m_open m_fed m_refused m_readTold m_told m_readBeast m_beast m_readGate m_gate m_readList m_list m_lawMany m_readLawMany m_law m_readLaw m_stack m_known m_step m_steps m_now m_trial m_before m_kept m_works m_refusedSteps m_images m_spot m_begun m_doneSteps m_mixed m_fewest m_leastFees m_lots m_tars) H → va_S (zF g 64 580 s.heap.size) s.heap H locs → decode cX10_nearOf pc = .ok (.ireturn, 1) → W p l e R s m args below meth c H locs cells slots Q (F0 m pc ls [.int r0])) : ∀ (n9 : Nat) (x3 : Int32) (x4 : Int32), pM_nearOf_5 N9 m_told m_list x1 x2 n9 x3 x4 = some res → ∀ (H : Heap) (locs : List Loc) (ls : Array Slot), va_P g.1 zcl (zM g m_thrown m_tape m_size m_place m_at m_fault m_faultAt m_clauses m_open m_fed m_refused m_readTold m_told m_readBeast m_beast m_readGate m_gate m_readList m_list m_lawMany m_readLawMany m_law m_readLaw m_stack m_known m_step m_steps m_now m_trial m_before m_kept m_works m_refusedSteps m_images m_spot m_begun m_doneSteps m_mixed m_fewest m_leastFees m_lots m_tars) H → va_S (zF g 64 580 s.heap.size) s.heap H locs → lv_has ls 6 [(0, .ref (g.2.1 64)), (1, .int x1), (2, .int x2), (3, .int x3), (4, .int x4)] → W p l e R s m args below meth c H locs cells slots Q (F0 m 5 ls []) := by
  obtain ⟨hx, hb, hr, hml, hown, hts, hK, hlk, hST⟩ := id hC
  have hB : ∀ q, (zF g 64 580 s.heap.size) q → zB g q := zF.base hI (Nat.le_of_ble_eq_true rfl) hST.1
  intro n9
  induction n9 with
  | zero => intro x3 x4 hf; cases hf
  | succ n9 ih =>
    intro x3 x4 hf H locs ls hP hS hl
    have hk5 := ih
    have hk59 := mpM_nearOf_59 (l := l) (e := e) (R := R) (below := below) (cells := cells) (slots := slots) (Q := Q) hI hC hR m_thrown m_tape m_size m_place m_at m_fault m_faultAt m_clauses m_open m_fed m_refused m_readTold m_told m_readBeast m_beast m_readGate m_gate m_readList m_list m_lawMany m_readLawMany m_law m_readLaw m_stack m_known m_step m_steps m_now m_trial m_before m_kept m_works m_refusedSteps m_images m_spot m_begun m_doneSteps m_mixed m_fewest m_leastFees m_lots m_tars x1 x2 N9 (pM_nearOf_5 N9 m_told m_list x1 x2 n9) res hfin hk5
    have hk56 := mpM_nearOf_56 (l := l) (e := e) (R := R) (below := below) (cells := cells) (slots := slots) (Q := Q) hI hC hR m_thrown m_tape m_size m_place m_at m_fault m_faultAt m_clauses m_open m_fed m_refused m_readTold m_told m_readBeast m_beast m_readGate m_gate m_readList m_list m_lawMany m_readLawMany m_law m_readLaw m_stack m_known m_step m_steps m_now m_trial m_before m_kept m_works m_refusedSteps m_images m_spot m_begun m_doneSteps m_mixed m_fewest m_leastFees m_lots m_tars x1 x2 N9 (pM_nearOf_59 N9 x1 x2 (pM_nearOf_5 N9 m_told m_list x1 x2 n9)) res hfin hk59
    unfold pM_nearOf_5 at hf
    refine lv_iload hx hb dX10_nearOf_5 (lv_at hl 4 rfl) ?_
    refine lv_aload_n hx hb dX10_nearOf_7 rfl (lv_at hl 0 rfl) ?_
    refine zr_m_told hC hP (hC.fl mw_1401) dX10_nearOf_8 ?_
    refine lv_iconst (v := 2) hx hb dX10_nearOf_11 (by decide) ?_
    obtain ⟨hz_1, hf⟩ := zite hf
    refine zl_m_told hC hP hz_1 dX10_nearOf_12 ?_
    refine lv_icmp_ge (tgt := 65) hx hb dX10_nearOf_13 (by decide) (fun hc_2 => ?_) (fun hc_2 => ?_)
    · have hf := zifp hc_2 hf
      refine lv_iload_n hx hb dX10_nearOf_65 rfl (lv_at hl 3 rfl) ?_
      exact hfin _ H locs _ ls (Option.some.inj hf) hP hS dX10_nearOf_66
    · have hf := zifn hc_2 hf
      refine lv_iload_n hx hb dX10_nearOf_16 rfl (lv_at hl 1 rfl) ?_
      refine lv_aload_n hx hb dX10_nearOf_17 rfl (lv_at hl 0 rfl) ?_
      refine zr_m_list hC hP (hC.fl mw_1407) dX10_nearOf_18 ?_
      refine lv_iload hx hb dX10_nearOf_21 (lv_at hl 4 rfl) ?_
      obtain ⟨hz_3, hf⟩ := zite hf
      refine zq_m_list hC hP hz_3 dX10_nearOf_23 ?_
      refine lv_iconst (v := 1) hx hb dX10_nearOf_24 (by decide) ?_
      obtain ⟨hz_4, hf⟩ := zite hf
      refine zl_m_list hC hP hz_3 hz_4 dX10_nearOf_25 ?_
      refine lv_ixor hx hb dX10_nearOf_26 ?_
      obtain ⟨r_5, hf_5, hf⟩ := zb1i hf
      refine zcallP (As := [.int (x1 ^^^ (m_list x4.toNatClampNeg (1 : Int32).toNatClampNeg))]) (rest := []) hC hS hB (cpM_ones l hI (x1 ^^^ (m_list x4.toNatClampNeg (1 : Int32).toNatClampNeg)) N9 hf_5) (hC.ml mw_1681) yo_X10_ones rfl hl.1 rfl (Nat.le_of_ble_eq_true rfl) ⟨by omega, by omega⟩ hR.2.2 dX10_nearOf_27 (fun H locs hPk hS _ => ?_)
      have hP := hPk _ _ _ hP
      refine lv_istore (lv' := [(5, .int r_5), (0, .ref (g.2.1 64)), (1, .int x1), (2, .int x2), (3, .int x3), (4, .int x4)]) hx hb dX10_nearOf_30 hl (by decide) rfl (fun ls hl => ?_)
      refine lv_aload_n hx hb dX10_nearOf_32 rfl (lv_at hl 1 rfl) ?_
      refine zr_m_list hC hP (hC.fl mw_1407) dX10_nearOf_33 ?_
      refine lv_iload hx hb dX10_nearOf_36 (lv_at hl 5 rfl) ?_
      refine zq_m_list hC hP hz_3 dX10_nearOf_38 ?_
      refine lv_iconst (v := 0) hx hb dX10_nearOf_39 (by decide) ?_
      obtain ⟨hz_6, hf⟩ := zite hf
      refine zl_m_list hC hP hz_3 hz_6 dX10_nearOf_40 ?_
      refine lv_iload_n hx hb dX10_nearOf_41 rfl (lv_at hl 3 rfl) ?_
      refine lv_icmp_ne (tgt := 59) hx hb dX10_nearOf_42 (by decide) (fun hc_7 => ?_) (fun hc_7 => ?_)
      · have hf := zifn hc_7 hf
        exact hk59 x3 x4 hf H locs ls hP hS (lv_sub hl [1, 2, 3, 4, 5] rfl)
      · have hf := zifp hc_7 hf
        refine lv_iload_n hx hb dX10_nearOf_45 rfl (lv_at hl 4 rfl) ?_
        refine lv_iconst (v := (-1)) hx hb dX10_nearOf_46 (by decide) ?_
        refine lv_icmp_eq (tgt := 56) hx hb dX10_nearOf_47 (by decide) (fun hc_8 => ?_) (fun hc_8 => ?_)
        · have hf := zifp hc_8 hf
          exact hk56 x4 r_5 hf H locs ls hP hS (lv_sub hl [1, 2, 3, 5, 0] rfl)
        · have hf := zifn hc_8 hf
          refine lv_iload hx hb dX10_nearOf_50 (lv_at hl 0 rfl) ?_
          refine lv_iload_n hx hb dX10_nearOf_52 rfl (lv_at hl 4 rfl) ?_
          refine lv_icmp_ge (tgt := 59) hx hb dX10_nearOf_53 (by decide) (fun hc_9 => ?_) (fun hc_9 => ?_)
          · have hf := zifp hc_9 hf
            exact hk59 x3 x4 hf H locs ls hP hS (lv_sub hl [1, 2, 3, 4, 5] rfl)
          · have hf := zifn hc_9 hf
            exact hk56 x4 r_5 hf H locs ls hP hS (lv_sub hl [1, 2, 3, 5, 0] rfl)
set_option maxHeartbeats 4000000 in
set_option maxRecDepth 100000 in
theorem mpM_nearOf {p : Program} {l : Launch} {e : Env} {R : Room} {s : State} {m : MethodId} {args : Array Value} {below : List Frame} {meth : Method} {c : Code} {cells slots : Nat} {Q : State → Prop} {g : zG} (hI : zI g 581) (hC : zC g RX10 cX10_nearOf 6 (some .int) p s m meth c args) (hR : 2 ≤ R.frames ∧ 60 * 2 ≤ R.locals ∧ cells ≤ R.cells ∧ slots ≤ R.slots) (m_thrown : Int32) (m_tape : Int32) (m_size : Int32) (m_place : Int32) (m_at : Int32) (m_fault : Int32) (m_faultAt : Int32) (m_clauses : Int32) (m_open : Int32) (m_fed : Nat → Int32) (m_refused : Nat → Int32) (m_readTold : Nat → Int32) (m_told : Nat → Int32) (m_readBeast : Nat → Nat → Int32) (m_beast : Nat → Nat → Int32) (m_readGate : Nat → Nat → Int32) (m_gate : Nat → Nat → Int32) (m_readList : Nat → Nat → Int32) (m_list : Nat → Nat → Int32) (m_lawMany : Int32) (m_readLawMany : Int32) (m_law : Nat → Nat → Int32) (m_readLaw : Nat → Nat → Int32) (m_stack : Nat → Int32) (m_known : Nat → Int32) (m_step : Nat → Nat → Int32) (m_steps : Int32) (m_now : Nat → Int32) (m_trial : Nat → Int32) (m_before : Nat → Nat → Int32) (m_kept : Nat → Nat → Int32) (m_works : Int32) (m_refusedSteps : Int32) (m_images : Int32) (m_spot : Int32) (m_begun : Int32) (m_doneSteps : Int32) (m_mixed : Nat → Int32) (m_fewest : Nat → Int32) (m_leastFees : Nat → Int32) (m_lots : Int32) (m_tars : Int32) (x1 : Int32) (x2 : Int32) (N9 : Nat)   (res : Int32) (hfin : ∀ (r0 : Int32) (H : Heap) (locs : List Loc) (pc : Nat) (ls : Array Slot), r0 = res → va_P g.1 zcl (zM g m_thrown m_tape m_size m_place m_at m_fault m_faultAt m_clauses m_open m_fed m_refused m_readTold m_told m_readBeast m_beast m_readGate m_gate m_readList m_list m_lawMany m_readLawMany m_law m_readLaw m_stack m_known m_step m_steps m_now m_trial m_before m_kept m_works m_refusedSteps m_images m_spot m_begun m_doneSteps m_mixed m_fewest m_leastFees m_lots m_tars) H → va_S (zF g 64 580 s.heap.size) s.heap H locs → decode cX10_nearOf pc = .ok (.ireturn, 1) → W p l e R s m args below meth c H locs cells slots Q (F0 m pc ls [.int r0])) : pM_nearOf N9 m_told m_list x1 x2 = some res → ∀ (H : Heap) (locs : List Loc) (ls : Array Slot), va_P g.1 zcl (zM g m_thrown m_tape m_size m_place m_at m_fault m_faultAt m_clauses m_open m_fed m_refused m_readTold m_told m_readBeast m_beast m_readGate m_gate m_readList m_list m_lawMany m_readLawMany m_law m_readLaw m_stack m_known m_step m_steps m_now m_trial m_before m_kept m_works m_refusedSteps m_images m_spot m_begun m_doneSteps m_mixed m_fewest m_leastFees m_lots m_tars) H → va_S (zF g 64 580 s.heap.size) s.heap H locs → lv_has ls 6 [(0, .ref (g.2.1 64)), (1, .int x1), (2, .int x2)] → W p l e R s m args below meth c H locs cells slots Q (F0 m 0 ls []) := by
  obtain ⟨hx, hb, hr, hml, hown, hts, hK, hlk, hST⟩ := id hC
  have hB : ∀ q, (zF g 64 580 s.heap.size) q → zB g q := zF.base hI (Nat.le_of_ble_eq_true rfl) hST.1
  intro  hf H locs ls hP hS hl
  have hk5 := mpM_nearOf_5 (l := l) (e := e) (R := R) (below := below) (cells := cells) (slots := slots) (Q := Q) hI hC hR m_thrown m_tape m_size m_place m_at m_fault m_faultAt m_clauses m_open m_fed m_refused m_readTold m_told m_readBeast m_beast m_readGate m_gate m_readList m_list m_lawMany m_readLawMany m_law m_readLaw m_stack m_known m_step m_steps m_now m_trial m_before m_kept m_works m_refusedSteps m_images m_spot m_begun m_doneSteps m_mixed m_fewest m_leastFees m_lots m_tars x1 x2 N9 res hfin N9
  unfold pM_nearOf at hf
  refine lv_iconst (v := (-1)) hx hb dX10_nearOf_0 (by decide) ?_
  refine lv_istore_n (lv' := [(3, .int (-1)), (0, .ref (g.2.1 64)), (1, .int x1), (2, .int x2)]) hx hb dX10_nearOf_1 rfl hl (by decide) rfl (fun ls hl => ?_)
  refine lv_iconst (v := 0) hx hb dX10_nearOf_2 (by decide) ?_
  refine lv_istore (lv' := [(4, .int 0), (3, .int (-1)), (0, .ref (g.2.1 64)), (1, .int x1), (2, .int x2)]) hx hb dX10_nearOf_3 hl (by decide) rfl (fun ls hl => ?_)
  exact hk5 (-1) 0 hf H locs ls hP hS (lv_sub hl [2, 3, 4, 1, 0] rfl)
set_option maxHeartbeats 4000000 in
set_option maxRecDepth 100000 in
theorem cpM_nearOf (l : Launch) {g : zG} (hI : zI g 581) (sz : Nat) (m_thrown : Int32) (m_tape : Int32) (m_size : Int32) (m_place : Int32) (m_at : Int32) (m_fault : Int32) (m_faultAt : Int32) (m_clauses : Int32) (m_open : Int32) (m_fed : Nat → Int32) (m_refused : Nat → Int32) (m_readTold : Nat → Int32) (m_told : Nat → Int32) (m_readBeast : Nat → Nat → Int32) (m_beast : Nat → Nat → Int32) (m_readGate : Nat → Nat → Int32) (m_gate : Nat → Nat → Int32) (m_readList : Nat → Nat → Int32) (m_list : Nat → Nat → Int32) (m_lawMany : Int32) (m_readLawMany : Int32) (m_law : Nat → Nat → Int32) (m_readLaw : Nat → Nat → Int32) (m_stack : Nat → Int32) (m_known : Nat → Int32) (m_step : Nat → Nat → Int32) (m_steps : Int32) (m_now : Nat → Int32) (m_trial : Nat → Int32) (m_before : Nat → Nat → Int32) (m_kept : Nat → Nat → Int32) (m_works : Int32) (m_refusedSteps : Int32) (m_images : Int32) (m_spot : Int32) (m_begun : Int32) (m_doneSteps : Int32) (m_mixed : Nat → Int32) (m_fewest : Nat → Int32) (m_leastFees : Nat → Int32) (m_lots : Int32) (m_tars : Int32) (x1 : Int32)  (x2 : Int32) (N9 : Nat) {r0 : Int32} (hf : pM_nearOf N9  m_told m_list x1 x2 = some r0) : zMi l yX10_nearOf cX10_nearOf 6 (some .int) 2 g (zM g m_thrown m_tape m_size m_place m_at m_fault m_faultAt m_clauses m_open m_fed m_refused m_readTold m_told m_readBeast m_beast m_readGate m_gate m_readList m_list m_lawMany m_readLawMany m_law m_readLaw m_stack m_known m_step m_steps m_now m_trial m_before m_kept m_works m_refusedSteps m_images m_spot m_begun m_doneSteps m_mixed m_fewest m_leastFees m_lots m_tars) (zM g m_thrown m_tape m_size m_place m_at m_fault m_faultAt m_clauses m_open m_fed m_refused m_readTold m_told m_readBeast m_beast m_readGate m_gate m_readList m_list m_lawMany m_readLawMany m_law m_readLaw m_stack m_known m_step m_steps m_now m_trial m_before m_kept m_works m_refusedSteps m_images m_spot m_begun m_doneSteps m_mixed m_fewest m_leastFees m_lots m_tars) sz (zF g 64 580 sz) [.ref (g.2.1 64), .int x1, .int x2] r0 := by
  refine Met.ofW (cc := cX10_nearOf) (maxL := 6) (ret := (some .int)) (by decide +kernel) rfl ?_
  intro p e s m args below meth c s₁ B hml hv
  obtain ⟨rfl, hsz, hP, hK, hST⟩ := hv
  subst hsz
  have hC := zstart (own := RX10) rfl B hml hK hST
  have hl := lv_entry ([.ref (g.2.1 64), .int x1, .int x2]) (n := 6) (Nat.le_of_ble_eq_true rfl)
  rw [lg_entry_eq]
  generalize (lg_sl ([.ref (g.2.1 64), .int x1, .int x2]) ++ List.replicate (6 - (lg_sl ([.ref (g.2.1 64), .int x1, .int x2])).length) Slot.unset).toArray = ls at hl ⊢
  have hl : lv_has ls 6 [(0, .ref (g.2.1 64)), (1, .int x1), (2, .int x2)] := hl
  obtain ⟨hx, hb, hr, hml, hown, hts, hK, hlk, hST⟩ := id hC
  refine mpM_nearOf hI hC ⟨Nat.le_refl _, Nat.le_refl _, Nat.le_refl _, Nat.le_refl _⟩ m_thrown m_tape m_size m_place m_at m_fault m_faultAt m_clauses m_open m_fed m_refused m_readTold m_told m_readBeast m_beast m_readGate m_gate m_readList m_list m_lawMany m_readLawMany m_law m_readLaw m_stack m_known m_step m_steps m_now m_trial m_before m_kept m_works m_refusedSteps m_images m_spot m_begun m_doneSteps m_mixed m_fewest m_leastFees m_lots m_tars x1 x2 N9 r0 ?_ hf _ _ ls hP va_S.rf hl
  intro r1 H locs pc ls he hP hS hd
  cases he
  exact W.iret hx hb hr (fun t ht hW => ⟨⟨_, (), rfl, rfl, by rw [← ht] at hP; exact hP⟩, hS.F ht⟩) hS.2.2 hd hlk
/-! StripeTradeModel.opens (II)Z [('obj', 'm')] -/
set_option maxHeartbeats 4000000 in
set_option maxRecDepth 100000 in
theorem mpM_opens_29 {p : Program} {l : Launch} {e : Env} {R : Room} {s : State} {m : MethodId} {args : Array Value} {below : List Frame} {meth : Method} {c : Code} {cells slots : Nat} {Q : State → Prop} {g : zG} (hI : zI g 581) (hC : zC g RX10 cX10_opens 4 (some .boolean) p s m meth c args) (hR : 3 ≤ R.frames ∧ 60 * 3 ≤ R.locals ∧ cells ≤ R.cells ∧ slots ≤ R.slots) (m_thrown : Int32) (m_tape : Int32) (m_size : Int32) (m_place : Int32) (m_at : Int32) (m_fault : Int32) (m_faultAt : Int32) (m_clauses : Int32) (m_open : Int32) (m_fed : Nat → Int32) (m_refused : Nat → Int32) (m_readTold : Nat → Int32) (m_told : Nat → Int32) (m_readBeast : Nat → Nat → Int32) (m_beast : Nat → Nat → Int32) (m_readGate : Nat → Nat → Int32) (m_gate : Nat → Nat → Int32) (m_readList : Nat → Nat → Int32) (m_list : Nat → Nat → Int32) (m_lawMany : Int32) (m_readLawMany : Int32) (m_law : Nat → Nat → Int32) (m_readLaw : Nat → Nat → Int32) (m_stack : Nat → Int32) (m_known : Nat → Int32) (m_step : Nat → Nat → Int32) (m_steps : Int32) (m_now : Nat → Int32) (m_trial : Nat → Int32) (m_before : Nat → Nat → Int32) (m_kept : Nat → Nat → Int32) (m_works : Int32) (m_refusedSteps : Int32) (m_images : Int32) (m_spot : Int32) (m_begun : Int32) (m_doneSteps : Int32) (m_mixed : Nat → Int32) (m_fewest : Nat → Int32) (m_leastFees : Nat → Int32) (m_lots : Int32) (m_tars : Int32)  (N9 : Nat)   (res : Int32) (hfin : ∀ (r0 : Int32) (H : Heap) (locs : List Loc) (pc : Nat) (ls : Array Slot), r0 = res → r0 &&& 1 = r0 → va_P g.1 zcl (zM g m_thrown m_tape m_size m_place m_at m_fault m_faultAt m_clauses m_open m_fed m_refused m_readTold m_told m_readBeast m_beast m_readGate m_gate m_readList m_list m_lawMany m_readLawMany m_law m_readLaw m_stack m_known m_step m_steps m_now m_trial m_before m_kept m_works m_refusedSteps m_images m_spot m_begun m_doneSteps m_mixed m_fewest m_leastFees m_lots m_tars) H → va_S (zF g 64 580 s.heap.size) s.heap H locs → decode cX10_opens pc = .ok (.ireturn, 1) → W p l e R s m args below meth c H locs cells slots Q (F0 m pc ls [.int r0])) : ∀ (s0 : Int32), pM_opens_29 N9 s0 = some res → ∀ (H : Heap) (locs : List Loc) (ls : Array Slot), va_P g.1 zcl (zM g m_thrown m_tape m_size m_place m_at m_fault m_faultAt m_clauses m_open m_fed m_refused m_readTold m_told m_readBeast m_beast m_readGate m_gate m_readList m_list m_lawMany m_readLawMany m_law m_readLaw m_stack m_known m_step m_steps m_now m_trial m_before m_kept m_works m_refusedSteps m_images m_spot m_begun m_doneSteps m_mixed m_fewest m_leastFees m_lots m_tars) H → va_S (zF g 64 580 s.heap.size) s.heap H locs → lv_has ls 4 [] → W p l e R s m args below meth c H locs cells slots Q (F0 m 29 ls [.int s0]) := by
  obtain ⟨hx, hb, hr, hml, hown, hts, hK, hlk, hST⟩ := id hC
  have hB : ∀ q, (zF g 64 580 s.heap.size) q → zB g q := zF.base hI (Nat.le_of_ble_eq_true rfl) hST.1
  intro s0 hf H locs ls hP hS hl
  unfold pM_opens_29 at hf
  obtain ⟨hz9, hf⟩ := zite hf
  exact hfin _ H locs _ ls (Option.some.inj hf) hz9 hP hS dX10_opens_29
set_option maxHeartbeats 4000000 in
set_option maxRecDepth 100000 in
theorem mpM_opens_28 {p : Program} {l : Launch} {e : Env} {R : Room} {s : State} {m : MethodId} {args : Array Value} {below : List Frame} {meth : Method} {c : Code} {cells slots : Nat} {Q : State → Prop} {g : zG} (hI : zI g 581) (hC : zC g RX10 cX10_opens 4 (some .boolean) p s m meth c args) (hR : 3 ≤ R.frames ∧ 60 * 3 ≤ R.locals ∧ cells ≤ R.cells ∧ slots ≤ R.slots) (m_thrown : Int32) (m_tape : Int32) (m_size : Int32) (m_place : Int32) (m_at : Int32) (m_fault : Int32) (m_faultAt : Int32) (m_clauses : Int32) (m_open : Int32) (m_fed : Nat → Int32) (m_refused : Nat → Int32) (m_readTold : Nat → Int32) (m_told : Nat → Int32) (m_readBeast : Nat → Nat → Int32) (m_beast : Nat → Nat → Int32) (m_readGate : Nat → Nat → Int32) (m_gate : Nat → Nat → Int32) (m_readList : Nat → Nat → Int32) (m_list : Nat → Nat → Int32) (m_lawMany : Int32) (m_readLawMany : Int32) (m_law : Nat → Nat → Int32) (m_readLaw : Nat → Nat → Int32) (m_stack : Nat → Int32) (m_known : Nat → Int32) (m_step : Nat → Nat → Int32) (m_steps : Int32) (m_now : Nat → Int32) (m_trial : Nat → Int32) (m_before : Nat → Nat → Int32) (m_kept : Nat → Nat → Int32) (m_works : Int32) (m_refusedSteps : Int32) (m_images : Int32) (m_spot : Int32) (m_begun : Int32) (m_doneSteps : Int32) (m_mixed : Nat → Int32) (m_fewest : Nat → Int32) (m_leastFees : Nat → Int32) (m_lots : Int32) (m_tars : Int32)  (N9 : Nat)  (k29 : Int32 → Option (Int32)) (res : Int32) (hfin : ∀ (r0 : Int32) (H : Heap) (locs : List Loc) (pc : Nat) (ls : Array Slot), r0 = res → r0 &&& 1 = r0 → va_P g.1 zcl (zM g m_thrown m_tape m_size m_place m_at m_fault m_faultAt m_clauses m_open m_fed m_refused m_readTold m_told m_readBeast m_beast m_readGate m_gate m_readList m_list m_lawMany m_readLawMany m_law m_readLaw m_stack m_known m_step m_steps m_now m_trial m_before m_kept m_works m_refusedSteps m_images m_spot m_begun m_doneSteps m_mixed m_fewest m_leastFees m_lots m_tars) H → va_S (zF g 64 580 s.heap.size) s.heap H locs → decode cX10_opens pc = .ok (.ireturn, 1) → W p l e R s m args below meth c H locs cells slots Q (F0 m pc ls [.int r0])) (hk29 : ∀ (s0 : Int32), k29 s0 = some res → ∀ (H : Heap) (locs : List Loc) (ls : Array Slot), va_P g.1 zcl (zM g m_thrown m_tape m_size m_place m_at m_fault m_faultAt m_clauses m_open m_fed m_refused m_readTold m_told m_readBeast m_beast m_readGate m_gate m_readList m_list m_lawMany m_readLawMany m_law m_readLaw m_stack m_known m_step m_steps m_now m_trial m_before m_kept m_works m_refusedSteps m_images m_spot m_begun m_doneSteps m_mixed m_fewest m_leastFees m_lots m_tars) H → va_S (zF g 64 580 s.heap.size) s.heap H locs → lv_has ls 4 [] → W p l e R s m args below meth c H locs cells slots Q (F0 m 29 ls [.int s0])) : pM_opens_28 N9 k29 = some res → ∀ (H : Heap) (locs : List Loc) (ls : Array Slot), va_P g.1 zcl (zM g m_thrown m_tape m_size m_place m_at m_fault m_faultAt m_clauses m_open m_fed m_refused m_readTold m_told m_readBeast m_beast m_readGate m_gate m_readList m_list m_lawMany m_readLawMany m_law m_readLaw m_stack m_known m_step m_steps m_now m_trial m_before m_kept m_works m_refusedSteps m_images m_spot m_begun m_doneSteps m_mixed m_fewest m_leastFees m_lots m_tars) H → va_S (zF g 64 580 s.heap.size) s.heap H locs → lv_has ls 4 [] → W p l e R s m args below meth c H locs cells slots Q (F0 m 28 ls []) := by
  obtain ⟨hx, hb, hr, hml, hown, hts, hK, hlk, hST⟩ := id hC
  have hB : ∀ q, (zF g 64 580 s.heap.size) q → zB g q := zF.base hI (Nat.le_of_ble_eq_true rfl) hST.1
  intro  hf H locs ls hP hS hl
  unfold pM_opens_28 at hf
  refine lv_iconst (v := 0) hx hb dX10_opens_28 (by decide) ?_
  exact hk29 0 hf H locs ls hP hS (lv_sub hl [] rfl)
set_option maxHeartbeats 4000000 in
set_option maxRecDepth 100000 in
theorem mpM_opens {p : Program} {l : Launch} {e : Env} {R : Room} {s : State} {m : MethodId} {args : Array Value} {below : List Frame} {meth : Method} {c : Code} {cells slots : Nat} {Q : State → Prop} {g : zG} (hI : zI g 581) (hC : zC g RX10 cX10_opens 4 (some .boolean) p s m meth c args) (hR : 3 ≤ R.frames ∧ 60 * 3 ≤ R.locals ∧ cells ≤ R.cells ∧ slots ≤ R.slots) (m_thrown : Int32) (m_tape : Int32) (m_size : Int32) (m_place : Int32) (m_at : Int32) (m_fault : Int32) (m_faultAt : Int32) (m_clauses : Int32) (m_open : Int32) (m_fed : Nat → Int32) (m_refused : Nat → Int32) (m_readTold : Nat → Int32) (m_told : Nat → Int32) (m_readBeast : Nat → Nat → Int32) (m_beast : Nat → Nat → Int32) (m_readGate : Nat → Nat → Int32) (m_gate : Nat → Nat → Int32) (m_readList : Nat → Nat → Int32) (m_list : Nat → Nat → Int32) (m_lawMany : Int32) (m_readLawMany : Int32) (m_law : Nat → Nat → Int32) (m_readLaw : Nat → Nat → Int32) (m_stack : Nat → Int32) (m_known : Nat → Int32) (m_step : Nat → Nat → Int32) (m_steps : Int32) (m_now : Nat → Int32) (m_trial : Nat → Int32) (m_before : Nat → Nat → Int32) (m_kept : Nat → Nat → Int32) (m_works : Int32) (m_refusedSteps : Int32) (m_images : Int32) (m_spot : Int32) (m_begun : Int32) (m_doneSteps : Int32) (m_mixed : Nat → Int32) (m_fewest : Nat → Int32) (m_leastFees : Nat → Int32) (m_lots : Int32) (m_tars : Int32) (x1 : Int32) (x2 : Int32) (N9 : Nat)   (res : Int32) (hfin : ∀ (r0 : Int32) (H : Heap) (locs : List Loc) (pc : Nat) (ls : Array Slot), r0 = res → r0 &&& 1 = r0 → va_P g.1 zcl (zM g m_thrown m_tape m_size m_place m_at m_fault m_faultAt m_clauses m_open m_fed m_refused m_readTold m_told m_readBeast m_beast m_readGate m_gate m_readList m_list m_lawMany m_readLawMany m_law m_readLaw m_stack m_known m_step m_steps m_now m_trial m_before m_kept m_works m_refusedSteps m_images m_spot m_begun m_doneSteps m_mixed m_fewest m_leastFees m_lots m_tars) H → va_S (zF g 64 580 s.heap.size) s.heap H locs → decode cX10_opens pc = .ok (.ireturn, 1) → W p l e R s m args below meth c H locs cells slots Q (F0 m pc ls [.int r0])) : pM_opens N9 m_told m_gate m_list x1 x2 = some res → ∀ (H : Heap) (locs : List Loc) (ls : Array Slot), va_P g.1 zcl (zM g m_thrown m_tape m_size m_place m_at m_fault m_faultAt m_clauses m_open m_fed m_refused m_readTold m_told m_readBeast m_beast m_readGate m_gate m_readList m_list m_lawMany m_readLawMany m_law m_readLaw m_stack m_known m_step m_steps m_now m_trial m_before m_kept m_works m_refusedSteps m_images m_spot m_begun m_doneSteps m_mixed m_fewest m_leastFees m_lots m_tars) H → va_S (zF g 64 580 s.heap.size) s.heap H locs → lv_has ls 4 [(0, .ref (g.2.1 64)), (1, .int x1), (2, .int x2)] → W p l e R s m args below meth c H locs cells slots Q (F0 m 0 ls []) := by
  obtain ⟨hx, hb, hr, hml, hown, hts, hK, hlk, hST⟩ := id hC
  have hB : ∀ q, (zF g 64 580 s.heap.size) q → zB g q := zF.base hI (Nat.le_of_ble_eq_true rfl) hST.1
  intro  hf H locs ls hP hS hl
  have hk29 := mpM_opens_29 (l := l) (e := e) (R := R) (below := below) (cells := cells) (slots := slots) (Q := Q) hI hC hR m_thrown m_tape m_size m_place m_at m_fault m_faultAt m_clauses m_open m_fed m_refused m_readTold m_told m_readBeast m_beast m_readGate m_gate m_readList m_list m_lawMany m_readLawMany m_law m_readLaw m_stack m_known m_step m_steps m_now m_trial m_before m_kept m_works m_refusedSteps m_images m_spot m_begun m_doneSteps m_mixed m_fewest m_leastFees m_lots m_tars N9 res hfin
  have hk28 := mpM_opens_28 (l := l) (e := e) (R := R) (below := below) (cells := cells) (slots := slots) (Q := Q) hI hC hR m_thrown m_tape m_size m_place m_at m_fault m_faultAt m_clauses m_open m_fed m_refused m_readTold m_told m_readBeast m_beast m_readGate m_gate m_readList m_list m_lawMany m_readLawMany m_law m_readLaw m_stack m_known m_step m_steps m_now m_trial m_before m_kept m_works m_refusedSteps m_images m_spot m_begun m_doneSteps m_mixed m_fewest m_leastFees m_lots m_tars N9 (pM_opens_29 N9) res hfin hk29
  unfold pM_opens at hf
  refine lv_aload_n hx hb dX10_opens_0 rfl (lv_at hl 0 rfl) ?_
  refine lv_iload_n hx hb dX10_opens_1 rfl (lv_at hl 1 rfl) ?_
  refine lv_iload_n hx hb dX10_opens_2 rfl (lv_at hl 2 rfl) ?_
  obtain ⟨r_1, hf_1, hf⟩ := zb1i hf
  refine zcallVi (As := [.int x1, .int x2]) (rest := []) hC hP hS hB (fun q h => zF.mono hS.1 h) (cpM_nearOf l hI H.size m_thrown m_tape m_size m_place m_at m_fault m_faultAt m_clauses m_open m_fed m_refused m_readTold m_told m_readBeast m_beast m_readGate m_gate m_readList m_list m_lawMany m_readLawMany m_law m_readLaw m_stack m_known m_step m_steps m_now m_trial m_before m_kept m_works m_refusedSteps m_images m_spot m_begun m_doneSteps m_mixed m_fewest m_leastFees m_lots m_tars x1 x2 N9 hf_1) (hC.ml mw_1677) yo_X10_nearOf 0 (zfM rfl) rfl rfl rfl hl.1 rfl (Nat.le_of_ble_eq_true rfl) ⟨by omega, by omega⟩ hR.2.2 dX10_opens_3 (fun H locs hP hS _ _ => ?_)
  refine lv_istore_n (lv' := [(3, .int r_1), (0, .ref (g.2.1 64)), (1, .int x1), (2, .int x2)]) hx hb dX10_opens_6 rfl hl (by decide) rfl (fun ls hl => ?_)
  refine lv_iload_n hx hb dX10_opens_7 rfl (lv_at hl 0 rfl) ?_
  refine lv_iconst (v := (-1)) hx hb dX10_opens_8 (by decide) ?_
  refine lv_icmp_eq (tgt := 28) hx hb dX10_opens_9 (by decide) (fun hc_2 => ?_) (fun hc_2 => ?_)
  · have hf := zifp hc_2 hf
    exact hk28  hf H locs ls hP hS (lv_sub hl [] rfl)
  · have hf := zifn hc_2 hf
    refine lv_iload_n hx hb dX10_opens_12 rfl (lv_at hl 0 rfl) ?_
    refine lv_aload_n hx hb dX10_opens_13 rfl (lv_at hl 1 rfl) ?_
    refine zr_m_gate hC hP (hC.fl mw_1405) dX10_opens_14 ?_
    refine lv_iload_n hx hb dX10_opens_17 rfl (lv_at hl 3 rfl) ?_
    obtain ⟨hz_3, hf⟩ := zite hf
    refine zq_m_gate hC hP hz_3 dX10_opens_18 ?_
    refine lv_iconst (v := 0) hx hb dX10_opens_19 (by decide) ?_
    obtain ⟨hz_4, hf⟩ := zite hf
    refine zl_m_gate hC hP hz_3 hz_4 dX10_opens_20 ?_
    refine lv_icmp_gt (tgt := 28) hx hb dX10_opens_21 (by decide) (fun hc_5 => ?_) (fun hc_5 => ?_)
    · have hf := zifp hc_5 hf
      exact hk28  hf H locs ls hP hS (lv_sub hl [] rfl)
    · have hf := zifn hc_5 hf
      refine lv_iconst (v := 1) hx hb dX10_opens_24 (by decide) ?_
      refine lv_goto (tgt := 29) hx hb dX10_opens_25 (by decide) ?_
      exact hk29 1 hf H locs ls hP hS (lv_sub hl [] rfl)
set_option maxHeartbeats 4000000 in
set_option maxRecDepth 100000 in
theorem cpM_opens (l : Launch) {g : zG} (hI : zI g 581) (sz : Nat) (m_thrown : Int32) (m_tape : Int32) (m_size : Int32) (m_place : Int32) (m_at : Int32) (m_fault : Int32) (m_faultAt : Int32) (m_clauses : Int32) (m_open : Int32) (m_fed : Nat → Int32) (m_refused : Nat → Int32) (m_readTold : Nat → Int32) (m_told : Nat → Int32) (m_readBeast : Nat → Nat → Int32) (m_beast : Nat → Nat → Int32) (m_readGate : Nat → Nat → Int32) (m_gate : Nat → Nat → Int32) (m_readList : Nat → Nat → Int32) (m_list : Nat → Nat → Int32) (m_lawMany : Int32) (m_readLawMany : Int32) (m_law : Nat → Nat → Int32) (m_readLaw : Nat → Nat → Int32) (m_stack : Nat → Int32) (m_known : Nat → Int32) (m_step : Nat → Nat → Int32) (m_steps : Int32) (m_now : Nat → Int32) (m_trial : Nat → Int32) (m_before : Nat → Nat → Int32) (m_kept : Nat → Nat → Int32) (m_works : Int32) (m_refusedSteps : Int32) (m_images : Int32) (m_spot : Int32) (m_begun : Int32) (m_doneSteps : Int32) (m_mixed : Nat → Int32) (m_fewest : Nat → Int32) (m_leastFees : Nat → Int32) (m_lots : Int32) (m_tars : Int32) (x1 : Int32)  (x2 : Int32) (N9 : Nat) {r0 : Int32} (hf : pM_opens N9  m_told m_gate m_list x1 x2 = some r0) : zMi l yX10_opens cX10_opens 4 (some .boolean) 3 g (zM g m_thrown m_tape m_size m_place m_at m_fault m_faultAt m_clauses m_open m_fed m_refused m_readTold m_told m_readBeast m_beast m_readGate m_gate m_readList m_list m_lawMany m_readLawMany m_law m_readLaw m_stack m_known m_step m_steps m_now m_trial m_before m_kept m_works m_refusedSteps m_images m_spot m_begun m_doneSteps m_mixed m_fewest m_leastFees m_lots m_tars) (zM g m_thrown m_tape m_size m_place m_at m_fault m_faultAt m_clauses m_open m_fed m_refused m_readTold m_told m_readBeast m_beast m_readGate m_gate m_readList m_list m_lawMany m_readLawMany m_law m_readLaw m_stack m_known m_step m_steps m_now m_trial m_before m_kept m_works m_refusedSteps m_images m_spot m_begun m_doneSteps m_mixed m_fewest m_leastFees m_lots m_tars) sz (zF g 64 580 sz) [.ref (g.2.1 64), .int x1, .int x2] r0 := by
  refine Met.ofW (cc := cX10_opens) (maxL := 4) (ret := (some .boolean)) (by decide +kernel) rfl ?_
  intro p e s m args below meth c s₁ B hml hv
  obtain ⟨rfl, hsz, hP, hK, hST⟩ := hv
  subst hsz
  have hC := zstart (own := RX10) rfl B hml hK hST
  have hl := lv_entry ([.ref (g.2.1 64), .int x1, .int x2]) (n := 4) (Nat.le_of_ble_eq_true rfl)
  rw [lg_entry_eq]
  generalize (lg_sl ([.ref (g.2.1 64), .int x1, .int x2]) ++ List.replicate (4 - (lg_sl ([.ref (g.2.1 64), .int x1, .int x2])).length) Slot.unset).toArray = ls at hl ⊢
  have hl : lv_has ls 4 [(0, .ref (g.2.1 64)), (1, .int x1), (2, .int x2)] := hl
  obtain ⟨hx, hb, hr, hml, hown, hts, hK, hlk, hST⟩ := id hC
  refine mpM_opens hI hC ⟨Nat.le_refl _, Nat.le_refl _, Nat.le_refl _, Nat.le_refl _⟩ m_thrown m_tape m_size m_place m_at m_fault m_faultAt m_clauses m_open m_fed m_refused m_readTold m_told m_readBeast m_beast m_readGate m_gate m_readList m_list m_lawMany m_readLawMany m_law m_readLaw m_stack m_known m_step m_steps m_now m_trial m_before m_kept m_works m_refusedSteps m_images m_spot m_begun m_doneSteps m_mixed m_fewest m_leastFees m_lots m_tars x1 x2 N9 r0 ?_ hf _ _ ls hP va_S.rf hl
  intro r1 H locs pc ls he hz hP hS hd
  cases he
  exact W.zret hx hb hr (congrArg Value.int hz) (fun t ht hW => ⟨⟨_, (), rfl, rfl, by rw [← ht] at hP; exact hP⟩, hS.F ht⟩) hS.2.2 hd hlk
/-! StripeTradeModel.feeBy (IIIIIIII)I [('obj', 'm')] -/
set_option maxHeartbeats 4000000 in
set_option maxRecDepth 100000 in
theorem mpM_feeBy {p : Program} {l : Launch} {e : Env} {R : Room} {s : State} {m : MethodId} {args : Array Value} {below : List Frame} {meth : Method} {c : Code} {cells slots : Nat} {Q : State → Prop} {g : zG} (hI : zI g 581) (hC : zC g RX10 cX10_feeBy 9 (some .int) p s m meth c args) (hR : 4 ≤ R.frames ∧ 60 * 4 ≤ R.locals ∧ cells ≤ R.cells ∧ slots ≤ R.slots) (m_thrown : Int32) (m_tape : Int32) (m_size : Int32) (m_place : Int32) (m_at : Int32) (m_fault : Int32) (m_faultAt : Int32) (m_clauses : Int32) (m_open : Int32) (m_fed : Nat → Int32) (m_refused : Nat → Int32) (m_readTold : Nat → Int32) (m_told : Nat → Int32) (m_readBeast : Nat → Nat → Int32) (m_beast : Nat → Nat → Int32) (m_readGate : Nat → Nat → Int32) (m_gate : Nat → Nat → Int32) (m_readList : Nat → Nat → Int32) (m_list : Nat → Nat → Int32) (m_lawMany : Int32) (m_readLawMany : Int32) (m_law : Nat → Nat → Int32) (m_readLaw : Nat → Nat → Int32) (m_stack : Nat → Int32) (m_known : Nat → Int32) (m_step : Nat → Nat → Int32) (m_steps : Int32) (m_now : Nat → Int32) (m_trial : Nat → Int32) (m_before : Nat → Nat → Int32) (m_kept : Nat → Nat → Int32) (m_works : Int32) (m_refusedSteps : Int32) (m_images : Int32) (m_spot : Int32) (m_begun : Int32) (m_doneSteps : Int32) (m_mixed : Nat → Int32) (m_fewest : Nat → Int32) (m_leastFees : Nat → Int32) (m_lots : Int32) (m_tars : Int32) (x1 : Int32) (x2 : Int32) (x3 : Int32) (x4 : Int32) (x5 : Int32) (x6 : Int32) (x7 : Int32) (x8 : Int32) (N9 : Nat)   (res : Int32 × (Nat → Int32) × (Nat → Int32)) (hfin : ∀ (r0 : Int32) (m_stack : Nat → Int32) (m_known : Nat → Int32) (H : Heap) (locs : List Loc) (pc : Nat) (ls : Array Slot), (r0, m_stack, m_known) = res → va_P g.1 zcl (zM g m_thrown m_tape m_size m_place m_at m_fault m_faultAt m_clauses m_open m_fed m_refused m_readTold m_told m_readBeast m_beast m_readGate m_gate m_readList m_list m_lawMany m_readLawMany m_law m_readLaw m_stack m_known m_step m_steps m_now m_trial m_before m_kept m_works m_refusedSteps m_images m_spot m_begun m_doneSteps m_mixed m_fewest m_leastFees m_lots m_tars) H → va_S (zF g 64 580 s.heap.size) s.heap H locs → decode cX10_feeBy pc = .ok (.ireturn, 1) → W p l e R s m args below meth c H locs cells slots Q (F0 m pc ls [.int r0])) : pM_feeBy N9 m_lawMany m_law m_stack m_known x1 x2 x3 x4 x5 x6 x7 x8 = some res → ∀ (H : Heap) (locs : List Loc) (ls : Array Slot), va_P g.1 zcl (zM g m_thrown m_tape m_size m_place m_at m_fault m_faultAt m_clauses m_open m_fed m_refused m_readTold m_told m_readBeast m_beast m_readGate m_gate m_readList m_list m_lawMany m_readLawMany m_law m_readLaw m_stack m_known m_step m_steps m_now m_trial m_before m_kept m_works m_refusedSteps m_images m_spot m_begun m_doneSteps m_mixed m_fewest m_leastFees m_lots m_tars) H → va_S (zF g 64 580 s.heap.size) s.heap H locs → lv_has ls 9 [(0, .ref (g.2.1 64)), (1, .int x1), (2, .int x2), (3, .int x3), (4, .int x4), (5, .int x5), (6, .int x6), (7, .int x7), (8, .int x8)] → W p l e R s m args below meth c H locs cells slots Q (F0 m 0 ls []) := by
  obtain ⟨hx, hb, hr, hml, hown, hts, hK, hlk, hST⟩ := id hC
  have hB : ∀ q, (zF g 64 580 s.heap.size) q → zB g q := zF.base hI (Nat.le_of_ble_eq_true rfl) hST.1
  intro  hf H locs ls hP hS hl
  unfold pM_feeBy at hf
  refine lv_aload_n hx hb dX10_feeBy_0 rfl (lv_at hl 0 rfl) ?_
  refine zr_m_known hC hP (hC.fl mw_1413) dX10_feeBy_1 ?_
  refine lv_iconst (v := 0) hx hb dX10_feeBy_4 (by decide) ?_
  refine lv_iload_n hx hb dX10_feeBy_5 rfl (lv_at hl 1 rfl) ?_
  obtain ⟨hz_1, hf⟩ := zite hf
  refine zs_m_known hC hP hI (fun k h1 h2 => zF.own h1 h2) hS hz_1 dX10_feeBy_6 (fun H locs hP hS => ?_)
  refine lv_aload_n hx hb dX10_feeBy_7 rfl (lv_at hl 0 rfl) ?_
  refine zr_m_known hC hP (hC.fl mw_1413) dX10_feeBy_8 ?_
  refine lv_iconst (v := 1) hx hb dX10_feeBy_11 (by decide) ?_
  refine lv_iload_n hx hb dX10_feeBy_12 rfl (lv_at hl 2 rfl) ?_
  obtain ⟨hz_2, hf⟩ := zite hf
  refine zs_m_known hC hP hI (fun k h1 h2 => zF.own h1 h2) hS hz_2 dX10_feeBy_13 (fun H locs hP hS => ?_)
  refine lv_aload_n hx hb dX10_feeBy_14 rfl (lv_at hl 0 rfl) ?_
  refine zr_m_known hC hP (hC.fl mw_1413) dX10_feeBy_15 ?_
  refine lv_iconst (v := 2) hx hb dX10_feeBy_18 (by decide) ?_
  refine lv_iload_n hx hb dX10_feeBy_19 rfl (lv_at hl 3 rfl) ?_
  obtain ⟨hz_3, hf⟩ := zite hf
  refine zs_m_known hC hP hI (fun k h1 h2 => zF.own h1 h2) hS hz_3 dX10_feeBy_20 (fun H locs hP hS => ?_)
  refine lv_aload_n hx hb dX10_feeBy_21 rfl (lv_at hl 0 rfl) ?_
  refine zr_m_known hC hP (hC.fl mw_1413) dX10_feeBy_22 ?_
  refine lv_iconst (v := 3) hx hb dX10_feeBy_25 (by decide) ?_
  refine lv_iload hx hb dX10_feeBy_26 (lv_at hl 4 rfl) ?_
  obtain ⟨hz_4, hf⟩ := zite hf
  refine zs_m_known hC hP hI (fun k h1 h2 => zF.own h1 h2) hS hz_4 dX10_feeBy_28 (fun H locs hP hS => ?_)
  refine lv_aload_n hx hb dX10_feeBy_29 rfl (lv_at hl 0 rfl) ?_
  refine zr_m_known hC hP (hC.fl mw_1413) dX10_feeBy_30 ?_
  refine lv_iconst (v := 4) hx hb dX10_feeBy_33 (by decide) ?_
  refine lv_iload hx hb dX10_feeBy_34 (lv_at hl 5 rfl) ?_
  obtain ⟨hz_5, hf⟩ := zite hf
  refine zs_m_known hC hP hI (fun k h1 h2 => zF.own h1 h2) hS hz_5 dX10_feeBy_36 (fun H locs hP hS => ?_)
  obtain ⟨m_known_6, em_known_6⟩ : ∃ y, y = upd (upd (upd (upd (upd m_known (0 : Int32).toNatClampNeg x1) (1 : Int32).toNatClampNeg x2) (2 : Int32).toNatClampNeg x3) (3 : Int32).toNatClampNeg x4) (4 : Int32).toNatClampNeg x5 := ⟨_, rfl⟩
  rw [← em_known_6] at hP
  have hf := zleti em_known_6 hf
  refine lv_aload_n hx hb dX10_feeBy_37 rfl (lv_at hl 0 rfl) ?_
  refine zr_m_known hC hP (hC.fl mw_1413) dX10_feeBy_38 ?_
  refine lv_iconst (v := 5) hx hb dX10_feeBy_41 (by decide) ?_
  refine lv_iload hx hb dX10_feeBy_42 (lv_at hl 6 rfl) ?_
  obtain ⟨hz_7, hf⟩ := zite hf
  refine zs_m_known hC hP hI (fun k h1 h2 => zF.own h1 h2) hS hz_7 dX10_feeBy_44 (fun H locs hP hS => ?_)
  refine lv_aload_n hx hb dX10_feeBy_45 rfl (lv_at hl 0 rfl) ?_
  refine zr_m_known hC hP (hC.fl mw_1413) dX10_feeBy_46 ?_
  refine lv_bipush (v := 6) hx hb dX10_feeBy_49 (by decide) ?_
  refine lv_iload hx hb dX10_feeBy_51 (lv_at hl 7 rfl) ?_
  obtain ⟨hz_8, hf⟩ := zite hf
  refine zs_m_known hC hP hI (fun k h1 h2 => zF.own h1 h2) hS hz_8 dX10_feeBy_53 (fun H locs hP hS => ?_)
  refine lv_aload_n hx hb dX10_feeBy_54 rfl (lv_at hl 0 rfl) ?_
  refine zr_m_known hC hP (hC.fl mw_1413) dX10_feeBy_55 ?_
  refine lv_bipush (v := 7) hx hb dX10_feeBy_58 (by decide) ?_
  refine lv_iload hx hb dX10_feeBy_60 (lv_at hl 8 rfl) ?_
  obtain ⟨hz_9, hf⟩ := zite hf
  refine zs_m_known hC hP hI (fun k h1 h2 => zF.own h1 h2) hS hz_9 dX10_feeBy_62 (fun H locs hP hS => ?_)
  refine lv_aload_n hx hb dX10_feeBy_63 rfl (lv_at hl 0 rfl) ?_
  obtain ⟨r_10, m_stack_10, hf_10, hf⟩ := zb2i hf
  refine zcallVi (As := []) (rest := []) hC hP hS hB (fun q h => zF.mono hS.1 h) (cpM_byLaw l hI H.size m_thrown m_tape m_size m_place m_at m_fault m_faultAt m_clauses m_open m_fed m_refused m_readTold m_told m_readBeast m_beast m_readGate m_gate m_readList m_list m_lawMany m_readLawMany m_law m_readLaw m_stack (upd (upd (upd m_known_6 (5 : Int32).toNatClampNeg x6) (6 : Int32).toNatClampNeg x7) (7 : Int32).toNatClampNeg x8) m_step m_steps m_now m_trial m_before m_kept m_works m_refusedSteps m_images m_spot m_begun m_doneSteps m_mixed m_fewest m_leastFees m_lots m_tars  N9 hf_10) (hC.ml mw_1692) yo_X10_byLaw 0 (zfM rfl) rfl rfl rfl hl.1 rfl (Nat.le_of_ble_eq_true rfl) ⟨by omega, by omega⟩ hR.2.2 dX10_feeBy_64 (fun H locs hP hS _ _ => ?_)
  exact hfin _ _ _ H locs _ ls (Option.some.inj hf) hP hS dX10_feeBy_67
set_option maxHeartbeats 4000000 in
set_option maxRecDepth 100000 in
theorem cpM_feeBy (l : Launch) {g : zG} (hI : zI g 581) (sz : Nat) (m_thrown : Int32) (m_tape : Int32) (m_size : Int32) (m_place : Int32) (m_at : Int32) (m_fault : Int32) (m_faultAt : Int32) (m_clauses : Int32) (m_open : Int32) (m_fed : Nat → Int32) (m_refused : Nat → Int32) (m_readTold : Nat → Int32) (m_told : Nat → Int32) (m_readBeast : Nat → Nat → Int32) (m_beast : Nat → Nat → Int32) (m_readGate : Nat → Nat → Int32) (m_gate : Nat → Nat → Int32) (m_readList : Nat → Nat → Int32) (m_list : Nat → Nat → Int32) (m_lawMany : Int32) (m_readLawMany : Int32) (m_law : Nat → Nat → Int32) (m_readLaw : Nat → Nat → Int32) (m_stack : Nat → Int32) (m_known : Nat → Int32) (m_step : Nat → Nat → Int32) (m_steps : Int32) (m_now : Nat → Int32) (m_trial : Nat → Int32) (m_before : Nat → Nat → Int32) (m_kept : Nat → Nat → Int32) (m_works : Int32) (m_refusedSteps : Int32) (m_images : Int32) (m_spot : Int32) (m_begun : Int32) (m_doneSteps : Int32) (m_mixed : Nat → Int32) (m_fewest : Nat → Int32) (m_leastFees : Nat → Int32) (m_lots : Int32) (m_tars : Int32) (x1 : Int32)  (x2 : Int32)  (x3 : Int32)  (x4 : Int32)  (x5 : Int32)  (x6 : Int32)  (x7 : Int32)  (x8 : Int32) (N9 : Nat) {r0 : Int32} {m_stack' : Nat → Int32} {m_known' : Nat → Int32} (hf : pM_feeBy N9  m_lawMany m_law m_stack m_known x1 x2 x3 x4 x5 x6 x7 x8 = some (r0, m_stack', m_known')) : zMi l yX10_feeBy cX10_feeBy 9 (some .int) 4 g (zM g m_thrown m_tape m_size m_place m_at m_fault m_faultAt m_clauses m_open m_fed m_refused m_readTold m_told m_readBeast m_beast m_readGate m_gate m_readList m_list m_lawMany m_readLawMany m_law m_readLaw m_stack m_known m_step m_steps m_now m_trial m_before m_kept m_works m_refusedSteps m_images m_spot m_begun m_doneSteps m_mixed m_fewest m_leastFees m_lots m_tars) (zM g m_thrown m_tape m_size m_place m_at m_fault m_faultAt m_clauses m_open m_fed m_refused m_readTold m_told m_readBeast m_beast m_readGate m_gate m_readList m_list m_lawMany m_readLawMany m_law m_readLaw m_stack' m_known' m_step m_steps m_now m_trial m_before m_kept m_works m_refusedSteps m_images m_spot m_begun m_doneSteps m_mixed m_fewest m_leastFees m_lots m_tars) sz (zF g 64 580 sz) [.ref (g.2.1 64), .int x1, .int x2, .int x3, .int x4, .int x5, .int x6, .int x7, .int x8] r0 := by
  refine Met.ofW (cc := cX10_feeBy) (maxL := 9) (ret := (some .int)) (by decide +kernel) rfl ?_
  intro p e s m args below meth c s₁ B hml hv
  obtain ⟨rfl, hsz, hP, hK, hST⟩ := hv
  subst hsz
  have hC := zstart (own := RX10) rfl B hml hK hST
  have hl := lv_entry ([.ref (g.2.1 64), .int x1, .int x2, .int x3, .int x4, .int x5, .int x6, .int x7, .int x8]) (n := 9) (Nat.le_of_ble_eq_true rfl)
  rw [lg_entry_eq]
  generalize (lg_sl ([.ref (g.2.1 64), .int x1, .int x2, .int x3, .int x4, .int x5, .int x6, .int x7, .int x8]) ++ List.replicate (9 - (lg_sl ([.ref (g.2.1 64), .int x1, .int x2, .int x3, .int x4, .int x5, .int x6, .int x7, .int x8])).length) Slot.unset).toArray = ls at hl ⊢
  have hl : lv_has ls 9 [(0, .ref (g.2.1 64)), (1, .int x1), (2, .int x2), (3, .int x3), (4, .int x4), (5, .int x5), (6, .int x6), (7, .int x7), (8, .int x8)] := hl
  obtain ⟨hx, hb, hr, hml, hown, hts, hK, hlk, hST⟩ := id hC
  refine mpM_feeBy hI hC ⟨Nat.le_refl _, Nat.le_refl _, Nat.le_refl _, Nat.le_refl _⟩ m_thrown m_tape m_size m_place m_at m_fault m_faultAt m_clauses m_open m_fed m_refused m_readTold m_told m_readBeast m_beast m_readGate m_gate m_readList m_list m_lawMany m_readLawMany m_law m_readLaw m_stack m_known m_step m_steps m_now m_trial m_before m_kept m_works m_refusedSteps m_images m_spot m_begun m_doneSteps m_mixed m_fewest m_leastFees m_lots m_tars x1 x2 x3 x4 x5 x6 x7 x8 N9 (r0, m_stack', m_known') ?_ hf _ _ ls hP va_S.rf hl
  intro r1 m_stack1 m_known1 H locs pc ls he hP hS hd
  cases he
  exact W.iret hx hb hr (fun t ht hW => ⟨⟨_, (), rfl, rfl, by rw [← ht] at hP; exact hP⟩, hS.F ht⟩) hS.2.2 hd hlk
/-! StripeTradeModel.yearEnds ([I)V [('arr', 'm_now')] -/
set_option maxHeartbeats 4000000 in
set_option maxRecDepth 100000 in
theorem mpM_yearEnds_10 {p : Program} {l : Launch} {e : Env} {R : Room} {s : State} {m : MethodId} {args : Array Value} {below : List Frame} {meth : Method} {c : Code} {cells slots : Nat} {Q : State → Prop} {g : zG} (hI : zI g 581) (hC : zC g RX10 cX10_yearEnds 2 none p s m meth c args) (hR : 1 ≤ R.frames ∧ 60 * 1 ≤ R.locals ∧ cells ≤ R.cells ∧ slots ≤ R.slots) (m_thrown : Int32) (m_tape : Int32) (m_size : Int32) (m_place : Int32) (m_at : Int32) (m_fault : Int32) (m_faultAt : Int32) (m_clauses : Int32) (m_open : Int32) (m_fed : Nat → Int32) (m_refused : Nat → Int32) (m_readTold : Nat → Int32) (m_told : Nat → Int32) (m_readBeast : Nat → Nat → Int32) (m_beast : Nat → Nat → Int32) (m_readGate : Nat → Nat → Int32) (m_gate : Nat → Nat → Int32) (m_readList : Nat → Nat → Int32) (m_list : Nat → Nat → Int32) (m_lawMany : Int32) (m_readLawMany : Int32) (m_law : Nat → Nat → Int32) (m_readLaw : Nat → Nat → Int32) (m_stack : Nat → Int32) (m_known : Nat → Int32) (m_step : Nat → Nat → Int32) (m_steps : Int32) (m_trial : Nat → Int32) (m_before : Nat → Nat → Int32) (m_kept : Nat → Nat → Int32) (m_works : Int32) (m_refusedSteps : Int32) (m_images : Int32) (m_spot : Int32) (m_begun : Int32) (m_doneSteps : Int32) (m_mixed : Nat → Int32) (m_fewest : Nat → Int32) (m_leastFees : Nat → Int32) (m_lots : Int32) (m_tars : Int32)  (N9 : Nat)   (res : Nat → Int32) (hfin : ∀ (m_now : Nat → Int32) (H : Heap) (locs : List Loc) (pc : Nat) (ls : Array Slot), m_now = res → va_P g.1 zcl (zM g m_thrown m_tape m_size m_place m_at m_fault m_faultAt m_clauses m_open m_fed m_refused m_readTold m_told m_readBeast m_beast m_readGate m_gate m_readList m_list m_lawMany m_readLawMany m_law m_readLaw m_stack m_known m_step m_steps m_now m_trial m_before m_kept m_works m_refusedSteps m_images m_spot m_begun m_doneSteps m_mixed m_fewest m_leastFees m_lots m_tars) H → va_S (zF g 64 580 s.heap.size) s.heap H locs → decode cX10_yearEnds pc = .ok (.return_, 1) → W p l e R s m args below meth c H locs cells slots Q (F0 m pc ls [])) : ∀ (n9 : Nat) (m_now : Nat → Int32) (x1 : Int32), pM_yearEnds_10 N9 n9 m_now x1 = some res → ∀ (H : Heap) (locs : List Loc) (ls : Array Slot), va_P g.1 zcl (zM g m_thrown m_tape m_size m_place m_at m_fault m_faultAt m_clauses m_open m_fed m_refused m_readTold m_told m_readBeast m_beast m_readGate m_gate m_readList m_list m_lawMany m_readLawMany m_law m_readLaw m_stack m_known m_step m_steps m_now m_trial m_before m_kept m_works m_refusedSteps m_images m_spot m_begun m_doneSteps m_mixed m_fewest m_leastFees m_lots m_tars) H → va_S (zF g 64 580 s.heap.size) s.heap H locs → lv_has ls 2 [(0, .ref (g.2.1 80)), (1, .int x1)] → W p l e R s m args below meth c H locs cells slots Q (F0 m 10 ls []) := by
  obtain ⟨hx, hb, hr, hml, hown, hts, hK, hlk, hST⟩ := id hC
  have hB : ∀ q, (zF g 64 580 s.heap.size) q → zB g q := zF.base hI (Nat.le_of_ble_eq_true rfl) hST.1
  intro n9
  induction n9 with
  | zero => intro m_now x1 hf; cases hf
  | succ n9 ih =>
    intro m_now x1 hf H locs ls hP hS hl
    have hk10 := ih
    unfold pM_yearEnds_10 at hf
    refine lv_iload_n hx hb dX10_yearEnds_10 rfl (lv_at hl 1 rfl) ?_
    refine lv_aload_n hx hb dX10_yearEnds_11 rfl (lv_at hl 0 rfl) ?_
    refine lv_bipush (v := 42) hx hb dX10_yearEnds_12 (by decide) ?_
    obtain ⟨hz_1, hf⟩ := zite hf
    refine zl_m_now hC hP hz_1 dX10_yearEnds_14 ?_
    refine lv_icmp_ge (tgt := 34) hx hb dX10_yearEnds_15 (by decide) (fun hc_2 => ?_) (fun hc_2 => ?_)
    · have hf := zifp hc_2 hf
      exact hfin _ H locs _ ls (Option.some.inj hf) hP hS dX10_yearEnds_34
    · have hf := zifn hc_2 hf
      refine lv_aload_n hx hb dX10_yearEnds_18 rfl (lv_at hl 0 rfl) ?_
      refine lv_bipush (v := 16) hx hb dX10_yearEnds_19 (by decide) ?_
      refine lv_iload_n hx hb dX10_yearEnds_21 rfl (lv_at hl 1 rfl) ?_
      refine lv_iadd hx hb dX10_yearEnds_22 ?_
      refine lv_dup2_11 hx hb dX10_yearEnds_23 rfl rfl ?_
      obtain ⟨hz_3, hf⟩ := zite hf
      refine zl_m_now hC hP hz_3 dX10_yearEnds_24 ?_
      refine lv_iconst (v := 1) hx hb dX10_yearEnds_25 (by decide) ?_
      refine lv_iadd hx hb dX10_yearEnds_26 ?_
      refine lv_topi (fun v_4 ev_4 => ?_)
      have hf := zleti ev_4 hf
      refine zs_m_now hC hP hI (fun k h1 h2 => zF.own h1 h2) hS hz_3 dX10_yearEnds_27 (fun H locs hP hS => ?_)
      refine lv_iinc (v := x1 + 1) (lv' := [(1, .int (x1 + 1)), (0, .ref (g.2.1 80))]) hx hb dX10_yearEnds_28 hl (k := 1) rfl rfl (by decide) rfl (fun ls hl => ?_)
      refine lv_goto (tgt := 10) hx hb dX10_yearEnds_31 (by decide) ?_
      exact hk10 (upd m_now (16 + x1).toNatClampNeg v_4) (x1 + 1) hf H locs ls hP hS (lv_sub hl [1, 0] rfl)
set_option maxHeartbeats 4000000 in
set_option maxRecDepth 100000 in
theorem mpM_yearEnds {p : Program} {l : Launch} {e : Env} {R : Room} {s : State} {m : MethodId} {args : Array Value} {below : List Frame} {meth : Method} {c : Code} {cells slots : Nat} {Q : State → Prop} {g : zG} (hI : zI g 581) (hC : zC g RX10 cX10_yearEnds 2 none p s m meth c args) (hR : 1 ≤ R.frames ∧ 60 * 1 ≤ R.locals ∧ cells ≤ R.cells ∧ slots ≤ R.slots) (m_thrown : Int32) (m_tape : Int32) (m_size : Int32) (m_place : Int32) (m_at : Int32) (m_fault : Int32) (m_faultAt : Int32) (m_clauses : Int32) (m_open : Int32) (m_fed : Nat → Int32) (m_refused : Nat → Int32) (m_readTold : Nat → Int32) (m_told : Nat → Int32) (m_readBeast : Nat → Nat → Int32) (m_beast : Nat → Nat → Int32) (m_readGate : Nat → Nat → Int32) (m_gate : Nat → Nat → Int32) (m_readList : Nat → Nat → Int32) (m_list : Nat → Nat → Int32) (m_lawMany : Int32) (m_readLawMany : Int32) (m_law : Nat → Nat → Int32) (m_readLaw : Nat → Nat → Int32) (m_stack : Nat → Int32) (m_known : Nat → Int32) (m_step : Nat → Nat → Int32) (m_steps : Int32) (m_now : Nat → Int32) (m_trial : Nat → Int32) (m_before : Nat → Nat → Int32) (m_kept : Nat → Nat → Int32) (m_works : Int32) (m_refusedSteps : Int32) (m_images : Int32) (m_spot : Int32) (m_begun : Int32) (m_doneSteps : Int32) (m_mixed : Nat → Int32) (m_fewest : Nat → Int32) (m_leastFees : Nat → Int32) (m_lots : Int32) (m_tars : Int32)  (N9 : Nat)   (res : Nat → Int32) (hfin : ∀ (m_now : Nat → Int32) (H : Heap) (locs : List Loc) (pc : Nat) (ls : Array Slot), m_now = res → va_P g.1 zcl (zM g m_thrown m_tape m_size m_place m_at m_fault m_faultAt m_clauses m_open m_fed m_refused m_readTold m_told m_readBeast m_beast m_readGate m_gate m_readList m_list m_lawMany m_readLawMany m_law m_readLaw m_stack m_known m_step m_steps m_now m_trial m_before m_kept m_works m_refusedSteps m_images m_spot m_begun m_doneSteps m_mixed m_fewest m_leastFees m_lots m_tars) H → va_S (zF g 64 580 s.heap.size) s.heap H locs → decode cX10_yearEnds pc = .ok (.return_, 1) → W p l e R s m args below meth c H locs cells slots Q (F0 m pc ls [])) : pM_yearEnds N9 m_now = some res → ∀ (H : Heap) (locs : List Loc) (ls : Array Slot), va_P g.1 zcl (zM g m_thrown m_tape m_size m_place m_at m_fault m_faultAt m_clauses m_open m_fed m_refused m_readTold m_told m_readBeast m_beast m_readGate m_gate m_readList m_list m_lawMany m_readLawMany m_law m_readLaw m_stack m_known m_step m_steps m_now m_trial m_before m_kept m_works m_refusedSteps m_images m_spot m_begun m_doneSteps m_mixed m_fewest m_leastFees m_lots m_tars) H → va_S (zF g 64 580 s.heap.size) s.heap H locs → lv_has ls 2 [(0, .ref (g.2.1 80))] → W p l e R s m args below meth c H locs cells slots Q (F0 m 0 ls []) := by
  obtain ⟨hx, hb, hr, hml, hown, hts, hK, hlk, hST⟩ := id hC
  have hB : ∀ q, (zF g 64 580 s.heap.size) q → zB g q := zF.base hI (Nat.le_of_ble_eq_true rfl) hST.1
  intro  hf H locs ls hP hS hl
  have hk10 := mpM_yearEnds_10 (l := l) (e := e) (R := R) (below := below) (cells := cells) (slots := slots) (Q := Q) hI hC hR m_thrown m_tape m_size m_place m_at m_fault m_faultAt m_clauses m_open m_fed m_refused m_readTold m_told m_readBeast m_beast m_readGate m_gate m_readList m_list m_lawMany m_readLawMany m_law m_readLaw m_stack m_known m_step m_steps m_trial m_before m_kept m_works m_refusedSteps m_images m_spot m_begun m_doneSteps m_mixed m_fewest m_leastFees m_lots m_tars N9 res hfin N9
  unfold pM_yearEnds at hf
  refine lv_aload_n hx hb dX10_yearEnds_0 rfl (lv_at hl 0 rfl) ?_
  refine lv_bipush (v := 44) hx hb dX10_yearEnds_1 (by decide) ?_
  refine lv_dup2_11 hx hb dX10_yearEnds_3 rfl rfl ?_
  obtain ⟨hz_5, hf⟩ := zite hf
  refine zl_m_now hC hP hz_5 dX10_yearEnds_4 ?_
  refine lv_iconst (v := 1) hx hb dX10_yearEnds_5 (by decide) ?_
  refine lv_iadd hx hb dX10_yearEnds_6 ?_
  refine lv_topi (fun v_6 ev_6 => ?_)
  have hf := zleti ev_6 hf
  refine zs_m_now hC hP hI (fun k h1 h2 => zF.own h1 h2) hS hz_5 dX10_yearEnds_7 (fun H locs hP hS => ?_)
  refine lv_iconst (v := 0) hx hb dX10_yearEnds_8 (by decide) ?_
  refine lv_istore_n (lv' := [(1, .int 0), (0, .ref (g.2.1 80))]) hx hb dX10_yearEnds_9 rfl hl (by decide) rfl (fun ls hl => ?_)
  exact hk10 (upd m_now (44 : Int32).toNatClampNeg v_6) 0 hf H locs ls hP hS (lv_sub hl [1, 0] rfl)
set_option maxHeartbeats 4000000 in
set_option maxRecDepth 100000 in
theorem cpM_yearEnds (l : Launch) {g : zG} (hI : zI g 581) (sz : Nat) (m_thrown : Int32) (m_tape : Int32) (m_size : Int32) (m_place : Int32) (m_at : Int32) (m_fault : Int32) (m_faultAt : Int32) (m_clauses : Int32) (m_open : Int32) (m_fed : Nat → Int32) (m_refused : Nat → Int32) (m_readTold : Nat → Int32) (m_told : Nat → Int32) (m_readBeast : Nat → Nat → Int32) (m_beast : Nat → Nat → Int32) (m_readGate : Nat → Nat → Int32) (m_gate : Nat → Nat → Int32) (m_readList : Nat → Nat → Int32) (m_list : Nat → Nat → Int32) (m_lawMany : Int32) (m_readLawMany : Int32) (m_law : Nat → Nat → Int32) (m_readLaw : Nat → Nat → Int32) (m_stack : Nat → Int32) (m_known : Nat → Int32) (m_step : Nat → Nat → Int32) (m_steps : Int32) (m_now : Nat → Int32) (m_trial : Nat → Int32) (m_before : Nat → Nat → Int32) (m_kept : Nat → Nat → Int32) (m_works : Int32) (m_refusedSteps : Int32) (m_images : Int32) (m_spot : Int32) (m_begun : Int32) (m_doneSteps : Int32) (m_mixed : Nat → Int32) (m_fewest : Nat → Int32) (m_leastFees : Nat → Int32) (m_lots : Int32) (m_tars : Int32) (N9 : Nat) {m_now' : Nat → Int32} (hf : pM_yearEnds N9  m_now = some m_now') : zMv l yX10_yearEnds cX10_yearEnds 2 none 1 g (zM g m_thrown m_tape m_size m_place m_at m_fault m_faultAt m_clauses m_open m_fed m_refused m_readTold m_told m_readBeast m_beast m_readGate m_gate m_readList m_list m_lawMany m_readLawMany m_law m_readLaw m_stack m_known m_step m_steps m_now m_trial m_before m_kept m_works m_refusedSteps m_images m_spot m_begun m_doneSteps m_mixed m_fewest m_leastFees m_lots m_tars) (zM g m_thrown m_tape m_size m_place m_at m_fault m_faultAt m_clauses m_open m_fed m_refused m_readTold m_told m_readBeast m_beast m_readGate m_gate m_readList m_list m_lawMany m_readLawMany m_law m_readLaw m_stack m_known m_step m_steps m_now' m_trial m_before m_kept m_works m_refusedSteps m_images m_spot m_begun m_doneSteps m_mixed m_fewest m_leastFees m_lots m_tars) sz (zF g 64 580 sz) [.ref (g.2.1 80)] := by
  refine Met.ofW (cc := cX10_yearEnds) (maxL := 2) (ret := none) (by decide +kernel) rfl ?_
  intro p e s m args below meth c s₁ B hml hv
  obtain ⟨rfl, hsz, hP, hK, hST⟩ := hv
  subst hsz
  have hC := zstart (own := RX10) rfl B hml hK hST
  have hl := lv_entry ([.ref (g.2.1 80)]) (n := 2) (Nat.le_of_ble_eq_true rfl)
  rw [lg_entry_eq]
  generalize (lg_sl ([.ref (g.2.1 80)]) ++ List.replicate (2 - (lg_sl ([.ref (g.2.1 80)])).length) Slot.unset).toArray = ls at hl ⊢
  have hl : lv_has ls 2 [(0, .ref (g.2.1 80))] := hl
  obtain ⟨hx, hb, hr, hml, hown, hts, hK, hlk, hST⟩ := id hC
  refine mpM_yearEnds hI hC ⟨Nat.le_refl _, Nat.le_refl _, Nat.le_refl _, Nat.le_refl _⟩ m_thrown m_tape m_size m_place m_at m_fault m_faultAt m_clauses m_open m_fed m_refused m_readTold m_told m_readBeast m_beast m_readGate m_gate m_readList m_list m_lawMany m_readLawMany m_law m_readLaw m_stack m_known m_step m_steps m_now m_trial m_before m_kept m_works m_refusedSteps m_images m_spot m_begun m_doneSteps m_mixed m_fewest m_leastFees m_lots m_tars N9 m_now' ?_ hf _ _ ls hP va_S.rf hl
  intro m_now1 H locs pc ls he hP hS hd
  cases he
  exact W.vret hx hb hr (fun t ht hW => ⟨⟨(), rfl, trivial, by rw [← ht] at hP; exact hP⟩, hS.F ht⟩) hS.2.2 hd hlk
/-! StripeTradeModel.foals ([III)Z [('arr', 'm_now')] -/
set_option maxHeartbeats 4000000 in
set_option maxRecDepth 100000 in
theorem mpM_foals {p : Program} {l : Launch} {e : Env} {R : Room} {s : State} {m : MethodId} {args : Array Value} {below : List Frame} {meth : Method} {c : Code} {cells slots : Nat} {Q : State → Prop} {g : zG} (hI : zI g 581) (hC : zC g RX10 cX10_foals 4 (some .boolean) p s m meth c args) (hR : 1 ≤ R.frames ∧ 60 * 1 ≤ R.locals ∧ cells ≤ R.cells ∧ slots ≤ R.slots) (m_thrown : Int32) (m_tape : Int32) (m_size : Int32) (m_place : Int32) (m_at : Int32) (m_fault : Int32) (m_faultAt : Int32) (m_clauses : Int32) (m_open : Int32) (m_fed : Nat → Int32) (m_refused : Nat → Int32) (m_readTold : Nat → Int32) (m_told : Nat → Int32) (m_readBeast : Nat → Nat → Int32) (m_beast : Nat → Nat → Int32) (m_readGate : Nat → Nat → Int32) (m_gate : Nat → Nat → Int32) (m_readList : Nat → Nat → Int32) (m_list : Nat → Nat → Int32) (m_lawMany : Int32) (m_readLawMany : Int32) (m_law : Nat → Nat → Int32) (m_readLaw : Nat → Nat → Int32) (m_stack : Nat → Int32) (m_known : Nat → Int32) (m_step : Nat → Nat → Int32) (m_steps : Int32) (m_now : Nat → Int32) (m_trial : Nat → Int32) (m_before : Nat → Nat → Int32) (m_kept : Nat → Nat → Int32) (m_works : Int32) (m_refusedSteps : Int32) (m_images : Int32) (m_spot : Int32) (m_begun : Int32) (m_doneSteps : Int32) (m_mixed : Nat → Int32) (m_fewest : Nat → Int32) (m_leastFees : Nat → Int32) (m_lots : Int32) (m_tars : Int32) (x1 : Int32) (x2 : Int32) (N9 : Nat)   (res : Int32 × (Nat → Int32)) (hfin : ∀ (r0 : Int32) (m_now : Nat → Int32) (H : Heap) (locs : List Loc) (pc : Nat) (ls : Array Slot), (r0, m_now) = res → r0 &&& 1 = r0 → va_P g.1 zcl (zM g m_thrown m_tape m_size m_place m_at m_fault m_faultAt m_clauses m_open m_fed m_refused m_readTold m_told m_readBeast m_beast m_readGate m_gate m_readList m_list m_lawMany m_readLawMany m_law m_readLaw m_stack m_known m_step m_steps m_now m_trial m_before m_kept m_works m_refusedSteps m_images m_spot m_begun m_doneSteps m_mixed m_fewest m_leastFees m_lots m_tars) H → va_S (zF g 64 580 s.heap.size) s.heap H locs → decode cX10_foals pc = .ok (.ireturn, 1) → W p l e R s m args below meth c H locs cells slots Q (F0 m pc ls [.int r0])) : pM_foals N9 m_now x1 x2 = some res → ∀ (H : Heap) (locs : List Loc) (ls : Array Slot), va_P g.1 zcl (zM g m_thrown m_tape m_size m_place m_at m_fault m_faultAt m_clauses m_open m_fed m_refused m_readTold m_told m_readBeast m_beast m_readGate m_gate m_readList m_list m_lawMany m_readLawMany m_law m_readLaw m_stack m_known m_step m_steps m_now m_trial m_before m_kept m_works m_refusedSteps m_images m_spot m_begun m_doneSteps m_mixed m_fewest m_leastFees m_lots m_tars) H → va_S (zF g 64 580 s.heap.size) s.heap H locs → lv_has ls 4 [(0, .ref (g.2.1 80)), (1, .int x1), (2, .int x2)] → W p l e R s m args below meth c H locs cells slots Q (F0 m 0 ls []) := by
  obtain ⟨hx, hb, hr, hml, hown, hts, hK, hlk, hST⟩ := id hC
  have hB : ∀ q, (zF g 64 580 s.heap.size) q → zB g q := zF.base hI (Nat.le_of_ble_eq_true rfl) hST.1
  intro  hf H locs ls hP hS hl
  unfold pM_foals at hf
  refine lv_aload_n hx hb dX10_foals_0 rfl (lv_at hl 0 rfl) ?_
  refine lv_bipush (v := 42) hx hb dX10_foals_1 (by decide) ?_
  obtain ⟨hz_1, hf⟩ := zite hf
  refine zl_m_now hC hP hz_1 dX10_foals_3 ?_
  refine lv_topi (fun v_2 ev_2 => ?_)
  have hf := zleti ev_2 hf
  refine lv_istore_n (lv' := [(3, .int v_2), (0, .ref (g.2.1 80)), (1, .int x1), (2, .int x2)]) hx hb dX10_foals_4 rfl hl (by decide) rfl (fun ls hl => ?_)
  refine lv_iload_n hx hb dX10_foals_5 rfl (lv_at hl 0 rfl) ?_
  refine lv_bipush (v := 8) hx hb dX10_foals_6 (by decide) ?_
  refine lv_icmp_ne (tgt := 13) hx hb dX10_foals_8 (by decide) (fun hc_3 => ?_) (fun hc_3 => ?_)
  · have hf := zifn hc_3 hf
    refine lv_aload_n hx hb dX10_foals_13 rfl (lv_at hl 1 rfl) ?_
    refine lv_bipush (v := 8) hx hb dX10_foals_14 (by decide) ?_
    refine lv_iload_n hx hb dX10_foals_16 rfl (lv_at hl 0 rfl) ?_
    refine lv_iadd hx hb dX10_foals_17 ?_
    refine lv_aload_n hx hb dX10_foals_18 rfl (lv_at hl 1 rfl) ?_
    refine lv_bipush (v := 8) hx hb dX10_foals_19 (by decide) ?_
    refine lv_iload_n hx hb dX10_foals_21 rfl (lv_at hl 2 rfl) ?_
    refine lv_iadd hx hb dX10_foals_22 ?_
    obtain ⟨hz_4, hf⟩ := zite hf
    refine zl_m_now hC hP hz_4 dX10_foals_23 ?_
    refine lv_aload_n hx hb dX10_foals_24 rfl (lv_at hl 1 rfl) ?_
    refine lv_bipush (v := 8) hx hb dX10_foals_25 (by decide) ?_
    refine lv_iload_n hx hb dX10_foals_27 rfl (lv_at hl 3 rfl) ?_
    refine lv_iadd hx hb dX10_foals_28 ?_
    obtain ⟨hz_5, hf⟩ := zite hf
    refine zl_m_now hC hP hz_5 dX10_foals_29 ?_
    refine lv_iadd hx hb dX10_foals_30 ?_
    refine lv_sipush (v := 256) hx hb dX10_foals_31 (by decide) ?_
    have hd_6 : ¬ (256 : Int32) = 0 := by decide
    refine lv_irem hx hb dX10_foals_34 hd_6 ?_
    refine lv_topi (fun v_7 ev_7 => ?_)
    have hf := zleti ev_7 hf
    obtain ⟨hz_8, hf⟩ := zite hf
    refine zs_m_now hC hP hI (fun k h1 h2 => zF.own h1 h2) hS hz_8 dX10_foals_35 (fun H locs hP hS => ?_)
    refine lv_aload_n hx hb dX10_foals_36 rfl (lv_at hl 1 rfl) ?_
    refine lv_iconst (v := 0) hx hb dX10_foals_37 (by decide) ?_
    refine lv_iload_n hx hb dX10_foals_38 rfl (lv_at hl 0 rfl) ?_
    refine lv_iadd hx hb dX10_foals_39 ?_
    refine lv_aload_n hx hb dX10_foals_40 rfl (lv_at hl 1 rfl) ?_
    refine lv_bipush (v := 8) hx hb dX10_foals_41 (by decide) ?_
    refine lv_iload_n hx hb dX10_foals_43 rfl (lv_at hl 0 rfl) ?_
    refine lv_iadd hx hb dX10_foals_44 ?_
    refine zl_m_now hC hP hz_8 dX10_foals_45 ?_
    refine lv_topi (fun v_9 ev_9 => ?_)
    have hf := zleti ev_9 hf
    obtain ⟨hz_10, hf⟩ := zite hf
    refine zs_m_now hC hP hI (fun k h1 h2 => zF.own h1 h2) hS hz_10 dX10_foals_46 (fun H locs hP hS => ?_)
    refine lv_aload_n hx hb dX10_foals_47 rfl (lv_at hl 1 rfl) ?_
    refine lv_bipush (v := 16) hx hb dX10_foals_48 (by decide) ?_
    refine lv_iload_n hx hb dX10_foals_50 rfl (lv_at hl 0 rfl) ?_
    refine lv_iadd hx hb dX10_foals_51 ?_
    refine lv_iconst (v := 0) hx hb dX10_foals_52 (by decide) ?_
    obtain ⟨hz_11, hf⟩ := zite hf
    refine zs_m_now hC hP hI (fun k h1 h2 => zF.own h1 h2) hS hz_11 dX10_foals_53 (fun H locs hP hS => ?_)
    refine lv_aload_n hx hb dX10_foals_54 rfl (lv_at hl 1 rfl) ?_
    refine lv_bipush (v := 24) hx hb dX10_foals_55 (by decide) ?_
    refine lv_iload_n hx hb dX10_foals_57 rfl (lv_at hl 0 rfl) ?_
    refine lv_iadd hx hb dX10_foals_58 ?_
    refine lv_iconst (v := 0) hx hb dX10_foals_59 (by decide) ?_
    obtain ⟨hz_12, hf⟩ := zite hf
    refine zs_m_now hC hP hI (fun k h1 h2 => zF.own h1 h2) hS hz_12 dX10_foals_60 (fun H locs hP hS => ?_)
    refine lv_aload_n hx hb dX10_foals_61 rfl (lv_at hl 1 rfl) ?_
    refine lv_bipush (v := 42) hx hb dX10_foals_62 (by decide) ?_
    refine lv_dup2_11 hx hb dX10_foals_64 rfl rfl ?_
    refine zl_m_now hC hP hz_1 dX10_foals_65 ?_
    refine lv_iconst (v := 1) hx hb dX10_foals_66 (by decide) ?_
    refine lv_iadd hx hb dX10_foals_67 ?_
    refine lv_topi (fun v_13 ev_13 => ?_)
    have hf := zleti ev_13 hf
    refine zs_m_now hC hP hI (fun k h1 h2 => zF.own h1 h2) hS hz_1 dX10_foals_68 (fun H locs hP hS => ?_)
    obtain ⟨m_now_14, em_now_14⟩ : ∃ y, y = upd (upd (upd (upd (upd m_now (8 + v_2).toNatClampNeg v_7) (0 + v_2).toNatClampNeg v_9) (16 + v_2).toNatClampNeg 0) (24 + v_2).toNatClampNeg 0) (42 : Int32).toNatClampNeg v_13 := ⟨_, rfl⟩
    rw [← em_now_14] at hP
    have hf := zleti em_now_14 hf
    refine lv_iconst (v := 1) hx hb dX10_foals_69 (by decide) ?_
    exact hfin _ _ H locs _ ls (Option.some.inj hf) (by decide) hP hS dX10_foals_70
  · have hf := zifp hc_3 hf
    refine lv_iconst (v := 0) hx hb dX10_foals_11 (by decide) ?_
    exact hfin _ _ H locs _ ls (Option.some.inj hf) (by decide) hP hS dX10_foals_12
set_option maxHeartbeats 4000000 in
set_option maxRecDepth 100000 in
theorem cpM_foals (l : Launch) {g : zG} (hI : zI g 581) (sz : Nat) (m_thrown : Int32) (m_tape : Int32) (m_size : Int32) (m_place : Int32) (m_at : Int32) (m_fault : Int32) (m_faultAt : Int32) (m_clauses : Int32) (m_open : Int32) (m_fed : Nat → Int32) (m_refused : Nat → Int32) (m_readTold : Nat → Int32) (m_told : Nat → Int32) (m_readBeast : Nat → Nat → Int32) (m_beast : Nat → Nat → Int32) (m_readGate : Nat → Nat → Int32) (m_gate : Nat → Nat → Int32) (m_readList : Nat → Nat → Int32) (m_list : Nat → Nat → Int32) (m_lawMany : Int32) (m_readLawMany : Int32) (m_law : Nat → Nat → Int32) (m_readLaw : Nat → Nat → Int32) (m_stack : Nat → Int32) (m_known : Nat → Int32) (m_step : Nat → Nat → Int32) (m_steps : Int32) (m_now : Nat → Int32) (m_trial : Nat → Int32) (m_before : Nat → Nat → Int32) (m_kept : Nat → Nat → Int32) (m_works : Int32) (m_refusedSteps : Int32) (m_images : Int32) (m_spot : Int32) (m_begun : Int32) (m_doneSteps : Int32) (m_mixed : Nat → Int32) (m_fewest : Nat → Int32) (m_leastFees : Nat → Int32) (m_lots : Int32) (m_tars : Int32) (x1 : Int32)  (x2 : Int32) (N9 : Nat) {r0 : Int32} {m_now' : Nat → Int32} (hf : pM_foals N9  m_now x1 x2 = some (r0, m_now')) : zMi l yX10_foals cX10_foals 4 (some .boolean) 1 g (zM g m_thrown m_tape m_size m_place m_at m_fault m_faultAt m_clauses m_open m_fed m_refused m_readTold m_told m_readBeast m_beast m_readGate m_gate m_readList m_list m_lawMany m_readLawMany m_law m_readLaw m_stack m_known m_step m_steps m_now m_trial m_before m_kept m_works m_refusedSteps m_images m_spot m_begun m_doneSteps m_mixed m_fewest m_leastFees m_lots m_tars) (zM g m_thrown m_tape m_size m_place m_at m_fault m_faultAt m_clauses m_open m_fed m_refused m_readTold m_told m_readBeast m_beast m_readGate m_gate m_readList m_list m_lawMany m_readLawMany m_law m_readLaw m_stack m_known m_step m_steps m_now' m_trial m_before m_kept m_works m_refusedSteps m_images m_spot m_begun m_doneSteps m_mixed m_fewest m_leastFees m_lots m_tars) sz (zF g 64 580 sz) [.ref (g.2.1 80), .int x1, .int x2] r0 := by
  refine Met.ofW (cc := cX10_foals) (maxL := 4) (ret := (some .boolean)) (by decide +kernel) rfl ?_
  intro p e s m args below meth c s₁ B hml hv
  obtain ⟨rfl, hsz, hP, hK, hST⟩ := hv
  subst hsz
  have hC := zstart (own := RX10) rfl B hml hK hST
  have hl := lv_entry ([.ref (g.2.1 80), .int x1, .int x2]) (n := 4) (Nat.le_of_ble_eq_true rfl)
  rw [lg_entry_eq]
  generalize (lg_sl ([.ref (g.2.1 80), .int x1, .int x2]) ++ List.replicate (4 - (lg_sl ([.ref (g.2.1 80), .int x1, .int x2])).length) Slot.unset).toArray = ls at hl ⊢
  have hl : lv_has ls 4 [(0, .ref (g.2.1 80)), (1, .int x1), (2, .int x2)] := hl
  obtain ⟨hx, hb, hr, hml, hown, hts, hK, hlk, hST⟩ := id hC
  refine mpM_foals hI hC ⟨Nat.le_refl _, Nat.le_refl _, Nat.le_refl _, Nat.le_refl _⟩ m_thrown m_tape m_size m_place m_at m_fault m_faultAt m_clauses m_open m_fed m_refused m_readTold m_told m_readBeast m_beast m_readGate m_gate m_readList m_list m_lawMany m_readLawMany m_law m_readLaw m_stack m_known m_step m_steps m_now m_trial m_before m_kept m_works m_refusedSteps m_images m_spot m_begun m_doneSteps m_mixed m_fewest m_leastFees m_lots m_tars x1 x2 N9 (r0, m_now') ?_ hf _ _ ls hP va_S.rf hl
  intro r1 m_now1 H locs pc ls he hz hP hS hd
  cases he
  exact W.zret hx hb hr (congrArg Value.int hz) (fun t ht hW => ⟨⟨_, (), rfl, rfl, by rw [← ht] at hP; exact hP⟩, hS.F ht⟩) hS.2.2 hd hlk
/-! StripeTradeModel.feeOf ([IIII)I [('obj', 'm'), ('arr', 'm_now')] -/
set_option maxHeartbeats 4000000 in
set_option maxRecDepth 100000 in
theorem mpM_feeOf {p : Program} {l : Launch} {e : Env} {R : Room} {s : State} {m : MethodId} {args : Array Value} {below : List Frame} {meth : Method} {c : Code} {cells slots : Nat} {Q : State → Prop} {g : zG} (hI : zI g 581) (hC : zC g RX10 cX10_feeOf 6 (some .int) p s m meth c args) (hR : 5 ≤ R.frames ∧ 60 * 5 ≤ R.locals ∧ cells ≤ R.cells ∧ slots ≤ R.slots) (m_thrown : Int32) (m_tape : Int32) (m_size : Int32) (m_place : Int32) (m_at : Int32) (m_fault : Int32) (m_faultAt : Int32) (m_clauses : Int32) (m_open : Int32) (m_fed : Nat → Int32) (m_refused : Nat → Int32) (m_readTold : Nat → Int32) (m_told : Nat → Int32) (m_readBeast : Nat → Nat → Int32) (m_beast : Nat → Nat → Int32) (m_readGate : Nat → Nat → Int32) (m_gate : Nat → Nat → Int32) (m_readList : Nat → Nat → Int32) (m_list : Nat → Nat → Int32) (m_lawMany : Int32) (m_readLawMany : Int32) (m_law : Nat → Nat → Int32) (m_readLaw : Nat → Nat → Int32) (m_stack : Nat → Int32) (m_known : Nat → Int32) (m_step : Nat → Nat → Int32) (m_steps : Int32) (m_now : Nat → Int32) (m_trial : Nat → Int32) (m_before : Nat → Nat → Int32) (m_kept : Nat → Nat → Int32) (m_works : Int32) (m_refusedSteps : Int32) (m_images : Int32) (m_spot : Int32) (m_begun : Int32) (m_doneSteps : Int32) (m_mixed : Nat → Int32) (m_fewest : Nat → Int32) (m_leastFees : Nat → Int32) (m_lots : Int32) (m_tars : Int32) (x2 : Int32) (x3 : Int32) (x4 : Int32) (N9 : Nat)   (res : Int32 × (Nat → Int32) × (Nat → Int32)) (hfin : ∀ (r0 : Int32) (m_stack : Nat → Int32) (m_known : Nat → Int32) (H : Heap) (locs : List Loc) (pc : Nat) (ls : Array Slot), (r0, m_stack, m_known) = res → va_P g.1 zcl (zM g m_thrown m_tape m_size m_place m_at m_fault m_faultAt m_clauses m_open m_fed m_refused m_readTold m_told m_readBeast m_beast m_readGate m_gate m_readList m_list m_lawMany m_readLawMany m_law m_readLaw m_stack m_known m_step m_steps m_now m_trial m_before m_kept m_works m_refusedSteps m_images m_spot m_begun m_doneSteps m_mixed m_fewest m_leastFees m_lots m_tars) H → va_S (zF g 64 580 s.heap.size) s.heap H locs → decode cX10_feeOf pc = .ok (.ireturn, 1) → W p l e R s m args below meth c H locs cells slots Q (F0 m pc ls [.int r0])) : pM_feeOf N9 m_told m_gate m_list m_lawMany m_law m_stack m_known m_now x2 x3 x4 = some res → ∀ (H : Heap) (locs : List Loc) (ls : Array Slot), va_P g.1 zcl (zM g m_thrown m_tape m_size m_place m_at m_fault m_faultAt m_clauses m_open m_fed m_refused m_readTold m_told m_readBeast m_beast m_readGate m_gate m_readList m_list m_lawMany m_readLawMany m_law m_readLaw m_stack m_known m_step m_steps m_now m_trial m_before m_kept m_works m_refusedSteps m_images m_spot m_begun m_doneSteps m_mixed m_fewest m_leastFees m_lots m_tars) H → va_S (zF g 64 580 s.heap.size) s.heap H locs → lv_has ls 6 [(0, .ref (g.2.1 64)), (1, .ref (g.2.1 80)), (2, .int x2), (3, .int x3), (4, .int x4)] → W p l e R s m args below meth c H locs cells slots Q (F0 m 0 ls []) := by
  obtain ⟨hx, hb, hr, hml, hown, hts, hK, hlk, hST⟩ := id hC
  have hB : ∀ q, (zF g 64 580 s.heap.size) q → zB g q := zF.base hI (Nat.le_of_ble_eq_true rfl) hST.1
  intro  hf H locs ls hP hS hl
  unfold pM_feeOf at hf
  refine lv_aload_n hx hb dX10_feeOf_0 rfl (lv_at hl 1 rfl) ?_
  refine lv_iconst (v := 0) hx hb dX10_feeOf_1 (by decide) ?_
  refine lv_iload_n hx hb dX10_feeOf_2 rfl (lv_at hl 2 rfl) ?_
  refine lv_iadd hx hb dX10_feeOf_3 ?_
  obtain ⟨hz_1, hf⟩ := zite hf
  refine zl_m_now hC hP hz_1 dX10_feeOf_4 ?_
  refine lv_topi (fun v_2 ev_2 => ?_)
  have hf := zleti ev_2 hf
  refine lv_istore (lv' := [(5, .int v_2), (0, .ref (g.2.1 64)), (1, .ref (g.2.1 80)), (2, .int x2), (3, .int x3), (4, .int x4)]) hx hb dX10_feeOf_5 hl (by decide) rfl (fun ls hl => ?_)
  refine lv_aload_n hx hb dX10_feeOf_7 rfl (lv_at hl 1 rfl) ?_
  refine lv_aload_n hx hb dX10_feeOf_8 rfl (lv_at hl 1 rfl) ?_
  refine zr_m_gate hC hP (hC.fl mw_1405) dX10_feeOf_9 ?_
  refine lv_iload_n hx hb dX10_feeOf_12 rfl (lv_at hl 4 rfl) ?_
  obtain ⟨hz_3, hf⟩ := zite hf
  refine zq_m_gate hC hP hz_3 dX10_feeOf_13 ?_
  refine lv_iconst (v := 1) hx hb dX10_feeOf_14 (by decide) ?_
  obtain ⟨hz_4, hf⟩ := zite hf
  refine zl_m_gate hC hP hz_3 hz_4 dX10_feeOf_15 ?_
  refine lv_aload_n hx hb dX10_feeOf_16 rfl (lv_at hl 1 rfl) ?_
  refine lv_iload hx hb dX10_feeOf_17 (lv_at hl 0 rfl) ?_
  refine lv_iload_n hx hb dX10_feeOf_19 rfl (lv_at hl 4 rfl) ?_
  obtain ⟨r_5, hf_5, hf⟩ := zb1i hf
  refine zcallVi (As := [.int v_2, .int x3]) (rest := [.int (m_gate x3.toNatClampNeg (1 : Int32).toNatClampNeg), .ref (g.2.1 64)]) hC hP hS hB (fun q h => zF.mono hS.1 h) (cpM_nearOf l hI H.size m_thrown m_tape m_size m_place m_at m_fault m_faultAt m_clauses m_open m_fed m_refused m_readTold m_told m_readBeast m_beast m_readGate m_gate m_readList m_list m_lawMany m_readLawMany m_law m_readLaw m_stack m_known m_step m_steps m_now m_trial m_before m_kept m_works m_refusedSteps m_images m_spot m_begun m_doneSteps m_mixed m_fewest m_leastFees m_lots m_tars v_2 x3 N9 hf_5) (hC.ml mw_1677) yo_X10_nearOf 0 (zfM rfl) rfl rfl rfl hl.1 rfl (Nat.le_of_ble_eq_true rfl) ⟨by omega, by omega⟩ hR.2.2 dX10_feeOf_20 (fun H locs hP hS _ _ => ?_)
  refine lv_iload hx hb dX10_feeOf_23 (lv_at hl 0 rfl) ?_
  obtain ⟨r_6, hf_6, hf⟩ := zb1i hf
  refine zcallP (As := [.int v_2]) (rest := [.int r_5, .int (m_gate x3.toNatClampNeg (1 : Int32).toNatClampNeg), .ref (g.2.1 64)]) hC hS hB (cpM_ones l hI v_2 N9 hf_6) (hC.ml mw_1681) yo_X10_ones rfl hl.1 rfl (Nat.le_of_ble_eq_true rfl) ⟨by omega, by omega⟩ hR.2.2 dX10_feeOf_25 (fun H locs hPk hS _ => ?_)
  have hP := hPk _ _ _ hP
  refine lv_aload_n hx hb dX10_feeOf_28 rfl (lv_at hl 2 rfl) ?_
  refine lv_bipush (v := 16) hx hb dX10_feeOf_29 (by decide) ?_
  refine lv_iload_n hx hb dX10_feeOf_31 rfl (lv_at hl 3 rfl) ?_
  refine lv_iadd hx hb dX10_feeOf_32 ?_
  obtain ⟨hz_7, hf⟩ := zite hf
  refine zl_m_now hC hP hz_7 dX10_feeOf_33 ?_
  refine lv_aload_n hx hb dX10_feeOf_34 rfl (lv_at hl 2 rfl) ?_
  refine lv_bipush (v := 32) hx hb dX10_feeOf_35 (by decide) ?_
  refine lv_iload_n hx hb dX10_feeOf_37 rfl (lv_at hl 4 rfl) ?_
  refine lv_iadd hx hb dX10_feeOf_38 ?_
  obtain ⟨hz_8, hf⟩ := zite hf
  refine zl_m_now hC hP hz_8 dX10_feeOf_39 ?_
  refine lv_iload hx hb dX10_feeOf_40 (lv_at hl 5 rfl) ?_
  refine lv_iadd hx hb dX10_feeOf_42 ?_
  refine lv_aload_n hx hb dX10_feeOf_43 rfl (lv_at hl 2 rfl) ?_
  refine lv_bipush (v := 24) hx hb dX10_feeOf_44 (by decide) ?_
  refine lv_iload_n hx hb dX10_feeOf_46 rfl (lv_at hl 3 rfl) ?_
  refine lv_iadd hx hb dX10_feeOf_47 ?_
  obtain ⟨hz_9, hf⟩ := zite hf
  refine zl_m_now hC hP hz_9 dX10_feeOf_48 ?_
  refine lv_iload hx hb dX10_feeOf_49 (lv_at hl 0 rfl) ?_
  refine lv_iload_n hx hb dX10_feeOf_51 rfl (lv_at hl 4 rfl) ?_
  obtain ⟨r_10, m_stack_10, m_known_10, hf_10, hf⟩ := zb3i hf
  refine zcallVi (As := [.int (m_gate x3.toNatClampNeg (1 : Int32).toNatClampNeg), .int r_5, .int r_6, .int (m_now (16 + x2).toNatClampNeg), .int ((m_now (32 + x3).toNatClampNeg) + x4), .int (m_now (24 + x2).toNatClampNeg), .int v_2, .int x3]) (rest := []) hC hP hS hB (fun q h => zF.mono hS.1 h) (cpM_feeBy l hI H.size m_thrown m_tape m_size m_place m_at m_fault m_faultAt m_clauses m_open m_fed m_refused m_readTold m_told m_readBeast m_beast m_readGate m_gate m_readList m_list m_lawMany m_readLawMany m_law m_readLaw m_stack m_known m_step m_steps m_now m_trial m_before m_kept m_works m_refusedSteps m_images m_spot m_begun m_doneSteps m_mixed m_fewest m_leastFees m_lots m_tars (m_gate x3.toNatClampNeg (1 : Int32).toNatClampNeg) r_5 r_6 (m_now (16 + x2).toNatClampNeg) ((m_now (32 + x3).toNatClampNeg) + x4) (m_now (24 + x2).toNatClampNeg) v_2 x3 N9 hf_10) (hC.ml mw_1688) yo_X10_feeBy 0 (zfM rfl) rfl rfl rfl hl.1 rfl (Nat.le_of_ble_eq_true rfl) ⟨by omega, by omega⟩ hR.2.2 dX10_feeOf_52 (fun H locs hP hS _ _ => ?_)
  exact hfin _ _ _ H locs _ ls (Option.some.inj hf) hP hS dX10_feeOf_55
set_option maxHeartbeats 4000000 in
set_option maxRecDepth 100000 in
theorem cpM_feeOf (l : Launch) {g : zG} (hI : zI g 581) (sz : Nat) (m_thrown : Int32) (m_tape : Int32) (m_size : Int32) (m_place : Int32) (m_at : Int32) (m_fault : Int32) (m_faultAt : Int32) (m_clauses : Int32) (m_open : Int32) (m_fed : Nat → Int32) (m_refused : Nat → Int32) (m_readTold : Nat → Int32) (m_told : Nat → Int32) (m_readBeast : Nat → Nat → Int32) (m_beast : Nat → Nat → Int32) (m_readGate : Nat → Nat → Int32) (m_gate : Nat → Nat → Int32) (m_readList : Nat → Nat → Int32) (m_list : Nat → Nat → Int32) (m_lawMany : Int32) (m_readLawMany : Int32) (m_law : Nat → Nat → Int32) (m_readLaw : Nat → Nat → Int32) (m_stack : Nat → Int32) (m_known : Nat → Int32) (m_step : Nat → Nat → Int32) (m_steps : Int32) (m_now : Nat → Int32) (m_trial : Nat → Int32) (m_before : Nat → Nat → Int32) (m_kept : Nat → Nat → Int32) (m_works : Int32) (m_refusedSteps : Int32) (m_images : Int32) (m_spot : Int32) (m_begun : Int32) (m_doneSteps : Int32) (m_mixed : Nat → Int32) (m_fewest : Nat → Int32) (m_leastFees : Nat → Int32) (m_lots : Int32) (m_tars : Int32) (x2 : Int32)  (x3 : Int32)  (x4 : Int32) (N9 : Nat) {r0 : Int32} {m_stack' : Nat → Int32} {m_known' : Nat → Int32} (hf : pM_feeOf N9  m_told m_gate m_list m_lawMany m_law m_stack m_known m_now x2 x3 x4 = some (r0, m_stack', m_known')) : zMi l yX10_feeOf cX10_feeOf 6 (some .int) 5 g (zM g m_thrown m_tape m_size m_place m_at m_fault m_faultAt m_clauses m_open m_fed m_refused m_readTold m_told m_readBeast m_beast m_readGate m_gate m_readList m_list m_lawMany m_readLawMany m_law m_readLaw m_stack m_known m_step m_steps m_now m_trial m_before m_kept m_works m_refusedSteps m_images m_spot m_begun m_doneSteps m_mixed m_fewest m_leastFees m_lots m_tars) (zM g m_thrown m_tape m_size m_place m_at m_fault m_faultAt m_clauses m_open m_fed m_refused m_readTold m_told m_readBeast m_beast m_readGate m_gate m_readList m_list m_lawMany m_readLawMany m_law m_readLaw m_stack' m_known' m_step m_steps m_now m_trial m_before m_kept m_works m_refusedSteps m_images m_spot m_begun m_doneSteps m_mixed m_fewest m_leastFees m_lots m_tars) sz (zF g 64 580 sz) [.ref (g.2.1 64), .ref (g.2.1 80), .int x2, .int x3, .int x4] r0 := by
  refine Met.ofW (cc := cX10_feeOf) (maxL := 6) (ret := (some .int)) (by decide +kernel) rfl ?_
  intro p e s m args below meth c s₁ B hml hv
  obtain ⟨rfl, hsz, hP, hK, hST⟩ := hv
  subst hsz
  have hC := zstart (own := RX10) rfl B hml hK hST
  have hl := lv_entry ([.ref (g.2.1 64), .ref (g.2.1 80), .int x2, .int x3, .int x4]) (n := 6) (Nat.le_of_ble_eq_true rfl)
  rw [lg_entry_eq]
  generalize (lg_sl ([.ref (g.2.1 64), .ref (g.2.1 80), .int x2, .int x3, .int x4]) ++ List.replicate (6 - (lg_sl ([.ref (g.2.1 64), .ref (g.2.1 80), .int x2, .int x3, .int x4])).length) Slot.unset).toArray = ls at hl ⊢
  have hl : lv_has ls 6 [(0, .ref (g.2.1 64)), (1, .ref (g.2.1 80)), (2, .int x2), (3, .int x3), (4, .int x4)] := hl
  obtain ⟨hx, hb, hr, hml, hown, hts, hK, hlk, hST⟩ := id hC
  refine mpM_feeOf hI hC ⟨Nat.le_refl _, Nat.le_refl _, Nat.le_refl _, Nat.le_refl _⟩ m_thrown m_tape m_size m_place m_at m_fault m_faultAt m_clauses m_open m_fed m_refused m_readTold m_told m_readBeast m_beast m_readGate m_gate m_readList m_list m_lawMany m_readLawMany m_law m_readLaw m_stack m_known m_step m_steps m_now m_trial m_before m_kept m_works m_refusedSteps m_images m_spot m_begun m_doneSteps m_mixed m_fewest m_leastFees m_lots m_tars x2 x3 x4 N9 (r0, m_stack', m_known') ?_ hf _ _ ls hP va_S.rf hl
  intro r1 m_stack1 m_known1 H locs pc ls he hP hS hd
  cases he
  exact W.iret hx hb hr (fun t ht hW => ⟨⟨_, (), rfl, rfl, by rw [← ht] at hP; exact hP⟩, hS.F ht⟩) hS.2.2 hd hlk
/-! StripeTradeModel.canPass ([III)Z [('obj', 'm'), ('arr', 'm_now')] -/
set_option maxHeartbeats 4000000 in
set_option maxRecDepth 100000 in
theorem mpM_canPass_33 {p : Program} {l : Launch} {e : Env} {R : Room} {s : State} {m : MethodId} {args : Array Value} {below : List Frame} {meth : Method} {c : Code} {cells slots : Nat} {Q : State → Prop} {g : zG} (hI : zI g 581) (hC : zC g RX10 cX10_canPass 4 (some .boolean) p s m meth c args) (hR : 6 ≤ R.frames ∧ 60 * 6 ≤ R.locals ∧ cells ≤ R.cells ∧ slots ≤ R.slots) (m_thrown : Int32) (m_tape : Int32) (m_size : Int32) (m_place : Int32) (m_at : Int32) (m_fault : Int32) (m_faultAt : Int32) (m_clauses : Int32) (m_open : Int32) (m_fed : Nat → Int32) (m_refused : Nat → Int32) (m_readTold : Nat → Int32) (m_told : Nat → Int32) (m_readBeast : Nat → Nat → Int32) (m_beast : Nat → Nat → Int32) (m_readGate : Nat → Nat → Int32) (m_gate : Nat → Nat → Int32) (m_readList : Nat → Nat → Int32) (m_list : Nat → Nat → Int32) (m_lawMany : Int32) (m_readLawMany : Int32) (m_law : Nat → Nat → Int32) (m_readLaw : Nat → Nat → Int32) (m_step : Nat → Nat → Int32) (m_steps : Int32) (m_now : Nat → Int32) (m_trial : Nat → Int32) (m_before : Nat → Nat → Int32) (m_kept : Nat → Nat → Int32) (m_works : Int32) (m_refusedSteps : Int32) (m_images : Int32) (m_spot : Int32) (m_begun : Int32) (m_doneSteps : Int32) (m_mixed : Nat → Int32) (m_fewest : Nat → Int32) (m_leastFees : Nat → Int32) (m_lots : Int32) (m_tars : Int32)  (N9 : Nat)   (res : Int32 × (Nat → Int32) × (Nat → Int32)) (hfin : ∀ (r0 : Int32) (m_stack : Nat → Int32) (m_known : Nat → Int32) (H : Heap) (locs : List Loc) (pc : Nat) (ls : Array Slot), (r0, m_stack, m_known) = res → r0 &&& 1 = r0 → va_P g.1 zcl (zM g m_thrown m_tape m_size m_place m_at m_fault m_faultAt m_clauses m_open m_fed m_refused m_readTold m_told m_readBeast m_beast m_readGate m_gate m_readList m_list m_lawMany m_readLawMany m_law m_readLaw m_stack m_known m_step m_steps m_now m_trial m_before m_kept m_works m_refusedSteps m_images m_spot m_begun m_doneSteps m_mixed m_fewest m_leastFees m_lots m_tars) H → va_S (zF g 64 580 s.heap.size) s.heap H locs → decode cX10_canPass pc = .ok (.ireturn, 1) → W p l e R s m args below meth c H locs cells slots Q (F0 m pc ls [.int r0])) : ∀ (m_stack : Nat → Int32) (m_known : Nat → Int32) (s0 : Int32), pM_canPass_33 N9 m_stack m_known s0 = some res → ∀ (H : Heap) (locs : List Loc) (ls : Array Slot), va_P g.1 zcl (zM g m_thrown m_tape m_size m_place m_at m_fault m_faultAt m_clauses m_open m_fed m_refused m_readTold m_told m_readBeast m_beast m_readGate m_gate m_readList m_list m_lawMany m_readLawMany m_law m_readLaw m_stack m_known m_step m_steps m_now m_trial m_before m_kept m_works m_refusedSteps m_images m_spot m_begun m_doneSteps m_mixed m_fewest m_leastFees m_lots m_tars) H → va_S (zF g 64 580 s.heap.size) s.heap H locs → lv_has ls 4 [] → W p l e R s m args below meth c H locs cells slots Q (F0 m 33 ls [.int s0]) := by
  obtain ⟨hx, hb, hr, hml, hown, hts, hK, hlk, hST⟩ := id hC
  have hB : ∀ q, (zF g 64 580 s.heap.size) q → zB g q := zF.base hI (Nat.le_of_ble_eq_true rfl) hST.1
  intro m_stack m_known s0 hf H locs ls hP hS hl
  unfold pM_canPass_33 at hf
  obtain ⟨hz9, hf⟩ := zite hf
  exact hfin _ _ _ H locs _ ls (Option.some.inj hf) hz9 hP hS dX10_canPass_33
set_option maxHeartbeats 4000000 in
set_option maxRecDepth 100000 in
theorem mpM_canPass_32 {p : Program} {l : Launch} {e : Env} {R : Room} {s : State} {m : MethodId} {args : Array Value} {below : List Frame} {meth : Method} {c : Code} {cells slots : Nat} {Q : State → Prop} {g : zG} (hI : zI g 581) (hC : zC g RX10 cX10_canPass 4 (some .boolean) p s m meth c args) (hR : 6 ≤ R.frames ∧ 60 * 6 ≤ R.locals ∧ cells ≤ R.cells ∧ slots ≤ R.slots) (m_thrown : Int32) (m_tape : Int32) (m_size : Int32) (m_place : Int32) (m_at : Int32) (m_fault : Int32) (m_faultAt : Int32) (m_clauses : Int32) (m_open : Int32) (m_fed : Nat → Int32) (m_refused : Nat → Int32) (m_readTold : Nat → Int32) (m_told : Nat → Int32) (m_readBeast : Nat → Nat → Int32) (m_beast : Nat → Nat → Int32) (m_readGate : Nat → Nat → Int32) (m_gate : Nat → Nat → Int32) (m_readList : Nat → Nat → Int32) (m_list : Nat → Nat → Int32) (m_lawMany : Int32) (m_readLawMany : Int32) (m_law : Nat → Nat → Int32) (m_readLaw : Nat → Nat → Int32) (m_step : Nat → Nat → Int32) (m_steps : Int32) (m_now : Nat → Int32) (m_trial : Nat → Int32) (m_before : Nat → Nat → Int32) (m_kept : Nat → Nat → Int32) (m_works : Int32) (m_refusedSteps : Int32) (m_images : Int32) (m_spot : Int32) (m_begun : Int32) (m_doneSteps : Int32) (m_mixed : Nat → Int32) (m_fewest : Nat → Int32) (m_leastFees : Nat → Int32) (m_lots : Int32) (m_tars : Int32)  (N9 : Nat)  (k33 : (Nat → Int32) → (Nat → Int32) → Int32 → Option (Int32 × (Nat → Int32) × (Nat → Int32))) (res : Int32 × (Nat → Int32) × (Nat → Int32)) (hfin : ∀ (r0 : Int32) (m_stack : Nat → Int32) (m_known : Nat → Int32) (H : Heap) (locs : List Loc) (pc : Nat) (ls : Array Slot), (r0, m_stack, m_known) = res → r0 &&& 1 = r0 → va_P g.1 zcl (zM g m_thrown m_tape m_size m_place m_at m_fault m_faultAt m_clauses m_open m_fed m_refused m_readTold m_told m_readBeast m_beast m_readGate m_gate m_readList m_list m_lawMany m_readLawMany m_law m_readLaw m_stack m_known m_step m_steps m_now m_trial m_before m_kept m_works m_refusedSteps m_images m_spot m_begun m_doneSteps m_mixed m_fewest m_leastFees m_lots m_tars) H → va_S (zF g 64 580 s.heap.size) s.heap H locs → decode cX10_canPass pc = .ok (.ireturn, 1) → W p l e R s m args below meth c H locs cells slots Q (F0 m pc ls [.int r0])) (hk33 : ∀ (m_stack : Nat → Int32) (m_known : Nat → Int32) (s0 : Int32), k33 m_stack m_known s0 = some res → ∀ (H : Heap) (locs : List Loc) (ls : Array Slot), va_P g.1 zcl (zM g m_thrown m_tape m_size m_place m_at m_fault m_faultAt m_clauses m_open m_fed m_refused m_readTold m_told m_readBeast m_beast m_readGate m_gate m_readList m_list m_lawMany m_readLawMany m_law m_readLaw m_stack m_known m_step m_steps m_now m_trial m_before m_kept m_works m_refusedSteps m_images m_spot m_begun m_doneSteps m_mixed m_fewest m_leastFees m_lots m_tars) H → va_S (zF g 64 580 s.heap.size) s.heap H locs → lv_has ls 4 [] → W p l e R s m args below meth c H locs cells slots Q (F0 m 33 ls [.int s0])) : ∀ (m_stack : Nat → Int32) (m_known : Nat → Int32), pM_canPass_32 N9 k33 m_stack m_known = some res → ∀ (H : Heap) (locs : List Loc) (ls : Array Slot), va_P g.1 zcl (zM g m_thrown m_tape m_size m_place m_at m_fault m_faultAt m_clauses m_open m_fed m_refused m_readTold m_told m_readBeast m_beast m_readGate m_gate m_readList m_list m_lawMany m_readLawMany m_law m_readLaw m_stack m_known m_step m_steps m_now m_trial m_before m_kept m_works m_refusedSteps m_images m_spot m_begun m_doneSteps m_mixed m_fewest m_leastFees m_lots m_tars) H → va_S (zF g 64 580 s.heap.size) s.heap H locs → lv_has ls 4 [] → W p l e R s m args below meth c H locs cells slots Q (F0 m 32 ls []) := by
  obtain ⟨hx, hb, hr, hml, hown, hts, hK, hlk, hST⟩ := id hC
  have hB : ∀ q, (zF g 64 580 s.heap.size) q → zB g q := zF.base hI (Nat.le_of_ble_eq_true rfl) hST.1
  intro m_stack m_known hf H locs ls hP hS hl
  unfold pM_canPass_32 at hf
  refine lv_iconst (v := 0) hx hb dX10_canPass_32 (by decide) ?_
  exact hk33 m_stack m_known 0 hf H locs ls hP hS (lv_sub hl [] rfl)
set_option maxHeartbeats 4000000 in
set_option maxRecDepth 100000 in
theorem mpM_canPass {p : Program} {l : Launch} {e : Env} {R : Room} {s : State} {m : MethodId} {args : Array Value} {below : List Frame} {meth : Method} {c : Code} {cells slots : Nat} {Q : State → Prop} {g : zG} (hI : zI g 581) (hC : zC g RX10 cX10_canPass 4 (some .boolean) p s m meth c args) (hR : 6 ≤ R.frames ∧ 60 * 6 ≤ R.locals ∧ cells ≤ R.cells ∧ slots ≤ R.slots) (m_thrown : Int32) (m_tape : Int32) (m_size : Int32) (m_place : Int32) (m_at : Int32) (m_fault : Int32) (m_faultAt : Int32) (m_clauses : Int32) (m_open : Int32) (m_fed : Nat → Int32) (m_refused : Nat → Int32) (m_readTold : Nat → Int32) (m_told : Nat → Int32) (m_readBeast : Nat → Nat → Int32) (m_beast : Nat → Nat → Int32) (m_readGate : Nat → Nat → Int32) (m_gate : Nat → Nat → Int32) (m_readList : Nat → Nat → Int32) (m_list : Nat → Nat → Int32) (m_lawMany : Int32) (m_readLawMany : Int32) (m_law : Nat → Nat → Int32) (m_readLaw : Nat → Nat → Int32) (m_stack : Nat → Int32) (m_known : Nat → Int32) (m_step : Nat → Nat → Int32) (m_steps : Int32) (m_now : Nat → Int32) (m_trial : Nat → Int32) (m_before : Nat → Nat → Int32) (m_kept : Nat → Nat → Int32) (m_works : Int32) (m_refusedSteps : Int32) (m_images : Int32) (m_spot : Int32) (m_begun : Int32) (m_doneSteps : Int32) (m_mixed : Nat → Int32) (m_fewest : Nat → Int32) (m_leastFees : Nat → Int32) (m_lots : Int32) (m_tars : Int32) (x2 : Int32) (x3 : Int32) (N9 : Nat)   (res : Int32 × (Nat → Int32) × (Nat → Int32)) (hfin : ∀ (r0 : Int32) (m_stack : Nat → Int32) (m_known : Nat → Int32) (H : Heap) (locs : List Loc) (pc : Nat) (ls : Array Slot), (r0, m_stack, m_known) = res → r0 &&& 1 = r0 → va_P g.1 zcl (zM g m_thrown m_tape m_size m_place m_at m_fault m_faultAt m_clauses m_open m_fed m_refused m_readTold m_told m_readBeast m_beast m_readGate m_gate m_readList m_list m_lawMany m_readLawMany m_law m_readLaw m_stack m_known m_step m_steps m_now m_trial m_before m_kept m_works m_refusedSteps m_images m_spot m_begun m_doneSteps m_mixed m_fewest m_leastFees m_lots m_tars) H → va_S (zF g 64 580 s.heap.size) s.heap H locs → decode cX10_canPass pc = .ok (.ireturn, 1) → W p l e R s m args below meth c H locs cells slots Q (F0 m pc ls [.int r0])) : pM_canPass N9 m_told m_gate m_list m_lawMany m_law m_stack m_known m_now x2 x3 = some res → ∀ (H : Heap) (locs : List Loc) (ls : Array Slot), va_P g.1 zcl (zM g m_thrown m_tape m_size m_place m_at m_fault m_faultAt m_clauses m_open m_fed m_refused m_readTold m_told m_readBeast m_beast m_readGate m_gate m_readList m_list m_lawMany m_readLawMany m_law m_readLaw m_stack m_known m_step m_steps m_now m_trial m_before m_kept m_works m_refusedSteps m_images m_spot m_begun m_doneSteps m_mixed m_fewest m_leastFees m_lots m_tars) H → va_S (zF g 64 580 s.heap.size) s.heap H locs → lv_has ls 4 [(0, .ref (g.2.1 64)), (1, .ref (g.2.1 80)), (2, .int x2), (3, .int x3)] → W p l e R s m args below meth c H locs cells slots Q (F0 m 0 ls []) := by
  obtain ⟨hx, hb, hr, hml, hown, hts, hK, hlk, hST⟩ := id hC
  have hB : ∀ q, (zF g 64 580 s.heap.size) q → zB g q := zF.base hI (Nat.le_of_ble_eq_true rfl) hST.1
  intro  hf H locs ls hP hS hl
  have hk33 := mpM_canPass_33 (l := l) (e := e) (R := R) (below := below) (cells := cells) (slots := slots) (Q := Q) hI hC hR m_thrown m_tape m_size m_place m_at m_fault m_faultAt m_clauses m_open m_fed m_refused m_readTold m_told m_readBeast m_beast m_readGate m_gate m_readList m_list m_lawMany m_readLawMany m_law m_readLaw m_step m_steps m_now m_trial m_before m_kept m_works m_refusedSteps m_images m_spot m_begun m_doneSteps m_mixed m_fewest m_leastFees m_lots m_tars N9 res hfin
  have hk32 := mpM_canPass_32 (l := l) (e := e) (R := R) (below := below) (cells := cells) (slots := slots) (Q := Q) hI hC hR m_thrown m_tape m_size m_place m_at m_fault m_faultAt m_clauses m_open m_fed m_refused m_readTold m_told m_readBeast m_beast m_readGate m_gate m_readList m_list m_lawMany m_readLawMany m_law m_readLaw m_step m_steps m_now m_trial m_before m_kept m_works m_refusedSteps m_images m_spot m_begun m_doneSteps m_mixed m_fewest m_leastFees m_lots m_tars N9 (pM_canPass_33 N9) res hfin hk33
  unfold pM_canPass at hf
  refine lv_aload_n hx hb dX10_canPass_0 rfl (lv_at hl 0 rfl) ?_
  refine lv_aload_n hx hb dX10_canPass_1 rfl (lv_at hl 1 rfl) ?_
  refine lv_iconst (v := 0) hx hb dX10_canPass_2 (by decide) ?_
  refine lv_iload_n hx hb dX10_canPass_3 rfl (lv_at hl 2 rfl) ?_
  refine lv_iadd hx hb dX10_canPass_4 ?_
  obtain ⟨hz_1, hf⟩ := zite hf
  refine zl_m_now hC hP hz_1 dX10_canPass_5 ?_
  refine lv_iload_n hx hb dX10_canPass_6 rfl (lv_at hl 3 rfl) ?_
  obtain ⟨r_2, hf_2, hf⟩ := zb1i hf
  refine zcallVi (As := [.int (m_now (0 + x2).toNatClampNeg), .int x3]) (rest := []) hC hP hS hB (fun q h => zF.mono hS.1 h) (cpM_opens l hI H.size m_thrown m_tape m_size m_place m_at m_fault m_faultAt m_clauses m_open m_fed m_refused m_readTold m_told m_readBeast m_beast m_readGate m_gate m_readList m_list m_lawMany m_readLawMany m_law m_readLaw m_stack m_known m_step m_steps m_now m_trial m_before m_kept m_works m_refusedSteps m_images m_spot m_begun m_doneSteps m_mixed m_fewest m_leastFees m_lots m_tars (m_now (0 + x2).toNatClampNeg) x3 N9 hf_2) (hC.ml mw_1673) yo_X10_opens 0 (zfM rfl) rfl rfl rfl hl.1 rfl (Nat.le_of_ble_eq_true rfl) ⟨by omega, by omega⟩ hR.2.2 dX10_canPass_7 (fun H locs hP hS _ _ => ?_)
  refine lv_if_eq (tgt := 32) hx hb dX10_canPass_10 (by decide) (fun hc_3 => ?_) (fun hc_3 => ?_)
  · have hf := zifp hc_3 hf
    exact hk32 m_stack m_known hf H locs ls hP hS (lv_sub hl [] rfl)
  · have hf := zifn hc_3 hf
    refine lv_aload_n hx hb dX10_canPass_13 rfl (lv_at hl 1 rfl) ?_
    refine lv_bipush (v := 43) hx hb dX10_canPass_14 (by decide) ?_
    obtain ⟨hz_4, hf⟩ := zite hf
    refine zl_m_now hC hP hz_4 dX10_canPass_16 ?_
    refine lv_aload_n hx hb dX10_canPass_17 rfl (lv_at hl 0 rfl) ?_
    refine lv_aload_n hx hb dX10_canPass_18 rfl (lv_at hl 1 rfl) ?_
    refine lv_iload_n hx hb dX10_canPass_19 rfl (lv_at hl 2 rfl) ?_
    refine lv_iload_n hx hb dX10_canPass_20 rfl (lv_at hl 3 rfl) ?_
    refine lv_iconst (v := 0) hx hb dX10_canPass_21 (by decide) ?_
    obtain ⟨r_5, m_stack_5, m_known_5, hf_5, hf⟩ := zb3i hf
    refine zcallVi (As := [.ref (g.2.1 80), .int x2, .int x3, .int 0]) (rest := [.int (m_now (43 : Int32).toNatClampNeg)]) hC hP hS hB (fun q h => zF.mono hS.1 h) (cpM_feeOf l hI H.size m_thrown m_tape m_size m_place m_at m_fault m_faultAt m_clauses m_open m_fed m_refused m_readTold m_told m_readBeast m_beast m_readGate m_gate m_readList m_list m_lawMany m_readLawMany m_law m_readLaw m_stack m_known m_step m_steps m_now m_trial m_before m_kept m_works m_refusedSteps m_images m_spot m_begun m_doneSteps m_mixed m_fewest m_leastFees m_lots m_tars x2 x3 (0 : Int32) N9 hf_5) (hC.ml mw_1684) yo_X10_feeOf 0 (zfM rfl) rfl rfl rfl hl.1 rfl (Nat.le_of_ble_eq_true rfl) ⟨by omega, by omega⟩ hR.2.2 dX10_canPass_22 (fun H locs hP hS _ _ => ?_)
    refine lv_icmp_lt (tgt := 32) hx hb dX10_canPass_25 (by decide) (fun hc_6 => ?_) (fun hc_6 => ?_)
    · have hf := zifp hc_6 hf
      exact hk32 m_stack_5 m_known_5 hf H locs ls hP hS (lv_sub hl [] rfl)
    · have hf := zifn hc_6 hf
      refine lv_iconst (v := 1) hx hb dX10_canPass_28 (by decide) ?_
      refine lv_goto (tgt := 33) hx hb dX10_canPass_29 (by decide) ?_
      exact hk33 m_stack_5 m_known_5 1 hf H locs ls hP hS (lv_sub hl [] rfl)
set_option maxHeartbeats 4000000 in
set_option maxRecDepth 100000 in
theorem cpM_canPass (l : Launch) {g : zG} (hI : zI g 581) (sz : Nat) (m_thrown : Int32) (m_tape : Int32) (m_size : Int32) (m_place : Int32) (m_at : Int32) (m_fault : Int32) (m_faultAt : Int32) (m_clauses : Int32) (m_open : Int32) (m_fed : Nat → Int32) (m_refused : Nat → Int32) (m_readTold : Nat → Int32) (m_told : Nat → Int32) (m_readBeast : Nat → Nat → Int32) (m_beast : Nat → Nat → Int32) (m_readGate : Nat → Nat → Int32) (m_gate : Nat → Nat → Int32) (m_readList : Nat → Nat → Int32) (m_list : Nat → Nat → Int32) (m_lawMany : Int32) (m_readLawMany : Int32) (m_law : Nat → Nat → Int32) (m_readLaw : Nat → Nat → Int32) (m_stack : Nat → Int32) (m_known : Nat → Int32) (m_step : Nat → Nat → Int32) (m_steps : Int32) (m_now : Nat → Int32) (m_trial : Nat → Int32) (m_before : Nat → Nat → Int32) (m_kept : Nat → Nat → Int32) (m_works : Int32) (m_refusedSteps : Int32) (m_images : Int32) (m_spot : Int32) (m_begun : Int32) (m_doneSteps : Int32) (m_mixed : Nat → Int32) (m_fewest : Nat → Int32) (m_leastFees : Nat → Int32) (m_lots : Int32) (m_tars : Int32) (x2 : Int32)  (x3 : Int32) (N9 : Nat) {r0 : Int32} {m_stack' : Nat → Int32} {m_known' : Nat → Int32} (hf : pM_canPass N9  m_told m_gate m_list m_lawMany m_law m_stack m_known m_now x2 x3 = some (r0, m_stack', m_known')) : zMi l yX10_canPass cX10_canPass 4 (some .boolean) 6 g (zM g m_thrown m_tape m_size m_place m_at m_fault m_faultAt m_clauses m_open m_fed m_refused m_readTold m_told m_readBeast m_beast m_readGate m_gate m_readList m_list m_lawMany m_readLawMany m_law m_readLaw m_stack m_known m_step m_steps m_now m_trial m_before m_kept m_works m_refusedSteps m_images m_spot m_begun m_doneSteps m_mixed m_fewest m_leastFees m_lots m_tars) (zM g m_thrown m_tape m_size m_place m_at m_fault m_faultAt m_clauses m_open m_fed m_refused m_readTold m_told m_readBeast m_beast m_readGate m_gate m_readList m_list m_lawMany m_readLawMany m_law m_readLaw m_stack' m_known' m_step m_steps m_now m_trial m_before m_kept m_works m_refusedSteps m_images m_spot m_begun m_doneSteps m_mixed m_fewest m_leastFees m_lots m_tars) sz (zF g 64 580 sz) [.ref (g.2.1 64), .ref (g.2.1 80), .int x2, .int x3] r0 := by
  refine Met.ofW (cc := cX10_canPass) (maxL := 4) (ret := (some .boolean)) (by decide +kernel) rfl ?_
  intro p e s m args below meth c s₁ B hml hv
  obtain ⟨rfl, hsz, hP, hK, hST⟩ := hv
  subst hsz
  have hC := zstart (own := RX10) rfl B hml hK hST
  have hl := lv_entry ([.ref (g.2.1 64), .ref (g.2.1 80), .int x2, .int x3]) (n := 4) (Nat.le_of_ble_eq_true rfl)
  rw [lg_entry_eq]
  generalize (lg_sl ([.ref (g.2.1 64), .ref (g.2.1 80), .int x2, .int x3]) ++ List.replicate (4 - (lg_sl ([.ref (g.2.1 64), .ref (g.2.1 80), .int x2, .int x3])).length) Slot.unset).toArray = ls at hl ⊢
  have hl : lv_has ls 4 [(0, .ref (g.2.1 64)), (1, .ref (g.2.1 80)), (2, .int x2), (3, .int x3)] := hl
  obtain ⟨hx, hb, hr, hml, hown, hts, hK, hlk, hST⟩ := id hC
  refine mpM_canPass hI hC ⟨Nat.le_refl _, Nat.le_refl _, Nat.le_refl _, Nat.le_refl _⟩ m_thrown m_tape m_size m_place m_at m_fault m_faultAt m_clauses m_open m_fed m_refused m_readTold m_told m_readBeast m_beast m_readGate m_gate m_readList m_list m_lawMany m_readLawMany m_law m_readLaw m_stack m_known m_step m_steps m_now m_trial m_before m_kept m_works m_refusedSteps m_images m_spot m_begun m_doneSteps m_mixed m_fewest m_leastFees m_lots m_tars x2 x3 N9 (r0, m_stack', m_known') ?_ hf _ _ ls hP va_S.rf hl
  intro r1 m_stack1 m_known1 H locs pc ls he hz hP hS hd
  cases he
  exact W.zret hx hb hr (congrArg Value.int hz) (fun t ht hW => ⟨⟨_, (), rfl, rfl, by rw [← ht] at hP; exact hP⟩, hS.F ht⟩) hS.2.2 hd hlk
/-! StripeTradeModel.passes ([III)Z [('obj', 'm'), ('arr', 'm_now')] -/
set_option maxHeartbeats 4000000 in
set_option maxRecDepth 100000 in
theorem mpM_passes {p : Program} {l : Launch} {e : Env} {R : Room} {s : State} {m : MethodId} {args : Array Value} {below : List Frame} {meth : Method} {c : Code} {cells slots : Nat} {Q : State → Prop} {g : zG} (hI : zI g 581) (hC : zC g RX10 cX10_passes 5 (some .boolean) p s m meth c args) (hR : 7 ≤ R.frames ∧ 60 * 7 ≤ R.locals ∧ cells ≤ R.cells ∧ slots ≤ R.slots) (m_thrown : Int32) (m_tape : Int32) (m_size : Int32) (m_place : Int32) (m_at : Int32) (m_fault : Int32) (m_faultAt : Int32) (m_clauses : Int32) (m_open : Int32) (m_fed : Nat → Int32) (m_refused : Nat → Int32) (m_readTold : Nat → Int32) (m_told : Nat → Int32) (m_readBeast : Nat → Nat → Int32) (m_beast : Nat → Nat → Int32) (m_readGate : Nat → Nat → Int32) (m_gate : Nat → Nat → Int32) (m_readList : Nat → Nat → Int32) (m_list : Nat → Nat → Int32) (m_lawMany : Int32) (m_readLawMany : Int32) (m_law : Nat → Nat → Int32) (m_readLaw : Nat → Nat → Int32) (m_stack : Nat → Int32) (m_known : Nat → Int32) (m_step : Nat → Nat → Int32) (m_steps : Int32) (m_now : Nat → Int32) (m_trial : Nat → Int32) (m_before : Nat → Nat → Int32) (m_kept : Nat → Nat → Int32) (m_works : Int32) (m_refusedSteps : Int32) (m_images : Int32) (m_spot : Int32) (m_begun : Int32) (m_doneSteps : Int32) (m_mixed : Nat → Int32) (m_fewest : Nat → Int32) (m_leastFees : Nat → Int32) (m_lots : Int32) (m_tars : Int32) (x2 : Int32) (x3 : Int32) (N9 : Nat)   (res : Int32 × (Nat → Int32) × (Nat → Int32) × (Nat → Int32)) (hfin : ∀ (r0 : Int32) (m_stack : Nat → Int32) (m_known : Nat → Int32) (m_now : Nat → Int32) (H : Heap) (locs : List Loc) (pc : Nat) (ls : Array Slot), (r0, m_stack, m_known, m_now) = res → r0 &&& 1 = r0 → va_P g.1 zcl (zM g m_thrown m_tape m_size m_place m_at m_fault m_faultAt m_clauses m_open m_fed m_refused m_readTold m_told m_readBeast m_beast m_readGate m_gate m_readList m_list m_lawMany m_readLawMany m_law m_readLaw m_stack m_known m_step m_steps m_now m_trial m_before m_kept m_works m_refusedSteps m_images m_spot m_begun m_doneSteps m_mixed m_fewest m_leastFees m_lots m_tars) H → va_S (zF g 64 580 s.heap.size) s.heap H locs → decode cX10_passes pc = .ok (.ireturn, 1) → W p l e R s m args below meth c H locs cells slots Q (F0 m pc ls [.int r0])) : pM_passes N9 m_told m_gate m_list m_lawMany m_law m_stack m_known m_now x2 x3 = some res → ∀ (H : Heap) (locs : List Loc) (ls : Array Slot), va_P g.1 zcl (zM g m_thrown m_tape m_size m_place m_at m_fault m_faultAt m_clauses m_open m_fed m_refused m_readTold m_told m_readBeast m_beast m_readGate m_gate m_readList m_list m_lawMany m_readLawMany m_law m_readLaw m_stack m_known m_step m_steps m_now m_trial m_before m_kept m_works m_refusedSteps m_images m_spot m_begun m_doneSteps m_mixed m_fewest m_leastFees m_lots m_tars) H → va_S (zF g 64 580 s.heap.size) s.heap H locs → lv_has ls 5 [(0, .ref (g.2.1 64)), (1, .ref (g.2.1 80)), (2, .int x2), (3, .int x3)] → W p l e R s m args below meth c H locs cells slots Q (F0 m 0 ls []) := by
  obtain ⟨hx, hb, hr, hml, hown, hts, hK, hlk, hST⟩ := id hC
  have hB : ∀ q, (zF g 64 580 s.heap.size) q → zB g q := zF.base hI (Nat.le_of_ble_eq_true rfl) hST.1
  intro  hf H locs ls hP hS hl
  unfold pM_passes at hf
  refine lv_aload_n hx hb dX10_passes_0 rfl (lv_at hl 0 rfl) ?_
  refine lv_aload_n hx hb dX10_passes_1 rfl (lv_at hl 1 rfl) ?_
  refine lv_iload_n hx hb dX10_passes_2 rfl (lv_at hl 2 rfl) ?_
  refine lv_iload_n hx hb dX10_passes_3 rfl (lv_at hl 3 rfl) ?_
  obtain ⟨r_1, m_stack_1, m_known_1, hf_1, hf⟩ := zb3i hf
  refine zcallVi (As := [.ref (g.2.1 80), .int x2, .int x3]) (rest := []) hC hP hS hB (fun q h => zF.mono hS.1 h) (cpM_canPass l hI H.size m_thrown m_tape m_size m_place m_at m_fault m_faultAt m_clauses m_open m_fed m_refused m_readTold m_told m_readBeast m_beast m_readGate m_gate m_readList m_list m_lawMany m_readLawMany m_law m_readLaw m_stack m_known m_step m_steps m_now m_trial m_before m_kept m_works m_refusedSteps m_images m_spot m_begun m_doneSteps m_mixed m_fewest m_leastFees m_lots m_tars x2 x3 N9 hf_1) (hC.ml mw_1669) yo_X10_canPass 0 (zfM rfl) rfl rfl rfl hl.1 rfl (Nat.le_of_ble_eq_true rfl) ⟨by omega, by omega⟩ hR.2.2 dX10_passes_4 (fun H locs hP hS _ _ => ?_)
  refine lv_if_ne (tgt := 12) hx hb dX10_passes_7 (by decide) (fun hc_2 => ?_) (fun hc_2 => ?_)
  · have hf := zifn hc_2 hf
    refine lv_aload_n hx hb dX10_passes_12 rfl (lv_at hl 0 rfl) ?_
    refine lv_aload_n hx hb dX10_passes_13 rfl (lv_at hl 1 rfl) ?_
    refine lv_iload_n hx hb dX10_passes_14 rfl (lv_at hl 2 rfl) ?_
    refine lv_iload_n hx hb dX10_passes_15 rfl (lv_at hl 3 rfl) ?_
    refine lv_iconst (v := 0) hx hb dX10_passes_16 (by decide) ?_
    obtain ⟨r_3, m_stack_3, m_known_3, hf_3, hf⟩ := zb3i hf
    refine zcallVi (As := [.ref (g.2.1 80), .int x2, .int x3, .int 0]) (rest := []) hC hP hS hB (fun q h => zF.mono hS.1 h) (cpM_feeOf l hI H.size m_thrown m_tape m_size m_place m_at m_fault m_faultAt m_clauses m_open m_fed m_refused m_readTold m_told m_readBeast m_beast m_readGate m_gate m_readList m_list m_lawMany m_readLawMany m_law m_readLaw m_stack_1 m_known_1 m_step m_steps m_now m_trial m_before m_kept m_works m_refusedSteps m_images m_spot m_begun m_doneSteps m_mixed m_fewest m_leastFees m_lots m_tars x2 x3 (0 : Int32) N9 hf_3) (hC.ml mw_1684) yo_X10_feeOf 0 (zfM rfl) rfl rfl rfl hl.1 rfl (Nat.le_of_ble_eq_true rfl) ⟨by omega, by omega⟩ hR.2.2 dX10_passes_17 (fun H locs hP hS _ _ => ?_)
    refine lv_istore (lv' := [(4, .int r_3), (0, .ref (g.2.1 64)), (1, .ref (g.2.1 80)), (2, .int x2), (3, .int x3)]) hx hb dX10_passes_20 hl (by decide) rfl (fun ls hl => ?_)
    refine lv_aload_n hx hb dX10_passes_22 rfl (lv_at hl 2 rfl) ?_
    refine lv_bipush (v := 43) hx hb dX10_passes_23 (by decide) ?_
    refine lv_dup2_11 hx hb dX10_passes_25 rfl rfl ?_
    obtain ⟨hz_4, hf⟩ := zite hf
    refine zl_m_now hC hP hz_4 dX10_passes_26 ?_
    refine lv_iload hx hb dX10_passes_27 (lv_at hl 0 rfl) ?_
    refine lv_isub hx hb dX10_passes_29 ?_
    refine lv_topi (fun v_5 ev_5 => ?_)
    have hf := zleti ev_5 hf
    refine zs_m_now hC hP hI (fun k h1 h2 => zF.own h1 h2) hS hz_4 dX10_passes_30 (fun H locs hP hS => ?_)
    refine lv_aload_n hx hb dX10_passes_31 rfl (lv_at hl 2 rfl) ?_
    refine lv_bipush (v := 37) hx hb dX10_passes_32 (by decide) ?_
    refine lv_iload_n hx hb dX10_passes_34 rfl (lv_at hl 4 rfl) ?_
    refine lv_iadd hx hb dX10_passes_35 ?_
    refine lv_dup2_11 hx hb dX10_passes_36 rfl rfl ?_
    obtain ⟨hz_6, hf⟩ := zite hf
    refine zl_m_now hC hP hz_6 dX10_passes_37 ?_
    refine lv_iload hx hb dX10_passes_38 (lv_at hl 0 rfl) ?_
    refine lv_iadd hx hb dX10_passes_40 ?_
    refine lv_topi (fun v_7 ev_7 => ?_)
    have hf := zleti ev_7 hf
    refine zs_m_now hC hP hI (fun k h1 h2 => zF.own h1 h2) hS hz_6 dX10_passes_41 (fun H locs hP hS => ?_)
    refine lv_aload_n hx hb dX10_passes_42 rfl (lv_at hl 2 rfl) ?_
    refine lv_bipush (v := 32) hx hb dX10_passes_43 (by decide) ?_
    refine lv_iload_n hx hb dX10_passes_45 rfl (lv_at hl 4 rfl) ?_
    refine lv_iadd hx hb dX10_passes_46 ?_
    refine lv_dup2_11 hx hb dX10_passes_47 rfl rfl ?_
    obtain ⟨hz_8, hf⟩ := zite hf
    refine zl_m_now hC hP hz_8 dX10_passes_48 ?_
    refine lv_iconst (v := 1) hx hb dX10_passes_49 (by decide) ?_
    refine lv_iadd hx hb dX10_passes_50 ?_
    refine lv_topi (fun v_9 ev_9 => ?_)
    have hf := zleti ev_9 hf
    refine zs_m_now hC hP hI (fun k h1 h2 => zF.own h1 h2) hS hz_8 dX10_passes_51 (fun H locs hP hS => ?_)
    refine lv_aload_n hx hb dX10_passes_52 rfl (lv_at hl 2 rfl) ?_
    refine lv_bipush (v := 24) hx hb dX10_passes_53 (by decide) ?_
    refine lv_iload_n hx hb dX10_passes_55 rfl (lv_at hl 3 rfl) ?_
    refine lv_iadd hx hb dX10_passes_56 ?_
    refine lv_dup2_11 hx hb dX10_passes_57 rfl rfl ?_
    obtain ⟨hz_10, hf⟩ := zite hf
    refine zl_m_now hC hP hz_10 dX10_passes_58 ?_
    refine lv_iconst (v := 1) hx hb dX10_passes_59 (by decide) ?_
    refine lv_iadd hx hb dX10_passes_60 ?_
    refine lv_topi (fun v_11 ev_11 => ?_)
    have hf := zleti ev_11 hf
    refine zs_m_now hC hP hI (fun k h1 h2 => zF.own h1 h2) hS hz_10 dX10_passes_61 (fun H locs hP hS => ?_)
    refine lv_aload_n hx hb dX10_passes_62 rfl (lv_at hl 2 rfl) ?_
    refine lv_bipush (v := 45) hx hb dX10_passes_63 (by decide) ?_
    refine lv_dup2_11 hx hb dX10_passes_65 rfl rfl ?_
    obtain ⟨hz_12, hf⟩ := zite hf
    refine zl_m_now hC hP hz_12 dX10_passes_66 ?_
    refine lv_iconst (v := 1) hx hb dX10_passes_67 (by decide) ?_
    refine lv_iadd hx hb dX10_passes_68 ?_
    refine lv_topi (fun v_13 ev_13 => ?_)
    have hf := zleti ev_13 hf
    refine zs_m_now hC hP hI (fun k h1 h2 => zF.own h1 h2) hS hz_12 dX10_passes_69 (fun H locs hP hS => ?_)
    obtain ⟨m_now_14, em_now_14⟩ : ∃ y, y = upd (upd (upd (upd (upd m_now (43 : Int32).toNatClampNeg v_5) (37 + x3).toNatClampNeg v_7) (32 + x3).toNatClampNeg v_9) (24 + x2).toNatClampNeg v_11) (45 : Int32).toNatClampNeg v_13 := ⟨_, rfl⟩
    rw [← em_now_14] at hP
    have hf := zleti em_now_14 hf
    refine lv_iconst (v := 1) hx hb dX10_passes_70 (by decide) ?_
    exact hfin _ _ _ _ H locs _ ls (Option.some.inj hf) (by decide) hP hS dX10_passes_71
  · have hf := zifp hc_2 hf
    refine lv_iconst (v := 0) hx hb dX10_passes_10 (by decide) ?_
    exact hfin _ _ _ _ H locs _ ls (Option.some.inj hf) (by decide) hP hS dX10_passes_11
set_option maxHeartbeats 4000000 in
set_option maxRecDepth 100000 in
theorem cpM_passes (l : Launch) {g : zG} (hI : zI g 581) (sz : Nat) (m_thrown : Int32) (m_tape : Int32) (m_size : Int32) (m_place : Int32) (m_at : Int32) (m_fault : Int32) (m_faultAt : Int32) (m_clauses : Int32) (m_open : Int32) (m_fed : Nat → Int32) (m_refused : Nat → Int32) (m_readTold : Nat → Int32) (m_told : Nat → Int32) (m_readBeast : Nat → Nat → Int32) (m_beast : Nat → Nat → Int32) (m_readGate : Nat → Nat → Int32) (m_gate : Nat → Nat → Int32) (m_readList : Nat → Nat → Int32) (m_list : Nat → Nat → Int32) (m_lawMany : Int32) (m_readLawMany : Int32) (m_law : Nat → Nat → Int32) (m_readLaw : Nat → Nat → Int32) (m_stack : Nat → Int32) (m_known : Nat → Int32) (m_step : Nat → Nat → Int32) (m_steps : Int32) (m_now : Nat → Int32) (m_trial : Nat → Int32) (m_before : Nat → Nat → Int32) (m_kept : Nat → Nat → Int32) (m_works : Int32) (m_refusedSteps : Int32) (m_images : Int32) (m_spot : Int32) (m_begun : Int32) (m_doneSteps : Int32) (m_mixed : Nat → Int32) (m_fewest : Nat → Int32) (m_leastFees : Nat → Int32) (m_lots : Int32) (m_tars : Int32) (x2 : Int32)  (x3 : Int32) (N9 : Nat) {r0 : Int32} {m_stack' : Nat → Int32} {m_known' : Nat → Int32} {m_now' : Nat → Int32} (hf : pM_passes N9  m_told m_gate m_list m_lawMany m_law m_stack m_known m_now x2 x3 = some (r0, m_stack', m_known', m_now')) : zMi l yX10_passes cX10_passes 5 (some .boolean) 7 g (zM g m_thrown m_tape m_size m_place m_at m_fault m_faultAt m_clauses m_open m_fed m_refused m_readTold m_told m_readBeast m_beast m_readGate m_gate m_readList m_list m_lawMany m_readLawMany m_law m_readLaw m_stack m_known m_step m_steps m_now m_trial m_before m_kept m_works m_refusedSteps m_images m_spot m_begun m_doneSteps m_mixed m_fewest m_leastFees m_lots m_tars) (zM g m_thrown m_tape m_size m_place m_at m_fault m_faultAt m_clauses m_open m_fed m_refused m_readTold m_told m_readBeast m_beast m_readGate m_gate m_readList m_list m_lawMany m_readLawMany m_law m_readLaw m_stack' m_known' m_step m_steps m_now' m_trial m_before m_kept m_works m_refusedSteps m_images m_spot m_begun m_doneSteps m_mixed m_fewest m_leastFees m_lots m_tars) sz (zF g 64 580 sz) [.ref (g.2.1 64), .ref (g.2.1 80), .int x2, .int x3] r0 := by
  refine Met.ofW (cc := cX10_passes) (maxL := 5) (ret := (some .boolean)) (by decide +kernel) rfl ?_
  intro p e s m args below meth c s₁ B hml hv
  obtain ⟨rfl, hsz, hP, hK, hST⟩ := hv
  subst hsz
  have hC := zstart (own := RX10) rfl B hml hK hST
  have hl := lv_entry ([.ref (g.2.1 64), .ref (g.2.1 80), .int x2, .int x3]) (n := 5) (Nat.le_of_ble_eq_true rfl)
  rw [lg_entry_eq]
  generalize (lg_sl ([.ref (g.2.1 64), .ref (g.2.1 80), .int x2, .int x3]) ++ List.replicate (5 - (lg_sl ([.ref (g.2.1 64), .ref (g.2.1 80), .int x2, .int x3])).length) Slot.unset).toArray = ls at hl ⊢
  have hl : lv_has ls 5 [(0, .ref (g.2.1 64)), (1, .ref (g.2.1 80)), (2, .int x2), (3, .int x3)] := hl
  obtain ⟨hx, hb, hr, hml, hown, hts, hK, hlk, hST⟩ := id hC
  refine mpM_passes hI hC ⟨Nat.le_refl _, Nat.le_refl _, Nat.le_refl _, Nat.le_refl _⟩ m_thrown m_tape m_size m_place m_at m_fault m_faultAt m_clauses m_open m_fed m_refused m_readTold m_told m_readBeast m_beast m_readGate m_gate m_readList m_list m_lawMany m_readLawMany m_law m_readLaw m_stack m_known m_step m_steps m_now m_trial m_before m_kept m_works m_refusedSteps m_images m_spot m_begun m_doneSteps m_mixed m_fewest m_leastFees m_lots m_tars x2 x3 N9 (r0, m_stack', m_known', m_now') ?_ hf _ _ ls hP va_S.rf hl
  intro r1 m_stack1 m_known1 m_now1 H locs pc ls he hz hP hS hd
  cases he
  exact W.zret hx hb hr (congrArg Value.int hz) (fun t ht hW => ⟨⟨_, (), rfl, rfl, by rw [← ht] at hP; exact hP⟩, hS.F ht⟩) hS.2.2 hd hlk
