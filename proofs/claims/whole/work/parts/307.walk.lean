/-! StripeTradeModel.fog (IIII)J [('obj', 'm')] -/
set_option maxHeartbeats 4000000 in
set_option maxRecDepth 100000 in
theorem mpM_fog_69 {p : Program} {l : Launch} {e : Env} {R : Room} {s : State} {m : MethodId} {args : Array Value} {below : List Frame} {meth : Method} {c : Code} {cells slots : Nat} {Q : State → Prop} {g : zG} (hI : zI g 581) (hC : zC g RX10 cX10_fog 15 (some .long) p s m meth c args) (hR : 4 ≤ R.frames ∧ 60 * 4 ≤ R.locals ∧ cells ≤ R.cells ∧ slots ≤ R.slots) (m_tape : Int32) (m_size : Int32) (m_place : Int32) (m_at : Int32) (m_fault : Int32) (m_faultAt : Int32) (m_clauses : Int32) (m_open : Int32) (m_fed : Nat → Int32) (m_readTold : Nat → Int32) (m_told : Nat → Int32) (m_readBeast : Nat → Nat → Int32) (m_beast : Nat → Nat → Int32) (m_readGate : Nat → Nat → Int32) (m_gate : Nat → Nat → Int32) (m_readList : Nat → Nat → Int32) (m_list : Nat → Nat → Int32) (m_lawMany : Int32) (m_readLawMany : Int32) (m_law : Nat → Nat → Int32) (m_readLaw : Nat → Nat → Int32) (m_stack : Nat → Int32) (m_known : Nat → Int32) (m_step : Nat → Nat → Int32) (m_steps : Int32) (m_now : Nat → Int32) (m_trial : Nat → Int32) (m_before : Nat → Nat → Int32) (m_kept : Nat → Nat → Int32) (m_works : Int32) (m_refusedSteps : Int32) (m_images : Int32) (m_spot : Int32) (m_begun : Int32) (m_doneSteps : Int32) (m_mixed : Nat → Int32) (m_fewest : Nat → Int32) (m_leastFees : Nat → Int32) (m_lots : Int32) (m_tars : Int32)  (N9 : Nat)   (res : Int64 × Int32 × (Nat → Int32)) (hfin : ∀ (r0 : Int64) (m_thrown : Int32) (m_refused : Nat → Int32) (H : Heap) (locs : List Loc) (pc : Nat) (ls : Array Slot), (r0, m_thrown, m_refused) = res → va_P g.1 zcl (zM g m_thrown m_tape m_size m_place m_at m_fault m_faultAt m_clauses m_open m_fed m_refused m_readTold m_told m_readBeast m_beast m_readGate m_gate m_readList m_list m_lawMany m_readLawMany m_law m_readLaw m_stack m_known m_step m_steps m_now m_trial m_before m_kept m_works m_refusedSteps m_images m_spot m_begun m_doneSteps m_mixed m_fewest m_leastFees m_lots m_tars) H → va_S (zF g 64 580 s.heap.size) s.heap H locs → decode cX10_fog pc = .ok (.lreturn, 1) → W p l e R s m args below meth c H locs cells slots Q (F0 m pc ls [.long r0])) : ∀ (m_thrown : Int32) (m_refused : Nat → Int32), pM_fog_69 N9 m_thrown m_refused = some res → ∀ (H : Heap) (locs : List Loc) (ls : Array Slot), va_P g.1 zcl (zM g m_thrown m_tape m_size m_place m_at m_fault m_faultAt m_clauses m_open m_fed m_refused m_readTold m_told m_readBeast m_beast m_readGate m_gate m_readList m_list m_lawMany m_readLawMany m_law m_readLaw m_stack m_known m_step m_steps m_now m_trial m_before m_kept m_works m_refusedSteps m_images m_spot m_begun m_doneSteps m_mixed m_fewest m_leastFees m_lots m_tars) H → va_S (zF g 64 580 s.heap.size) s.heap H locs → lv_has ls 15 [] → W p l e R s m args below meth c H locs cells slots Q (F0 m 69 ls []) := by
  obtain ⟨hx, hb, hr, hml, hown, hts, hK, hlk, hST⟩ := id hC
  have hB : ∀ q, (zF g 64 580 s.heap.size) q → zB g q := zF.base hI (Nat.le_of_ble_eq_true rfl) hST.1
  intro m_thrown m_refused hf H locs ls hP hS hl
  unfold pM_fog_69 at hf
  refine lv_lconst (v := 0) hx hb dX10_fog_69 rfl ?_
  exact hfin _ _ _ H locs _ ls (Option.some.inj hf) hP hS dX10_fog_70
set_option maxHeartbeats 4000000 in
set_option maxRecDepth 100000 in
theorem mpM_fog_163 {p : Program} {l : Launch} {e : Env} {R : Room} {s : State} {m : MethodId} {args : Array Value} {below : List Frame} {meth : Method} {c : Code} {cells slots : Nat} {Q : State → Prop} {g : zG} (hI : zI g 581) (hC : zC g RX10 cX10_fog 15 (some .long) p s m meth c args) (hR : 4 ≤ R.frames ∧ 60 * 4 ≤ R.locals ∧ cells ≤ R.cells ∧ slots ≤ R.slots) (m_thrown : Int32) (m_tape : Int32) (m_size : Int32) (m_place : Int32) (m_at : Int32) (m_fault : Int32) (m_faultAt : Int32) (m_clauses : Int32) (m_open : Int32) (m_fed : Nat → Int32) (m_refused : Nat → Int32) (m_readTold : Nat → Int32) (m_told : Nat → Int32) (m_readBeast : Nat → Nat → Int32) (m_beast : Nat → Nat → Int32) (m_readGate : Nat → Nat → Int32) (m_gate : Nat → Nat → Int32) (m_readList : Nat → Nat → Int32) (m_list : Nat → Nat → Int32) (m_lawMany : Int32) (m_readLawMany : Int32) (m_law : Nat → Nat → Int32) (m_readLaw : Nat → Nat → Int32) (m_stack : Nat → Int32) (m_known : Nat → Int32) (m_step : Nat → Nat → Int32) (m_steps : Int32) (m_now : Nat → Int32) (m_trial : Nat → Int32) (m_before : Nat → Nat → Int32) (m_kept : Nat → Nat → Int32) (m_works : Int32) (m_refusedSteps : Int32) (m_images : Int32) (m_spot : Int32) (m_begun : Int32) (m_doneSteps : Int32) (m_mixed : Nat → Int32) (m_fewest : Nat → Int32) (m_leastFees : Nat → Int32) (m_lots : Int32) (m_tars : Int32) (x1 : Int32) (x2 : Int32) (x3 : Int32) (x4 : Int32) (y7 : Int64) (N9 : Nat)  (k82 : Int32 → (Nat → Int32) → Int64 → Int64 → Int32 → Option (Int64 × Int32 × (Nat → Int32))) (res : Int64 × Int32 × (Nat → Int32)) (hfin : ∀ (r0 : Int64) (m_thrown : Int32) (m_refused : Nat → Int32) (H : Heap) (locs : List Loc) (pc : Nat) (ls : Array Slot), (r0, m_thrown, m_refused) = res → va_P g.1 zcl (zM g m_thrown m_tape m_size m_place m_at m_fault m_faultAt m_clauses m_open m_fed m_refused m_readTold m_told m_readBeast m_beast m_readGate m_gate m_readList m_list m_lawMany m_readLawMany m_law m_readLaw m_stack m_known m_step m_steps m_now m_trial m_before m_kept m_works m_refusedSteps m_images m_spot m_begun m_doneSteps m_mixed m_fewest m_leastFees m_lots m_tars) H → va_S (zF g 64 580 s.heap.size) s.heap H locs → decode cX10_fog pc = .ok (.lreturn, 1) → W p l e R s m args below meth c H locs cells slots Q (F0 m pc ls [.long r0])) (hk82 : ∀ (m_thrown : Int32) (m_refused : Nat → Int32) (y5 : Int64) (y7 : Int64) (x9 : Int32), k82 m_thrown m_refused y5 y7 x9 = some res → ∀ (H : Heap) (locs : List Loc) (ls : Array Slot), va_P g.1 zcl (zM g m_thrown m_tape m_size m_place m_at m_fault m_faultAt m_clauses m_open m_fed m_refused m_readTold m_told m_readBeast m_beast m_readGate m_gate m_readList m_list m_lawMany m_readLawMany m_law m_readLaw m_stack m_known m_step m_steps m_now m_trial m_before m_kept m_works m_refusedSteps m_images m_spot m_begun m_doneSteps m_mixed m_fewest m_leastFees m_lots m_tars) H → va_S (zF g 64 580 s.heap.size) s.heap H locs → lv_has ls 15 [(0, .ref (g.2.1 64)), (1, .int x1), (2, .int x2), (3, .int x3), (4, .int x4), (5, .long y5), (7, .long y7), (9, .int x9)] → W p l e R s m args below meth c H locs cells slots Q (F0 m 82 ls [])) : ∀ (y5 : Int64) (x9 : Int32), pM_fog_163 N9 m_thrown m_refused x1 x2 x3 x4 y7 k82 y5 x9 = some res → ∀ (H : Heap) (locs : List Loc) (ls : Array Slot), va_P g.1 zcl (zM g m_thrown m_tape m_size m_place m_at m_fault m_faultAt m_clauses m_open m_fed m_refused m_readTold m_told m_readBeast m_beast m_readGate m_gate m_readList m_list m_lawMany m_readLawMany m_law m_readLaw m_stack m_known m_step m_steps m_now m_trial m_before m_kept m_works m_refusedSteps m_images m_spot m_begun m_doneSteps m_mixed m_fewest m_leastFees m_lots m_tars) H → va_S (zF g 64 580 s.heap.size) s.heap H locs → lv_has ls 15 [(0, .ref (g.2.1 64)), (1, .int x1), (2, .int x2), (3, .int x3), (4, .int x4), (5, .long y5), (7, .long y7), (9, .int x9)] → W p l e R s m args below meth c H locs cells slots Q (F0 m 163 ls []) := by
  obtain ⟨hx, hb, hr, hml, hown, hts, hK, hlk, hST⟩ := id hC
  have hB : ∀ q, (zF g 64 580 s.heap.size) q → zB g q := zF.base hI (Nat.le_of_ble_eq_true rfl) hST.1
  intro y5 x9 hf H locs ls hP hS hl
  unfold pM_fog_163 at hf
  refine lv_iinc (v := x9 + 1) (lv' := [(9, .int (x9 + 1)), (0, .ref (g.2.1 64)), (1, .int x1), (2, .int x2), (3, .int x3), (4, .int x4), (5, .long y5), (7, .long y7)]) hx hb dX10_fog_163 hl (k := 7) rfl rfl (by decide) rfl (fun ls hl => ?_)
  refine lv_goto (tgt := 82) hx hb dX10_fog_166 (by decide) ?_
  exact hk82 m_thrown m_refused y5 y7 (x9 + 1) hf H locs ls hP hS (lv_sub hl [1, 2, 3, 4, 5, 6, 7, 0] rfl)
set_option maxHeartbeats 4000000 in
set_option maxRecDepth 100000 in
theorem mpM_fog_147 {p : Program} {l : Launch} {e : Env} {R : Room} {s : State} {m : MethodId} {args : Array Value} {below : List Frame} {meth : Method} {c : Code} {cells slots : Nat} {Q : State → Prop} {g : zG} (hI : zI g 581) (hC : zC g RX10 cX10_fog 15 (some .long) p s m meth c args) (hR : 4 ≤ R.frames ∧ 60 * 4 ≤ R.locals ∧ cells ≤ R.cells ∧ slots ≤ R.slots) (m_thrown : Int32) (m_tape : Int32) (m_size : Int32) (m_place : Int32) (m_at : Int32) (m_fault : Int32) (m_faultAt : Int32) (m_clauses : Int32) (m_open : Int32) (m_fed : Nat → Int32) (m_refused : Nat → Int32) (m_readTold : Nat → Int32) (m_told : Nat → Int32) (m_readBeast : Nat → Nat → Int32) (m_beast : Nat → Nat → Int32) (m_readGate : Nat → Nat → Int32) (m_gate : Nat → Nat → Int32) (m_readList : Nat → Nat → Int32) (m_list : Nat → Nat → Int32) (m_lawMany : Int32) (m_readLawMany : Int32) (m_law : Nat → Nat → Int32) (m_readLaw : Nat → Nat → Int32) (m_stack : Nat → Int32) (m_known : Nat → Int32) (m_step : Nat → Nat → Int32) (m_steps : Int32) (m_now : Nat → Int32) (m_trial : Nat → Int32) (m_before : Nat → Nat → Int32) (m_kept : Nat → Nat → Int32) (m_works : Int32) (m_refusedSteps : Int32) (m_images : Int32) (m_spot : Int32) (m_begun : Int32) (m_doneSteps : Int32) (m_mixed : Nat → Int32) (m_fewest : Nat → Int32) (m_leastFees : Nat → Int32) (m_lots : Int32) (m_tars : Int32) (x1 : Int32) (x2 : Int32) (x3 : Int32) (x4 : Int32) (x9 : Int32) (y7 : Int64) (N9 : Nat)  (k118 : Int64 → Int32 → Int64 → Int32 → Option (Int64 × Int32 × (Nat → Int32))) (res : Int64 × Int32 × (Nat → Int32)) (hfin : ∀ (r0 : Int64) (m_thrown : Int32) (m_refused : Nat → Int32) (H : Heap) (locs : List Loc) (pc : Nat) (ls : Array Slot), (r0, m_thrown, m_refused) = res → va_P g.1 zcl (zM g m_thrown m_tape m_size m_place m_at m_fault m_faultAt m_clauses m_open m_fed m_refused m_readTold m_told m_readBeast m_beast m_readGate m_gate m_readList m_list m_lawMany m_readLawMany m_law m_readLaw m_stack m_known m_step m_steps m_now m_trial m_before m_kept m_works m_refusedSteps m_images m_spot m_begun m_doneSteps m_mixed m_fewest m_leastFees m_lots m_tars) H → va_S (zF g 64 580 s.heap.size) s.heap H locs → decode cX10_fog pc = .ok (.lreturn, 1) → W p l e R s m args below meth c H locs cells slots Q (F0 m pc ls [.long r0])) (hk118 : ∀ (y5 : Int64) (x9 : Int32) (y10 : Int64) (x12 : Int32), k118 y5 x9 y10 x12 = some res → ∀ (H : Heap) (locs : List Loc) (ls : Array Slot), va_P g.1 zcl (zM g m_thrown m_tape m_size m_place m_at m_fault m_faultAt m_clauses m_open m_fed m_refused m_readTold m_told m_readBeast m_beast m_readGate m_gate m_readList m_list m_lawMany m_readLawMany m_law m_readLaw m_stack m_known m_step m_steps m_now m_trial m_before m_kept m_works m_refusedSteps m_images m_spot m_begun m_doneSteps m_mixed m_fewest m_leastFees m_lots m_tars) H → va_S (zF g 64 580 s.heap.size) s.heap H locs → lv_has ls 15 [(0, .ref (g.2.1 64)), (1, .int x1), (2, .int x2), (3, .int x3), (4, .int x4), (5, .long y5), (7, .long y7), (9, .int x9), (10, .long y10), (12, .int x12)] → W p l e R s m args below meth c H locs cells slots Q (F0 m 118 ls [])) : ∀ (y5 : Int64) (x12 : Int32) (t0 : Int64) (t1 : Int64), pM_fog_147 N9 x1 x2 x3 x4 y7 x9 k118 y5 x12 t0 t1 = some res → ∀ (H : Heap) (locs : List Loc) (ls : Array Slot), va_P g.1 zcl (zM g m_thrown m_tape m_size m_place m_at m_fault m_faultAt m_clauses m_open m_fed m_refused m_readTold m_told m_readBeast m_beast m_readGate m_gate m_readList m_list m_lawMany m_readLawMany m_law m_readLaw m_stack m_known m_step m_steps m_now m_trial m_before m_kept m_works m_refusedSteps m_images m_spot m_begun m_doneSteps m_mixed m_fewest m_leastFees m_lots m_tars) H → va_S (zF g 64 580 s.heap.size) s.heap H locs → lv_has ls 15 [(0, .ref (g.2.1 64)), (1, .int x1), (2, .int x2), (3, .int x3), (4, .int x4), (5, .long y5), (7, .long y7), (9, .int x9), (12, .int x12)] → W p l e R s m args below meth c H locs cells slots Q (F0 m 147 ls [.long t1, .long t0]) := by
  obtain ⟨hx, hb, hr, hml, hown, hts, hK, hlk, hST⟩ := id hC
  have hB : ∀ q, (zF g 64 580 s.heap.size) q → zB g q := zF.base hI (Nat.le_of_ble_eq_true rfl) hST.1
  intro y5 x12 t0 t1 hf H locs ls hP hS hl
  unfold pM_fog_147 at hf
  refine lv_lmul hx hb dX10_fog_147 ?_
  refine lv_lstore (lv' := [(10, .long (t0 * t1)), (0, .ref (g.2.1 64)), (1, .int x1), (2, .int x2), (3, .int x3), (4, .int x4), (5, .long y5), (7, .long y7), (9, .int x9), (12, .int x12)]) hx hb dX10_fog_148 hl (by decide) rfl (fun ls hl => ?_)
  refine lv_iinc (v := x12 + 1) (lv' := [(12, .int (x12 + 1)), (10, .long (t0 * t1)), (0, .ref (g.2.1 64)), (1, .int x1), (2, .int x2), (3, .int x3), (4, .int x4), (5, .long y5), (7, .long y7), (9, .int x9)]) hx hb dX10_fog_150 hl (k := 9) rfl rfl (by decide) rfl (fun ls hl => ?_)
  refine lv_goto (tgt := 118) hx hb dX10_fog_153 (by decide) ?_
  exact hk118 y5 x9 (t0 * t1) (x12 + 1) hf H locs ls hP hS (lv_sub hl [2, 3, 4, 5, 6, 7, 8, 9, 1, 0] rfl)
set_option maxHeartbeats 4000000 in
set_option maxRecDepth 100000 in
theorem mpM_fog_118 {p : Program} {l : Launch} {e : Env} {R : Room} {s : State} {m : MethodId} {args : Array Value} {below : List Frame} {meth : Method} {c : Code} {cells slots : Nat} {Q : State → Prop} {g : zG} (hI : zI g 581) (hC : zC g RX10 cX10_fog 15 (some .long) p s m meth c args) (hR : 4 ≤ R.frames ∧ 60 * 4 ≤ R.locals ∧ cells ≤ R.cells ∧ slots ≤ R.slots) (m_thrown : Int32) (m_tape : Int32) (m_size : Int32) (m_place : Int32) (m_at : Int32) (m_fault : Int32) (m_faultAt : Int32) (m_clauses : Int32) (m_open : Int32) (m_fed : Nat → Int32) (m_refused : Nat → Int32) (m_readTold : Nat → Int32) (m_told : Nat → Int32) (m_readBeast : Nat → Nat → Int32) (m_beast : Nat → Nat → Int32) (m_readGate : Nat → Nat → Int32) (m_gate : Nat → Nat → Int32) (m_readList : Nat → Nat → Int32) (m_list : Nat → Nat → Int32) (m_lawMany : Int32) (m_readLawMany : Int32) (m_law : Nat → Nat → Int32) (m_readLaw : Nat → Nat → Int32) (m_stack : Nat → Int32) (m_known : Nat → Int32) (m_step : Nat → Nat → Int32) (m_steps : Int32) (m_now : Nat → Int32) (m_trial : Nat → Int32) (m_before : Nat → Nat → Int32) (m_kept : Nat → Nat → Int32) (m_works : Int32) (m_refusedSteps : Int32) (m_images : Int32) (m_spot : Int32) (m_begun : Int32) (m_doneSteps : Int32) (m_mixed : Nat → Int32) (m_fewest : Nat → Int32) (m_leastFees : Nat → Int32) (m_lots : Int32) (m_tars : Int32) (x1 : Int32) (x2 : Int32) (x3 : Int32) (x4 : Int32) (y7 : Int64) (N9 : Nat)  (k163 : Int64 → Int32 → Option (Int64 × Int32 × (Nat → Int32))) (res : Int64 × Int32 × (Nat → Int32)) (hfin : ∀ (r0 : Int64) (m_thrown : Int32) (m_refused : Nat → Int32) (H : Heap) (locs : List Loc) (pc : Nat) (ls : Array Slot), (r0, m_thrown, m_refused) = res → va_P g.1 zcl (zM g m_thrown m_tape m_size m_place m_at m_fault m_faultAt m_clauses m_open m_fed m_refused m_readTold m_told m_readBeast m_beast m_readGate m_gate m_readList m_list m_lawMany m_readLawMany m_law m_readLaw m_stack m_known m_step m_steps m_now m_trial m_before m_kept m_works m_refusedSteps m_images m_spot m_begun m_doneSteps m_mixed m_fewest m_leastFees m_lots m_tars) H → va_S (zF g 64 580 s.heap.size) s.heap H locs → decode cX10_fog pc = .ok (.lreturn, 1) → W p l e R s m args below meth c H locs cells slots Q (F0 m pc ls [.long r0])) (hk163 : ∀ (y5 : Int64) (x9 : Int32), k163 y5 x9 = some res → ∀ (H : Heap) (locs : List Loc) (ls : Array Slot), va_P g.1 zcl (zM g m_thrown m_tape m_size m_place m_at m_fault m_faultAt m_clauses m_open m_fed m_refused m_readTold m_told m_readBeast m_beast m_readGate m_gate m_readList m_list m_lawMany m_readLawMany m_law m_readLaw m_stack m_known m_step m_steps m_now m_trial m_before m_kept m_works m_refusedSteps m_images m_spot m_begun m_doneSteps m_mixed m_fewest m_leastFees m_lots m_tars) H → va_S (zF g 64 580 s.heap.size) s.heap H locs → lv_has ls 15 [(0, .ref (g.2.1 64)), (1, .int x1), (2, .int x2), (3, .int x3), (4, .int x4), (5, .long y5), (7, .long y7), (9, .int x9)] → W p l e R s m args below meth c H locs cells slots Q (F0 m 163 ls [])) : ∀ (n9 : Nat) (y5 : Int64) (x9 : Int32) (y10 : Int64) (x12 : Int32), pM_fog_118 N9 x1 x2 x3 x4 y7 k163 n9 y5 x9 y10 x12 = some res → ∀ (H : Heap) (locs : List Loc) (ls : Array Slot), va_P g.1 zcl (zM g m_thrown m_tape m_size m_place m_at m_fault m_faultAt m_clauses m_open m_fed m_refused m_readTold m_told m_readBeast m_beast m_readGate m_gate m_readList m_list m_lawMany m_readLawMany m_law m_readLaw m_stack m_known m_step m_steps m_now m_trial m_before m_kept m_works m_refusedSteps m_images m_spot m_begun m_doneSteps m_mixed m_fewest m_leastFees m_lots m_tars) H → va_S (zF g 64 580 s.heap.size) s.heap H locs → lv_has ls 15 [(0, .ref (g.2.1 64)), (1, .int x1), (2, .int x2), (3, .int x3), (4, .int x4), (5, .long y5), (7, .long y7), (9, .int x9), (10, .long y10), (12, .int x12)] → W p l e R s m args below meth c H locs cells slots Q (F0 m 118 ls []) := by
  obtain ⟨hx, hb, hr, hml, hown, hts, hK, hlk, hST⟩ := id hC
  have hB : ∀ q, (zF g 64 580 s.heap.size) q → zB g q := zF.base hI (Nat.le_of_ble_eq_true rfl) hST.1
  intro n9
  induction n9 with
  | zero => intro y5 x9 y10 x12 hf; cases hf
  | succ n9 ih =>
    intro y5 x9 y10 x12 hf H locs ls hP hS hl
    have hk118 := ih
    have hk147 := mpM_fog_147 (l := l) (e := e) (R := R) (below := below) (cells := cells) (slots := slots) (Q := Q) hI hC hR m_thrown m_tape m_size m_place m_at m_fault m_faultAt m_clauses m_open m_fed m_refused m_readTold m_told m_readBeast m_beast m_readGate m_gate m_readList m_list m_lawMany m_readLawMany m_law m_readLaw m_stack m_known m_step m_steps m_now m_trial m_before m_kept m_works m_refusedSteps m_images m_spot m_begun m_doneSteps m_mixed m_fewest m_leastFees m_lots m_tars x1 x2 x3 x4 x9 y7 N9 (pM_fog_118 N9 x1 x2 x3 x4 y7 k163 n9) res hfin hk118
    unfold pM_fog_118 at hf
    refine lv_iload hx hb dX10_fog_118 (lv_at hl 9 rfl) ?_
    refine lv_bipush (v := 8) hx hb dX10_fog_120 (by decide) ?_
    refine lv_icmp_ge (tgt := 156) hx hb dX10_fog_122 (by decide) (fun hc_1 => ?_) (fun hc_1 => ?_)
    · have hf := zifp hc_1 hf
      refine lv_lload hx hb dX10_fog_156 (lv_at hl 5 rfl) ?_
      refine lv_lload hx hb dX10_fog_158 (lv_at hl 8 rfl) ?_
      refine lv_ladd hx hb dX10_fog_160 ?_
      refine lv_lstore (lv' := [(5, .long (y5 + y10)), (0, .ref (g.2.1 64)), (1, .int x1), (2, .int x2), (3, .int x3), (4, .int x4), (7, .long y7), (9, .int x9), (10, .long y10), (12, .int x12)]) hx hb dX10_fog_161 hl (by decide) rfl (fun ls hl => ?_)
      exact hk163 (y5 + y10) x9 hf H locs ls hP hS (lv_sub hl [1, 2, 3, 4, 5, 0, 6, 7] rfl)
    · have hf := zifn hc_1 hf
      refine lv_lload hx hb dX10_fog_125 (lv_at hl 8 rfl) ?_
      refine lv_iload hx hb dX10_fog_127 (lv_at hl 7 rfl) ?_
      refine lv_iload hx hb dX10_fog_129 (lv_at hl 9 rfl) ?_
      obtain ⟨r_2, hf_2, hf⟩ := zb1i hf
      refine zcallP (As := [.int x9, .int x12]) (rest := [.long y10]) hC hS hB (cpM_has l hI x9 x12 N9 hf_2) (hC.ml mw_1789) yo_X10_has rfl hl.1 rfl (Nat.le_of_ble_eq_true rfl) ⟨by omega, by omega⟩ hR.2.2 dX10_fog_131 (fun H locs hPk hS _ => ?_)
      have hP := hPk _ _ _ hP
      refine lv_if_eq (tgt := 142) hx hb dX10_fog_134 (by decide) (fun hc_3 => ?_) (fun hc_3 => ?_)
      · have hf := zifp hc_3 hf
        refine lv_bipush (v := 16) hx hb dX10_fog_142 (by decide) ?_
        refine lv_iload_n hx hb dX10_fog_144 rfl (lv_at hl 3 rfl) ?_
        refine lv_isub hx hb dX10_fog_145 ?_
        refine lv_i2l hx hb dX10_fog_146 rfl ?_
        exact hk147 y5 x12 y10 ((16 - x3).toInt64) hf H locs ls hP hS (lv_sub hl [0, 1, 2, 3, 4, 5, 6, 7, 9] rfl)
      · have hf := zifn hc_3 hf
        refine lv_iload_n hx hb dX10_fog_137 rfl (lv_at hl 3 rfl) ?_
        refine lv_i2l hx hb dX10_fog_138 rfl ?_
        refine lv_goto (tgt := 147) hx hb dX10_fog_139 (by decide) ?_
        exact hk147 y5 x12 y10 x3.toInt64 hf H locs ls hP hS (lv_sub hl [0, 1, 2, 3, 4, 5, 6, 7, 9] rfl)
set_option maxHeartbeats 4000000 in
set_option maxRecDepth 100000 in
theorem mpM_fog_220 {p : Program} {l : Launch} {e : Env} {R : Room} {s : State} {m : MethodId} {args : Array Value} {below : List Frame} {meth : Method} {c : Code} {cells slots : Nat} {Q : State → Prop} {g : zG} (hI : zI g 581) (hC : zC g RX10 cX10_fog 15 (some .long) p s m meth c args) (hR : 4 ≤ R.frames ∧ 60 * 4 ≤ R.locals ∧ cells ≤ R.cells ∧ slots ≤ R.slots) (m_thrown : Int32) (m_tape : Int32) (m_size : Int32) (m_place : Int32) (m_at : Int32) (m_fault : Int32) (m_faultAt : Int32) (m_clauses : Int32) (m_open : Int32) (m_fed : Nat → Int32) (m_refused : Nat → Int32) (m_readTold : Nat → Int32) (m_told : Nat → Int32) (m_readBeast : Nat → Nat → Int32) (m_beast : Nat → Nat → Int32) (m_readGate : Nat → Nat → Int32) (m_gate : Nat → Nat → Int32) (m_readList : Nat → Nat → Int32) (m_list : Nat → Nat → Int32) (m_lawMany : Int32) (m_readLawMany : Int32) (m_law : Nat → Nat → Int32) (m_readLaw : Nat → Nat → Int32) (m_stack : Nat → Int32) (m_known : Nat → Int32) (m_step : Nat → Nat → Int32) (m_steps : Int32) (m_now : Nat → Int32) (m_trial : Nat → Int32) (m_before : Nat → Nat → Int32) (m_kept : Nat → Nat → Int32) (m_works : Int32) (m_refusedSteps : Int32) (m_images : Int32) (m_spot : Int32) (m_begun : Int32) (m_doneSteps : Int32) (m_mixed : Nat → Int32) (m_fewest : Nat → Int32) (m_leastFees : Nat → Int32) (m_lots : Int32) (m_tars : Int32)  (N9 : Nat)   (res : Int64 × Int32 × (Nat → Int32)) (hfin : ∀ (r0 : Int64) (m_thrown : Int32) (m_refused : Nat → Int32) (H : Heap) (locs : List Loc) (pc : Nat) (ls : Array Slot), (r0, m_thrown, m_refused) = res → va_P g.1 zcl (zM g m_thrown m_tape m_size m_place m_at m_fault m_faultAt m_clauses m_open m_fed m_refused m_readTold m_told m_readBeast m_beast m_readGate m_gate m_readList m_list m_lawMany m_readLawMany m_law m_readLaw m_stack m_known m_step m_steps m_now m_trial m_before m_kept m_works m_refusedSteps m_images m_spot m_begun m_doneSteps m_mixed m_fewest m_leastFees m_lots m_tars) H → va_S (zF g 64 580 s.heap.size) s.heap H locs → decode cX10_fog pc = .ok (.lreturn, 1) → W p l e R s m args below meth c H locs cells slots Q (F0 m pc ls [.long r0])) : ∀ (t0 : Int64), pM_fog_220 N9 m_thrown m_refused t0 = some res → ∀ (H : Heap) (locs : List Loc) (ls : Array Slot), va_P g.1 zcl (zM g m_thrown m_tape m_size m_place m_at m_fault m_faultAt m_clauses m_open m_fed m_refused m_readTold m_told m_readBeast m_beast m_readGate m_gate m_readList m_list m_lawMany m_readLawMany m_law m_readLaw m_stack m_known m_step m_steps m_now m_trial m_before m_kept m_works m_refusedSteps m_images m_spot m_begun m_doneSteps m_mixed m_fewest m_leastFees m_lots m_tars) H → va_S (zF g 64 580 s.heap.size) s.heap H locs → lv_has ls 15 [] → W p l e R s m args below meth c H locs cells slots Q (F0 m 220 ls [.long t0]) := by
  obtain ⟨hx, hb, hr, hml, hown, hts, hK, hlk, hST⟩ := id hC
  have hB : ∀ q, (zF g 64 580 s.heap.size) q → zB g q := zF.base hI (Nat.le_of_ble_eq_true rfl) hST.1
  intro t0 hf H locs ls hP hS hl
  unfold pM_fog_220 at hf
  exact hfin _ _ _ H locs _ ls (Option.some.inj hf) hP hS dX10_fog_220
set_option maxHeartbeats 4000000 in
set_option maxRecDepth 100000 in
theorem mpM_fog_177 {p : Program} {l : Launch} {e : Env} {R : Room} {s : State} {m : MethodId} {args : Array Value} {below : List Frame} {meth : Method} {c : Code} {cells slots : Nat} {Q : State → Prop} {g : zG} (hI : zI g 581) (hC : zC g RX10 cX10_fog 15 (some .long) p s m meth c args) (hR : 4 ≤ R.frames ∧ 60 * 4 ≤ R.locals ∧ cells ≤ R.cells ∧ slots ≤ R.slots) (m_thrown : Int32) (m_tape : Int32) (m_size : Int32) (m_place : Int32) (m_at : Int32) (m_fault : Int32) (m_faultAt : Int32) (m_clauses : Int32) (m_open : Int32) (m_fed : Nat → Int32) (m_refused : Nat → Int32) (m_readTold : Nat → Int32) (m_told : Nat → Int32) (m_readBeast : Nat → Nat → Int32) (m_beast : Nat → Nat → Int32) (m_readGate : Nat → Nat → Int32) (m_gate : Nat → Nat → Int32) (m_readList : Nat → Nat → Int32) (m_list : Nat → Nat → Int32) (m_lawMany : Int32) (m_readLawMany : Int32) (m_law : Nat → Nat → Int32) (m_readLaw : Nat → Nat → Int32) (m_stack : Nat → Int32) (m_known : Nat → Int32) (m_step : Nat → Nat → Int32) (m_steps : Int32) (m_now : Nat → Int32) (m_trial : Nat → Int32) (m_before : Nat → Nat → Int32) (m_kept : Nat → Nat → Int32) (m_works : Int32) (m_refusedSteps : Int32) (m_images : Int32) (m_spot : Int32) (m_begun : Int32) (m_doneSteps : Int32) (m_mixed : Nat → Int32) (m_fewest : Nat → Int32) (m_leastFees : Nat → Int32) (m_lots : Int32) (m_tars : Int32) (x4 : Int32) (y7 : Int64) (N9 : Nat)   (res : Int64 × Int32 × (Nat → Int32)) (hfin : ∀ (r0 : Int64) (m_thrown : Int32) (m_refused : Nat → Int32) (H : Heap) (locs : List Loc) (pc : Nat) (ls : Array Slot), (r0, m_thrown, m_refused) = res → va_P g.1 zcl (zM g m_thrown m_tape m_size m_place m_at m_fault m_faultAt m_clauses m_open m_fed m_refused m_readTold m_told m_readBeast m_beast m_readGate m_gate m_readList m_list m_lawMany m_readLawMany m_law m_readLaw m_stack m_known m_step m_steps m_now m_trial m_before m_kept m_works m_refusedSteps m_images m_spot m_begun m_doneSteps m_mixed m_fewest m_leastFees m_lots m_tars) H → va_S (zF g 64 580 s.heap.size) s.heap H locs → decode cX10_fog pc = .ok (.lreturn, 1) → W p l e R s m args below meth c H locs cells slots Q (F0 m pc ls [.long r0])) : ∀ (n9 : Nat) (y5 : Int64) (y9 : Int64) (y11 : Int64), pM_fog_177 N9 m_thrown m_refused x4 y7 n9 y5 y9 y11 = some res → ∀ (H : Heap) (locs : List Loc) (ls : Array Slot), va_P g.1 zcl (zM g m_thrown m_tape m_size m_place m_at m_fault m_faultAt m_clauses m_open m_fed m_refused m_readTold m_told m_readBeast m_beast m_readGate m_gate m_readList m_list m_lawMany m_readLawMany m_law m_readLaw m_stack m_known m_step m_steps m_now m_trial m_before m_kept m_works m_refusedSteps m_images m_spot m_begun m_doneSteps m_mixed m_fewest m_leastFees m_lots m_tars) H → va_S (zF g 64 580 s.heap.size) s.heap H locs → lv_has ls 15 [(4, .int x4), (5, .long y5), (7, .long y7), (9, .long y9), (11, .long y11)] → W p l e R s m args below meth c H locs cells slots Q (F0 m 177 ls []) := by
  obtain ⟨hx, hb, hr, hml, hown, hts, hK, hlk, hST⟩ := id hC
  have hB : ∀ q, (zF g 64 580 s.heap.size) q → zB g q := zF.base hI (Nat.le_of_ble_eq_true rfl) hST.1
  intro n9
  induction n9 with
  | zero => intro y5 y9 y11 hf; cases hf
  | succ n9 ih =>
    intro y5 y9 y11 hf H locs ls hP hS hl
    have hk177 := ih
    have hk220 := mpM_fog_220 (l := l) (e := e) (R := R) (below := below) (cells := cells) (slots := slots) (Q := Q) hI hC hR m_thrown m_tape m_size m_place m_at m_fault m_faultAt m_clauses m_open m_fed m_refused m_readTold m_told m_readBeast m_beast m_readGate m_gate m_readList m_list m_lawMany m_readLawMany m_law m_readLaw m_stack m_known m_step m_steps m_now m_trial m_before m_kept m_works m_refusedSteps m_images m_spot m_begun m_doneSteps m_mixed m_fewest m_leastFees m_lots m_tars N9 res hfin
    unfold pM_fog_177 at hf
    refine lv_lload hx hb dX10_fog_177 (lv_at hl 4 rfl) ?_
    refine lv_lconst (v := 0) hx hb dX10_fog_179 rfl ?_
    refine W.lcmp hx hb dX10_fog_180 ?_
    refine lv_if_eq (tgt := 202) hx hb dX10_fog_181 (by decide) (fun hc_4 => ?_) (fun hc_4 => ?_)
    · have hf := zifp hc_4 hf
      refine lv_iload hx hb dX10_fog_202 (lv_at hl 0 rfl) ?_
      refine lv_if_ne (tgt := 215) hx hb dX10_fog_204 (by decide) (fun hc_5 => ?_) (fun hc_5 => ?_)
      · have hf := zifn hc_5 hf
        refine lv_lload hx hb dX10_fog_215 (lv_at hl 2 rfl) ?_
        refine lv_lload hx hb dX10_fog_217 (lv_at hl 3 rfl) ?_
        obtain ⟨hd_6, hf⟩ := zite hf
        refine lv_ldiv hx hb dX10_fog_219 hd_6 ?_
        exact hk220 (y7 / y9) hf H locs ls hP hS (lv_sub hl [] rfl)
      · have hf := zifp hc_5 hf
        refine lv_lload hx hb dX10_fog_207 (lv_at hl 1 rfl) ?_
        refine lv_lload hx hb dX10_fog_209 (lv_at hl 3 rfl) ?_
        obtain ⟨hd_7, hf⟩ := zite hf
        refine lv_ldiv hx hb dX10_fog_211 hd_7 ?_
        refine lv_goto (tgt := 220) hx hb dX10_fog_212 (by decide) ?_
        exact hk220 (y5 / y9) hf H locs ls hP hS (lv_sub hl [] rfl)
    · have hf := zifn hc_4 hf
      refine lv_lload hx hb dX10_fog_184 (lv_at hl 3 rfl) ?_
      refine lv_lload hx hb dX10_fog_186 (lv_at hl 4 rfl) ?_
      obtain ⟨hd_8, hf⟩ := zite hf
      refine lv_lrem hx hb dX10_fog_188 hd_8 ?_
      refine lv_lstore (lv' := [(13, .long (y9 - y9 / y11 * y11)), (4, .int x4), (5, .long y5), (7, .long y7), (9, .long y9), (11, .long y11)]) hx hb dX10_fog_189 hl (by decide) rfl (fun ls hl => ?_)
      refine lv_lload hx hb dX10_fog_191 (lv_at hl 5 rfl) ?_
      refine lv_lstore (lv' := [(9, .long y11), (13, .long (y9 - y9 / y11 * y11)), (4, .int x4), (5, .long y5), (7, .long y7), (11, .long y11)]) hx hb dX10_fog_193 hl (by decide) rfl (fun ls hl => ?_)
      refine lv_lload hx hb dX10_fog_195 (lv_at hl 1 rfl) ?_
      refine lv_lstore (lv' := [(11, .long (y9 - y9 / y11 * y11)), (9, .long y11), (13, .long (y9 - y9 / y11 * y11)), (4, .int x4), (5, .long y5), (7, .long y7)]) hx hb dX10_fog_197 hl (by decide) rfl (fun ls hl => ?_)
      refine lv_goto (tgt := 177) hx hb dX10_fog_199 (by decide) ?_
      exact hk177 y5 y11 (y9 - y9 / y11 * y11) hf H locs ls hP hS (lv_sub hl [3, 4, 5, 1, 0] rfl)
set_option maxHeartbeats 4000000 in
set_option maxRecDepth 100000 in
theorem mpM_fog_82 {p : Program} {l : Launch} {e : Env} {R : Room} {s : State} {m : MethodId} {args : Array Value} {below : List Frame} {meth : Method} {c : Code} {cells slots : Nat} {Q : State → Prop} {g : zG} (hI : zI g 581) (hC : zC g RX10 cX10_fog 15 (some .long) p s m meth c args) (hR : 4 ≤ R.frames ∧ 60 * 4 ≤ R.locals ∧ cells ≤ R.cells ∧ slots ≤ R.slots) (m_tape : Int32) (m_size : Int32) (m_place : Int32) (m_at : Int32) (m_fault : Int32) (m_faultAt : Int32) (m_clauses : Int32) (m_open : Int32) (m_fed : Nat → Int32) (m_readTold : Nat → Int32) (m_told : Nat → Int32) (m_readBeast : Nat → Nat → Int32) (m_beast : Nat → Nat → Int32) (m_readGate : Nat → Nat → Int32) (m_gate : Nat → Nat → Int32) (m_readList : Nat → Nat → Int32) (m_list : Nat → Nat → Int32) (m_lawMany : Int32) (m_readLawMany : Int32) (m_law : Nat → Nat → Int32) (m_readLaw : Nat → Nat → Int32) (m_stack : Nat → Int32) (m_known : Nat → Int32) (m_step : Nat → Nat → Int32) (m_steps : Int32) (m_now : Nat → Int32) (m_trial : Nat → Int32) (m_before : Nat → Nat → Int32) (m_kept : Nat → Nat → Int32) (m_works : Int32) (m_refusedSteps : Int32) (m_images : Int32) (m_spot : Int32) (m_begun : Int32) (m_doneSteps : Int32) (m_mixed : Nat → Int32) (m_fewest : Nat → Int32) (m_leastFees : Nat → Int32) (m_lots : Int32) (m_tars : Int32) (x1 : Int32) (x2 : Int32) (x3 : Int32) (x4 : Int32) (N9 : Nat)   (res : Int64 × Int32 × (Nat → Int32)) (hfin : ∀ (r0 : Int64) (m_thrown : Int32) (m_refused : Nat → Int32) (H : Heap) (locs : List Loc) (pc : Nat) (ls : Array Slot), (r0, m_thrown, m_refused) = res → va_P g.1 zcl (zM g m_thrown m_tape m_size m_place m_at m_fault m_faultAt m_clauses m_open m_fed m_refused m_readTold m_told m_readBeast m_beast m_readGate m_gate m_readList m_list m_lawMany m_readLawMany m_law m_readLaw m_stack m_known m_step m_steps m_now m_trial m_before m_kept m_works m_refusedSteps m_images m_spot m_begun m_doneSteps m_mixed m_fewest m_leastFees m_lots m_tars) H → va_S (zF g 64 580 s.heap.size) s.heap H locs → decode cX10_fog pc = .ok (.lreturn, 1) → W p l e R s m args below meth c H locs cells slots Q (F0 m pc ls [.long r0])) : ∀ (n9 : Nat) (m_thrown : Int32) (m_refused : Nat → Int32) (y5 : Int64) (y7 : Int64) (x9 : Int32), pM_fog_82 N9 m_told m_gate m_list m_now x1 x2 x3 x4 n9 m_thrown m_refused y5 y7 x9 = some res → ∀ (H : Heap) (locs : List Loc) (ls : Array Slot), va_P g.1 zcl (zM g m_thrown m_tape m_size m_place m_at m_fault m_faultAt m_clauses m_open m_fed m_refused m_readTold m_told m_readBeast m_beast m_readGate m_gate m_readList m_list m_lawMany m_readLawMany m_law m_readLaw m_stack m_known m_step m_steps m_now m_trial m_before m_kept m_works m_refusedSteps m_images m_spot m_begun m_doneSteps m_mixed m_fewest m_leastFees m_lots m_tars) H → va_S (zF g 64 580 s.heap.size) s.heap H locs → lv_has ls 15 [(0, .ref (g.2.1 64)), (1, .int x1), (2, .int x2), (3, .int x3), (4, .int x4), (5, .long y5), (7, .long y7), (9, .int x9)] → W p l e R s m args below meth c H locs cells slots Q (F0 m 82 ls []) := by
  obtain ⟨hx, hb, hr, hml, hown, hts, hK, hlk, hST⟩ := id hC
  have hB : ∀ q, (zF g 64 580 s.heap.size) q → zB g q := zF.base hI (Nat.le_of_ble_eq_true rfl) hST.1
  intro n9
  induction n9 with
  | zero => intro m_thrown m_refused y5 y7 x9 hf; cases hf
  | succ n9 ih =>
    intro m_thrown m_refused y5 y7 x9 hf H locs ls hP hS hl
    have hk82 := ih
    have hk163 := mpM_fog_163 (l := l) (e := e) (R := R) (below := below) (cells := cells) (slots := slots) (Q := Q) hI hC hR m_thrown m_tape m_size m_place m_at m_fault m_faultAt m_clauses m_open m_fed m_refused m_readTold m_told m_readBeast m_beast m_readGate m_gate m_readList m_list m_lawMany m_readLawMany m_law m_readLaw m_stack m_known m_step m_steps m_now m_trial m_before m_kept m_works m_refusedSteps m_images m_spot m_begun m_doneSteps m_mixed m_fewest m_leastFees m_lots m_tars x1 x2 x3 x4 y7 N9 (pM_fog_82 N9 m_told m_gate m_list m_now x1 x2 x3 x4 n9) res hfin hk82
    have hk118 := mpM_fog_118 (l := l) (e := e) (R := R) (below := below) (cells := cells) (slots := slots) (Q := Q) hI hC hR m_thrown m_tape m_size m_place m_at m_fault m_faultAt m_clauses m_open m_fed m_refused m_readTold m_told m_readBeast m_beast m_readGate m_gate m_readList m_list m_lawMany m_readLawMany m_law m_readLaw m_stack m_known m_step m_steps m_now m_trial m_before m_kept m_works m_refusedSteps m_images m_spot m_begun m_doneSteps m_mixed m_fewest m_leastFees m_lots m_tars x1 x2 x3 x4 y7 N9 (pM_fog_163 N9 m_thrown m_refused x1 x2 x3 x4 y7 (pM_fog_82 N9 m_told m_gate m_list m_now x1 x2 x3 x4 n9)) res hfin hk163 N9
    have hk177 := mpM_fog_177 (l := l) (e := e) (R := R) (below := below) (cells := cells) (slots := slots) (Q := Q) hI hC hR m_thrown m_tape m_size m_place m_at m_fault m_faultAt m_clauses m_open m_fed m_refused m_readTold m_told m_readBeast m_beast m_readGate m_gate m_readList m_list m_lawMany m_readLawMany m_law m_readLaw m_stack m_known m_step m_steps m_now m_trial m_before m_kept m_works m_refusedSteps m_images m_spot m_begun m_doneSteps m_mixed m_fewest m_leastFees m_lots m_tars x4 y7 N9 res hfin N9
    unfold pM_fog_82 at hf
    refine lv_iload hx hb dX10_fog_82 (lv_at hl 7 rfl) ?_
    refine lv_sipush (v := 256) hx hb dX10_fog_84 (by decide) ?_
    refine lv_icmp_ge (tgt := 169) hx hb dX10_fog_87 (by decide) (fun hc_9 => ?_) (fun hc_9 => ?_)
    · have hf := zifp hc_9 hf
      refine lv_lload hx hb dX10_fog_169 (lv_at hl 6 rfl) ?_
      refine lv_lstore (lv' := [(9, .long y7), (0, .ref (g.2.1 64)), (1, .int x1), (2, .int x2), (3, .int x3), (4, .int x4), (5, .long y5), (7, .long y7)]) hx hb dX10_fog_171 hl (by decide) rfl (fun ls hl => ?_)
      refine lv_lload hx hb dX10_fog_173 (lv_at hl 6 rfl) ?_
      refine lv_lstore (lv' := [(11, .long y5), (9, .long y7), (0, .ref (g.2.1 64)), (1, .int x1), (2, .int x2), (3, .int x3), (4, .int x4), (5, .long y5), (7, .long y7)]) hx hb dX10_fog_175 hl (by decide) rfl (fun ls hl => ?_)
      exact hk177 y5 y7 y5 hf H locs ls hP hS (lv_sub hl [6, 7, 8, 1, 0] rfl)
    · have hf := zifn hc_9 hf
      refine lv_aload_n hx hb dX10_fog_90 rfl (lv_at hl 0 rfl) ?_
      refine lv_aload_n hx hb dX10_fog_91 rfl (lv_at hl 0 rfl) ?_
      refine zr_m_now hC hP (hC.fl mw_1416) dX10_fog_92 ?_
      refine lv_iconst (v := 0) hx hb dX10_fog_95 (by decide) ?_
      refine lv_iload_n hx hb dX10_fog_96 rfl (lv_at hl 1 rfl) ?_
      refine lv_iadd hx hb dX10_fog_97 ?_
      obtain ⟨hz_10, hf⟩ := zite hf
      refine zl_m_now hC hP hz_10 dX10_fog_98 ?_
      refine lv_iload hx hb dX10_fog_99 (lv_at hl 7 rfl) ?_
      refine lv_ixor hx hb dX10_fog_101 ?_
      refine lv_iload_n hx hb dX10_fog_102 rfl (lv_at hl 2 rfl) ?_
      obtain ⟨r_11, hf_11, hf⟩ := zb1i hf
      refine zcallVi (As := [.int ((m_now (0 + x1).toNatClampNeg) ^^^ x9), .int x2]) (rest := []) hC hP hS hB (fun q h => zF.mono hS.1 h) (cpM_opens l hI H.size m_thrown m_tape m_size m_place m_at m_fault m_faultAt m_clauses m_open m_fed m_refused m_readTold m_told m_readBeast m_beast m_readGate m_gate m_readList m_list m_lawMany m_readLawMany m_law m_readLaw m_stack m_known m_step m_steps m_now m_trial m_before m_kept m_works m_refusedSteps m_images m_spot m_begun m_doneSteps m_mixed m_fewest m_leastFees m_lots m_tars ((m_now (0 + x1).toNatClampNeg) ^^^ x9) x2 N9 hf_11) (hC.ml mw_1673) yo_X10_opens 0 (zfM rfl) rfl rfl rfl hl.1 rfl (Nat.le_of_ble_eq_true rfl) ⟨by omega, by omega⟩ hR.2.2 dX10_fog_103 (fun H locs hP hS _ _ => ?_)
      refine lv_if_ne (tgt := 112) hx hb dX10_fog_106 (by decide) (fun hc_12 => ?_) (fun hc_12 => ?_)
      · have hf := zifn hc_12 hf
        refine lv_lconst (v := 1) hx hb dX10_fog_112 rfl ?_
        refine lv_lstore (lv' := [(10, .long 1), (0, .ref (g.2.1 64)), (1, .int x1), (2, .int x2), (3, .int x3), (4, .int x4), (5, .long y5), (7, .long y7), (9, .int x9)]) hx hb dX10_fog_113 hl (by decide) rfl (fun ls hl => ?_)
        refine lv_iconst (v := 0) hx hb dX10_fog_115 (by decide) ?_
        refine lv_istore (lv' := [(12, .int 0), (10, .long 1), (0, .ref (g.2.1 64)), (1, .int x1), (2, .int x2), (3, .int x3), (4, .int x4), (5, .long y5), (7, .long y7), (9, .int x9)]) hx hb dX10_fog_116 hl (by decide) rfl (fun ls hl => ?_)
        exact hk118 y5 x9 1 0 hf H locs ls hP hS (lv_sub hl [2, 3, 4, 5, 6, 7, 8, 9, 1, 0] rfl)
      · have hf := zifp hc_12 hf
        refine lv_goto (tgt := 163) hx hb dX10_fog_109 (by decide) ?_
        exact hk163 y5 x9 hf H locs ls hP hS (lv_sub hl [0, 1, 2, 3, 4, 5, 6, 7] rfl)
set_option maxHeartbeats 4000000 in
set_option maxRecDepth 100000 in
theorem mpM_fog_61 {p : Program} {l : Launch} {e : Env} {R : Room} {s : State} {m : MethodId} {args : Array Value} {below : List Frame} {meth : Method} {c : Code} {cells slots : Nat} {Q : State → Prop} {g : zG} (hI : zI g 581) (hC : zC g RX10 cX10_fog 15 (some .long) p s m meth c args) (hR : 4 ≤ R.frames ∧ 60 * 4 ≤ R.locals ∧ cells ≤ R.cells ∧ slots ≤ R.slots) (m_tape : Int32) (m_size : Int32) (m_place : Int32) (m_at : Int32) (m_fault : Int32) (m_faultAt : Int32) (m_clauses : Int32) (m_open : Int32) (m_fed : Nat → Int32) (m_readTold : Nat → Int32) (m_told : Nat → Int32) (m_readBeast : Nat → Nat → Int32) (m_beast : Nat → Nat → Int32) (m_readGate : Nat → Nat → Int32) (m_gate : Nat → Nat → Int32) (m_readList : Nat → Nat → Int32) (m_list : Nat → Nat → Int32) (m_lawMany : Int32) (m_readLawMany : Int32) (m_law : Nat → Nat → Int32) (m_readLaw : Nat → Nat → Int32) (m_stack : Nat → Int32) (m_known : Nat → Int32) (m_step : Nat → Nat → Int32) (m_steps : Int32) (m_now : Nat → Int32) (m_trial : Nat → Int32) (m_before : Nat → Nat → Int32) (m_kept : Nat → Nat → Int32) (m_works : Int32) (m_refusedSteps : Int32) (m_images : Int32) (m_spot : Int32) (m_begun : Int32) (m_doneSteps : Int32) (m_mixed : Nat → Int32) (m_fewest : Nat → Int32) (m_leastFees : Nat → Int32) (m_lots : Int32) (m_tars : Int32) (x1 : Int32) (x2 : Int32) (x3 : Int32) (x4 : Int32) (N9 : Nat)  (k69 : Int32 → (Nat → Int32) → Option (Int64 × Int32 × (Nat → Int32))) (res : Int64 × Int32 × (Nat → Int32)) (hfin : ∀ (r0 : Int64) (m_thrown : Int32) (m_refused : Nat → Int32) (H : Heap) (locs : List Loc) (pc : Nat) (ls : Array Slot), (r0, m_thrown, m_refused) = res → va_P g.1 zcl (zM g m_thrown m_tape m_size m_place m_at m_fault m_faultAt m_clauses m_open m_fed m_refused m_readTold m_told m_readBeast m_beast m_readGate m_gate m_readList m_list m_lawMany m_readLawMany m_law m_readLaw m_stack m_known m_step m_steps m_now m_trial m_before m_kept m_works m_refusedSteps m_images m_spot m_begun m_doneSteps m_mixed m_fewest m_leastFees m_lots m_tars) H → va_S (zF g 64 580 s.heap.size) s.heap H locs → decode cX10_fog pc = .ok (.lreturn, 1) → W p l e R s m args below meth c H locs cells slots Q (F0 m pc ls [.long r0])) (hk69 : ∀ (m_thrown : Int32) (m_refused : Nat → Int32), k69 m_thrown m_refused = some res → ∀ (H : Heap) (locs : List Loc) (ls : Array Slot), va_P g.1 zcl (zM g m_thrown m_tape m_size m_place m_at m_fault m_faultAt m_clauses m_open m_fed m_refused m_readTold m_told m_readBeast m_beast m_readGate m_gate m_readList m_list m_lawMany m_readLawMany m_law m_readLaw m_stack m_known m_step m_steps m_now m_trial m_before m_kept m_works m_refusedSteps m_images m_spot m_begun m_doneSteps m_mixed m_fewest m_leastFees m_lots m_tars) H → va_S (zF g 64 580 s.heap.size) s.heap H locs → lv_has ls 15 [] → W p l e R s m args below meth c H locs cells slots Q (F0 m 69 ls [])) : ∀ (m_thrown : Int32) (m_refused : Nat → Int32) (s1 : Int32), pM_fog_61 N9 m_told m_gate m_list m_now x1 x2 x3 x4 k69 m_thrown m_refused s1 = some res → ∀ (H : Heap) (locs : List Loc) (ls : Array Slot), va_P g.1 zcl (zM g m_thrown m_tape m_size m_place m_at m_fault m_faultAt m_clauses m_open m_fed m_refused m_readTold m_told m_readBeast m_beast m_readGate m_gate m_readList m_list m_lawMany m_readLawMany m_law m_readLaw m_stack m_known m_step m_steps m_now m_trial m_before m_kept m_works m_refusedSteps m_images m_spot m_begun m_doneSteps m_mixed m_fewest m_leastFees m_lots m_tars) H → va_S (zF g 64 580 s.heap.size) s.heap H locs → lv_has ls 15 [(0, .ref (g.2.1 64)), (1, .int x1), (2, .int x2), (3, .int x3), (4, .int x4)] → W p l e R s m args below meth c H locs cells slots Q (F0 m 61 ls [.int s1, .ref (g.2.1 64)]) := by
  obtain ⟨hx, hb, hr, hml, hown, hts, hK, hlk, hST⟩ := id hC
  have hB : ∀ q, (zF g 64 580 s.heap.size) q → zB g q := zF.base hI (Nat.le_of_ble_eq_true rfl) hST.1
  intro m_thrown m_refused s1 hf H locs ls hP hS hl
  have hk82 := mpM_fog_82 (l := l) (e := e) (R := R) (below := below) (cells := cells) (slots := slots) (Q := Q) hI hC hR m_tape m_size m_place m_at m_fault m_faultAt m_clauses m_open m_fed m_readTold m_told m_readBeast m_beast m_readGate m_gate m_readList m_list m_lawMany m_readLawMany m_law m_readLaw m_stack m_known m_step m_steps m_now m_trial m_before m_kept m_works m_refusedSteps m_images m_spot m_begun m_doneSteps m_mixed m_fewest m_leastFees m_lots m_tars x1 x2 x3 x4 N9 res hfin N9
  unfold pM_fog_61 at hf
  refine lv_iconst (v := 2) hx hb dX10_fog_61 (by decide) ?_
  refine lv_iconst (v := 1) hx hb dX10_fog_62 (by decide) ?_
  obtain ⟨r_13, m_thrown_13, m_refused_13, hf_13, hf⟩ := zb3i hf
  refine zcallVi (As := [.int s1, .int 2, .int 1]) (rest := []) hC hP hS hB (fun q h => zF.mono hS.1 h) (cpM_bad l hI H.size m_thrown m_tape m_size m_place m_at m_fault m_faultAt m_clauses m_open m_fed m_refused m_readTold m_told m_readBeast m_beast m_readGate m_gate m_readList m_list m_lawMany m_readLawMany m_law m_readLaw m_stack m_known m_step m_steps m_now m_trial m_before m_kept m_works m_refusedSteps m_images m_spot m_begun m_doneSteps m_mixed m_fewest m_leastFees m_lots m_tars s1 (2 : Int32) (1 : Int32) N9 hf_13) (hC.ml mw_1531) yo_X10_bad 0 (zfM rfl) rfl rfl rfl hl.1 rfl (Nat.le_of_ble_eq_true rfl) ⟨by omega, by omega⟩ hR.2.2 dX10_fog_63 (fun H locs hP hS _ _ => ?_)
  refine lv_if_eq (tgt := 71) hx hb dX10_fog_66 (by decide) (fun hc_14 => ?_) (fun hc_14 => ?_)
  · have hf := zifp hc_14 hf
    refine lv_lconst (v := 0) hx hb dX10_fog_71 rfl ?_
    refine lv_lstore (lv' := [(5, .long 0), (0, .ref (g.2.1 64)), (1, .int x1), (2, .int x2), (3, .int x3), (4, .int x4)]) hx hb dX10_fog_72 hl (by decide) rfl (fun ls hl => ?_)
    refine lv_ldc2 (v := 4294967296) hx hb hown (hts _ mw_1864) dX10_fog_74 ?_
    refine lv_lstore (lv' := [(7, .long 4294967296), (5, .long 0), (0, .ref (g.2.1 64)), (1, .int x1), (2, .int x2), (3, .int x3), (4, .int x4)]) hx hb dX10_fog_77 hl (by decide) rfl (fun ls hl => ?_)
    refine lv_iconst (v := 0) hx hb dX10_fog_79 (by decide) ?_
    refine lv_istore (lv' := [(9, .int 0), (7, .long 4294967296), (5, .long 0), (0, .ref (g.2.1 64)), (1, .int x1), (2, .int x2), (3, .int x3), (4, .int x4)]) hx hb dX10_fog_80 hl (by decide) rfl (fun ls hl => ?_)
    exact hk82 m_thrown_13 m_refused_13 0 4294967296 0 hf H locs ls hP hS (lv_sub hl [3, 4, 5, 6, 7, 2, 1, 0] rfl)
  · have hf := zifn hc_14 hf
    exact hk69 m_thrown_13 m_refused_13 hf H locs ls hP hS (lv_sub hl [] rfl)
set_option maxHeartbeats 4000000 in
set_option maxRecDepth 100000 in
theorem mpM_fog_56 {p : Program} {l : Launch} {e : Env} {R : Room} {s : State} {m : MethodId} {args : Array Value} {below : List Frame} {meth : Method} {c : Code} {cells slots : Nat} {Q : State → Prop} {g : zG} (hI : zI g 581) (hC : zC g RX10 cX10_fog 15 (some .long) p s m meth c args) (hR : 4 ≤ R.frames ∧ 60 * 4 ≤ R.locals ∧ cells ≤ R.cells ∧ slots ≤ R.slots) (m_tape : Int32) (m_size : Int32) (m_place : Int32) (m_at : Int32) (m_fault : Int32) (m_faultAt : Int32) (m_clauses : Int32) (m_open : Int32) (m_fed : Nat → Int32) (m_readTold : Nat → Int32) (m_told : Nat → Int32) (m_readBeast : Nat → Nat → Int32) (m_beast : Nat → Nat → Int32) (m_readGate : Nat → Nat → Int32) (m_gate : Nat → Nat → Int32) (m_readList : Nat → Nat → Int32) (m_list : Nat → Nat → Int32) (m_lawMany : Int32) (m_readLawMany : Int32) (m_law : Nat → Nat → Int32) (m_readLaw : Nat → Nat → Int32) (m_stack : Nat → Int32) (m_known : Nat → Int32) (m_step : Nat → Nat → Int32) (m_steps : Int32) (m_now : Nat → Int32) (m_trial : Nat → Int32) (m_before : Nat → Nat → Int32) (m_kept : Nat → Nat → Int32) (m_works : Int32) (m_refusedSteps : Int32) (m_images : Int32) (m_spot : Int32) (m_begun : Int32) (m_doneSteps : Int32) (m_mixed : Nat → Int32) (m_fewest : Nat → Int32) (m_leastFees : Nat → Int32) (m_lots : Int32) (m_tars : Int32) (x1 : Int32) (x2 : Int32) (x3 : Int32) (x4 : Int32) (N9 : Nat)  (k61 : Int32 → (Nat → Int32) → Int32 → Option (Int64 × Int32 × (Nat → Int32))) (res : Int64 × Int32 × (Nat → Int32)) (hfin : ∀ (r0 : Int64) (m_thrown : Int32) (m_refused : Nat → Int32) (H : Heap) (locs : List Loc) (pc : Nat) (ls : Array Slot), (r0, m_thrown, m_refused) = res → va_P g.1 zcl (zM g m_thrown m_tape m_size m_place m_at m_fault m_faultAt m_clauses m_open m_fed m_refused m_readTold m_told m_readBeast m_beast m_readGate m_gate m_readList m_list m_lawMany m_readLawMany m_law m_readLaw m_stack m_known m_step m_steps m_now m_trial m_before m_kept m_works m_refusedSteps m_images m_spot m_begun m_doneSteps m_mixed m_fewest m_leastFees m_lots m_tars) H → va_S (zF g 64 580 s.heap.size) s.heap H locs → decode cX10_fog pc = .ok (.lreturn, 1) → W p l e R s m args below meth c H locs cells slots Q (F0 m pc ls [.long r0])) (hk61 : ∀ (m_thrown : Int32) (m_refused : Nat → Int32) (s1 : Int32), k61 m_thrown m_refused s1 = some res → ∀ (H : Heap) (locs : List Loc) (ls : Array Slot), va_P g.1 zcl (zM g m_thrown m_tape m_size m_place m_at m_fault m_faultAt m_clauses m_open m_fed m_refused m_readTold m_told m_readBeast m_beast m_readGate m_gate m_readList m_list m_lawMany m_readLawMany m_law m_readLaw m_stack m_known m_step m_steps m_now m_trial m_before m_kept m_works m_refusedSteps m_images m_spot m_begun m_doneSteps m_mixed m_fewest m_leastFees m_lots m_tars) H → va_S (zF g 64 580 s.heap.size) s.heap H locs → lv_has ls 15 [(0, .ref (g.2.1 64)), (1, .int x1), (2, .int x2), (3, .int x3), (4, .int x4)] → W p l e R s m args below meth c H locs cells slots Q (F0 m 61 ls [.int s1, .ref (g.2.1 64)])) : ∀ (m_thrown : Int32) (m_refused : Nat → Int32), pM_fog_56 N9 x1 x2 x3 x4 k61 m_thrown m_refused = some res → ∀ (H : Heap) (locs : List Loc) (ls : Array Slot), va_P g.1 zcl (zM g m_thrown m_tape m_size m_place m_at m_fault m_faultAt m_clauses m_open m_fed m_refused m_readTold m_told m_readBeast m_beast m_readGate m_gate m_readList m_list m_lawMany m_readLawMany m_law m_readLaw m_stack m_known m_step m_steps m_now m_trial m_before m_kept m_works m_refusedSteps m_images m_spot m_begun m_doneSteps m_mixed m_fewest m_leastFees m_lots m_tars) H → va_S (zF g 64 580 s.heap.size) s.heap H locs → lv_has ls 15 [(0, .ref (g.2.1 64)), (1, .int x1), (2, .int x2), (3, .int x3), (4, .int x4)] → W p l e R s m args below meth c H locs cells slots Q (F0 m 56 ls [.ref (g.2.1 64)]) := by
  obtain ⟨hx, hb, hr, hml, hown, hts, hK, hlk, hST⟩ := id hC
  have hB : ∀ q, (zF g 64 580 s.heap.size) q → zB g q := zF.base hI (Nat.le_of_ble_eq_true rfl) hST.1
  intro m_thrown m_refused hf H locs ls hP hS hl
  unfold pM_fog_56 at hf
  refine lv_iconst (v := 1) hx hb dX10_fog_56 (by decide) ?_
  refine lv_goto (tgt := 61) hx hb dX10_fog_57 (by decide) ?_
  exact hk61 m_thrown m_refused 1 hf H locs ls hP hS (lv_sub hl [0, 1, 2, 3, 4] rfl)
set_option maxHeartbeats 4000000 in
set_option maxRecDepth 100000 in
theorem mpM_fog_27 {p : Program} {l : Launch} {e : Env} {R : Room} {s : State} {m : MethodId} {args : Array Value} {below : List Frame} {meth : Method} {c : Code} {cells slots : Nat} {Q : State → Prop} {g : zG} (hI : zI g 581) (hC : zC g RX10 cX10_fog 15 (some .long) p s m meth c args) (hR : 4 ≤ R.frames ∧ 60 * 4 ≤ R.locals ∧ cells ≤ R.cells ∧ slots ≤ R.slots) (m_tape : Int32) (m_size : Int32) (m_place : Int32) (m_at : Int32) (m_fault : Int32) (m_faultAt : Int32) (m_clauses : Int32) (m_open : Int32) (m_fed : Nat → Int32) (m_refused : Nat → Int32) (m_readTold : Nat → Int32) (m_told : Nat → Int32) (m_readBeast : Nat → Nat → Int32) (m_beast : Nat → Nat → Int32) (m_readGate : Nat → Nat → Int32) (m_gate : Nat → Nat → Int32) (m_readList : Nat → Nat → Int32) (m_list : Nat → Nat → Int32) (m_lawMany : Int32) (m_readLawMany : Int32) (m_law : Nat → Nat → Int32) (m_readLaw : Nat → Nat → Int32) (m_stack : Nat → Int32) (m_known : Nat → Int32) (m_step : Nat → Nat → Int32) (m_steps : Int32) (m_now : Nat → Int32) (m_trial : Nat → Int32) (m_before : Nat → Nat → Int32) (m_kept : Nat → Nat → Int32) (m_works : Int32) (m_refusedSteps : Int32) (m_images : Int32) (m_spot : Int32) (m_begun : Int32) (m_doneSteps : Int32) (m_mixed : Nat → Int32) (m_fewest : Nat → Int32) (m_leastFees : Nat → Int32) (m_lots : Int32) (m_tars : Int32) (x1 : Int32) (x2 : Int32) (x3 : Int32) (x4 : Int32) (N9 : Nat)   (res : Int64 × Int32 × (Nat → Int32)) (hfin : ∀ (r0 : Int64) (m_thrown : Int32) (m_refused : Nat → Int32) (H : Heap) (locs : List Loc) (pc : Nat) (ls : Array Slot), (r0, m_thrown, m_refused) = res → va_P g.1 zcl (zM g m_thrown m_tape m_size m_place m_at m_fault m_faultAt m_clauses m_open m_fed m_refused m_readTold m_told m_readBeast m_beast m_readGate m_gate m_readList m_list m_lawMany m_readLawMany m_law m_readLaw m_stack m_known m_step m_steps m_now m_trial m_before m_kept m_works m_refusedSteps m_images m_spot m_begun m_doneSteps m_mixed m_fewest m_leastFees m_lots m_tars) H → va_S (zF g 64 580 s.heap.size) s.heap H locs → decode cX10_fog pc = .ok (.lreturn, 1) → W p l e R s m args below meth c H locs cells slots Q (F0 m pc ls [.long r0])) : ∀ (m_thrown : Int32) (s1 : Int32), pM_fog_27 N9 m_refused m_told m_gate m_list m_now x1 x2 x3 x4 m_thrown s1 = some res → ∀ (H : Heap) (locs : List Loc) (ls : Array Slot), va_P g.1 zcl (zM g m_thrown m_tape m_size m_place m_at m_fault m_faultAt m_clauses m_open m_fed m_refused m_readTold m_told m_readBeast m_beast m_readGate m_gate m_readList m_list m_lawMany m_readLawMany m_law m_readLaw m_stack m_known m_step m_steps m_now m_trial m_before m_kept m_works m_refusedSteps m_images m_spot m_begun m_doneSteps m_mixed m_fewest m_leastFees m_lots m_tars) H → va_S (zF g 64 580 s.heap.size) s.heap H locs → lv_has ls 15 [(0, .ref (g.2.1 64)), (1, .int x1), (2, .int x2), (3, .int x3), (4, .int x4)] → W p l e R s m args below meth c H locs cells slots Q (F0 m 27 ls [.int s1, .ref (g.2.1 64)]) := by
  obtain ⟨hx, hb, hr, hml, hown, hts, hK, hlk, hST⟩ := id hC
  have hB : ∀ q, (zF g 64 580 s.heap.size) q → zB g q := zF.base hI (Nat.le_of_ble_eq_true rfl) hST.1
  intro m_thrown s1 hf H locs ls hP hS hl
  have hk69 := mpM_fog_69 (l := l) (e := e) (R := R) (below := below) (cells := cells) (slots := slots) (Q := Q) hI hC hR m_tape m_size m_place m_at m_fault m_faultAt m_clauses m_open m_fed m_readTold m_told m_readBeast m_beast m_readGate m_gate m_readList m_list m_lawMany m_readLawMany m_law m_readLaw m_stack m_known m_step m_steps m_now m_trial m_before m_kept m_works m_refusedSteps m_images m_spot m_begun m_doneSteps m_mixed m_fewest m_leastFees m_lots m_tars N9 res hfin
  have hk61 := mpM_fog_61 (l := l) (e := e) (R := R) (below := below) (cells := cells) (slots := slots) (Q := Q) hI hC hR m_tape m_size m_place m_at m_fault m_faultAt m_clauses m_open m_fed m_readTold m_told m_readBeast m_beast m_readGate m_gate m_readList m_list m_lawMany m_readLawMany m_law m_readLaw m_stack m_known m_step m_steps m_now m_trial m_before m_kept m_works m_refusedSteps m_images m_spot m_begun m_doneSteps m_mixed m_fewest m_leastFees m_lots m_tars x1 x2 x3 x4 N9 (pM_fog_69 N9) res hfin hk69
  have hk56 := mpM_fog_56 (l := l) (e := e) (R := R) (below := below) (cells := cells) (slots := slots) (Q := Q) hI hC hR m_tape m_size m_place m_at m_fault m_faultAt m_clauses m_open m_fed m_readTold m_told m_readBeast m_beast m_readGate m_gate m_readList m_list m_lawMany m_readLawMany m_law m_readLaw m_stack m_known m_step m_steps m_now m_trial m_before m_kept m_works m_refusedSteps m_images m_spot m_begun m_doneSteps m_mixed m_fewest m_leastFees m_lots m_tars x1 x2 x3 x4 N9 (pM_fog_61 N9 m_told m_gate m_list m_now x1 x2 x3 x4 (pM_fog_69 N9)) res hfin hk61
  unfold pM_fog_27 at hf
  refine lv_iconst (v := 1) hx hb dX10_fog_27 (by decide) ?_
  refine lv_iconst (v := 0) hx hb dX10_fog_28 (by decide) ?_
  obtain ⟨r_15, m_thrown_15, m_refused_15, hf_15, hf⟩ := zb3i hf
  refine zcallVi (As := [.int s1, .int 1, .int 0]) (rest := []) hC hP hS hB (fun q h => zF.mono hS.1 h) (cpM_bad l hI H.size m_thrown m_tape m_size m_place m_at m_fault m_faultAt m_clauses m_open m_fed m_refused m_readTold m_told m_readBeast m_beast m_readGate m_gate m_readList m_list m_lawMany m_readLawMany m_law m_readLaw m_stack m_known m_step m_steps m_now m_trial m_before m_kept m_works m_refusedSteps m_images m_spot m_begun m_doneSteps m_mixed m_fewest m_leastFees m_lots m_tars s1 (1 : Int32) (0 : Int32) N9 hf_15) (hC.ml mw_1531) yo_X10_bad 0 (zfM rfl) rfl rfl rfl hl.1 rfl (Nat.le_of_ble_eq_true rfl) ⟨by omega, by omega⟩ hR.2.2 dX10_fog_29 (fun H locs hP hS _ _ => ?_)
  refine lv_if_ne (tgt := 69) hx hb dX10_fog_32 (by decide) (fun hc_16 => ?_) (fun hc_16 => ?_)
  · have hf := zifn hc_16 hf
    exact hk69 m_thrown_15 m_refused_15 hf H locs ls hP hS (lv_sub hl [] rfl)
  · have hf := zifp hc_16 hf
    refine lv_aload_n hx hb dX10_fog_35 rfl (lv_at hl 0 rfl) ?_
    refine lv_iload_n hx hb dX10_fog_36 rfl (lv_at hl 3 rfl) ?_
    refine lv_iconst (v := 0) hx hb dX10_fog_37 (by decide) ?_
    refine lv_bipush (v := 16) hx hb dX10_fog_38 (by decide) ?_
    obtain ⟨r_17, hf_17, hf⟩ := zb1i hf
    refine zcallP (As := [.int x3, .int 0, .int 16]) (rest := [.ref (g.2.1 64)]) hC hS hB (cpM_in l hI x3 (0 : Int32) (16 : Int32) N9 hf_17) (hC.ml mw_1528) yo_X10_in rfl hl.1 rfl (Nat.le_of_ble_eq_true rfl) ⟨by omega, by omega⟩ hR.2.2 dX10_fog_40 (fun H locs hPk hS _ => ?_)
    have hP := hPk _ _ _ hP
    refine lv_if_eq (tgt := 56) hx hb dX10_fog_43 (by decide) (fun hc_18 => ?_) (fun hc_18 => ?_)
    · have hf := zifp hc_18 hf
      exact hk56 m_thrown_15 m_refused_15 hf H locs ls hP hS (lv_sub hl [0, 1, 2, 3, 4] rfl)
    · have hf := zifn hc_18 hf
      refine lv_iload hx hb dX10_fog_46 (lv_at hl 4 rfl) ?_
      refine lv_iconst (v := 0) hx hb dX10_fog_48 (by decide) ?_
      refine lv_iconst (v := 1) hx hb dX10_fog_49 (by decide) ?_
      obtain ⟨r_19, hf_19, hf⟩ := zb1i hf
      refine zcallP (As := [.int x4, .int 0, .int 1]) (rest := [.ref (g.2.1 64)]) hC hS hB (cpM_in l hI x4 (0 : Int32) (1 : Int32) N9 hf_19) (hC.ml mw_1528) yo_X10_in rfl hl.1 rfl (Nat.le_of_ble_eq_true rfl) ⟨by omega, by omega⟩ hR.2.2 dX10_fog_50 (fun H locs hPk hS _ => ?_)
      have hP := hPk _ _ _ hP
      refine lv_if_ne (tgt := 60) hx hb dX10_fog_53 (by decide) (fun hc_20 => ?_) (fun hc_20 => ?_)
      · have hf := zifn hc_20 hf
        refine lv_iconst (v := 0) hx hb dX10_fog_60 (by decide) ?_
        exact hk61 m_thrown_15 m_refused_15 0 hf H locs ls hP hS (lv_sub hl [0, 1, 2, 3, 4] rfl)
      · have hf := zifp hc_20 hf
        exact hk56 m_thrown_15 m_refused_15 hf H locs ls hP hS (lv_sub hl [0, 1, 2, 3, 4] rfl)
set_option maxHeartbeats 4000000 in
set_option maxRecDepth 100000 in
theorem mpM_fog_22 {p : Program} {l : Launch} {e : Env} {R : Room} {s : State} {m : MethodId} {args : Array Value} {below : List Frame} {meth : Method} {c : Code} {cells slots : Nat} {Q : State → Prop} {g : zG} (hI : zI g 581) (hC : zC g RX10 cX10_fog 15 (some .long) p s m meth c args) (hR : 4 ≤ R.frames ∧ 60 * 4 ≤ R.locals ∧ cells ≤ R.cells ∧ slots ≤ R.slots) (m_tape : Int32) (m_size : Int32) (m_place : Int32) (m_at : Int32) (m_fault : Int32) (m_faultAt : Int32) (m_clauses : Int32) (m_open : Int32) (m_fed : Nat → Int32) (m_refused : Nat → Int32) (m_readTold : Nat → Int32) (m_told : Nat → Int32) (m_readBeast : Nat → Nat → Int32) (m_beast : Nat → Nat → Int32) (m_readGate : Nat → Nat → Int32) (m_gate : Nat → Nat → Int32) (m_readList : Nat → Nat → Int32) (m_list : Nat → Nat → Int32) (m_lawMany : Int32) (m_readLawMany : Int32) (m_law : Nat → Nat → Int32) (m_readLaw : Nat → Nat → Int32) (m_stack : Nat → Int32) (m_known : Nat → Int32) (m_step : Nat → Nat → Int32) (m_steps : Int32) (m_now : Nat → Int32) (m_trial : Nat → Int32) (m_before : Nat → Nat → Int32) (m_kept : Nat → Nat → Int32) (m_works : Int32) (m_refusedSteps : Int32) (m_images : Int32) (m_spot : Int32) (m_begun : Int32) (m_doneSteps : Int32) (m_mixed : Nat → Int32) (m_fewest : Nat → Int32) (m_leastFees : Nat → Int32) (m_lots : Int32) (m_tars : Int32) (x1 : Int32) (x2 : Int32) (x3 : Int32) (x4 : Int32) (N9 : Nat)  (k27 : Int32 → Int32 → Option (Int64 × Int32 × (Nat → Int32))) (res : Int64 × Int32 × (Nat → Int32)) (hfin : ∀ (r0 : Int64) (m_thrown : Int32) (m_refused : Nat → Int32) (H : Heap) (locs : List Loc) (pc : Nat) (ls : Array Slot), (r0, m_thrown, m_refused) = res → va_P g.1 zcl (zM g m_thrown m_tape m_size m_place m_at m_fault m_faultAt m_clauses m_open m_fed m_refused m_readTold m_told m_readBeast m_beast m_readGate m_gate m_readList m_list m_lawMany m_readLawMany m_law m_readLaw m_stack m_known m_step m_steps m_now m_trial m_before m_kept m_works m_refusedSteps m_images m_spot m_begun m_doneSteps m_mixed m_fewest m_leastFees m_lots m_tars) H → va_S (zF g 64 580 s.heap.size) s.heap H locs → decode cX10_fog pc = .ok (.lreturn, 1) → W p l e R s m args below meth c H locs cells slots Q (F0 m pc ls [.long r0])) (hk27 : ∀ (m_thrown : Int32) (s1 : Int32), k27 m_thrown s1 = some res → ∀ (H : Heap) (locs : List Loc) (ls : Array Slot), va_P g.1 zcl (zM g m_thrown m_tape m_size m_place m_at m_fault m_faultAt m_clauses m_open m_fed m_refused m_readTold m_told m_readBeast m_beast m_readGate m_gate m_readList m_list m_lawMany m_readLawMany m_law m_readLaw m_stack m_known m_step m_steps m_now m_trial m_before m_kept m_works m_refusedSteps m_images m_spot m_begun m_doneSteps m_mixed m_fewest m_leastFees m_lots m_tars) H → va_S (zF g 64 580 s.heap.size) s.heap H locs → lv_has ls 15 [(0, .ref (g.2.1 64)), (1, .int x1), (2, .int x2), (3, .int x3), (4, .int x4)] → W p l e R s m args below meth c H locs cells slots Q (F0 m 27 ls [.int s1, .ref (g.2.1 64)])) : ∀ (m_thrown : Int32), pM_fog_22 N9 x1 x2 x3 x4 k27 m_thrown = some res → ∀ (H : Heap) (locs : List Loc) (ls : Array Slot), va_P g.1 zcl (zM g m_thrown m_tape m_size m_place m_at m_fault m_faultAt m_clauses m_open m_fed m_refused m_readTold m_told m_readBeast m_beast m_readGate m_gate m_readList m_list m_lawMany m_readLawMany m_law m_readLaw m_stack m_known m_step m_steps m_now m_trial m_before m_kept m_works m_refusedSteps m_images m_spot m_begun m_doneSteps m_mixed m_fewest m_leastFees m_lots m_tars) H → va_S (zF g 64 580 s.heap.size) s.heap H locs → lv_has ls 15 [(0, .ref (g.2.1 64)), (1, .int x1), (2, .int x2), (3, .int x3), (4, .int x4)] → W p l e R s m args below meth c H locs cells slots Q (F0 m 22 ls [.ref (g.2.1 64)]) := by
  obtain ⟨hx, hb, hr, hml, hown, hts, hK, hlk, hST⟩ := id hC
  have hB : ∀ q, (zF g 64 580 s.heap.size) q → zB g q := zF.base hI (Nat.le_of_ble_eq_true rfl) hST.1
  intro m_thrown hf H locs ls hP hS hl
  unfold pM_fog_22 at hf
  refine lv_iconst (v := 1) hx hb dX10_fog_22 (by decide) ?_
  refine lv_goto (tgt := 27) hx hb dX10_fog_23 (by decide) ?_
  exact hk27 m_thrown 1 hf H locs ls hP hS (lv_sub hl [0, 1, 2, 3, 4] rfl)
set_option maxHeartbeats 4000000 in
set_option maxRecDepth 100000 in
theorem mpM_fog {p : Program} {l : Launch} {e : Env} {R : Room} {s : State} {m : MethodId} {args : Array Value} {below : List Frame} {meth : Method} {c : Code} {cells slots : Nat} {Q : State → Prop} {g : zG} (hI : zI g 581) (hC : zC g RX10 cX10_fog 15 (some .long) p s m meth c args) (hR : 4 ≤ R.frames ∧ 60 * 4 ≤ R.locals ∧ cells ≤ R.cells ∧ slots ≤ R.slots) (m_thrown : Int32) (m_tape : Int32) (m_size : Int32) (m_place : Int32) (m_at : Int32) (m_fault : Int32) (m_faultAt : Int32) (m_clauses : Int32) (m_open : Int32) (m_fed : Nat → Int32) (m_refused : Nat → Int32) (m_readTold : Nat → Int32) (m_told : Nat → Int32) (m_readBeast : Nat → Nat → Int32) (m_beast : Nat → Nat → Int32) (m_readGate : Nat → Nat → Int32) (m_gate : Nat → Nat → Int32) (m_readList : Nat → Nat → Int32) (m_list : Nat → Nat → Int32) (m_lawMany : Int32) (m_readLawMany : Int32) (m_law : Nat → Nat → Int32) (m_readLaw : Nat → Nat → Int32) (m_stack : Nat → Int32) (m_known : Nat → Int32) (m_step : Nat → Nat → Int32) (m_steps : Int32) (m_now : Nat → Int32) (m_trial : Nat → Int32) (m_before : Nat → Nat → Int32) (m_kept : Nat → Nat → Int32) (m_works : Int32) (m_refusedSteps : Int32) (m_images : Int32) (m_spot : Int32) (m_begun : Int32) (m_doneSteps : Int32) (m_mixed : Nat → Int32) (m_fewest : Nat → Int32) (m_leastFees : Nat → Int32) (m_lots : Int32) (m_tars : Int32) (x1 : Int32) (x2 : Int32) (x3 : Int32) (x4 : Int32) (N9 : Nat)   (res : Int64 × Int32 × (Nat → Int32)) (hfin : ∀ (r0 : Int64) (m_thrown : Int32) (m_refused : Nat → Int32) (H : Heap) (locs : List Loc) (pc : Nat) (ls : Array Slot), (r0, m_thrown, m_refused) = res → va_P g.1 zcl (zM g m_thrown m_tape m_size m_place m_at m_fault m_faultAt m_clauses m_open m_fed m_refused m_readTold m_told m_readBeast m_beast m_readGate m_gate m_readList m_list m_lawMany m_readLawMany m_law m_readLaw m_stack m_known m_step m_steps m_now m_trial m_before m_kept m_works m_refusedSteps m_images m_spot m_begun m_doneSteps m_mixed m_fewest m_leastFees m_lots m_tars) H → va_S (zF g 64 580 s.heap.size) s.heap H locs → decode cX10_fog pc = .ok (.lreturn, 1) → W p l e R s m args below meth c H locs cells slots Q (F0 m pc ls [.long r0])) : pM_fog N9 m_thrown m_refused m_told m_gate m_list m_now x1 x2 x3 x4 = some res → ∀ (H : Heap) (locs : List Loc) (ls : Array Slot), va_P g.1 zcl (zM g m_thrown m_tape m_size m_place m_at m_fault m_faultAt m_clauses m_open m_fed m_refused m_readTold m_told m_readBeast m_beast m_readGate m_gate m_readList m_list m_lawMany m_readLawMany m_law m_readLaw m_stack m_known m_step m_steps m_now m_trial m_before m_kept m_works m_refusedSteps m_images m_spot m_begun m_doneSteps m_mixed m_fewest m_leastFees m_lots m_tars) H → va_S (zF g 64 580 s.heap.size) s.heap H locs → lv_has ls 15 [(0, .ref (g.2.1 64)), (1, .int x1), (2, .int x2), (3, .int x3), (4, .int x4)] → W p l e R s m args below meth c H locs cells slots Q (F0 m 0 ls []) := by
  obtain ⟨hx, hb, hr, hml, hown, hts, hK, hlk, hST⟩ := id hC
  have hB : ∀ q, (zF g 64 580 s.heap.size) q → zB g q := zF.base hI (Nat.le_of_ble_eq_true rfl) hST.1
  intro  hf H locs ls hP hS hl
  have hk27 := mpM_fog_27 (l := l) (e := e) (R := R) (below := below) (cells := cells) (slots := slots) (Q := Q) hI hC hR m_tape m_size m_place m_at m_fault m_faultAt m_clauses m_open m_fed m_refused m_readTold m_told m_readBeast m_beast m_readGate m_gate m_readList m_list m_lawMany m_readLawMany m_law m_readLaw m_stack m_known m_step m_steps m_now m_trial m_before m_kept m_works m_refusedSteps m_images m_spot m_begun m_doneSteps m_mixed m_fewest m_leastFees m_lots m_tars x1 x2 x3 x4 N9 res hfin
  have hk22 := mpM_fog_22 (l := l) (e := e) (R := R) (below := below) (cells := cells) (slots := slots) (Q := Q) hI hC hR m_tape m_size m_place m_at m_fault m_faultAt m_clauses m_open m_fed m_refused m_readTold m_told m_readBeast m_beast m_readGate m_gate m_readList m_list m_lawMany m_readLawMany m_law m_readLaw m_stack m_known m_step m_steps m_now m_trial m_before m_kept m_works m_refusedSteps m_images m_spot m_begun m_doneSteps m_mixed m_fewest m_leastFees m_lots m_tars x1 x2 x3 x4 N9 (pM_fog_27 N9 m_refused m_told m_gate m_list m_now x1 x2 x3 x4) res hfin hk27
  unfold pM_fog at hf
  refine lv_aload_n hx hb dX10_fog_0 rfl (lv_at hl 0 rfl) ?_
  refine lv_iconst (v := 0) hx hb dX10_fog_1 (by decide) ?_
  refine zp_m_thrown hC hP hI (fun k h1 h2 => zF.own h1 h2) hS (hC.fl mw_1389) dX10_fog_2 (fun H locs hP hS => ?_)
  refine lv_aload_n hx hb dX10_fog_5 rfl (lv_at hl 0 rfl) ?_
  refine lv_aload_n hx hb dX10_fog_6 rfl (lv_at hl 0 rfl) ?_
  refine lv_iload_n hx hb dX10_fog_7 rfl (lv_at hl 1 rfl) ?_
  obtain ⟨r_21, hf_21, hf⟩ := zb1i hf
  refine zcallVi (As := [.int x1]) (rest := [.ref (g.2.1 64)]) hC hP hS hB (fun q h => zF.mono hS.1 h) (cpM_isBeast l hI H.size 0 m_tape m_size m_place m_at m_fault m_faultAt m_clauses m_open m_fed m_refused m_readTold m_told m_readBeast m_beast m_readGate m_gate m_readList m_list m_lawMany m_readLawMany m_law m_readLaw m_stack m_known m_step m_steps m_now m_trial m_before m_kept m_works m_refusedSteps m_images m_spot m_begun m_doneSteps m_mixed m_fewest m_leastFees m_lots m_tars x1 N9 hf_21) (hC.ml mw_1730) yo_X10_isBeast 0 (zfM rfl) rfl rfl rfl hl.1 rfl (Nat.le_of_ble_eq_true rfl) ⟨by omega, by omega⟩ hR.2.2 dX10_fog_8 (fun H locs hP hS _ _ => ?_)
  refine lv_if_eq (tgt := 22) hx hb dX10_fog_11 (by decide) (fun hc_22 => ?_) (fun hc_22 => ?_)
  · have hf := zifp hc_22 hf
    exact hk22 0 hf H locs ls hP hS (lv_sub hl [0, 1, 2, 3, 4] rfl)
  · have hf := zifn hc_22 hf
    refine lv_aload_n hx hb dX10_fog_14 rfl (lv_at hl 0 rfl) ?_
    refine lv_iload_n hx hb dX10_fog_15 rfl (lv_at hl 2 rfl) ?_
    obtain ⟨r_23, hf_23, hf⟩ := zb1i hf
    refine zcallVi (As := [.int x2]) (rest := [.ref (g.2.1 64)]) hC hP hS hB (fun q h => zF.mono hS.1 h) (cpM_isGate l hI H.size 0 m_tape m_size m_place m_at m_fault m_faultAt m_clauses m_open m_fed m_refused m_readTold m_told m_readBeast m_beast m_readGate m_gate m_readList m_list m_lawMany m_readLawMany m_law m_readLaw m_stack m_known m_step m_steps m_now m_trial m_before m_kept m_works m_refusedSteps m_images m_spot m_begun m_doneSteps m_mixed m_fewest m_leastFees m_lots m_tars x2 N9 hf_23) (hC.ml mw_1738) yo_X10_isGate 0 (zfM rfl) rfl rfl rfl hl.1 rfl (Nat.le_of_ble_eq_true rfl) ⟨by omega, by omega⟩ hR.2.2 dX10_fog_16 (fun H locs hP hS _ _ => ?_)
    refine lv_if_ne (tgt := 26) hx hb dX10_fog_19 (by decide) (fun hc_24 => ?_) (fun hc_24 => ?_)
    · have hf := zifn hc_24 hf
      refine lv_iconst (v := 0) hx hb dX10_fog_26 (by decide) ?_
      exact hk27 0 0 hf H locs ls hP hS (lv_sub hl [0, 1, 2, 3, 4] rfl)
    · have hf := zifp hc_24 hf
      exact hk22 0 hf H locs ls hP hS (lv_sub hl [0, 1, 2, 3, 4] rfl)
set_option maxHeartbeats 4000000 in
set_option maxRecDepth 100000 in
theorem cpM_fog (l : Launch) {g : zG} (hI : zI g 581) (sz : Nat) (m_thrown : Int32) (m_tape : Int32) (m_size : Int32) (m_place : Int32) (m_at : Int32) (m_fault : Int32) (m_faultAt : Int32) (m_clauses : Int32) (m_open : Int32) (m_fed : Nat → Int32) (m_refused : Nat → Int32) (m_readTold : Nat → Int32) (m_told : Nat → Int32) (m_readBeast : Nat → Nat → Int32) (m_beast : Nat → Nat → Int32) (m_readGate : Nat → Nat → Int32) (m_gate : Nat → Nat → Int32) (m_readList : Nat → Nat → Int32) (m_list : Nat → Nat → Int32) (m_lawMany : Int32) (m_readLawMany : Int32) (m_law : Nat → Nat → Int32) (m_readLaw : Nat → Nat → Int32) (m_stack : Nat → Int32) (m_known : Nat → Int32) (m_step : Nat → Nat → Int32) (m_steps : Int32) (m_now : Nat → Int32) (m_trial : Nat → Int32) (m_before : Nat → Nat → Int32) (m_kept : Nat → Nat → Int32) (m_works : Int32) (m_refusedSteps : Int32) (m_images : Int32) (m_spot : Int32) (m_begun : Int32) (m_doneSteps : Int32) (m_mixed : Nat → Int32) (m_fewest : Nat → Int32) (m_leastFees : Nat → Int32) (m_lots : Int32) (m_tars : Int32) (x1 : Int32)  (x2 : Int32)  (x3 : Int32)  (x4 : Int32) (N9 : Nat) {r0 : Int64} {m_thrown' : Int32} {m_refused' : Nat → Int32} (hf : pM_fog N9  m_thrown m_refused m_told m_gate m_list m_now x1 x2 x3 x4 = some (r0, m_thrown', m_refused')) : zMl l yX10_fog cX10_fog 15 (some .long) 4 g (zM g m_thrown m_tape m_size m_place m_at m_fault m_faultAt m_clauses m_open m_fed m_refused m_readTold m_told m_readBeast m_beast m_readGate m_gate m_readList m_list m_lawMany m_readLawMany m_law m_readLaw m_stack m_known m_step m_steps m_now m_trial m_before m_kept m_works m_refusedSteps m_images m_spot m_begun m_doneSteps m_mixed m_fewest m_leastFees m_lots m_tars) (zM g m_thrown' m_tape m_size m_place m_at m_fault m_faultAt m_clauses m_open m_fed m_refused' m_readTold m_told m_readBeast m_beast m_readGate m_gate m_readList m_list m_lawMany m_readLawMany m_law m_readLaw m_stack m_known m_step m_steps m_now m_trial m_before m_kept m_works m_refusedSteps m_images m_spot m_begun m_doneSteps m_mixed m_fewest m_leastFees m_lots m_tars) sz (zF g 64 580 sz) [.ref (g.2.1 64), .int x1, .int x2, .int x3, .int x4] r0 := by
  refine Met.ofW (cc := cX10_fog) (maxL := 15) (ret := (some .long)) (by decide +kernel) rfl ?_
  intro p e s m args below meth c s₁ B hml hv
  obtain ⟨rfl, hsz, hP, hK, hST⟩ := hv
  subst hsz
  have hC := zstart (own := RX10) rfl B hml hK hST
  have hl := lv_entry ([.ref (g.2.1 64), .int x1, .int x2, .int x3, .int x4]) (n := 15) (Nat.le_of_ble_eq_true rfl)
  rw [lg_entry_eq]
  generalize (lg_sl ([.ref (g.2.1 64), .int x1, .int x2, .int x3, .int x4]) ++ List.replicate (15 - (lg_sl ([.ref (g.2.1 64), .int x1, .int x2, .int x3, .int x4])).length) Slot.unset).toArray = ls at hl ⊢
  have hl : lv_has ls 15 [(0, .ref (g.2.1 64)), (1, .int x1), (2, .int x2), (3, .int x3), (4, .int x4)] := hl
  obtain ⟨hx, hb, hr, hml, hown, hts, hK, hlk, hST⟩ := id hC
  refine mpM_fog hI hC ⟨Nat.le_refl _, Nat.le_refl _, Nat.le_refl _, Nat.le_refl _⟩ m_thrown m_tape m_size m_place m_at m_fault m_faultAt m_clauses m_open m_fed m_refused m_readTold m_told m_readBeast m_beast m_readGate m_gate m_readList m_list m_lawMany m_readLawMany m_law m_readLaw m_stack m_known m_step m_steps m_now m_trial m_before m_kept m_works m_refusedSteps m_images m_spot m_begun m_doneSteps m_mixed m_fewest m_leastFees m_lots m_tars x1 x2 x3 x4 N9 (r0, m_thrown', m_refused') ?_ hf _ _ ls hP va_S.rf hl
  intro r1 m_thrown1 m_refused1 H locs pc ls he hP hS hd
  cases he
  exact W.lret hx hb hr (fun t ht hW => ⟨⟨_, (), rfl, rfl, by rw [← ht] at hP; exact hP⟩, hS.F ht⟩) hS.2.2 hd hlk
/-! StripeTradeModel.changed (II)I [] -/
set_option maxHeartbeats 4000000 in
set_option maxRecDepth 100000 in
theorem mpM_changed_15 {p : Program} {l : Launch} {e : Env} {R : Room} {s : State} {m : MethodId} {args : Array Value} {below : List Frame} {meth : Method} {c : Code} {cells slots : Nat} {Q : State → Prop} {g : zG} (hI : zI g 581) (hC : zC g RX10 cX10_changed 2 (some .int) p s m meth c args) (hR : 1 ≤ R.frames ∧ 60 * 1 ≤ R.locals ∧ cells ≤ R.cells ∧ slots ≤ R.slots)   (N9 : Nat)   (res : Int32) (hfin : ∀ (r0 : Int32) (H : Heap) (locs : List Loc) (pc : Nat) (ls : Array Slot), r0 = res → True → va_S (fun _ => False) s.heap H locs → decode cX10_changed pc = .ok (.ireturn, 1) → W p l e R s m args below meth c H locs cells slots Q (F0 m pc ls [.int r0])) : ∀ (s0 : Int32), pM_changed_15 N9 s0 = some res → ∀ (H : Heap) (locs : List Loc) (ls : Array Slot), True → va_S (fun _ => False) s.heap H locs → lv_has ls 2 [] → W p l e R s m args below meth c H locs cells slots Q (F0 m 15 ls [.int s0]) := by
  obtain ⟨hx, hb, hr, hml, hown, hts, hK, hlk, hST⟩ := id hC
  have hB : ∀ q, (fun _ => False) q → zB g q := fun q h => h.elim
  intro s0 hf H locs ls hP hS hl
  unfold pM_changed_15 at hf
  exact hfin _ H locs _ ls (Option.some.inj hf) hP hS dX10_changed_15
set_option maxHeartbeats 4000000 in
set_option maxRecDepth 100000 in
theorem mpM_changed {p : Program} {l : Launch} {e : Env} {R : Room} {s : State} {m : MethodId} {args : Array Value} {below : List Frame} {meth : Method} {c : Code} {cells slots : Nat} {Q : State → Prop} {g : zG} (hI : zI g 581) (hC : zC g RX10 cX10_changed 2 (some .int) p s m meth c args) (hR : 1 ≤ R.frames ∧ 60 * 1 ≤ R.locals ∧ cells ≤ R.cells ∧ slots ≤ R.slots)  (x0 : Int32) (x1 : Int32) (N9 : Nat)   (res : Int32) (hfin : ∀ (r0 : Int32) (H : Heap) (locs : List Loc) (pc : Nat) (ls : Array Slot), r0 = res → True → va_S (fun _ => False) s.heap H locs → decode cX10_changed pc = .ok (.ireturn, 1) → W p l e R s m args below meth c H locs cells slots Q (F0 m pc ls [.int r0])) : pM_changed N9 x0 x1 = some res → ∀ (H : Heap) (locs : List Loc) (ls : Array Slot), True → va_S (fun _ => False) s.heap H locs → lv_has ls 2 [(0, .int x0), (1, .int x1)] → W p l e R s m args below meth c H locs cells slots Q (F0 m 0 ls []) := by
  obtain ⟨hx, hb, hr, hml, hown, hts, hK, hlk, hST⟩ := id hC
  have hB : ∀ q, (fun _ => False) q → zB g q := fun q h => h.elim
  intro  hf H locs ls hP hS hl
  have hk15 := mpM_changed_15 (l := l) (e := e) (R := R) (below := below) (cells := cells) (slots := slots) (Q := Q) hI hC hR N9 res hfin
  unfold pM_changed at hf
  refine lv_iload_n hx hb dX10_changed_0 rfl (lv_at hl 1 rfl) ?_
  refine lv_bipush (v := 8) hx hb dX10_changed_1 (by decide) ?_
  refine lv_icmp_ne (tgt := 10) hx hb dX10_changed_3 (by decide) (fun hc_1 => ?_) (fun hc_1 => ?_)
  · have hf := zifn hc_1 hf
    refine lv_iload_n hx hb dX10_changed_10 rfl (lv_at hl 0 rfl) ?_
    refine lv_iconst (v := 1) hx hb dX10_changed_11 (by decide) ?_
    refine lv_iload_n hx hb dX10_changed_12 rfl (lv_at hl 1 rfl) ?_
    refine lv_ishl hx hb dX10_changed_13 ?_
    refine lv_ixor hx hb dX10_changed_14 ?_
    exact hk15 (x0 ^^^ ((1 : Int32) <<< (x1 &&& 31))) hf H locs ls hP hS (lv_sub hl [] rfl)
  · have hf := zifp hc_1 hf
    refine lv_iload_n hx hb dX10_changed_6 rfl (lv_at hl 0 rfl) ?_
    refine lv_goto (tgt := 15) hx hb dX10_changed_7 (by decide) ?_
    exact hk15 x0 hf H locs ls hP hS (lv_sub hl [] rfl)
set_option maxHeartbeats 4000000 in
set_option maxRecDepth 100000 in
theorem cpM_changed (l : Launch) {g : zG} (hI : zI g 581)  (x0 : Int32)  (x1 : Int32) (N9 : Nat) {r0 : Int32} (hf : pM_changed N9  x0 x1 = some r0) : zMp l yX10_changed cX10_changed 2 (some .int) 1 g [.int x0, .int x1] r0 := by
  refine Met.ofW (cc := cX10_changed) (maxL := 2) (ret := (some .int)) (by decide +kernel) rfl ?_
  intro p e s m args below meth c s₁ B hml hv
  obtain ⟨rfl, hK, hST⟩ := hv
  have hP : True := trivial
  have hC := zstart (own := RX10) rfl B hml hK hST
  have hl := lv_entry ([.int x0, .int x1]) (n := 2) (Nat.le_of_ble_eq_true rfl)
  rw [lg_entry_eq]
  generalize (lg_sl ([.int x0, .int x1]) ++ List.replicate (2 - (lg_sl ([.int x0, .int x1])).length) Slot.unset).toArray = ls at hl ⊢
  have hl : lv_has ls 2 [(0, .int x0), (1, .int x1)] := hl
  obtain ⟨hx, hb, hr, hml, hown, hts, hK, hlk, hST⟩ := id hC
  refine mpM_changed hI hC ⟨Nat.le_refl _, Nat.le_refl _, Nat.le_refl _, Nat.le_refl _⟩ x0 x1 N9 r0 ?_ hf _ _ ls hP va_S.rf hl
  intro r1 H locs pc ls he hP hS hd
  cases he
  exact W.iret hx hb hr (fun t ht hW => ⟨⟨_, (), rfl, rfl, trivial⟩, hS.F ht⟩) hS.2.2 hd hlk
/-! StripeTradeModel.hasOne (I)I [] -/
set_option maxHeartbeats 4000000 in
set_option maxRecDepth 100000 in
theorem mpM_hasOne_10 {p : Program} {l : Launch} {e : Env} {R : Room} {s : State} {m : MethodId} {args : Array Value} {below : List Frame} {meth : Method} {c : Code} {cells slots : Nat} {Q : State → Prop} {g : zG} (hI : zI g 581) (hC : zC g RX10 cX10_hasOne 1 (some .int) p s m meth c args) (hR : 1 ≤ R.frames ∧ 60 * 1 ≤ R.locals ∧ cells ≤ R.cells ∧ slots ≤ R.slots)   (N9 : Nat)   (res : Int32) (hfin : ∀ (r0 : Int32) (H : Heap) (locs : List Loc) (pc : Nat) (ls : Array Slot), r0 = res → True → va_S (fun _ => False) s.heap H locs → decode cX10_hasOne pc = .ok (.ireturn, 1) → W p l e R s m args below meth c H locs cells slots Q (F0 m pc ls [.int r0])) : ∀ (s0 : Int32), pM_hasOne_10 N9 s0 = some res → ∀ (H : Heap) (locs : List Loc) (ls : Array Slot), True → va_S (fun _ => False) s.heap H locs → lv_has ls 1 [] → W p l e R s m args below meth c H locs cells slots Q (F0 m 10 ls [.int s0]) := by
  obtain ⟨hx, hb, hr, hml, hown, hts, hK, hlk, hST⟩ := id hC
  have hB : ∀ q, (fun _ => False) q → zB g q := fun q h => h.elim
  intro s0 hf H locs ls hP hS hl
  unfold pM_hasOne_10 at hf
  exact hfin _ H locs _ ls (Option.some.inj hf) hP hS dX10_hasOne_10
set_option maxHeartbeats 4000000 in
set_option maxRecDepth 100000 in
theorem mpM_hasOne {p : Program} {l : Launch} {e : Env} {R : Room} {s : State} {m : MethodId} {args : Array Value} {below : List Frame} {meth : Method} {c : Code} {cells slots : Nat} {Q : State → Prop} {g : zG} (hI : zI g 581) (hC : zC g RX10 cX10_hasOne 1 (some .int) p s m meth c args) (hR : 1 ≤ R.frames ∧ 60 * 1 ≤ R.locals ∧ cells ≤ R.cells ∧ slots ≤ R.slots)  (x0 : Int32) (N9 : Nat)   (res : Int32) (hfin : ∀ (r0 : Int32) (H : Heap) (locs : List Loc) (pc : Nat) (ls : Array Slot), r0 = res → True → va_S (fun _ => False) s.heap H locs → decode cX10_hasOne pc = .ok (.ireturn, 1) → W p l e R s m args below meth c H locs cells slots Q (F0 m pc ls [.int r0])) : pM_hasOne N9 x0 = some res → ∀ (H : Heap) (locs : List Loc) (ls : Array Slot), True → va_S (fun _ => False) s.heap H locs → lv_has ls 1 [(0, .int x0)] → W p l e R s m args below meth c H locs cells slots Q (F0 m 0 ls []) := by
  obtain ⟨hx, hb, hr, hml, hown, hts, hK, hlk, hST⟩ := id hC
  have hB : ∀ q, (fun _ => False) q → zB g q := fun q h => h.elim
  intro  hf H locs ls hP hS hl
  have hk10 := mpM_hasOne_10 (l := l) (e := e) (R := R) (below := below) (cells := cells) (slots := slots) (Q := Q) hI hC hR N9 res hfin
  unfold pM_hasOne at hf
  refine lv_iload_n hx hb dX10_hasOne_0 rfl (lv_at hl 0 rfl) ?_
  refine lv_iconst (v := 2) hx hb dX10_hasOne_1 (by decide) ?_
  refine lv_icmp_ge (tgt := 9) hx hb dX10_hasOne_2 (by decide) (fun hc_1 => ?_) (fun hc_1 => ?_)
  · have hf := zifp hc_1 hf
    refine lv_iconst (v := 0) hx hb dX10_hasOne_9 (by decide) ?_
    exact hk10 0 hf H locs ls hP hS (lv_sub hl [] rfl)
  · have hf := zifn hc_1 hf
    refine lv_iconst (v := 3) hx hb dX10_hasOne_5 (by decide) ?_
    refine lv_goto (tgt := 10) hx hb dX10_hasOne_6 (by decide) ?_
    exact hk10 3 hf H locs ls hP hS (lv_sub hl [] rfl)
set_option maxHeartbeats 4000000 in
set_option maxRecDepth 100000 in
theorem cpM_hasOne (l : Launch) {g : zG} (hI : zI g 581)  (x0 : Int32) (N9 : Nat) {r0 : Int32} (hf : pM_hasOne N9  x0 = some r0) : zMp l yX10_hasOne cX10_hasOne 1 (some .int) 1 g [.int x0] r0 := by
  refine Met.ofW (cc := cX10_hasOne) (maxL := 1) (ret := (some .int)) (by decide +kernel) rfl ?_
  intro p e s m args below meth c s₁ B hml hv
  obtain ⟨rfl, hK, hST⟩ := hv
  have hP : True := trivial
  have hC := zstart (own := RX10) rfl B hml hK hST
  have hl := lv_entry ([.int x0]) (n := 1) (Nat.le_of_ble_eq_true rfl)
  rw [lg_entry_eq]
  generalize (lg_sl ([.int x0]) ++ List.replicate (1 - (lg_sl ([.int x0])).length) Slot.unset).toArray = ls at hl ⊢
  have hl : lv_has ls 1 [(0, .int x0)] := hl
  obtain ⟨hx, hb, hr, hml, hown, hts, hK, hlk, hST⟩ := id hC
  refine mpM_hasOne hI hC ⟨Nat.le_refl _, Nat.le_refl _, Nat.le_refl _, Nat.le_refl _⟩ x0 N9 r0 ?_ hf _ _ ls hP va_S.rf hl
  intro r1 H locs pc ls he hP hS hd
  cases he
  exact W.iret hx hb hr (fun t ht hW => ⟨⟨_, (), rfl, rfl, trivial⟩, hS.F ht⟩) hS.2.2 hd hlk
/-! StripeTradeModel.hasOther (I)I [] -/
set_option maxHeartbeats 4000000 in
set_option maxRecDepth 100000 in
theorem mpM_hasOther_10 {p : Program} {l : Launch} {e : Env} {R : Room} {s : State} {m : MethodId} {args : Array Value} {below : List Frame} {meth : Method} {c : Code} {cells slots : Nat} {Q : State → Prop} {g : zG} (hI : zI g 581) (hC : zC g RX10 cX10_hasOther 1 (some .int) p s m meth c args) (hR : 1 ≤ R.frames ∧ 60 * 1 ≤ R.locals ∧ cells ≤ R.cells ∧ slots ≤ R.slots)   (N9 : Nat)   (res : Int32) (hfin : ∀ (r0 : Int32) (H : Heap) (locs : List Loc) (pc : Nat) (ls : Array Slot), r0 = res → True → va_S (fun _ => False) s.heap H locs → decode cX10_hasOther pc = .ok (.ireturn, 1) → W p l e R s m args below meth c H locs cells slots Q (F0 m pc ls [.int r0])) : ∀ (s0 : Int32), pM_hasOther_10 N9 s0 = some res → ∀ (H : Heap) (locs : List Loc) (ls : Array Slot), True → va_S (fun _ => False) s.heap H locs → lv_has ls 1 [] → W p l e R s m args below meth c H locs cells slots Q (F0 m 10 ls [.int s0]) := by
  obtain ⟨hx, hb, hr, hml, hown, hts, hK, hlk, hST⟩ := id hC
  have hB : ∀ q, (fun _ => False) q → zB g q := fun q h => h.elim
  intro s0 hf H locs ls hP hS hl
  unfold pM_hasOther_10 at hf
  exact hfin _ H locs _ ls (Option.some.inj hf) hP hS dX10_hasOther_10
set_option maxHeartbeats 4000000 in
set_option maxRecDepth 100000 in
theorem mpM_hasOther {p : Program} {l : Launch} {e : Env} {R : Room} {s : State} {m : MethodId} {args : Array Value} {below : List Frame} {meth : Method} {c : Code} {cells slots : Nat} {Q : State → Prop} {g : zG} (hI : zI g 581) (hC : zC g RX10 cX10_hasOther 1 (some .int) p s m meth c args) (hR : 1 ≤ R.frames ∧ 60 * 1 ≤ R.locals ∧ cells ≤ R.cells ∧ slots ≤ R.slots)  (x0 : Int32) (N9 : Nat)   (res : Int32) (hfin : ∀ (r0 : Int32) (H : Heap) (locs : List Loc) (pc : Nat) (ls : Array Slot), r0 = res → True → va_S (fun _ => False) s.heap H locs → decode cX10_hasOther pc = .ok (.ireturn, 1) → W p l e R s m args below meth c H locs cells slots Q (F0 m pc ls [.int r0])) : pM_hasOther N9 x0 = some res → ∀ (H : Heap) (locs : List Loc) (ls : Array Slot), True → va_S (fun _ => False) s.heap H locs → lv_has ls 1 [(0, .int x0)] → W p l e R s m args below meth c H locs cells slots Q (F0 m 0 ls []) := by
  obtain ⟨hx, hb, hr, hml, hown, hts, hK, hlk, hST⟩ := id hC
  have hB : ∀ q, (fun _ => False) q → zB g q := fun q h => h.elim
  intro  hf H locs ls hP hS hl
  have hk10 := mpM_hasOther_10 (l := l) (e := e) (R := R) (below := below) (cells := cells) (slots := slots) (Q := Q) hI hC hR N9 res hfin
  unfold pM_hasOther at hf
  refine lv_iload_n hx hb dX10_hasOther_0 rfl (lv_at hl 0 rfl) ?_
  refine lv_iconst (v := 2) hx hb dX10_hasOther_1 (by decide) ?_
  refine lv_icmp_ge (tgt := 9) hx hb dX10_hasOther_2 (by decide) (fun hc_1 => ?_) (fun hc_1 => ?_)
  · have hf := zifp hc_1 hf
    refine lv_iload_n hx hb dX10_hasOther_9 rfl (lv_at hl 0 rfl) ?_
    exact hk10 x0 hf H locs ls hP hS (lv_sub hl [] rfl)
  · have hf := zifn hc_1 hf
    refine lv_iconst (v := 0) hx hb dX10_hasOther_5 (by decide) ?_
    refine lv_goto (tgt := 10) hx hb dX10_hasOther_6 (by decide) ?_
    exact hk10 0 hf H locs ls hP hS (lv_sub hl [] rfl)
set_option maxHeartbeats 4000000 in
set_option maxRecDepth 100000 in
theorem cpM_hasOther (l : Launch) {g : zG} (hI : zI g 581)  (x0 : Int32) (N9 : Nat) {r0 : Int32} (hf : pM_hasOther N9  x0 = some r0) : zMp l yX10_hasOther cX10_hasOther 1 (some .int) 1 g [.int x0] r0 := by
  refine Met.ofW (cc := cX10_hasOther) (maxL := 1) (ret := (some .int)) (by decide +kernel) rfl ?_
  intro p e s m args below meth c s₁ B hml hv
  obtain ⟨rfl, hK, hST⟩ := hv
  have hP : True := trivial
  have hC := zstart (own := RX10) rfl B hml hK hST
  have hl := lv_entry ([.int x0]) (n := 1) (Nat.le_of_ble_eq_true rfl)
  rw [lg_entry_eq]
  generalize (lg_sl ([.int x0]) ++ List.replicate (1 - (lg_sl ([.int x0])).length) Slot.unset).toArray = ls at hl ⊢
  have hl : lv_has ls 1 [(0, .int x0)] := hl
  obtain ⟨hx, hb, hr, hml, hown, hts, hK, hlk, hST⟩ := id hC
  refine mpM_hasOther hI hC ⟨Nat.le_refl _, Nat.le_refl _, Nat.le_refl _, Nat.le_refl _⟩ x0 N9 r0 ?_ hf _ _ ls hP va_S.rf hl
  intro r1 H locs pc ls he hP hS hd
  cases he
  exact W.iret hx hb hr (fun t ht hW => ⟨⟨_, (), rfl, rfl, trivial⟩, hS.F ht⟩) hS.2.2 hd hlk
/-! StripeTradeModel.isRest (IIII)Z [] -/
set_option maxHeartbeats 4000000 in
set_option maxRecDepth 100000 in
theorem mpM_isRest_78 {p : Program} {l : Launch} {e : Env} {R : Room} {s : State} {m : MethodId} {args : Array Value} {below : List Frame} {meth : Method} {c : Code} {cells slots : Nat} {Q : State → Prop} {g : zG} (hI : zI g 581) (hC : zC g RX10 cX10_isRest 6 (some .boolean) p s m meth c args) (hR : 2 ≤ R.frames ∧ 60 * 2 ≤ R.locals ∧ cells ≤ R.cells ∧ slots ≤ R.slots)   (N9 : Nat)   (res : Int32) (hfin : ∀ (r0 : Int32) (H : Heap) (locs : List Loc) (pc : Nat) (ls : Array Slot), r0 = res → r0 &&& 1 = r0 → True → va_S (fun _ => False) s.heap H locs → decode cX10_isRest pc = .ok (.ireturn, 1) → W p l e R s m args below meth c H locs cells slots Q (F0 m pc ls [.int r0])) : pM_isRest_78 N9 = some res → ∀ (H : Heap) (locs : List Loc) (ls : Array Slot), True → va_S (fun _ => False) s.heap H locs → lv_has ls 6 [] → W p l e R s m args below meth c H locs cells slots Q (F0 m 78 ls []) := by
  obtain ⟨hx, hb, hr, hml, hown, hts, hK, hlk, hST⟩ := id hC
  have hB : ∀ q, (fun _ => False) q → zB g q := fun q h => h.elim
  intro  hf H locs ls hP hS hl
  unfold pM_isRest_78 at hf
  refine lv_iconst (v := 0) hx hb dX10_isRest_78 (by decide) ?_
  exact hfin _ H locs _ ls (Option.some.inj hf) (by decide) hP hS dX10_isRest_79
set_option maxHeartbeats 4000000 in
set_option maxRecDepth 100000 in
theorem mpM_isRest_19 {p : Program} {l : Launch} {e : Env} {R : Room} {s : State} {m : MethodId} {args : Array Value} {below : List Frame} {meth : Method} {c : Code} {cells slots : Nat} {Q : State → Prop} {g : zG} (hI : zI g 581) (hC : zC g RX10 cX10_isRest 6 (some .boolean) p s m meth c args) (hR : 2 ≤ R.frames ∧ 60 * 2 ≤ R.locals ∧ cells ≤ R.cells ∧ slots ≤ R.slots)  (x0 : Int32) (x1 : Int32) (x2 : Int32) (x3 : Int32) (N9 : Nat)   (res : Int32) (hfin : ∀ (r0 : Int32) (H : Heap) (locs : List Loc) (pc : Nat) (ls : Array Slot), r0 = res → r0 &&& 1 = r0 → True → va_S (fun _ => False) s.heap H locs → decode cX10_isRest pc = .ok (.ireturn, 1) → W p l e R s m args below meth c H locs cells slots Q (F0 m pc ls [.int r0])) : ∀ (n9 : Nat) (x4 : Int32) (x5 : Int32), pM_isRest_19 N9 x0 x1 x2 x3 n9 x4 x5 = some res → ∀ (H : Heap) (locs : List Loc) (ls : Array Slot), True → va_S (fun _ => False) s.heap H locs → lv_has ls 6 [(0, .int x0), (1, .int x1), (2, .int x2), (3, .int x3), (4, .int x4), (5, .int x5)] → W p l e R s m args below meth c H locs cells slots Q (F0 m 19 ls []) := by
  obtain ⟨hx, hb, hr, hml, hown, hts, hK, hlk, hST⟩ := id hC
  have hB : ∀ q, (fun _ => False) q → zB g q := fun q h => h.elim
  intro n9
  induction n9 with
  | zero => intro x4 x5 hf; cases hf
  | succ n9 ih =>
    intro x4 x5 hf H locs ls hP hS hl
    have hk19 := ih
    have hk78 := mpM_isRest_78 (l := l) (e := e) (R := R) (below := below) (cells := cells) (slots := slots) (Q := Q) hI hC hR N9 res hfin
    unfold pM_isRest_19 at hf
    refine lv_iload hx hb dX10_isRest_19 (lv_at hl 5 rfl) ?_
    refine lv_bipush (v := 8) hx hb dX10_isRest_21 (by decide) ?_
    refine lv_icmp_gt (tgt := 86) hx hb dX10_isRest_23 (by decide) (fun hc_1 => ?_) (fun hc_1 => ?_)
    · have hf := zifp hc_1 hf
      refine lv_iconst (v := 1) hx hb dX10_isRest_86 (by decide) ?_
      exact hfin _ H locs _ ls (Option.some.inj hf) (by decide) hP hS dX10_isRest_87
    · have hf := zifn hc_1 hf
      refine lv_iload_n hx hb dX10_isRest_26 rfl (lv_at hl 0 rfl) ?_
      refine lv_iload hx hb dX10_isRest_27 (lv_at hl 5 rfl) ?_
      obtain ⟨r_2, hf_2, hf⟩ := zb1i hf
      refine zcallP (As := [.int x0, .int x5]) (rest := []) hC hS hB (cpM_changed l hI x0 x5 N9 hf_2) (hC.ml mw_1872) yo_X10_changed rfl hl.1 rfl (Nat.le_of_ble_eq_true rfl) ⟨by omega, by omega⟩ hR.2.2 dX10_isRest_29 (fun H locs hPk hS _ => ?_)
      refine lv_iload_n hx hb dX10_isRest_32 rfl (lv_at hl 1 rfl) ?_
      refine lv_iload_n hx hb dX10_isRest_33 rfl (lv_at hl 3 rfl) ?_
      obtain ⟨r_3, hf_3, hf⟩ := zb1i hf
      refine zcallP (As := [.int x1, .int x3]) (rest := [.int r_2]) hC hS hB (cpM_changed l hI x1 x3 N9 hf_3) (hC.ml mw_1872) yo_X10_changed rfl hl.1 rfl (Nat.le_of_ble_eq_true rfl) ⟨by omega, by omega⟩ hR.2.2 dX10_isRest_34 (fun H locs hPk hS _ => ?_)
      refine lv_ixor hx hb dX10_isRest_37 ?_
      obtain ⟨r_4, hf_4, hf⟩ := zb1i hf
      refine zcallP (As := [.int (r_2 ^^^ r_3)]) (rest := []) hC hS hB (cpM_ones l hI (r_2 ^^^ r_3) N9 hf_4) (hC.ml mw_1681) yo_X10_ones rfl hl.1 rfl (Nat.le_of_ble_eq_true rfl) ⟨by omega, by omega⟩ hR.2.2 dX10_isRest_38 (fun H locs hPk hS _ => ?_)
      obtain ⟨r_5, hf_5, hf⟩ := zb1i hf
      refine zcallP (As := [.int r_4]) (rest := []) hC hS hB (cpM_hasOne l hI r_4 N9 hf_5) (hC.ml mw_1875) yo_X10_hasOne rfl hl.1 rfl (Nat.le_of_ble_eq_true rfl) ⟨by omega, by omega⟩ hR.2.2 dX10_isRest_41 (fun H locs hPk hS _ => ?_)
      refine lv_iload hx hb dX10_isRest_44 (lv_at hl 4 rfl) ?_
      obtain ⟨r_6, hf_6, hf⟩ := zb1i hf
      refine zcallP (As := [.int x4]) (rest := [.int r_5]) hC hS hB (cpM_hasOne l hI x4 N9 hf_6) (hC.ml mw_1875) yo_X10_hasOne rfl hl.1 rfl (Nat.le_of_ble_eq_true rfl) ⟨by omega, by omega⟩ hR.2.2 dX10_isRest_46 (fun H locs hPk hS _ => ?_)
      refine lv_icmp_gt (tgt := 78) hx hb dX10_isRest_49 (by decide) (fun hc_7 => ?_) (fun hc_7 => ?_)
      · have hf := zifp hc_7 hf
        exact hk78  hf H locs ls hP hS (lv_sub hl [] rfl)
      · have hf := zifn hc_7 hf
        refine lv_iload_n hx hb dX10_isRest_52 rfl (lv_at hl 0 rfl) ?_
        refine lv_iload_n hx hb dX10_isRest_53 rfl (lv_at hl 2 rfl) ?_
        obtain ⟨r_8, hf_8, hf⟩ := zb1i hf
        refine zcallP (As := [.int x0, .int x2]) (rest := []) hC hS hB (cpM_changed l hI x0 x2 N9 hf_8) (hC.ml mw_1872) yo_X10_changed rfl hl.1 rfl (Nat.le_of_ble_eq_true rfl) ⟨by omega, by omega⟩ hR.2.2 dX10_isRest_54 (fun H locs hPk hS _ => ?_)
        refine lv_iload_n hx hb dX10_isRest_57 rfl (lv_at hl 1 rfl) ?_
        refine lv_iload hx hb dX10_isRest_58 (lv_at hl 5 rfl) ?_
        obtain ⟨r_9, hf_9, hf⟩ := zb1i hf
        refine zcallP (As := [.int x1, .int x5]) (rest := [.int r_8]) hC hS hB (cpM_changed l hI x1 x5 N9 hf_9) (hC.ml mw_1872) yo_X10_changed rfl hl.1 rfl (Nat.le_of_ble_eq_true rfl) ⟨by omega, by omega⟩ hR.2.2 dX10_isRest_60 (fun H locs hPk hS _ => ?_)
        refine lv_ixor hx hb dX10_isRest_63 ?_
        obtain ⟨r_10, hf_10, hf⟩ := zb1i hf
        refine zcallP (As := [.int (r_8 ^^^ r_9)]) (rest := []) hC hS hB (cpM_ones l hI (r_8 ^^^ r_9) N9 hf_10) (hC.ml mw_1681) yo_X10_ones rfl hl.1 rfl (Nat.le_of_ble_eq_true rfl) ⟨by omega, by omega⟩ hR.2.2 dX10_isRest_64 (fun H locs hPk hS _ => ?_)
        obtain ⟨r_11, hf_11, hf⟩ := zb1i hf
        refine zcallP (As := [.int r_10]) (rest := []) hC hS hB (cpM_hasOther l hI r_10 N9 hf_11) (hC.ml mw_1878) yo_X10_hasOther rfl hl.1 rfl (Nat.le_of_ble_eq_true rfl) ⟨by omega, by omega⟩ hR.2.2 dX10_isRest_67 (fun H locs hPk hS _ => ?_)
        refine lv_iload hx hb dX10_isRest_70 (lv_at hl 4 rfl) ?_
        obtain ⟨r_12, hf_12, hf⟩ := zb1i hf
        refine zcallP (As := [.int x4]) (rest := [.int r_11]) hC hS hB (cpM_hasOther l hI x4 N9 hf_12) (hC.ml mw_1878) yo_X10_hasOther rfl hl.1 rfl (Nat.le_of_ble_eq_true rfl) ⟨by omega, by omega⟩ hR.2.2 dX10_isRest_72 (fun H locs hPk hS _ => ?_)
        refine lv_icmp_le (tgt := 80) hx hb dX10_isRest_75 (by decide) (fun hc_13 => ?_) (fun hc_13 => ?_)
        · have hf := zifp hc_13 hf
          refine lv_iinc (v := x5 + 1) (lv' := [(5, .int (x5 + 1)), (0, .int x0), (1, .int x1), (2, .int x2), (3, .int x3), (4, .int x4)]) hx hb dX10_isRest_80 hl (k := 5) rfl rfl (by decide) rfl (fun ls hl => ?_)
          refine lv_goto (tgt := 19) hx hb dX10_isRest_83 (by decide) ?_
          exact hk19 x4 (x5 + 1) hf H locs ls hP hS (lv_sub hl [1, 2, 3, 4, 5, 0] rfl)
        · have hf := zifn hc_13 hf
          exact hk78  hf H locs ls hP hS (lv_sub hl [] rfl)
set_option maxHeartbeats 4000000 in
set_option maxRecDepth 100000 in
theorem mpM_isRest {p : Program} {l : Launch} {e : Env} {R : Room} {s : State} {m : MethodId} {args : Array Value} {below : List Frame} {meth : Method} {c : Code} {cells slots : Nat} {Q : State → Prop} {g : zG} (hI : zI g 581) (hC : zC g RX10 cX10_isRest 6 (some .boolean) p s m meth c args) (hR : 2 ≤ R.frames ∧ 60 * 2 ≤ R.locals ∧ cells ≤ R.cells ∧ slots ≤ R.slots)  (x0 : Int32) (x1 : Int32) (x2 : Int32) (x3 : Int32) (N9 : Nat)   (res : Int32) (hfin : ∀ (r0 : Int32) (H : Heap) (locs : List Loc) (pc : Nat) (ls : Array Slot), r0 = res → r0 &&& 1 = r0 → True → va_S (fun _ => False) s.heap H locs → decode cX10_isRest pc = .ok (.ireturn, 1) → W p l e R s m args below meth c H locs cells slots Q (F0 m pc ls [.int r0])) : pM_isRest N9 x0 x1 x2 x3 = some res → ∀ (H : Heap) (locs : List Loc) (ls : Array Slot), True → va_S (fun _ => False) s.heap H locs → lv_has ls 6 [(0, .int x0), (1, .int x1), (2, .int x2), (3, .int x3)] → W p l e R s m args below meth c H locs cells slots Q (F0 m 0 ls []) := by
  obtain ⟨hx, hb, hr, hml, hown, hts, hK, hlk, hST⟩ := id hC
  have hB : ∀ q, (fun _ => False) q → zB g q := fun q h => h.elim
  intro  hf H locs ls hP hS hl
  have hk19 := mpM_isRest_19 (l := l) (e := e) (R := R) (below := below) (cells := cells) (slots := slots) (Q := Q) hI hC hR x0 x1 x2 x3 N9 res hfin N9
  unfold pM_isRest at hf
  refine lv_iload_n hx hb dX10_isRest_0 rfl (lv_at hl 0 rfl) ?_
  refine lv_iload_n hx hb dX10_isRest_1 rfl (lv_at hl 2 rfl) ?_
  obtain ⟨r_14, hf_14, hf⟩ := zb1i hf
  refine zcallP (As := [.int x0, .int x2]) (rest := []) hC hS hB (cpM_changed l hI x0 x2 N9 hf_14) (hC.ml mw_1872) yo_X10_changed rfl hl.1 rfl (Nat.le_of_ble_eq_true rfl) ⟨by omega, by omega⟩ hR.2.2 dX10_isRest_2 (fun H locs hPk hS _ => ?_)
  refine lv_iload_n hx hb dX10_isRest_5 rfl (lv_at hl 1 rfl) ?_
  refine lv_iload_n hx hb dX10_isRest_6 rfl (lv_at hl 3 rfl) ?_
  obtain ⟨r_15, hf_15, hf⟩ := zb1i hf
  refine zcallP (As := [.int x1, .int x3]) (rest := [.int r_14]) hC hS hB (cpM_changed l hI x1 x3 N9 hf_15) (hC.ml mw_1872) yo_X10_changed rfl hl.1 rfl (Nat.le_of_ble_eq_true rfl) ⟨by omega, by omega⟩ hR.2.2 dX10_isRest_7 (fun H locs hPk hS _ => ?_)
  refine lv_ixor hx hb dX10_isRest_10 ?_
  obtain ⟨r_16, hf_16, hf⟩ := zb1i hf
  refine zcallP (As := [.int (r_14 ^^^ r_15)]) (rest := []) hC hS hB (cpM_ones l hI (r_14 ^^^ r_15) N9 hf_16) (hC.ml mw_1681) yo_X10_ones rfl hl.1 rfl (Nat.le_of_ble_eq_true rfl) ⟨by omega, by omega⟩ hR.2.2 dX10_isRest_11 (fun H locs hPk hS _ => ?_)
  refine lv_istore (lv' := [(4, .int r_16), (0, .int x0), (1, .int x1), (2, .int x2), (3, .int x3)]) hx hb dX10_isRest_14 hl (by decide) rfl (fun ls hl => ?_)
  refine lv_iconst (v := 0) hx hb dX10_isRest_16 (by decide) ?_
  refine lv_istore (lv' := [(5, .int 0), (4, .int r_16), (0, .int x0), (1, .int x1), (2, .int x2), (3, .int x3)]) hx hb dX10_isRest_17 hl (by decide) rfl (fun ls hl => ?_)
  exact hk19 r_16 0 hf H locs ls hP hS (lv_sub hl [2, 3, 4, 5, 1, 0] rfl)
set_option maxHeartbeats 4000000 in
set_option maxRecDepth 100000 in
theorem cpM_isRest (l : Launch) {g : zG} (hI : zI g 581)  (x0 : Int32)  (x1 : Int32)  (x2 : Int32)  (x3 : Int32) (N9 : Nat) {r0 : Int32} (hf : pM_isRest N9  x0 x1 x2 x3 = some r0) : zMp l yX10_isRest cX10_isRest 6 (some .boolean) 2 g [.int x0, .int x1, .int x2, .int x3] r0 := by
  refine Met.ofW (cc := cX10_isRest) (maxL := 6) (ret := (some .boolean)) (by decide +kernel) rfl ?_
  intro p e s m args below meth c s₁ B hml hv
  obtain ⟨rfl, hK, hST⟩ := hv
  have hP : True := trivial
  have hC := zstart (own := RX10) rfl B hml hK hST
  have hl := lv_entry ([.int x0, .int x1, .int x2, .int x3]) (n := 6) (Nat.le_of_ble_eq_true rfl)
  rw [lg_entry_eq]
  generalize (lg_sl ([.int x0, .int x1, .int x2, .int x3]) ++ List.replicate (6 - (lg_sl ([.int x0, .int x1, .int x2, .int x3])).length) Slot.unset).toArray = ls at hl ⊢
  have hl : lv_has ls 6 [(0, .int x0), (1, .int x1), (2, .int x2), (3, .int x3)] := hl
  obtain ⟨hx, hb, hr, hml, hown, hts, hK, hlk, hST⟩ := id hC
  refine mpM_isRest hI hC ⟨Nat.le_refl _, Nat.le_refl _, Nat.le_refl _, Nat.le_refl _⟩ x0 x1 x2 x3 N9 r0 ?_ hf _ _ ls hP va_S.rf hl
  intro r1 H locs pc ls he hz hP hS hd
  cases he
  exact W.zret hx hb hr (congrArg Value.int hz) (fun t ht hW => ⟨⟨_, (), rfl, rfl, trivial⟩, hS.F ht⟩) hS.2.2 hd hlk
/-! StripeTradeModel.dealers (III)I [('obj', 'm')] -/
set_option maxHeartbeats 4000000 in
set_option maxRecDepth 100000 in
theorem mpM_dealers_63 {p : Program} {l : Launch} {e : Env} {R : Room} {s : State} {m : MethodId} {args : Array Value} {below : List Frame} {meth : Method} {c : Code} {cells slots : Nat} {Q : State → Prop} {g : zG} (hI : zI g 581) (hC : zC g RX10 cX10_dealers 12 (some .int) p s m meth c args) (hR : 3 ≤ R.frames ∧ 60 * 3 ≤ R.locals ∧ cells ≤ R.cells ∧ slots ≤ R.slots) (m_tape : Int32) (m_size : Int32) (m_place : Int32) (m_at : Int32) (m_fault : Int32) (m_faultAt : Int32) (m_clauses : Int32) (m_open : Int32) (m_fed : Nat → Int32) (m_readTold : Nat → Int32) (m_told : Nat → Int32) (m_readBeast : Nat → Nat → Int32) (m_beast : Nat → Nat → Int32) (m_readGate : Nat → Nat → Int32) (m_gate : Nat → Nat → Int32) (m_readList : Nat → Nat → Int32) (m_list : Nat → Nat → Int32) (m_lawMany : Int32) (m_readLawMany : Int32) (m_law : Nat → Nat → Int32) (m_readLaw : Nat → Nat → Int32) (m_stack : Nat → Int32) (m_known : Nat → Int32) (m_step : Nat → Nat → Int32) (m_steps : Int32) (m_now : Nat → Int32) (m_trial : Nat → Int32) (m_before : Nat → Nat → Int32) (m_kept : Nat → Nat → Int32) (m_works : Int32) (m_refusedSteps : Int32) (m_images : Int32) (m_spot : Int32) (m_begun : Int32) (m_doneSteps : Int32) (m_mixed : Nat → Int32) (m_fewest : Nat → Int32) (m_leastFees : Nat → Int32) (m_lots : Int32) (m_tars : Int32)  (N9 : Nat)   (res : Int32 × Int32 × (Nat → Int32)) (hfin : ∀ (r0 : Int32) (m_thrown : Int32) (m_refused : Nat → Int32) (H : Heap) (locs : List Loc) (pc : Nat) (ls : Array Slot), (r0, m_thrown, m_refused) = res → va_P g.1 zcl (zM g m_thrown m_tape m_size m_place m_at m_fault m_faultAt m_clauses m_open m_fed m_refused m_readTold m_told m_readBeast m_beast m_readGate m_gate m_readList m_list m_lawMany m_readLawMany m_law m_readLaw m_stack m_known m_step m_steps m_now m_trial m_before m_kept m_works m_refusedSteps m_images m_spot m_begun m_doneSteps m_mixed m_fewest m_leastFees m_lots m_tars) H → va_S (zF g 64 580 s.heap.size) s.heap H locs → decode cX10_dealers pc = .ok (.ireturn, 1) → W p l e R s m args below meth c H locs cells slots Q (F0 m pc ls [.int r0])) : ∀ (m_thrown : Int32) (m_refused : Nat → Int32), pM_dealers_63 N9 m_thrown m_refused = some res → ∀ (H : Heap) (locs : List Loc) (ls : Array Slot), va_P g.1 zcl (zM g m_thrown m_tape m_size m_place m_at m_fault m_faultAt m_clauses m_open m_fed m_refused m_readTold m_told m_readBeast m_beast m_readGate m_gate m_readList m_list m_lawMany m_readLawMany m_law m_readLaw m_stack m_known m_step m_steps m_now m_trial m_before m_kept m_works m_refusedSteps m_images m_spot m_begun m_doneSteps m_mixed m_fewest m_leastFees m_lots m_tars) H → va_S (zF g 64 580 s.heap.size) s.heap H locs → lv_has ls 12 [] → W p l e R s m args below meth c H locs cells slots Q (F0 m 63 ls []) := by
  obtain ⟨hx, hb, hr, hml, hown, hts, hK, hlk, hST⟩ := id hC
  have hB : ∀ q, (zF g 64 580 s.heap.size) q → zB g q := zF.base hI (Nat.le_of_ble_eq_true rfl) hST.1
  intro m_thrown m_refused hf H locs ls hP hS hl
  unfold pM_dealers_63 at hf
  refine lv_iconst (v := 0) hx hb dX10_dealers_63 (by decide) ?_
  exact hfin _ _ _ H locs _ ls (Option.some.inj hf) hP hS dX10_dealers_64
set_option maxHeartbeats 4000000 in
set_option maxRecDepth 100000 in
theorem mpM_dealers_197 {p : Program} {l : Launch} {e : Env} {R : Room} {s : State} {m : MethodId} {args : Array Value} {below : List Frame} {meth : Method} {c : Code} {cells slots : Nat} {Q : State → Prop} {g : zG} (hI : zI g 581) (hC : zC g RX10 cX10_dealers 12 (some .int) p s m meth c args) (hR : 3 ≤ R.frames ∧ 60 * 3 ≤ R.locals ∧ cells ≤ R.cells ∧ slots ≤ R.slots) (m_thrown : Int32) (m_tape : Int32) (m_size : Int32) (m_place : Int32) (m_at : Int32) (m_fault : Int32) (m_faultAt : Int32) (m_clauses : Int32) (m_open : Int32) (m_fed : Nat → Int32) (m_refused : Nat → Int32) (m_readTold : Nat → Int32) (m_told : Nat → Int32) (m_readBeast : Nat → Nat → Int32) (m_beast : Nat → Nat → Int32) (m_readGate : Nat → Nat → Int32) (m_gate : Nat → Nat → Int32) (m_readList : Nat → Nat → Int32) (m_list : Nat → Nat → Int32) (m_lawMany : Int32) (m_readLawMany : Int32) (m_law : Nat → Nat → Int32) (m_readLaw : Nat → Nat → Int32) (m_stack : Nat → Int32) (m_known : Nat → Int32) (m_step : Nat → Nat → Int32) (m_steps : Int32) (m_now : Nat → Int32) (m_trial : Nat → Int32) (m_before : Nat → Nat → Int32) (m_kept : Nat → Nat → Int32) (m_works : Int32) (m_refusedSteps : Int32) (m_images : Int32) (m_spot : Int32) (m_begun : Int32) (m_doneSteps : Int32) (m_mixed : Nat → Int32) (m_fewest : Nat → Int32) (m_leastFees : Nat → Int32) (m_lots : Int32) (m_tars : Int32) (x3 : Int32) (x7 : Int32) (x8 : Int32) (N9 : Nat)  (k107 : Int32 → Int32 → Int32 → Int32 → Int32 → Option (Int32 × Int32 × (Nat → Int32))) (res : Int32 × Int32 × (Nat → Int32)) (hfin : ∀ (r0 : Int32) (m_thrown : Int32) (m_refused : Nat → Int32) (H : Heap) (locs : List Loc) (pc : Nat) (ls : Array Slot), (r0, m_thrown, m_refused) = res → va_P g.1 zcl (zM g m_thrown m_tape m_size m_place m_at m_fault m_faultAt m_clauses m_open m_fed m_refused m_readTold m_told m_readBeast m_beast m_readGate m_gate m_readList m_list m_lawMany m_readLawMany m_law m_readLaw m_stack m_known m_step m_steps m_now m_trial m_before m_kept m_works m_refusedSteps m_images m_spot m_begun m_doneSteps m_mixed m_fewest m_leastFees m_lots m_tars) H → va_S (zF g 64 580 s.heap.size) s.heap H locs → decode cX10_dealers pc = .ok (.ireturn, 1) → W p l e R s m args below meth c H locs cells slots Q (F0 m pc ls [.int r0])) (hk107 : ∀ (x4 : Int32) (x5 : Int32) (x6 : Int32) (x9 : Int32) (x10 : Int32), k107 x4 x5 x6 x9 x10 = some res → ∀ (H : Heap) (locs : List Loc) (ls : Array Slot), va_P g.1 zcl (zM g m_thrown m_tape m_size m_place m_at m_fault m_faultAt m_clauses m_open m_fed m_refused m_readTold m_told m_readBeast m_beast m_readGate m_gate m_readList m_list m_lawMany m_readLawMany m_law m_readLaw m_stack m_known m_step m_steps m_now m_trial m_before m_kept m_works m_refusedSteps m_images m_spot m_begun m_doneSteps m_mixed m_fewest m_leastFees m_lots m_tars) H → va_S (zF g 64 580 s.heap.size) s.heap H locs → lv_has ls 12 [(3, .int x3), (4, .int x4), (5, .int x5), (6, .int x6), (7, .int x7), (8, .int x8), (9, .int x9), (10, .int x10)] → W p l e R s m args below meth c H locs cells slots Q (F0 m 107 ls [])) : ∀ (x4 : Int32) (x5 : Int32) (x6 : Int32) (x9 : Int32) (x10 : Int32), pM_dealers_197 N9 x3 x7 x8 k107 x4 x5 x6 x9 x10 = some res → ∀ (H : Heap) (locs : List Loc) (ls : Array Slot), va_P g.1 zcl (zM g m_thrown m_tape m_size m_place m_at m_fault m_faultAt m_clauses m_open m_fed m_refused m_readTold m_told m_readBeast m_beast m_readGate m_gate m_readList m_list m_lawMany m_readLawMany m_law m_readLaw m_stack m_known m_step m_steps m_now m_trial m_before m_kept m_works m_refusedSteps m_images m_spot m_begun m_doneSteps m_mixed m_fewest m_leastFees m_lots m_tars) H → va_S (zF g 64 580 s.heap.size) s.heap H locs → lv_has ls 12 [(3, .int x3), (4, .int x4), (5, .int x5), (6, .int x6), (7, .int x7), (8, .int x8), (9, .int x9), (10, .int x10)] → W p l e R s m args below meth c H locs cells slots Q (F0 m 197 ls []) := by
  obtain ⟨hx, hb, hr, hml, hown, hts, hK, hlk, hST⟩ := id hC
  have hB : ∀ q, (zF g 64 580 s.heap.size) q → zB g q := zF.base hI (Nat.le_of_ble_eq_true rfl) hST.1
  intro x4 x5 x6 x9 x10 hf H locs ls hP hS hl
  unfold pM_dealers_197 at hf
  refine lv_iinc (v := x10 + 1) (lv' := [(10, .int (x10 + 1)), (3, .int x3), (4, .int x4), (5, .int x5), (6, .int x6), (7, .int x7), (8, .int x8), (9, .int x9)]) hx hb dX10_dealers_197 hl (k := 7) rfl rfl (by decide) rfl (fun ls hl => ?_)
  refine lv_goto (tgt := 107) hx hb dX10_dealers_200 (by decide) ?_
  exact hk107 x4 x5 x6 x9 (x10 + 1) hf H locs ls hP hS (lv_sub hl [1, 2, 3, 4, 5, 6, 7, 0] rfl)
set_option maxHeartbeats 4000000 in
set_option maxRecDepth 100000 in
theorem mpM_dealers_192 {p : Program} {l : Launch} {e : Env} {R : Room} {s : State} {m : MethodId} {args : Array Value} {below : List Frame} {meth : Method} {c : Code} {cells slots : Nat} {Q : State → Prop} {g : zG} (hI : zI g 581) (hC : zC g RX10 cX10_dealers 12 (some .int) p s m meth c args) (hR : 3 ≤ R.frames ∧ 60 * 3 ≤ R.locals ∧ cells ≤ R.cells ∧ slots ≤ R.slots) (m_thrown : Int32) (m_tape : Int32) (m_size : Int32) (m_place : Int32) (m_at : Int32) (m_fault : Int32) (m_faultAt : Int32) (m_clauses : Int32) (m_open : Int32) (m_fed : Nat → Int32) (m_refused : Nat → Int32) (m_readTold : Nat → Int32) (m_told : Nat → Int32) (m_readBeast : Nat → Nat → Int32) (m_beast : Nat → Nat → Int32) (m_readGate : Nat → Nat → Int32) (m_gate : Nat → Nat → Int32) (m_readList : Nat → Nat → Int32) (m_list : Nat → Nat → Int32) (m_lawMany : Int32) (m_readLawMany : Int32) (m_law : Nat → Nat → Int32) (m_readLaw : Nat → Nat → Int32) (m_stack : Nat → Int32) (m_known : Nat → Int32) (m_step : Nat → Nat → Int32) (m_steps : Int32) (m_now : Nat → Int32) (m_trial : Nat → Int32) (m_before : Nat → Nat → Int32) (m_kept : Nat → Nat → Int32) (m_works : Int32) (m_refusedSteps : Int32) (m_images : Int32) (m_spot : Int32) (m_begun : Int32) (m_doneSteps : Int32) (m_mixed : Nat → Int32) (m_fewest : Nat → Int32) (m_leastFees : Nat → Int32) (m_lots : Int32) (m_tars : Int32) (x10 : Int32) (x3 : Int32) (x7 : Int32) (x8 : Int32) (x9 : Int32) (N9 : Nat)  (k197 : Int32 → Int32 → Int32 → Int32 → Int32 → Option (Int32 × Int32 × (Nat → Int32))) (res : Int32 × Int32 × (Nat → Int32)) (hfin : ∀ (r0 : Int32) (m_thrown : Int32) (m_refused : Nat → Int32) (H : Heap) (locs : List Loc) (pc : Nat) (ls : Array Slot), (r0, m_thrown, m_refused) = res → va_P g.1 zcl (zM g m_thrown m_tape m_size m_place m_at m_fault m_faultAt m_clauses m_open m_fed m_refused m_readTold m_told m_readBeast m_beast m_readGate m_gate m_readList m_list m_lawMany m_readLawMany m_law m_readLaw m_stack m_known m_step m_steps m_now m_trial m_before m_kept m_works m_refusedSteps m_images m_spot m_begun m_doneSteps m_mixed m_fewest m_leastFees m_lots m_tars) H → va_S (zF g 64 580 s.heap.size) s.heap H locs → decode cX10_dealers pc = .ok (.ireturn, 1) → W p l e R s m args below meth c H locs cells slots Q (F0 m pc ls [.int r0])) (hk197 : ∀ (x4 : Int32) (x5 : Int32) (x6 : Int32) (x9 : Int32) (x10 : Int32), k197 x4 x5 x6 x9 x10 = some res → ∀ (H : Heap) (locs : List Loc) (ls : Array Slot), va_P g.1 zcl (zM g m_thrown m_tape m_size m_place m_at m_fault m_faultAt m_clauses m_open m_fed m_refused m_readTold m_told m_readBeast m_beast m_readGate m_gate m_readList m_list m_lawMany m_readLawMany m_law m_readLaw m_stack m_known m_step m_steps m_now m_trial m_before m_kept m_works m_refusedSteps m_images m_spot m_begun m_doneSteps m_mixed m_fewest m_leastFees m_lots m_tars) H → va_S (zF g 64 580 s.heap.size) s.heap H locs → lv_has ls 12 [(3, .int x3), (4, .int x4), (5, .int x5), (6, .int x6), (7, .int x7), (8, .int x8), (9, .int x9), (10, .int x10)] → W p l e R s m args below meth c H locs cells slots Q (F0 m 197 ls [])) : ∀ (x4 : Int32) (x6 : Int32) (s0 : Int32), pM_dealers_192 N9 x3 x7 x8 x9 x10 k197 x4 x6 s0 = some res → ∀ (H : Heap) (locs : List Loc) (ls : Array Slot), va_P g.1 zcl (zM g m_thrown m_tape m_size m_place m_at m_fault m_faultAt m_clauses m_open m_fed m_refused m_readTold m_told m_readBeast m_beast m_readGate m_gate m_readList m_list m_lawMany m_readLawMany m_law m_readLaw m_stack m_known m_step m_steps m_now m_trial m_before m_kept m_works m_refusedSteps m_images m_spot m_begun m_doneSteps m_mixed m_fewest m_leastFees m_lots m_tars) H → va_S (zF g 64 580 s.heap.size) s.heap H locs → lv_has ls 12 [(3, .int x3), (4, .int x4), (6, .int x6), (7, .int x7), (8, .int x8), (9, .int x9), (10, .int x10)] → W p l e R s m args below meth c H locs cells slots Q (F0 m 192 ls [.int s0]) := by
  obtain ⟨hx, hb, hr, hml, hown, hts, hK, hlk, hST⟩ := id hC
  have hB : ∀ q, (zF g 64 580 s.heap.size) q → zB g q := zF.base hI (Nat.le_of_ble_eq_true rfl) hST.1
  intro x4 x6 s0 hf H locs ls hP hS hl
  unfold pM_dealers_192 at hf
  refine lv_istore (lv' := [(5, .int s0), (3, .int x3), (4, .int x4), (6, .int x6), (7, .int x7), (8, .int x8), (9, .int x9), (10, .int x10)]) hx hb dX10_dealers_192 hl (by decide) rfl (fun ls hl => ?_)
  refine lv_iinc (v := x4 + 1) (lv' := [(4, .int (x4 + 1)), (5, .int s0), (3, .int x3), (6, .int x6), (7, .int x7), (8, .int x8), (9, .int x9), (10, .int x10)]) hx hb dX10_dealers_194 hl (k := 2) rfl rfl (by decide) rfl (fun ls hl => ?_)
  exact hk197 (x4 + 1) s0 x6 x9 x10 hf H locs ls hP hS (lv_sub hl [2, 0, 1, 3, 4, 5, 6, 7] rfl)
set_option maxHeartbeats 4000000 in
set_option maxRecDepth 100000 in
theorem mpM_dealers_172 {p : Program} {l : Launch} {e : Env} {R : Room} {s : State} {m : MethodId} {args : Array Value} {below : List Frame} {meth : Method} {c : Code} {cells slots : Nat} {Q : State → Prop} {g : zG} (hI : zI g 581) (hC : zC g RX10 cX10_dealers 12 (some .int) p s m meth c args) (hR : 3 ≤ R.frames ∧ 60 * 3 ≤ R.locals ∧ cells ≤ R.cells ∧ slots ≤ R.slots) (m_thrown : Int32) (m_tape : Int32) (m_size : Int32) (m_place : Int32) (m_at : Int32) (m_fault : Int32) (m_faultAt : Int32) (m_clauses : Int32) (m_open : Int32) (m_fed : Nat → Int32) (m_refused : Nat → Int32) (m_readTold : Nat → Int32) (m_told : Nat → Int32) (m_readBeast : Nat → Nat → Int32) (m_beast : Nat → Nat → Int32) (m_readGate : Nat → Nat → Int32) (m_gate : Nat → Nat → Int32) (m_readList : Nat → Nat → Int32) (m_list : Nat → Nat → Int32) (m_lawMany : Int32) (m_readLawMany : Int32) (m_law : Nat → Nat → Int32) (m_readLaw : Nat → Nat → Int32) (m_stack : Nat → Int32) (m_known : Nat → Int32) (m_step : Nat → Nat → Int32) (m_steps : Int32) (m_now : Nat → Int32) (m_trial : Nat → Int32) (m_before : Nat → Nat → Int32) (m_kept : Nat → Nat → Int32) (m_works : Int32) (m_refusedSteps : Int32) (m_images : Int32) (m_spot : Int32) (m_begun : Int32) (m_doneSteps : Int32) (m_mixed : Nat → Int32) (m_fewest : Nat → Int32) (m_leastFees : Nat → Int32) (m_lots : Int32) (m_tars : Int32) (x3 : Int32) (x7 : Int32) (x8 : Int32) (N9 : Nat)  (k197 : Int32 → Int32 → Int32 → Int32 → Int32 → Option (Int32 × Int32 × (Nat → Int32))) (res : Int32 × Int32 × (Nat → Int32)) (hfin : ∀ (r0 : Int32) (m_thrown : Int32) (m_refused : Nat → Int32) (H : Heap) (locs : List Loc) (pc : Nat) (ls : Array Slot), (r0, m_thrown, m_refused) = res → va_P g.1 zcl (zM g m_thrown m_tape m_size m_place m_at m_fault m_faultAt m_clauses m_open m_fed m_refused m_readTold m_told m_readBeast m_beast m_readGate m_gate m_readList m_list m_lawMany m_readLawMany m_law m_readLaw m_stack m_known m_step m_steps m_now m_trial m_before m_kept m_works m_refusedSteps m_images m_spot m_begun m_doneSteps m_mixed m_fewest m_leastFees m_lots m_tars) H → va_S (zF g 64 580 s.heap.size) s.heap H locs → decode cX10_dealers pc = .ok (.ireturn, 1) → W p l e R s m args below meth c H locs cells slots Q (F0 m pc ls [.int r0])) (hk197 : ∀ (x4 : Int32) (x5 : Int32) (x6 : Int32) (x9 : Int32) (x10 : Int32), k197 x4 x5 x6 x9 x10 = some res → ∀ (H : Heap) (locs : List Loc) (ls : Array Slot), va_P g.1 zcl (zM g m_thrown m_tape m_size m_place m_at m_fault m_faultAt m_clauses m_open m_fed m_refused m_readTold m_told m_readBeast m_beast m_readGate m_gate m_readList m_list m_lawMany m_readLawMany m_law m_readLaw m_stack m_known m_step m_steps m_now m_trial m_before m_kept m_works m_refusedSteps m_images m_spot m_begun m_doneSteps m_mixed m_fewest m_leastFees m_lots m_tars) H → va_S (zF g 64 580 s.heap.size) s.heap H locs → lv_has ls 12 [(3, .int x3), (4, .int x4), (5, .int x5), (6, .int x6), (7, .int x7), (8, .int x8), (9, .int x9), (10, .int x10)] → W p l e R s m args below meth c H locs cells slots Q (F0 m 197 ls [])) : ∀ (x4 : Int32) (x5 : Int32) (x9 : Int32) (x10 : Int32) (s0 : Int32), pM_dealers_172 N9 x3 x7 x8 k197 x4 x5 x9 x10 s0 = some res → ∀ (H : Heap) (locs : List Loc) (ls : Array Slot), va_P g.1 zcl (zM g m_thrown m_tape m_size m_place m_at m_fault m_faultAt m_clauses m_open m_fed m_refused m_readTold m_told m_readBeast m_beast m_readGate m_gate m_readList m_list m_lawMany m_readLawMany m_law m_readLaw m_stack m_known m_step m_steps m_now m_trial m_before m_kept m_works m_refusedSteps m_images m_spot m_begun m_doneSteps m_mixed m_fewest m_leastFees m_lots m_tars) H → va_S (zF g 64 580 s.heap.size) s.heap H locs → lv_has ls 12 [(3, .int x3), (4, .int x4), (5, .int x5), (7, .int x7), (8, .int x8), (9, .int x9), (10, .int x10)] → W p l e R s m args below meth c H locs cells slots Q (F0 m 172 ls [.int s0]) := by
  obtain ⟨hx, hb, hr, hml, hown, hts, hK, hlk, hST⟩ := id hC
  have hB : ∀ q, (zF g 64 580 s.heap.size) q → zB g q := zF.base hI (Nat.le_of_ble_eq_true rfl) hST.1
  intro x4 x5 x9 x10 s0 hf H locs ls hP hS hl
  have hk192 := mpM_dealers_192 (l := l) (e := e) (R := R) (below := below) (cells := cells) (slots := slots) (Q := Q) hI hC hR m_thrown m_tape m_size m_place m_at m_fault m_faultAt m_clauses m_open m_fed m_refused m_readTold m_told m_readBeast m_beast m_readGate m_gate m_readList m_list m_lawMany m_readLawMany m_law m_readLaw m_stack m_known m_step m_steps m_now m_trial m_before m_kept m_works m_refusedSteps m_images m_spot m_begun m_doneSteps m_mixed m_fewest m_leastFees m_lots m_tars x10 x3 x7 x8 x9 N9 k197 res hfin hk197
  unfold pM_dealers_172 at hf
  refine lv_istore (lv' := [(6, .int s0), (3, .int x3), (4, .int x4), (5, .int x5), (7, .int x7), (8, .int x8), (9, .int x9), (10, .int x10)]) hx hb dX10_dealers_172 hl (by decide) rfl (fun ls hl => ?_)
  refine lv_iload hx hb dX10_dealers_174 (lv_at hl 2 rfl) ?_
  refine lv_if_ne (tgt := 190) hx hb dX10_dealers_176 (by decide) (fun hc_1 => ?_) (fun hc_1 => ?_)
  · have hf := zifn hc_1 hf
    refine lv_iload hx hb dX10_dealers_190 (lv_at hl 3 rfl) ?_
    exact hk192 x4 s0 x5 hf H locs ls hP hS (lv_sub hl [1, 2, 0, 4, 5, 6, 7] rfl)
  · have hf := zifp hc_1 hf
    refine lv_bipush (v := 10) hx hb dX10_dealers_179 (by decide) ?_
    refine lv_iload hx hb dX10_dealers_181 (lv_at hl 6 rfl) ?_
    refine lv_imul hx hb dX10_dealers_183 ?_
    refine lv_iload hx hb dX10_dealers_184 (lv_at hl 7 rfl) ?_
    refine lv_iadd hx hb dX10_dealers_186 ?_
    refine lv_goto (tgt := 192) hx hb dX10_dealers_187 (by decide) ?_
    exact hk192 x4 s0 ((10 * x9) + x10) hf H locs ls hP hS (lv_sub hl [1, 2, 0, 4, 5, 6, 7] rfl)
set_option maxHeartbeats 4000000 in
set_option maxRecDepth 100000 in
theorem mpM_dealers_107 {p : Program} {l : Launch} {e : Env} {R : Room} {s : State} {m : MethodId} {args : Array Value} {below : List Frame} {meth : Method} {c : Code} {cells slots : Nat} {Q : State → Prop} {g : zG} (hI : zI g 581) (hC : zC g RX10 cX10_dealers 12 (some .int) p s m meth c args) (hR : 3 ≤ R.frames ∧ 60 * 3 ≤ R.locals ∧ cells ≤ R.cells ∧ slots ≤ R.slots) (m_thrown : Int32) (m_tape : Int32) (m_size : Int32) (m_place : Int32) (m_at : Int32) (m_fault : Int32) (m_faultAt : Int32) (m_clauses : Int32) (m_open : Int32) (m_fed : Nat → Int32) (m_refused : Nat → Int32) (m_readTold : Nat → Int32) (m_told : Nat → Int32) (m_readBeast : Nat → Nat → Int32) (m_beast : Nat → Nat → Int32) (m_readGate : Nat → Nat → Int32) (m_gate : Nat → Nat → Int32) (m_readList : Nat → Nat → Int32) (m_list : Nat → Nat → Int32) (m_lawMany : Int32) (m_readLawMany : Int32) (m_law : Nat → Nat → Int32) (m_readLaw : Nat → Nat → Int32) (m_stack : Nat → Int32) (m_known : Nat → Int32) (m_step : Nat → Nat → Int32) (m_steps : Int32) (m_now : Nat → Int32) (m_trial : Nat → Int32) (m_before : Nat → Nat → Int32) (m_kept : Nat → Nat → Int32) (m_works : Int32) (m_refusedSteps : Int32) (m_images : Int32) (m_spot : Int32) (m_begun : Int32) (m_doneSteps : Int32) (m_mixed : Nat → Int32) (m_fewest : Nat → Int32) (m_leastFees : Nat → Int32) (m_lots : Int32) (m_tars : Int32) (x3 : Int32) (x7 : Int32) (x8 : Int32) (N9 : Nat)  (k97 : Int32 → (Nat → Int32) → Int32 → Int32 → Int32 → Int32 → Int32 → Int32 → Option (Int32 × Int32 × (Nat → Int32))) (res : Int32 × Int32 × (Nat → Int32)) (hfin : ∀ (r0 : Int32) (m_thrown : Int32) (m_refused : Nat → Int32) (H : Heap) (locs : List Loc) (pc : Nat) (ls : Array Slot), (r0, m_thrown, m_refused) = res → va_P g.1 zcl (zM g m_thrown m_tape m_size m_place m_at m_fault m_faultAt m_clauses m_open m_fed m_refused m_readTold m_told m_readBeast m_beast m_readGate m_gate m_readList m_list m_lawMany m_readLawMany m_law m_readLaw m_stack m_known m_step m_steps m_now m_trial m_before m_kept m_works m_refusedSteps m_images m_spot m_begun m_doneSteps m_mixed m_fewest m_leastFees m_lots m_tars) H → va_S (zF g 64 580 s.heap.size) s.heap H locs → decode cX10_dealers pc = .ok (.ireturn, 1) → W p l e R s m args below meth c H locs cells slots Q (F0 m pc ls [.int r0])) (hk97 : ∀ (m_thrown : Int32) (m_refused : Nat → Int32) (x4 : Int32) (x5 : Int32) (x6 : Int32) (x7 : Int32) (x8 : Int32) (x9 : Int32), k97 m_thrown m_refused x4 x5 x6 x7 x8 x9 = some res → ∀ (H : Heap) (locs : List Loc) (ls : Array Slot), va_P g.1 zcl (zM g m_thrown m_tape m_size m_place m_at m_fault m_faultAt m_clauses m_open m_fed m_refused m_readTold m_told m_readBeast m_beast m_readGate m_gate m_readList m_list m_lawMany m_readLawMany m_law m_readLaw m_stack m_known m_step m_steps m_now m_trial m_before m_kept m_works m_refusedSteps m_images m_spot m_begun m_doneSteps m_mixed m_fewest m_leastFees m_lots m_tars) H → va_S (zF g 64 580 s.heap.size) s.heap H locs → lv_has ls 12 [(3, .int x3), (4, .int x4), (5, .int x5), (6, .int x6), (7, .int x7), (8, .int x8), (9, .int x9)] → W p l e R s m args below meth c H locs cells slots Q (F0 m 97 ls [])) : ∀ (n9 : Nat) (x4 : Int32) (x5 : Int32) (x6 : Int32) (x9 : Int32) (x10 : Int32), pM_dealers_107 N9 m_thrown m_refused x3 x7 x8 k97 n9 x4 x5 x6 x9 x10 = some res → ∀ (H : Heap) (locs : List Loc) (ls : Array Slot), va_P g.1 zcl (zM g m_thrown m_tape m_size m_place m_at m_fault m_faultAt m_clauses m_open m_fed m_refused m_readTold m_told m_readBeast m_beast m_readGate m_gate m_readList m_list m_lawMany m_readLawMany m_law m_readLaw m_stack m_known m_step m_steps m_now m_trial m_before m_kept m_works m_refusedSteps m_images m_spot m_begun m_doneSteps m_mixed m_fewest m_leastFees m_lots m_tars) H → va_S (zF g 64 580 s.heap.size) s.heap H locs → lv_has ls 12 [(3, .int x3), (4, .int x4), (5, .int x5), (6, .int x6), (7, .int x7), (8, .int x8), (9, .int x9), (10, .int x10)] → W p l e R s m args below meth c H locs cells slots Q (F0 m 107 ls []) := by
  obtain ⟨hx, hb, hr, hml, hown, hts, hK, hlk, hST⟩ := id hC
  have hB : ∀ q, (zF g 64 580 s.heap.size) q → zB g q := zF.base hI (Nat.le_of_ble_eq_true rfl) hST.1
  intro n9
  induction n9 with
  | zero => intro x4 x5 x6 x9 x10 hf; cases hf
  | succ n9 ih =>
    intro x4 x5 x6 x9 x10 hf H locs ls hP hS hl
    have hk107 := ih
    have hk197 := mpM_dealers_197 (l := l) (e := e) (R := R) (below := below) (cells := cells) (slots := slots) (Q := Q) hI hC hR m_thrown m_tape m_size m_place m_at m_fault m_faultAt m_clauses m_open m_fed m_refused m_readTold m_told m_readBeast m_beast m_readGate m_gate m_readList m_list m_lawMany m_readLawMany m_law m_readLaw m_stack m_known m_step m_steps m_now m_trial m_before m_kept m_works m_refusedSteps m_images m_spot m_begun m_doneSteps m_mixed m_fewest m_leastFees m_lots m_tars x3 x7 x8 N9 (pM_dealers_107 N9 m_thrown m_refused x3 x7 x8 k97 n9) res hfin hk107
    have hk172 := mpM_dealers_172 (l := l) (e := e) (R := R) (below := below) (cells := cells) (slots := slots) (Q := Q) hI hC hR m_thrown m_tape m_size m_place m_at m_fault m_faultAt m_clauses m_open m_fed m_refused m_readTold m_told m_readBeast m_beast m_readGate m_gate m_readList m_list m_lawMany m_readLawMany m_law m_readLaw m_stack m_known m_step m_steps m_now m_trial m_before m_kept m_works m_refusedSteps m_images m_spot m_begun m_doneSteps m_mixed m_fewest m_leastFees m_lots m_tars x3 x7 x8 N9 (pM_dealers_197 N9 x3 x7 x8 (pM_dealers_107 N9 m_thrown m_refused x3 x7 x8 k97 n9)) res hfin hk197
    unfold pM_dealers_107 at hf
    refine lv_iload hx hb dX10_dealers_107 (lv_at hl 7 rfl) ?_
    refine lv_bipush (v := 8) hx hb dX10_dealers_109 (by decide) ?_
    refine lv_icmp_gt (tgt := 203) hx hb dX10_dealers_111 (by decide) (fun hc_2 => ?_) (fun hc_2 => ?_)
    · have hf := zifp hc_2 hf
      refine lv_iinc (v := x9 + 1) (lv' := [(9, .int (x9 + 1)), (3, .int x3), (4, .int x4), (5, .int x5), (6, .int x6), (7, .int x7), (8, .int x8), (10, .int x10)]) hx hb dX10_dealers_203 hl (k := 6) rfl rfl (by decide) rfl (fun ls hl => ?_)
      refine lv_goto (tgt := 97) hx hb dX10_dealers_206 (by decide) ?_
      exact hk97 m_thrown m_refused x4 x5 x6 x7 x8 (x9 + 1) hf H locs ls hP hS (lv_sub hl [1, 2, 3, 4, 5, 6, 0] rfl)
    · have hf := zifn hc_2 hf
      refine lv_iload hx hb dX10_dealers_114 (lv_at hl 4 rfl) ?_
      refine lv_iload hx hb dX10_dealers_116 (lv_at hl 5 rfl) ?_
      refine lv_iload hx hb dX10_dealers_118 (lv_at hl 6 rfl) ?_
      refine lv_iload hx hb dX10_dealers_120 (lv_at hl 7 rfl) ?_
      obtain ⟨r_3, hf_3, hf⟩ := zb1i hf
      refine zcallP (As := [.int x7, .int x8, .int x9, .int x10]) (rest := []) hC hS hB (cpM_isRest l hI x7 x8 x9 x10 N9 hf_3) (hC.ml mw_1869) yo_X10_isRest rfl hl.1 rfl (Nat.le_of_ble_eq_true rfl) ⟨by omega, by omega⟩ hR.2.2 dX10_dealers_122 (fun H locs hPk hS _ => ?_)
      have hP := hPk _ _ _ hP
      refine lv_if_ne (tgt := 131) hx hb dX10_dealers_125 (by decide) (fun hc_4 => ?_) (fun hc_4 => ?_)
      · have hf := zifn hc_4 hf
        refine lv_iload hx hb dX10_dealers_131 (lv_at hl 4 rfl) ?_
        refine lv_iload hx hb dX10_dealers_133 (lv_at hl 6 rfl) ?_
        obtain ⟨r_5, hf_5, hf⟩ := zb1i hf
        refine zcallP (As := [.int x7, .int x9]) (rest := []) hC hS hB (cpM_changed l hI x7 x9 N9 hf_5) (hC.ml mw_1872) yo_X10_changed rfl hl.1 rfl (Nat.le_of_ble_eq_true rfl) ⟨by omega, by omega⟩ hR.2.2 dX10_dealers_135 (fun H locs hPk hS _ => ?_)
        have hP := hPk _ _ _ hP
        refine lv_iload hx hb dX10_dealers_138 (lv_at hl 5 rfl) ?_
        refine lv_iload hx hb dX10_dealers_140 (lv_at hl 7 rfl) ?_
        obtain ⟨r_6, hf_6, hf⟩ := zb1i hf
        refine zcallP (As := [.int x8, .int x10]) (rest := [.int r_5]) hC hS hB (cpM_changed l hI x8 x10 N9 hf_6) (hC.ml mw_1872) yo_X10_changed rfl hl.1 rfl (Nat.le_of_ble_eq_true rfl) ⟨by omega, by omega⟩ hR.2.2 dX10_dealers_142 (fun H locs hPk hS _ => ?_)
        have hP := hPk _ _ _ hP
        refine lv_ixor hx hb dX10_dealers_145 ?_
        obtain ⟨r_7, hf_7, hf⟩ := zb1i hf
        refine zcallP (As := [.int (r_5 ^^^ r_6)]) (rest := []) hC hS hB (cpM_ones l hI (r_5 ^^^ r_6) N9 hf_7) (hC.ml mw_1681) yo_X10_ones rfl hl.1 rfl (Nat.le_of_ble_eq_true rfl) ⟨by omega, by omega⟩ hR.2.2 dX10_dealers_146 (fun H locs hPk hS _ => ?_)
        have hP := hPk _ _ _ hP
        refine lv_istore (lv' := [(11, .int r_7), (3, .int x3), (4, .int x4), (5, .int x5), (6, .int x6), (7, .int x7), (8, .int x8), (9, .int x9), (10, .int x10)]) hx hb dX10_dealers_149 hl (by decide) rfl (fun ls hl => ?_)
        refine lv_iload hx hb dX10_dealers_151 (lv_at hl 2 rfl) ?_
        refine lv_if_ne (tgt := 170) hx hb dX10_dealers_153 (by decide) (fun hc_8 => ?_) (fun hc_8 => ?_)
        · have hf := zifn hc_8 hf
          refine lv_iload hx hb dX10_dealers_170 (lv_at hl 4 rfl) ?_
          exact hk172 x4 x5 x9 x10 x6 hf H locs ls hP hS (lv_sub hl [1, 2, 3, 5, 6, 7, 8] rfl)
        · have hf := zifp hc_8 hf
          refine lv_iload hx hb dX10_dealers_156 (lv_at hl 0 rfl) ?_
          obtain ⟨r_9, hf_9, hf⟩ := zb1i hf
          refine zcallP (As := [.int r_7]) (rest := []) hC hS hB (cpM_hasOne l hI r_7 N9 hf_9) (hC.ml mw_1875) yo_X10_hasOne rfl hl.1 rfl (Nat.le_of_ble_eq_true rfl) ⟨by omega, by omega⟩ hR.2.2 dX10_dealers_158 (fun H locs hPk hS _ => ?_)
          have hP := hPk _ _ _ hP
          refine lv_iload hx hb dX10_dealers_161 (lv_at hl 0 rfl) ?_
          obtain ⟨r_10, hf_10, hf⟩ := zb1i hf
          refine zcallP (As := [.int r_7]) (rest := [.int r_9]) hC hS hB (cpM_hasOther l hI r_7 N9 hf_10) (hC.ml mw_1878) yo_X10_hasOther rfl hl.1 rfl (Nat.le_of_ble_eq_true rfl) ⟨by omega, by omega⟩ hR.2.2 dX10_dealers_163 (fun H locs hPk hS _ => ?_)
          have hP := hPk _ _ _ hP
          refine lv_iadd hx hb dX10_dealers_166 ?_
          refine lv_goto (tgt := 172) hx hb dX10_dealers_167 (by decide) ?_
          exact hk172 x4 x5 x9 x10 (r_9 + r_10) hf H locs ls hP hS (lv_sub hl [1, 2, 3, 5, 6, 7, 8] rfl)
      · have hf := zifp hc_4 hf
        refine lv_goto (tgt := 197) hx hb dX10_dealers_128 (by decide) ?_
        exact hk197 x4 x5 x6 x9 x10 hf H locs ls hP hS (lv_sub hl [0, 1, 2, 3, 4, 5, 6, 7] rfl)
set_option maxHeartbeats 4000000 in
set_option maxRecDepth 100000 in
theorem mpM_dealers_230 {p : Program} {l : Launch} {e : Env} {R : Room} {s : State} {m : MethodId} {args : Array Value} {below : List Frame} {meth : Method} {c : Code} {cells slots : Nat} {Q : State → Prop} {g : zG} (hI : zI g 581) (hC : zC g RX10 cX10_dealers 12 (some .int) p s m meth c args) (hR : 3 ≤ R.frames ∧ 60 * 3 ≤ R.locals ∧ cells ≤ R.cells ∧ slots ≤ R.slots) (m_thrown : Int32) (m_tape : Int32) (m_size : Int32) (m_place : Int32) (m_at : Int32) (m_fault : Int32) (m_faultAt : Int32) (m_clauses : Int32) (m_open : Int32) (m_fed : Nat → Int32) (m_refused : Nat → Int32) (m_readTold : Nat → Int32) (m_told : Nat → Int32) (m_readBeast : Nat → Nat → Int32) (m_beast : Nat → Nat → Int32) (m_readGate : Nat → Nat → Int32) (m_gate : Nat → Nat → Int32) (m_readList : Nat → Nat → Int32) (m_list : Nat → Nat → Int32) (m_lawMany : Int32) (m_readLawMany : Int32) (m_law : Nat → Nat → Int32) (m_readLaw : Nat → Nat → Int32) (m_stack : Nat → Int32) (m_known : Nat → Int32) (m_step : Nat → Nat → Int32) (m_steps : Int32) (m_now : Nat → Int32) (m_trial : Nat → Int32) (m_before : Nat → Nat → Int32) (m_kept : Nat → Nat → Int32) (m_works : Int32) (m_refusedSteps : Int32) (m_images : Int32) (m_spot : Int32) (m_begun : Int32) (m_doneSteps : Int32) (m_mixed : Nat → Int32) (m_fewest : Nat → Int32) (m_leastFees : Nat → Int32) (m_lots : Int32) (m_tars : Int32)  (N9 : Nat)   (res : Int32 × Int32 × (Nat → Int32)) (hfin : ∀ (r0 : Int32) (m_thrown : Int32) (m_refused : Nat → Int32) (H : Heap) (locs : List Loc) (pc : Nat) (ls : Array Slot), (r0, m_thrown, m_refused) = res → va_P g.1 zcl (zM g m_thrown m_tape m_size m_place m_at m_fault m_faultAt m_clauses m_open m_fed m_refused m_readTold m_told m_readBeast m_beast m_readGate m_gate m_readList m_list m_lawMany m_readLawMany m_law m_readLaw m_stack m_known m_step m_steps m_now m_trial m_before m_kept m_works m_refusedSteps m_images m_spot m_begun m_doneSteps m_mixed m_fewest m_leastFees m_lots m_tars) H → va_S (zF g 64 580 s.heap.size) s.heap H locs → decode cX10_dealers pc = .ok (.ireturn, 1) → W p l e R s m args below meth c H locs cells slots Q (F0 m pc ls [.int r0])) : ∀ (s0 : Int32), pM_dealers_230 N9 m_thrown m_refused s0 = some res → ∀ (H : Heap) (locs : List Loc) (ls : Array Slot), va_P g.1 zcl (zM g m_thrown m_tape m_size m_place m_at m_fault m_faultAt m_clauses m_open m_fed m_refused m_readTold m_told m_readBeast m_beast m_readGate m_gate m_readList m_list m_lawMany m_readLawMany m_law m_readLaw m_stack m_known m_step m_steps m_now m_trial m_before m_kept m_works m_refusedSteps m_images m_spot m_begun m_doneSteps m_mixed m_fewest m_leastFees m_lots m_tars) H → va_S (zF g 64 580 s.heap.size) s.heap H locs → lv_has ls 12 [] → W p l e R s m args below meth c H locs cells slots Q (F0 m 230 ls [.int s0]) := by
  obtain ⟨hx, hb, hr, hml, hown, hts, hK, hlk, hST⟩ := id hC
  have hB : ∀ q, (zF g 64 580 s.heap.size) q → zB g q := zF.base hI (Nat.le_of_ble_eq_true rfl) hST.1
  intro s0 hf H locs ls hP hS hl
  unfold pM_dealers_230 at hf
  exact hfin _ _ _ H locs _ ls (Option.some.inj hf) hP hS dX10_dealers_230
set_option maxHeartbeats 4000000 in
set_option maxRecDepth 100000 in
theorem mpM_dealers_97 {p : Program} {l : Launch} {e : Env} {R : Room} {s : State} {m : MethodId} {args : Array Value} {below : List Frame} {meth : Method} {c : Code} {cells slots : Nat} {Q : State → Prop} {g : zG} (hI : zI g 581) (hC : zC g RX10 cX10_dealers 12 (some .int) p s m meth c args) (hR : 3 ≤ R.frames ∧ 60 * 3 ≤ R.locals ∧ cells ≤ R.cells ∧ slots ≤ R.slots) (m_tape : Int32) (m_size : Int32) (m_place : Int32) (m_at : Int32) (m_fault : Int32) (m_faultAt : Int32) (m_clauses : Int32) (m_open : Int32) (m_fed : Nat → Int32) (m_readTold : Nat → Int32) (m_told : Nat → Int32) (m_readBeast : Nat → Nat → Int32) (m_beast : Nat → Nat → Int32) (m_readGate : Nat → Nat → Int32) (m_gate : Nat → Nat → Int32) (m_readList : Nat → Nat → Int32) (m_list : Nat → Nat → Int32) (m_lawMany : Int32) (m_readLawMany : Int32) (m_law : Nat → Nat → Int32) (m_readLaw : Nat → Nat → Int32) (m_stack : Nat → Int32) (m_known : Nat → Int32) (m_step : Nat → Nat → Int32) (m_steps : Int32) (m_now : Nat → Int32) (m_trial : Nat → Int32) (m_before : Nat → Nat → Int32) (m_kept : Nat → Nat → Int32) (m_works : Int32) (m_refusedSteps : Int32) (m_images : Int32) (m_spot : Int32) (m_begun : Int32) (m_doneSteps : Int32) (m_mixed : Nat → Int32) (m_fewest : Nat → Int32) (m_leastFees : Nat → Int32) (m_lots : Int32) (m_tars : Int32) (x3 : Int32) (N9 : Nat)   (res : Int32 × Int32 × (Nat → Int32)) (hfin : ∀ (r0 : Int32) (m_thrown : Int32) (m_refused : Nat → Int32) (H : Heap) (locs : List Loc) (pc : Nat) (ls : Array Slot), (r0, m_thrown, m_refused) = res → va_P g.1 zcl (zM g m_thrown m_tape m_size m_place m_at m_fault m_faultAt m_clauses m_open m_fed m_refused m_readTold m_told m_readBeast m_beast m_readGate m_gate m_readList m_list m_lawMany m_readLawMany m_law m_readLaw m_stack m_known m_step m_steps m_now m_trial m_before m_kept m_works m_refusedSteps m_images m_spot m_begun m_doneSteps m_mixed m_fewest m_leastFees m_lots m_tars) H → va_S (zF g 64 580 s.heap.size) s.heap H locs → decode cX10_dealers pc = .ok (.ireturn, 1) → W p l e R s m args below meth c H locs cells slots Q (F0 m pc ls [.int r0])) : ∀ (n9 : Nat) (m_thrown : Int32) (m_refused : Nat → Int32) (x4 : Int32) (x5 : Int32) (x6 : Int32) (x7 : Int32) (x8 : Int32) (x9 : Int32), pM_dealers_97 N9 x3 n9 m_thrown m_refused x4 x5 x6 x7 x8 x9 = some res → ∀ (H : Heap) (locs : List Loc) (ls : Array Slot), va_P g.1 zcl (zM g m_thrown m_tape m_size m_place m_at m_fault m_faultAt m_clauses m_open m_fed m_refused m_readTold m_told m_readBeast m_beast m_readGate m_gate m_readList m_list m_lawMany m_readLawMany m_law m_readLaw m_stack m_known m_step m_steps m_now m_trial m_before m_kept m_works m_refusedSteps m_images m_spot m_begun m_doneSteps m_mixed m_fewest m_leastFees m_lots m_tars) H → va_S (zF g 64 580 s.heap.size) s.heap H locs → lv_has ls 12 [(3, .int x3), (4, .int x4), (5, .int x5), (6, .int x6), (7, .int x7), (8, .int x8), (9, .int x9)] → W p l e R s m args below meth c H locs cells slots Q (F0 m 97 ls []) := by
  obtain ⟨hx, hb, hr, hml, hown, hts, hK, hlk, hST⟩ := id hC
  have hB : ∀ q, (zF g 64 580 s.heap.size) q → zB g q := zF.base hI (Nat.le_of_ble_eq_true rfl) hST.1
  intro n9
  induction n9 with
  | zero => intro m_thrown m_refused x4 x5 x6 x7 x8 x9 hf; cases hf
  | succ n9 ih =>
    intro m_thrown m_refused x4 x5 x6 x7 x8 x9 hf H locs ls hP hS hl
    have hk97 := ih
    have hk107 := mpM_dealers_107 (l := l) (e := e) (R := R) (below := below) (cells := cells) (slots := slots) (Q := Q) hI hC hR m_thrown m_tape m_size m_place m_at m_fault m_faultAt m_clauses m_open m_fed m_refused m_readTold m_told m_readBeast m_beast m_readGate m_gate m_readList m_list m_lawMany m_readLawMany m_law m_readLaw m_stack m_known m_step m_steps m_now m_trial m_before m_kept m_works m_refusedSteps m_images m_spot m_begun m_doneSteps m_mixed m_fewest m_leastFees m_lots m_tars x3 x7 x8 N9 (pM_dealers_97 N9 x3 n9) res hfin hk97 N9
    have hk230 := mpM_dealers_230 (l := l) (e := e) (R := R) (below := below) (cells := cells) (slots := slots) (Q := Q) hI hC hR m_thrown m_tape m_size m_place m_at m_fault m_faultAt m_clauses m_open m_fed m_refused m_readTold m_told m_readBeast m_beast m_readGate m_gate m_readList m_list m_lawMany m_readLawMany m_law m_readLaw m_stack m_known m_step m_steps m_now m_trial m_before m_kept m_works m_refusedSteps m_images m_spot m_begun m_doneSteps m_mixed m_fewest m_leastFees m_lots m_tars N9 res hfin
    unfold pM_dealers_97 at hf
    refine lv_iload hx hb dX10_dealers_97 (lv_at hl 6 rfl) ?_
    refine lv_bipush (v := 8) hx hb dX10_dealers_99 (by decide) ?_
    refine lv_icmp_gt (tgt := 209) hx hb dX10_dealers_101 (by decide) (fun hc_11 => ?_) (fun hc_11 => ?_)
    · have hf := zifp hc_11 hf
      refine lv_iload_n hx hb dX10_dealers_209 rfl (lv_at hl 0 rfl) ?_
      refine lv_if_ne (tgt := 218) hx hb dX10_dealers_210 (by decide) (fun hc_12 => ?_) (fun hc_12 => ?_)
      · have hf := zifn hc_12 hf
        refine lv_iload_n hx hb dX10_dealers_218 rfl (lv_at hl 0 rfl) ?_
        refine lv_iconst (v := 1) hx hb dX10_dealers_219 (by decide) ?_
        refine lv_icmp_ne (tgt := 228) hx hb dX10_dealers_220 (by decide) (fun hc_13 => ?_) (fun hc_13 => ?_)
        · have hf := zifn hc_13 hf
          refine lv_iload hx hb dX10_dealers_228 (lv_at hl 3 rfl) ?_
          exact hk230 x6 hf H locs ls hP hS (lv_sub hl [] rfl)
        · have hf := zifp hc_13 hf
          refine lv_iload hx hb dX10_dealers_223 (lv_at hl 2 rfl) ?_
          refine lv_goto (tgt := 230) hx hb dX10_dealers_225 (by decide) ?_
          exact hk230 x5 hf H locs ls hP hS (lv_sub hl [] rfl)
      · have hf := zifp hc_12 hf
        refine lv_iload hx hb dX10_dealers_213 (lv_at hl 1 rfl) ?_
        refine lv_goto (tgt := 230) hx hb dX10_dealers_215 (by decide) ?_
        exact hk230 x4 hf H locs ls hP hS (lv_sub hl [] rfl)
    · have hf := zifn hc_11 hf
      refine lv_iconst (v := 0) hx hb dX10_dealers_104 (by decide) ?_
      refine lv_istore (lv' := [(10, .int 0), (3, .int x3), (4, .int x4), (5, .int x5), (6, .int x6), (7, .int x7), (8, .int x8), (9, .int x9)]) hx hb dX10_dealers_105 hl (by decide) rfl (fun ls hl => ?_)
      exact hk107 x4 x5 x6 x9 0 hf H locs ls hP hS (lv_sub hl [1, 2, 3, 4, 5, 6, 7, 0] rfl)
set_option maxHeartbeats 4000000 in
set_option maxRecDepth 100000 in
theorem mpM_dealers_55 {p : Program} {l : Launch} {e : Env} {R : Room} {s : State} {m : MethodId} {args : Array Value} {below : List Frame} {meth : Method} {c : Code} {cells slots : Nat} {Q : State → Prop} {g : zG} (hI : zI g 581) (hC : zC g RX10 cX10_dealers 12 (some .int) p s m meth c args) (hR : 3 ≤ R.frames ∧ 60 * 3 ≤ R.locals ∧ cells ≤ R.cells ∧ slots ≤ R.slots) (m_tape : Int32) (m_size : Int32) (m_place : Int32) (m_at : Int32) (m_fault : Int32) (m_faultAt : Int32) (m_clauses : Int32) (m_open : Int32) (m_fed : Nat → Int32) (m_readTold : Nat → Int32) (m_told : Nat → Int32) (m_readBeast : Nat → Nat → Int32) (m_beast : Nat → Nat → Int32) (m_readGate : Nat → Nat → Int32) (m_gate : Nat → Nat → Int32) (m_readList : Nat → Nat → Int32) (m_list : Nat → Nat → Int32) (m_lawMany : Int32) (m_readLawMany : Int32) (m_law : Nat → Nat → Int32) (m_readLaw : Nat → Nat → Int32) (m_stack : Nat → Int32) (m_known : Nat → Int32) (m_step : Nat → Nat → Int32) (m_steps : Int32) (m_now : Nat → Int32) (m_trial : Nat → Int32) (m_before : Nat → Nat → Int32) (m_kept : Nat → Nat → Int32) (m_works : Int32) (m_refusedSteps : Int32) (m_images : Int32) (m_spot : Int32) (m_begun : Int32) (m_doneSteps : Int32) (m_mixed : Nat → Int32) (m_fewest : Nat → Int32) (m_leastFees : Nat → Int32) (m_lots : Int32) (m_tars : Int32) (x1 : Int32) (x2 : Int32) (x3 : Int32) (N9 : Nat)  (k63 : Int32 → (Nat → Int32) → Option (Int32 × Int32 × (Nat → Int32))) (res : Int32 × Int32 × (Nat → Int32)) (hfin : ∀ (r0 : Int32) (m_thrown : Int32) (m_refused : Nat → Int32) (H : Heap) (locs : List Loc) (pc : Nat) (ls : Array Slot), (r0, m_thrown, m_refused) = res → va_P g.1 zcl (zM g m_thrown m_tape m_size m_place m_at m_fault m_faultAt m_clauses m_open m_fed m_refused m_readTold m_told m_readBeast m_beast m_readGate m_gate m_readList m_list m_lawMany m_readLawMany m_law m_readLaw m_stack m_known m_step m_steps m_now m_trial m_before m_kept m_works m_refusedSteps m_images m_spot m_begun m_doneSteps m_mixed m_fewest m_leastFees m_lots m_tars) H → va_S (zF g 64 580 s.heap.size) s.heap H locs → decode cX10_dealers pc = .ok (.ireturn, 1) → W p l e R s m args below meth c H locs cells slots Q (F0 m pc ls [.int r0])) (hk63 : ∀ (m_thrown : Int32) (m_refused : Nat → Int32), k63 m_thrown m_refused = some res → ∀ (H : Heap) (locs : List Loc) (ls : Array Slot), va_P g.1 zcl (zM g m_thrown m_tape m_size m_place m_at m_fault m_faultAt m_clauses m_open m_fed m_refused m_readTold m_told m_readBeast m_beast m_readGate m_gate m_readList m_list m_lawMany m_readLawMany m_law m_readLaw m_stack m_known m_step m_steps m_now m_trial m_before m_kept m_works m_refusedSteps m_images m_spot m_begun m_doneSteps m_mixed m_fewest m_leastFees m_lots m_tars) H → va_S (zF g 64 580 s.heap.size) s.heap H locs → lv_has ls 12 [] → W p l e R s m args below meth c H locs cells slots Q (F0 m 63 ls [])) : ∀ (m_thrown : Int32) (m_refused : Nat → Int32) (s1 : Int32), pM_dealers_55 N9 m_now x1 x2 x3 k63 m_thrown m_refused s1 = some res → ∀ (H : Heap) (locs : List Loc) (ls : Array Slot), va_P g.1 zcl (zM g m_thrown m_tape m_size m_place m_at m_fault m_faultAt m_clauses m_open m_fed m_refused m_readTold m_told m_readBeast m_beast m_readGate m_gate m_readList m_list m_lawMany m_readLawMany m_law m_readLaw m_stack m_known m_step m_steps m_now m_trial m_before m_kept m_works m_refusedSteps m_images m_spot m_begun m_doneSteps m_mixed m_fewest m_leastFees m_lots m_tars) H → va_S (zF g 64 580 s.heap.size) s.heap H locs → lv_has ls 12 [(0, .ref (g.2.1 64)), (1, .int x1), (2, .int x2), (3, .int x3)] → W p l e R s m args below meth c H locs cells slots Q (F0 m 55 ls [.int s1, .ref (g.2.1 64)]) := by
  obtain ⟨hx, hb, hr, hml, hown, hts, hK, hlk, hST⟩ := id hC
  have hB : ∀ q, (zF g 64 580 s.heap.size) q → zB g q := zF.base hI (Nat.le_of_ble_eq_true rfl) hST.1
  intro m_thrown m_refused s1 hf H locs ls hP hS hl
  have hk97 := mpM_dealers_97 (l := l) (e := e) (R := R) (below := below) (cells := cells) (slots := slots) (Q := Q) hI hC hR m_tape m_size m_place m_at m_fault m_faultAt m_clauses m_open m_fed m_readTold m_told m_readBeast m_beast m_readGate m_gate m_readList m_list m_lawMany m_readLawMany m_law m_readLaw m_stack m_known m_step m_steps m_now m_trial m_before m_kept m_works m_refusedSteps m_images m_spot m_begun m_doneSteps m_mixed m_fewest m_leastFees m_lots m_tars x3 N9 res hfin N9
  unfold pM_dealers_55 at hf
  refine lv_iconst (v := 2) hx hb dX10_dealers_55 (by decide) ?_
  refine lv_iconst (v := 1) hx hb dX10_dealers_56 (by decide) ?_
  obtain ⟨r_14, m_thrown_14, m_refused_14, hf_14, hf⟩ := zb3i hf
  refine zcallVi (As := [.int s1, .int 2, .int 1]) (rest := []) hC hP hS hB (fun q h => zF.mono hS.1 h) (cpM_bad l hI H.size m_thrown m_tape m_size m_place m_at m_fault m_faultAt m_clauses m_open m_fed m_refused m_readTold m_told m_readBeast m_beast m_readGate m_gate m_readList m_list m_lawMany m_readLawMany m_law m_readLaw m_stack m_known m_step m_steps m_now m_trial m_before m_kept m_works m_refusedSteps m_images m_spot m_begun m_doneSteps m_mixed m_fewest m_leastFees m_lots m_tars s1 (2 : Int32) (1 : Int32) N9 hf_14) (hC.ml mw_1531) yo_X10_bad 0 (zfM rfl) rfl rfl rfl hl.1 rfl (Nat.le_of_ble_eq_true rfl) ⟨by omega, by omega⟩ hR.2.2 dX10_dealers_57 (fun H locs hP hS _ _ => ?_)
  refine lv_if_eq (tgt := 65) hx hb dX10_dealers_60 (by decide) (fun hc_15 => ?_) (fun hc_15 => ?_)
  · have hf := zifp hc_15 hf
    refine lv_iconst (v := 0) hx hb dX10_dealers_65 (by decide) ?_
    refine lv_istore (lv' := [(4, .int 0), (0, .ref (g.2.1 64)), (1, .int x1), (2, .int x2), (3, .int x3)]) hx hb dX10_dealers_66 hl (by decide) rfl (fun ls hl => ?_)
    refine lv_iconst (v := (-1)) hx hb dX10_dealers_68 (by decide) ?_
    refine lv_istore (lv' := [(5, .int (-1)), (4, .int 0), (0, .ref (g.2.1 64)), (1, .int x1), (2, .int x2), (3, .int x3)]) hx hb dX10_dealers_69 hl (by decide) rfl (fun ls hl => ?_)
    refine lv_iconst (v := 0) hx hb dX10_dealers_71 (by decide) ?_
    refine lv_istore (lv' := [(6, .int 0), (5, .int (-1)), (4, .int 0), (0, .ref (g.2.1 64)), (1, .int x1), (2, .int x2), (3, .int x3)]) hx hb dX10_dealers_72 hl (by decide) rfl (fun ls hl => ?_)
    refine lv_aload_n hx hb dX10_dealers_74 rfl (lv_at hl 3 rfl) ?_
    refine zr_m_now hC hP (hC.fl mw_1416) dX10_dealers_75 ?_
    refine lv_iconst (v := 0) hx hb dX10_dealers_78 (by decide) ?_
    refine lv_iload_n hx hb dX10_dealers_79 rfl (lv_at hl 4 rfl) ?_
    refine lv_iadd hx hb dX10_dealers_80 ?_
    obtain ⟨hz_16, hf⟩ := zite hf
    refine zl_m_now hC hP hz_16 dX10_dealers_81 ?_
    refine lv_topi (fun v_17 ev_17 => ?_)
    have hf := zleti ev_17 hf
    refine lv_istore (lv' := [(7, .int v_17), (6, .int 0), (5, .int (-1)), (4, .int 0), (0, .ref (g.2.1 64)), (1, .int x1), (2, .int x2), (3, .int x3)]) hx hb dX10_dealers_82 hl (by decide) rfl (fun ls hl => ?_)
    refine lv_aload_n hx hb dX10_dealers_84 rfl (lv_at hl 4 rfl) ?_
    refine zr_m_now hC hP (hC.fl mw_1416) dX10_dealers_85 ?_
    refine lv_iconst (v := 0) hx hb dX10_dealers_88 (by decide) ?_
    refine lv_iload_n hx hb dX10_dealers_89 rfl (lv_at hl 6 rfl) ?_
    refine lv_iadd hx hb dX10_dealers_90 ?_
    obtain ⟨hz_18, hf⟩ := zite hf
    refine zl_m_now hC hP hz_18 dX10_dealers_91 ?_
    refine lv_topi (fun v_19 ev_19 => ?_)
    have hf := zleti ev_19 hf
    refine lv_istore (lv' := [(8, .int v_19), (7, .int v_17), (6, .int 0), (5, .int (-1)), (4, .int 0), (0, .ref (g.2.1 64)), (1, .int x1), (2, .int x2), (3, .int x3)]) hx hb dX10_dealers_92 hl (by decide) rfl (fun ls hl => ?_)
    refine lv_iconst (v := 0) hx hb dX10_dealers_94 (by decide) ?_
    refine lv_istore (lv' := [(9, .int 0), (8, .int v_19), (7, .int v_17), (6, .int 0), (5, .int (-1)), (4, .int 0), (0, .ref (g.2.1 64)), (1, .int x1), (2, .int x2), (3, .int x3)]) hx hb dX10_dealers_95 hl (by decide) rfl (fun ls hl => ?_)
    exact hk97 m_thrown_14 m_refused_14 0 (-1) 0 v_17 v_19 0 hf H locs ls hP hS (lv_sub hl [9, 5, 4, 3, 2, 1, 0] rfl)
  · have hf := zifn hc_15 hf
    exact hk63 m_thrown_14 m_refused_14 hf H locs ls hP hS (lv_sub hl [] rfl)
set_option maxHeartbeats 4000000 in
set_option maxRecDepth 100000 in
theorem mpM_dealers_50 {p : Program} {l : Launch} {e : Env} {R : Room} {s : State} {m : MethodId} {args : Array Value} {below : List Frame} {meth : Method} {c : Code} {cells slots : Nat} {Q : State → Prop} {g : zG} (hI : zI g 581) (hC : zC g RX10 cX10_dealers 12 (some .int) p s m meth c args) (hR : 3 ≤ R.frames ∧ 60 * 3 ≤ R.locals ∧ cells ≤ R.cells ∧ slots ≤ R.slots) (m_tape : Int32) (m_size : Int32) (m_place : Int32) (m_at : Int32) (m_fault : Int32) (m_faultAt : Int32) (m_clauses : Int32) (m_open : Int32) (m_fed : Nat → Int32) (m_readTold : Nat → Int32) (m_told : Nat → Int32) (m_readBeast : Nat → Nat → Int32) (m_beast : Nat → Nat → Int32) (m_readGate : Nat → Nat → Int32) (m_gate : Nat → Nat → Int32) (m_readList : Nat → Nat → Int32) (m_list : Nat → Nat → Int32) (m_lawMany : Int32) (m_readLawMany : Int32) (m_law : Nat → Nat → Int32) (m_readLaw : Nat → Nat → Int32) (m_stack : Nat → Int32) (m_known : Nat → Int32) (m_step : Nat → Nat → Int32) (m_steps : Int32) (m_now : Nat → Int32) (m_trial : Nat → Int32) (m_before : Nat → Nat → Int32) (m_kept : Nat → Nat → Int32) (m_works : Int32) (m_refusedSteps : Int32) (m_images : Int32) (m_spot : Int32) (m_begun : Int32) (m_doneSteps : Int32) (m_mixed : Nat → Int32) (m_fewest : Nat → Int32) (m_leastFees : Nat → Int32) (m_lots : Int32) (m_tars : Int32) (x1 : Int32) (x2 : Int32) (x3 : Int32) (N9 : Nat)  (k55 : Int32 → (Nat → Int32) → Int32 → Option (Int32 × Int32 × (Nat → Int32))) (res : Int32 × Int32 × (Nat → Int32)) (hfin : ∀ (r0 : Int32) (m_thrown : Int32) (m_refused : Nat → Int32) (H : Heap) (locs : List Loc) (pc : Nat) (ls : Array Slot), (r0, m_thrown, m_refused) = res → va_P g.1 zcl (zM g m_thrown m_tape m_size m_place m_at m_fault m_faultAt m_clauses m_open m_fed m_refused m_readTold m_told m_readBeast m_beast m_readGate m_gate m_readList m_list m_lawMany m_readLawMany m_law m_readLaw m_stack m_known m_step m_steps m_now m_trial m_before m_kept m_works m_refusedSteps m_images m_spot m_begun m_doneSteps m_mixed m_fewest m_leastFees m_lots m_tars) H → va_S (zF g 64 580 s.heap.size) s.heap H locs → decode cX10_dealers pc = .ok (.ireturn, 1) → W p l e R s m args below meth c H locs cells slots Q (F0 m pc ls [.int r0])) (hk55 : ∀ (m_thrown : Int32) (m_refused : Nat → Int32) (s1 : Int32), k55 m_thrown m_refused s1 = some res → ∀ (H : Heap) (locs : List Loc) (ls : Array Slot), va_P g.1 zcl (zM g m_thrown m_tape m_size m_place m_at m_fault m_faultAt m_clauses m_open m_fed m_refused m_readTold m_told m_readBeast m_beast m_readGate m_gate m_readList m_list m_lawMany m_readLawMany m_law m_readLaw m_stack m_known m_step m_steps m_now m_trial m_before m_kept m_works m_refusedSteps m_images m_spot m_begun m_doneSteps m_mixed m_fewest m_leastFees m_lots m_tars) H → va_S (zF g 64 580 s.heap.size) s.heap H locs → lv_has ls 12 [(0, .ref (g.2.1 64)), (1, .int x1), (2, .int x2), (3, .int x3)] → W p l e R s m args below meth c H locs cells slots Q (F0 m 55 ls [.int s1, .ref (g.2.1 64)])) : ∀ (m_thrown : Int32) (m_refused : Nat → Int32), pM_dealers_50 N9 x1 x2 x3 k55 m_thrown m_refused = some res → ∀ (H : Heap) (locs : List Loc) (ls : Array Slot), va_P g.1 zcl (zM g m_thrown m_tape m_size m_place m_at m_fault m_faultAt m_clauses m_open m_fed m_refused m_readTold m_told m_readBeast m_beast m_readGate m_gate m_readList m_list m_lawMany m_readLawMany m_law m_readLaw m_stack m_known m_step m_steps m_now m_trial m_before m_kept m_works m_refusedSteps m_images m_spot m_begun m_doneSteps m_mixed m_fewest m_leastFees m_lots m_tars) H → va_S (zF g 64 580 s.heap.size) s.heap H locs → lv_has ls 12 [(0, .ref (g.2.1 64)), (1, .int x1), (2, .int x2), (3, .int x3)] → W p l e R s m args below meth c H locs cells slots Q (F0 m 50 ls [.ref (g.2.1 64)]) := by
  obtain ⟨hx, hb, hr, hml, hown, hts, hK, hlk, hST⟩ := id hC
  have hB : ∀ q, (zF g 64 580 s.heap.size) q → zB g q := zF.base hI (Nat.le_of_ble_eq_true rfl) hST.1
  intro m_thrown m_refused hf H locs ls hP hS hl
  unfold pM_dealers_50 at hf
  refine lv_iconst (v := 1) hx hb dX10_dealers_50 (by decide) ?_
  refine lv_goto (tgt := 55) hx hb dX10_dealers_51 (by decide) ?_
  exact hk55 m_thrown m_refused 1 hf H locs ls hP hS (lv_sub hl [0, 1, 2, 3] rfl)
set_option maxHeartbeats 4000000 in
set_option maxRecDepth 100000 in
theorem mpM_dealers_27 {p : Program} {l : Launch} {e : Env} {R : Room} {s : State} {m : MethodId} {args : Array Value} {below : List Frame} {meth : Method} {c : Code} {cells slots : Nat} {Q : State → Prop} {g : zG} (hI : zI g 581) (hC : zC g RX10 cX10_dealers 12 (some .int) p s m meth c args) (hR : 3 ≤ R.frames ∧ 60 * 3 ≤ R.locals ∧ cells ≤ R.cells ∧ slots ≤ R.slots) (m_tape : Int32) (m_size : Int32) (m_place : Int32) (m_at : Int32) (m_fault : Int32) (m_faultAt : Int32) (m_clauses : Int32) (m_open : Int32) (m_fed : Nat → Int32) (m_refused : Nat → Int32) (m_readTold : Nat → Int32) (m_told : Nat → Int32) (m_readBeast : Nat → Nat → Int32) (m_beast : Nat → Nat → Int32) (m_readGate : Nat → Nat → Int32) (m_gate : Nat → Nat → Int32) (m_readList : Nat → Nat → Int32) (m_list : Nat → Nat → Int32) (m_lawMany : Int32) (m_readLawMany : Int32) (m_law : Nat → Nat → Int32) (m_readLaw : Nat → Nat → Int32) (m_stack : Nat → Int32) (m_known : Nat → Int32) (m_step : Nat → Nat → Int32) (m_steps : Int32) (m_now : Nat → Int32) (m_trial : Nat → Int32) (m_before : Nat → Nat → Int32) (m_kept : Nat → Nat → Int32) (m_works : Int32) (m_refusedSteps : Int32) (m_images : Int32) (m_spot : Int32) (m_begun : Int32) (m_doneSteps : Int32) (m_mixed : Nat → Int32) (m_fewest : Nat → Int32) (m_leastFees : Nat → Int32) (m_lots : Int32) (m_tars : Int32) (x1 : Int32) (x2 : Int32) (x3 : Int32) (N9 : Nat)   (res : Int32 × Int32 × (Nat → Int32)) (hfin : ∀ (r0 : Int32) (m_thrown : Int32) (m_refused : Nat → Int32) (H : Heap) (locs : List Loc) (pc : Nat) (ls : Array Slot), (r0, m_thrown, m_refused) = res → va_P g.1 zcl (zM g m_thrown m_tape m_size m_place m_at m_fault m_faultAt m_clauses m_open m_fed m_refused m_readTold m_told m_readBeast m_beast m_readGate m_gate m_readList m_list m_lawMany m_readLawMany m_law m_readLaw m_stack m_known m_step m_steps m_now m_trial m_before m_kept m_works m_refusedSteps m_images m_spot m_begun m_doneSteps m_mixed m_fewest m_leastFees m_lots m_tars) H → va_S (zF g 64 580 s.heap.size) s.heap H locs → decode cX10_dealers pc = .ok (.ireturn, 1) → W p l e R s m args below meth c H locs cells slots Q (F0 m pc ls [.int r0])) : ∀ (m_thrown : Int32) (s1 : Int32), pM_dealers_27 N9 m_refused m_now x1 x2 x3 m_thrown s1 = some res → ∀ (H : Heap) (locs : List Loc) (ls : Array Slot), va_P g.1 zcl (zM g m_thrown m_tape m_size m_place m_at m_fault m_faultAt m_clauses m_open m_fed m_refused m_readTold m_told m_readBeast m_beast m_readGate m_gate m_readList m_list m_lawMany m_readLawMany m_law m_readLaw m_stack m_known m_step m_steps m_now m_trial m_before m_kept m_works m_refusedSteps m_images m_spot m_begun m_doneSteps m_mixed m_fewest m_leastFees m_lots m_tars) H → va_S (zF g 64 580 s.heap.size) s.heap H locs → lv_has ls 12 [(0, .ref (g.2.1 64)), (1, .int x1), (2, .int x2), (3, .int x3)] → W p l e R s m args below meth c H locs cells slots Q (F0 m 27 ls [.int s1, .ref (g.2.1 64)]) := by
  obtain ⟨hx, hb, hr, hml, hown, hts, hK, hlk, hST⟩ := id hC
  have hB : ∀ q, (zF g 64 580 s.heap.size) q → zB g q := zF.base hI (Nat.le_of_ble_eq_true rfl) hST.1
  intro m_thrown s1 hf H locs ls hP hS hl
  have hk63 := mpM_dealers_63 (l := l) (e := e) (R := R) (below := below) (cells := cells) (slots := slots) (Q := Q) hI hC hR m_tape m_size m_place m_at m_fault m_faultAt m_clauses m_open m_fed m_readTold m_told m_readBeast m_beast m_readGate m_gate m_readList m_list m_lawMany m_readLawMany m_law m_readLaw m_stack m_known m_step m_steps m_now m_trial m_before m_kept m_works m_refusedSteps m_images m_spot m_begun m_doneSteps m_mixed m_fewest m_leastFees m_lots m_tars N9 res hfin
  have hk55 := mpM_dealers_55 (l := l) (e := e) (R := R) (below := below) (cells := cells) (slots := slots) (Q := Q) hI hC hR m_tape m_size m_place m_at m_fault m_faultAt m_clauses m_open m_fed m_readTold m_told m_readBeast m_beast m_readGate m_gate m_readList m_list m_lawMany m_readLawMany m_law m_readLaw m_stack m_known m_step m_steps m_now m_trial m_before m_kept m_works m_refusedSteps m_images m_spot m_begun m_doneSteps m_mixed m_fewest m_leastFees m_lots m_tars x1 x2 x3 N9 (pM_dealers_63 N9) res hfin hk63
  have hk50 := mpM_dealers_50 (l := l) (e := e) (R := R) (below := below) (cells := cells) (slots := slots) (Q := Q) hI hC hR m_tape m_size m_place m_at m_fault m_faultAt m_clauses m_open m_fed m_readTold m_told m_readBeast m_beast m_readGate m_gate m_readList m_list m_lawMany m_readLawMany m_law m_readLaw m_stack m_known m_step m_steps m_now m_trial m_before m_kept m_works m_refusedSteps m_images m_spot m_begun m_doneSteps m_mixed m_fewest m_leastFees m_lots m_tars x1 x2 x3 N9 (pM_dealers_55 N9 m_now x1 x2 x3 (pM_dealers_63 N9)) res hfin hk55
  unfold pM_dealers_27 at hf
  refine lv_iconst (v := 1) hx hb dX10_dealers_27 (by decide) ?_
  refine lv_iconst (v := 0) hx hb dX10_dealers_28 (by decide) ?_
  obtain ⟨r_20, m_thrown_20, m_refused_20, hf_20, hf⟩ := zb3i hf
  refine zcallVi (As := [.int s1, .int 1, .int 0]) (rest := []) hC hP hS hB (fun q h => zF.mono hS.1 h) (cpM_bad l hI H.size m_thrown m_tape m_size m_place m_at m_fault m_faultAt m_clauses m_open m_fed m_refused m_readTold m_told m_readBeast m_beast m_readGate m_gate m_readList m_list m_lawMany m_readLawMany m_law m_readLaw m_stack m_known m_step m_steps m_now m_trial m_before m_kept m_works m_refusedSteps m_images m_spot m_begun m_doneSteps m_mixed m_fewest m_leastFees m_lots m_tars s1 (1 : Int32) (0 : Int32) N9 hf_20) (hC.ml mw_1531) yo_X10_bad 0 (zfM rfl) rfl rfl rfl hl.1 rfl (Nat.le_of_ble_eq_true rfl) ⟨by omega, by omega⟩ hR.2.2 dX10_dealers_29 (fun H locs hP hS _ _ => ?_)
  refine lv_if_ne (tgt := 63) hx hb dX10_dealers_32 (by decide) (fun hc_21 => ?_) (fun hc_21 => ?_)
  · have hf := zifn hc_21 hf
    exact hk63 m_thrown_20 m_refused_20 hf H locs ls hP hS (lv_sub hl [] rfl)
  · have hf := zifp hc_21 hf
    refine lv_aload_n hx hb dX10_dealers_35 rfl (lv_at hl 0 rfl) ?_
    refine lv_iload_n hx hb dX10_dealers_36 rfl (lv_at hl 1 rfl) ?_
    refine lv_iload_n hx hb dX10_dealers_37 rfl (lv_at hl 2 rfl) ?_
    refine lv_icmp_eq (tgt := 50) hx hb dX10_dealers_38 (by decide) (fun hc_22 => ?_) (fun hc_22 => ?_)
    · have hf := zifp hc_22 hf
      exact hk50 m_thrown_20 m_refused_20 hf H locs ls hP hS (lv_sub hl [0, 1, 2, 3] rfl)
    · have hf := zifn hc_22 hf
      refine lv_iload_n hx hb dX10_dealers_41 rfl (lv_at hl 3 rfl) ?_
      refine lv_iconst (v := 0) hx hb dX10_dealers_42 (by decide) ?_
      refine lv_iconst (v := 2) hx hb dX10_dealers_43 (by decide) ?_
      obtain ⟨r_23, hf_23, hf⟩ := zb1i hf
      refine zcallP (As := [.int x3, .int 0, .int 2]) (rest := [.ref (g.2.1 64)]) hC hS hB (cpM_in l hI x3 (0 : Int32) (2 : Int32) N9 hf_23) (hC.ml mw_1528) yo_X10_in rfl hl.1 rfl (Nat.le_of_ble_eq_true rfl) ⟨by omega, by omega⟩ hR.2.2 dX10_dealers_44 (fun H locs hPk hS _ => ?_)
      have hP := hPk _ _ _ hP
      refine lv_if_ne (tgt := 54) hx hb dX10_dealers_47 (by decide) (fun hc_24 => ?_) (fun hc_24 => ?_)
      · have hf := zifn hc_24 hf
        refine lv_iconst (v := 0) hx hb dX10_dealers_54 (by decide) ?_
        exact hk55 m_thrown_20 m_refused_20 0 hf H locs ls hP hS (lv_sub hl [0, 1, 2, 3] rfl)
      · have hf := zifp hc_24 hf
        exact hk50 m_thrown_20 m_refused_20 hf H locs ls hP hS (lv_sub hl [0, 1, 2, 3] rfl)
set_option maxHeartbeats 4000000 in
set_option maxRecDepth 100000 in
theorem mpM_dealers_22 {p : Program} {l : Launch} {e : Env} {R : Room} {s : State} {m : MethodId} {args : Array Value} {below : List Frame} {meth : Method} {c : Code} {cells slots : Nat} {Q : State → Prop} {g : zG} (hI : zI g 581) (hC : zC g RX10 cX10_dealers 12 (some .int) p s m meth c args) (hR : 3 ≤ R.frames ∧ 60 * 3 ≤ R.locals ∧ cells ≤ R.cells ∧ slots ≤ R.slots) (m_tape : Int32) (m_size : Int32) (m_place : Int32) (m_at : Int32) (m_fault : Int32) (m_faultAt : Int32) (m_clauses : Int32) (m_open : Int32) (m_fed : Nat → Int32) (m_refused : Nat → Int32) (m_readTold : Nat → Int32) (m_told : Nat → Int32) (m_readBeast : Nat → Nat → Int32) (m_beast : Nat → Nat → Int32) (m_readGate : Nat → Nat → Int32) (m_gate : Nat → Nat → Int32) (m_readList : Nat → Nat → Int32) (m_list : Nat → Nat → Int32) (m_lawMany : Int32) (m_readLawMany : Int32) (m_law : Nat → Nat → Int32) (m_readLaw : Nat → Nat → Int32) (m_stack : Nat → Int32) (m_known : Nat → Int32) (m_step : Nat → Nat → Int32) (m_steps : Int32) (m_now : Nat → Int32) (m_trial : Nat → Int32) (m_before : Nat → Nat → Int32) (m_kept : Nat → Nat → Int32) (m_works : Int32) (m_refusedSteps : Int32) (m_images : Int32) (m_spot : Int32) (m_begun : Int32) (m_doneSteps : Int32) (m_mixed : Nat → Int32) (m_fewest : Nat → Int32) (m_leastFees : Nat → Int32) (m_lots : Int32) (m_tars : Int32) (x1 : Int32) (x2 : Int32) (x3 : Int32) (N9 : Nat)  (k27 : Int32 → Int32 → Option (Int32 × Int32 × (Nat → Int32))) (res : Int32 × Int32 × (Nat → Int32)) (hfin : ∀ (r0 : Int32) (m_thrown : Int32) (m_refused : Nat → Int32) (H : Heap) (locs : List Loc) (pc : Nat) (ls : Array Slot), (r0, m_thrown, m_refused) = res → va_P g.1 zcl (zM g m_thrown m_tape m_size m_place m_at m_fault m_faultAt m_clauses m_open m_fed m_refused m_readTold m_told m_readBeast m_beast m_readGate m_gate m_readList m_list m_lawMany m_readLawMany m_law m_readLaw m_stack m_known m_step m_steps m_now m_trial m_before m_kept m_works m_refusedSteps m_images m_spot m_begun m_doneSteps m_mixed m_fewest m_leastFees m_lots m_tars) H → va_S (zF g 64 580 s.heap.size) s.heap H locs → decode cX10_dealers pc = .ok (.ireturn, 1) → W p l e R s m args below meth c H locs cells slots Q (F0 m pc ls [.int r0])) (hk27 : ∀ (m_thrown : Int32) (s1 : Int32), k27 m_thrown s1 = some res → ∀ (H : Heap) (locs : List Loc) (ls : Array Slot), va_P g.1 zcl (zM g m_thrown m_tape m_size m_place m_at m_fault m_faultAt m_clauses m_open m_fed m_refused m_readTold m_told m_readBeast m_beast m_readGate m_gate m_readList m_list m_lawMany m_readLawMany m_law m_readLaw m_stack m_known m_step m_steps m_now m_trial m_before m_kept m_works m_refusedSteps m_images m_spot m_begun m_doneSteps m_mixed m_fewest m_leastFees m_lots m_tars) H → va_S (zF g 64 580 s.heap.size) s.heap H locs → lv_has ls 12 [(0, .ref (g.2.1 64)), (1, .int x1), (2, .int x2), (3, .int x3)] → W p l e R s m args below meth c H locs cells slots Q (F0 m 27 ls [.int s1, .ref (g.2.1 64)])) : ∀ (m_thrown : Int32), pM_dealers_22 N9 x1 x2 x3 k27 m_thrown = some res → ∀ (H : Heap) (locs : List Loc) (ls : Array Slot), va_P g.1 zcl (zM g m_thrown m_tape m_size m_place m_at m_fault m_faultAt m_clauses m_open m_fed m_refused m_readTold m_told m_readBeast m_beast m_readGate m_gate m_readList m_list m_lawMany m_readLawMany m_law m_readLaw m_stack m_known m_step m_steps m_now m_trial m_before m_kept m_works m_refusedSteps m_images m_spot m_begun m_doneSteps m_mixed m_fewest m_leastFees m_lots m_tars) H → va_S (zF g 64 580 s.heap.size) s.heap H locs → lv_has ls 12 [(0, .ref (g.2.1 64)), (1, .int x1), (2, .int x2), (3, .int x3)] → W p l e R s m args below meth c H locs cells slots Q (F0 m 22 ls [.ref (g.2.1 64)]) := by
  obtain ⟨hx, hb, hr, hml, hown, hts, hK, hlk, hST⟩ := id hC
  have hB : ∀ q, (zF g 64 580 s.heap.size) q → zB g q := zF.base hI (Nat.le_of_ble_eq_true rfl) hST.1
  intro m_thrown hf H locs ls hP hS hl
  unfold pM_dealers_22 at hf
  refine lv_iconst (v := 1) hx hb dX10_dealers_22 (by decide) ?_
  refine lv_goto (tgt := 27) hx hb dX10_dealers_23 (by decide) ?_
  exact hk27 m_thrown 1 hf H locs ls hP hS (lv_sub hl [0, 1, 2, 3] rfl)
set_option maxHeartbeats 4000000 in
set_option maxRecDepth 100000 in
theorem mpM_dealers {p : Program} {l : Launch} {e : Env} {R : Room} {s : State} {m : MethodId} {args : Array Value} {below : List Frame} {meth : Method} {c : Code} {cells slots : Nat} {Q : State → Prop} {g : zG} (hI : zI g 581) (hC : zC g RX10 cX10_dealers 12 (some .int) p s m meth c args) (hR : 3 ≤ R.frames ∧ 60 * 3 ≤ R.locals ∧ cells ≤ R.cells ∧ slots ≤ R.slots) (m_thrown : Int32) (m_tape : Int32) (m_size : Int32) (m_place : Int32) (m_at : Int32) (m_fault : Int32) (m_faultAt : Int32) (m_clauses : Int32) (m_open : Int32) (m_fed : Nat → Int32) (m_refused : Nat → Int32) (m_readTold : Nat → Int32) (m_told : Nat → Int32) (m_readBeast : Nat → Nat → Int32) (m_beast : Nat → Nat → Int32) (m_readGate : Nat → Nat → Int32) (m_gate : Nat → Nat → Int32) (m_readList : Nat → Nat → Int32) (m_list : Nat → Nat → Int32) (m_lawMany : Int32) (m_readLawMany : Int32) (m_law : Nat → Nat → Int32) (m_readLaw : Nat → Nat → Int32) (m_stack : Nat → Int32) (m_known : Nat → Int32) (m_step : Nat → Nat → Int32) (m_steps : Int32) (m_now : Nat → Int32) (m_trial : Nat → Int32) (m_before : Nat → Nat → Int32) (m_kept : Nat → Nat → Int32) (m_works : Int32) (m_refusedSteps : Int32) (m_images : Int32) (m_spot : Int32) (m_begun : Int32) (m_doneSteps : Int32) (m_mixed : Nat → Int32) (m_fewest : Nat → Int32) (m_leastFees : Nat → Int32) (m_lots : Int32) (m_tars : Int32) (x1 : Int32) (x2 : Int32) (x3 : Int32) (N9 : Nat)   (res : Int32 × Int32 × (Nat → Int32)) (hfin : ∀ (r0 : Int32) (m_thrown : Int32) (m_refused : Nat → Int32) (H : Heap) (locs : List Loc) (pc : Nat) (ls : Array Slot), (r0, m_thrown, m_refused) = res → va_P g.1 zcl (zM g m_thrown m_tape m_size m_place m_at m_fault m_faultAt m_clauses m_open m_fed m_refused m_readTold m_told m_readBeast m_beast m_readGate m_gate m_readList m_list m_lawMany m_readLawMany m_law m_readLaw m_stack m_known m_step m_steps m_now m_trial m_before m_kept m_works m_refusedSteps m_images m_spot m_begun m_doneSteps m_mixed m_fewest m_leastFees m_lots m_tars) H → va_S (zF g 64 580 s.heap.size) s.heap H locs → decode cX10_dealers pc = .ok (.ireturn, 1) → W p l e R s m args below meth c H locs cells slots Q (F0 m pc ls [.int r0])) : pM_dealers N9 m_thrown m_refused m_now x1 x2 x3 = some res → ∀ (H : Heap) (locs : List Loc) (ls : Array Slot), va_P g.1 zcl (zM g m_thrown m_tape m_size m_place m_at m_fault m_faultAt m_clauses m_open m_fed m_refused m_readTold m_told m_readBeast m_beast m_readGate m_gate m_readList m_list m_lawMany m_readLawMany m_law m_readLaw m_stack m_known m_step m_steps m_now m_trial m_before m_kept m_works m_refusedSteps m_images m_spot m_begun m_doneSteps m_mixed m_fewest m_leastFees m_lots m_tars) H → va_S (zF g 64 580 s.heap.size) s.heap H locs → lv_has ls 12 [(0, .ref (g.2.1 64)), (1, .int x1), (2, .int x2), (3, .int x3)] → W p l e R s m args below meth c H locs cells slots Q (F0 m 0 ls []) := by
  obtain ⟨hx, hb, hr, hml, hown, hts, hK, hlk, hST⟩ := id hC
  have hB : ∀ q, (zF g 64 580 s.heap.size) q → zB g q := zF.base hI (Nat.le_of_ble_eq_true rfl) hST.1
  intro  hf H locs ls hP hS hl
  have hk27 := mpM_dealers_27 (l := l) (e := e) (R := R) (below := below) (cells := cells) (slots := slots) (Q := Q) hI hC hR m_tape m_size m_place m_at m_fault m_faultAt m_clauses m_open m_fed m_refused m_readTold m_told m_readBeast m_beast m_readGate m_gate m_readList m_list m_lawMany m_readLawMany m_law m_readLaw m_stack m_known m_step m_steps m_now m_trial m_before m_kept m_works m_refusedSteps m_images m_spot m_begun m_doneSteps m_mixed m_fewest m_leastFees m_lots m_tars x1 x2 x3 N9 res hfin
  have hk22 := mpM_dealers_22 (l := l) (e := e) (R := R) (below := below) (cells := cells) (slots := slots) (Q := Q) hI hC hR m_tape m_size m_place m_at m_fault m_faultAt m_clauses m_open m_fed m_refused m_readTold m_told m_readBeast m_beast m_readGate m_gate m_readList m_list m_lawMany m_readLawMany m_law m_readLaw m_stack m_known m_step m_steps m_now m_trial m_before m_kept m_works m_refusedSteps m_images m_spot m_begun m_doneSteps m_mixed m_fewest m_leastFees m_lots m_tars x1 x2 x3 N9 (pM_dealers_27 N9 m_refused m_now x1 x2 x3) res hfin hk27
  unfold pM_dealers at hf
  refine lv_aload_n hx hb dX10_dealers_0 rfl (lv_at hl 0 rfl) ?_
  refine lv_iconst (v := 0) hx hb dX10_dealers_1 (by decide) ?_
  refine zp_m_thrown hC hP hI (fun k h1 h2 => zF.own h1 h2) hS (hC.fl mw_1389) dX10_dealers_2 (fun H locs hP hS => ?_)
  refine lv_aload_n hx hb dX10_dealers_5 rfl (lv_at hl 0 rfl) ?_
  refine lv_aload_n hx hb dX10_dealers_6 rfl (lv_at hl 0 rfl) ?_
  refine lv_iload_n hx hb dX10_dealers_7 rfl (lv_at hl 1 rfl) ?_
  obtain ⟨r_25, hf_25, hf⟩ := zb1i hf
  refine zcallVi (As := [.int x1]) (rest := [.ref (g.2.1 64)]) hC hP hS hB (fun q h => zF.mono hS.1 h) (cpM_isBeast l hI H.size 0 m_tape m_size m_place m_at m_fault m_faultAt m_clauses m_open m_fed m_refused m_readTold m_told m_readBeast m_beast m_readGate m_gate m_readList m_list m_lawMany m_readLawMany m_law m_readLaw m_stack m_known m_step m_steps m_now m_trial m_before m_kept m_works m_refusedSteps m_images m_spot m_begun m_doneSteps m_mixed m_fewest m_leastFees m_lots m_tars x1 N9 hf_25) (hC.ml mw_1730) yo_X10_isBeast 0 (zfM rfl) rfl rfl rfl hl.1 rfl (Nat.le_of_ble_eq_true rfl) ⟨by omega, by omega⟩ hR.2.2 dX10_dealers_8 (fun H locs hP hS _ _ => ?_)
  refine lv_if_eq (tgt := 22) hx hb dX10_dealers_11 (by decide) (fun hc_26 => ?_) (fun hc_26 => ?_)
  · have hf := zifp hc_26 hf
    exact hk22 0 hf H locs ls hP hS (lv_sub hl [0, 1, 2, 3] rfl)
  · have hf := zifn hc_26 hf
    refine lv_aload_n hx hb dX10_dealers_14 rfl (lv_at hl 0 rfl) ?_
    refine lv_iload_n hx hb dX10_dealers_15 rfl (lv_at hl 2 rfl) ?_
    obtain ⟨r_27, hf_27, hf⟩ := zb1i hf
    refine zcallVi (As := [.int x2]) (rest := [.ref (g.2.1 64)]) hC hP hS hB (fun q h => zF.mono hS.1 h) (cpM_isBeast l hI H.size 0 m_tape m_size m_place m_at m_fault m_faultAt m_clauses m_open m_fed m_refused m_readTold m_told m_readBeast m_beast m_readGate m_gate m_readList m_list m_lawMany m_readLawMany m_law m_readLaw m_stack m_known m_step m_steps m_now m_trial m_before m_kept m_works m_refusedSteps m_images m_spot m_begun m_doneSteps m_mixed m_fewest m_leastFees m_lots m_tars x2 N9 hf_27) (hC.ml mw_1730) yo_X10_isBeast 0 (zfM rfl) rfl rfl rfl hl.1 rfl (Nat.le_of_ble_eq_true rfl) ⟨by omega, by omega⟩ hR.2.2 dX10_dealers_16 (fun H locs hP hS _ _ => ?_)
    refine lv_if_ne (tgt := 26) hx hb dX10_dealers_19 (by decide) (fun hc_28 => ?_) (fun hc_28 => ?_)
    · have hf := zifn hc_28 hf
      refine lv_iconst (v := 0) hx hb dX10_dealers_26 (by decide) ?_
      exact hk27 0 0 hf H locs ls hP hS (lv_sub hl [0, 1, 2, 3] rfl)
    · have hf := zifp hc_28 hf
      exact hk22 0 hf H locs ls hP hS (lv_sub hl [0, 1, 2, 3] rfl)
set_option maxHeartbeats 4000000 in
set_option maxRecDepth 100000 in
theorem cpM_dealers (l : Launch) {g : zG} (hI : zI g 581) (sz : Nat) (m_thrown : Int32) (m_tape : Int32) (m_size : Int32) (m_place : Int32) (m_at : Int32) (m_fault : Int32) (m_faultAt : Int32) (m_clauses : Int32) (m_open : Int32) (m_fed : Nat → Int32) (m_refused : Nat → Int32) (m_readTold : Nat → Int32) (m_told : Nat → Int32) (m_readBeast : Nat → Nat → Int32) (m_beast : Nat → Nat → Int32) (m_readGate : Nat → Nat → Int32) (m_gate : Nat → Nat → Int32) (m_readList : Nat → Nat → Int32) (m_list : Nat → Nat → Int32) (m_lawMany : Int32) (m_readLawMany : Int32) (m_law : Nat → Nat → Int32) (m_readLaw : Nat → Nat → Int32) (m_stack : Nat → Int32) (m_known : Nat → Int32) (m_step : Nat → Nat → Int32) (m_steps : Int32) (m_now : Nat → Int32) (m_trial : Nat → Int32) (m_before : Nat → Nat → Int32) (m_kept : Nat → Nat → Int32) (m_works : Int32) (m_refusedSteps : Int32) (m_images : Int32) (m_spot : Int32) (m_begun : Int32) (m_doneSteps : Int32) (m_mixed : Nat → Int32) (m_fewest : Nat → Int32) (m_leastFees : Nat → Int32) (m_lots : Int32) (m_tars : Int32) (x1 : Int32)  (x2 : Int32)  (x3 : Int32) (N9 : Nat) {r0 : Int32} {m_thrown' : Int32} {m_refused' : Nat → Int32} (hf : pM_dealers N9  m_thrown m_refused m_now x1 x2 x3 = some (r0, m_thrown', m_refused')) : zMi l yX10_dealers cX10_dealers 12 (some .int) 3 g (zM g m_thrown m_tape m_size m_place m_at m_fault m_faultAt m_clauses m_open m_fed m_refused m_readTold m_told m_readBeast m_beast m_readGate m_gate m_readList m_list m_lawMany m_readLawMany m_law m_readLaw m_stack m_known m_step m_steps m_now m_trial m_before m_kept m_works m_refusedSteps m_images m_spot m_begun m_doneSteps m_mixed m_fewest m_leastFees m_lots m_tars) (zM g m_thrown' m_tape m_size m_place m_at m_fault m_faultAt m_clauses m_open m_fed m_refused' m_readTold m_told m_readBeast m_beast m_readGate m_gate m_readList m_list m_lawMany m_readLawMany m_law m_readLaw m_stack m_known m_step m_steps m_now m_trial m_before m_kept m_works m_refusedSteps m_images m_spot m_begun m_doneSteps m_mixed m_fewest m_leastFees m_lots m_tars) sz (zF g 64 580 sz) [.ref (g.2.1 64), .int x1, .int x2, .int x3] r0 := by
  refine Met.ofW (cc := cX10_dealers) (maxL := 12) (ret := (some .int)) (by decide +kernel) rfl ?_
  intro p e s m args below meth c s₁ B hml hv
  obtain ⟨rfl, hsz, hP, hK, hST⟩ := hv
  subst hsz
  have hC := zstart (own := RX10) rfl B hml hK hST
  have hl := lv_entry ([.ref (g.2.1 64), .int x1, .int x2, .int x3]) (n := 12) (Nat.le_of_ble_eq_true rfl)
  rw [lg_entry_eq]
  generalize (lg_sl ([.ref (g.2.1 64), .int x1, .int x2, .int x3]) ++ List.replicate (12 - (lg_sl ([.ref (g.2.1 64), .int x1, .int x2, .int x3])).length) Slot.unset).toArray = ls at hl ⊢
  have hl : lv_has ls 12 [(0, .ref (g.2.1 64)), (1, .int x1), (2, .int x2), (3, .int x3)] := hl
  obtain ⟨hx, hb, hr, hml, hown, hts, hK, hlk, hST⟩ := id hC
  refine mpM_dealers hI hC ⟨Nat.le_refl _, Nat.le_refl _, Nat.le_refl _, Nat.le_refl _⟩ m_thrown m_tape m_size m_place m_at m_fault m_faultAt m_clauses m_open m_fed m_refused m_readTold m_told m_readBeast m_beast m_readGate m_gate m_readList m_list m_lawMany m_readLawMany m_law m_readLaw m_stack m_known m_step m_steps m_now m_trial m_before m_kept m_works m_refusedSteps m_images m_spot m_begun m_doneSteps m_mixed m_fewest m_leastFees m_lots m_tars x1 x2 x3 N9 (r0, m_thrown', m_refused') ?_ hf _ _ ls hP va_S.rf hl
  intro r1 m_thrown1 m_refused1 H locs pc ls he hP hS hd
  cases he
  exact W.iret hx hb hr (fun t ht hW => ⟨⟨_, (), rfl, rfl, by rw [← ht] at hP; exact hP⟩, hS.F ht⟩) hS.2.2 hd hlk
/-! StripeTradeModel.givenBy (II)I [('obj', 'm')] -/
set_option maxHeartbeats 4000000 in
set_option maxRecDepth 100000 in
theorem mpM_givenBy_44 {p : Program} {l : Launch} {e : Env} {R : Room} {s : State} {m : MethodId} {args : Array Value} {below : List Frame} {meth : Method} {c : Code} {cells slots : Nat} {Q : State → Prop} {g : zG} (hI : zI g 581) (hC : zC g RX10 cX10_givenBy 5 (some .int) p s m meth c args) (hR : 2 ≤ R.frames ∧ 60 * 2 ≤ R.locals ∧ cells ≤ R.cells ∧ slots ≤ R.slots) (m_thrown : Int32) (m_tape : Int32) (m_size : Int32) (m_place : Int32) (m_at : Int32) (m_fault : Int32) (m_faultAt : Int32) (m_clauses : Int32) (m_open : Int32) (m_fed : Nat → Int32) (m_refused : Nat → Int32) (m_readTold : Nat → Int32) (m_told : Nat → Int32) (m_readBeast : Nat → Nat → Int32) (m_beast : Nat → Nat → Int32) (m_readGate : Nat → Nat → Int32) (m_gate : Nat → Nat → Int32) (m_readList : Nat → Nat → Int32) (m_list : Nat → Nat → Int32) (m_lawMany : Int32) (m_readLawMany : Int32) (m_law : Nat → Nat → Int32) (m_readLaw : Nat → Nat → Int32) (m_stack : Nat → Int32) (m_known : Nat → Int32) (m_step : Nat → Nat → Int32) (m_steps : Int32) (m_now : Nat → Int32) (m_trial : Nat → Int32) (m_before : Nat → Nat → Int32) (m_kept : Nat → Nat → Int32) (m_works : Int32) (m_refusedSteps : Int32) (m_images : Int32) (m_spot : Int32) (m_begun : Int32) (m_doneSteps : Int32) (m_mixed : Nat → Int32) (m_fewest : Nat → Int32) (m_leastFees : Nat → Int32) (m_lots : Int32) (m_tars : Int32) (x1 : Int32) (x2 : Int32) (N9 : Nat)  (k5 : Int32 → Int32 → Option (Int32)) (res : Int32) (hfin : ∀ (r0 : Int32) (H : Heap) (locs : List Loc) (pc : Nat) (ls : Array Slot), r0 = res → va_P g.1 zcl (zM g m_thrown m_tape m_size m_place m_at m_fault m_faultAt m_clauses m_open m_fed m_refused m_readTold m_told m_readBeast m_beast m_readGate m_gate m_readList m_list m_lawMany m_readLawMany m_law m_readLaw m_stack m_known m_step m_steps m_now m_trial m_before m_kept m_works m_refusedSteps m_images m_spot m_begun m_doneSteps m_mixed m_fewest m_leastFees m_lots m_tars) H → va_S (zF g 64 580 s.heap.size) s.heap H locs → decode cX10_givenBy pc = .ok (.ireturn, 1) → W p l e R s m args below meth c H locs cells slots Q (F0 m pc ls [.int r0])) (hk5 : ∀ (x3 : Int32) (x4 : Int32), k5 x3 x4 = some res → ∀ (H : Heap) (locs : List Loc) (ls : Array Slot), va_P g.1 zcl (zM g m_thrown m_tape m_size m_place m_at m_fault m_faultAt m_clauses m_open m_fed m_refused m_readTold m_told m_readBeast m_beast m_readGate m_gate m_readList m_list m_lawMany m_readLawMany m_law m_readLaw m_stack m_known m_step m_steps m_now m_trial m_before m_kept m_works m_refusedSteps m_images m_spot m_begun m_doneSteps m_mixed m_fewest m_leastFees m_lots m_tars) H → va_S (zF g 64 580 s.heap.size) s.heap H locs → lv_has ls 5 [(0, .ref (g.2.1 64)), (1, .int x1), (2, .int x2), (3, .int x3), (4, .int x4)] → W p l e R s m args below meth c H locs cells slots Q (F0 m 5 ls [])) : ∀ (x4 : Int32) (s0 : Int32) (s1 : Int32), pM_givenBy_44 N9 x1 x2 k5 x4 s0 s1 = some res → ∀ (H : Heap) (locs : List Loc) (ls : Array Slot), va_P g.1 zcl (zM g m_thrown m_tape m_size m_place m_at m_fault m_faultAt m_clauses m_open m_fed m_refused m_readTold m_told m_readBeast m_beast m_readGate m_gate m_readList m_list m_lawMany m_readLawMany m_law m_readLaw m_stack m_known m_step m_steps m_now m_trial m_before m_kept m_works m_refusedSteps m_images m_spot m_begun m_doneSteps m_mixed m_fewest m_leastFees m_lots m_tars) H → va_S (zF g 64 580 s.heap.size) s.heap H locs → lv_has ls 5 [(0, .ref (g.2.1 64)), (1, .int x1), (2, .int x2), (4, .int x4)] → W p l e R s m args below meth c H locs cells slots Q (F0 m 44 ls [.int s1, .int s0]) := by
  obtain ⟨hx, hb, hr, hml, hown, hts, hK, hlk, hST⟩ := id hC
  have hB : ∀ q, (zF g 64 580 s.heap.size) q → zB g q := zF.base hI (Nat.le_of_ble_eq_true rfl) hST.1
  intro x4 s0 s1 hf H locs ls hP hS hl
  unfold pM_givenBy_44 at hf
  refine lv_iadd hx hb dX10_givenBy_44 ?_
  refine lv_istore_n (lv' := [(3, .int (s0 + s1)), (0, .ref (g.2.1 64)), (1, .int x1), (2, .int x2), (4, .int x4)]) hx hb dX10_givenBy_45 rfl hl (by decide) rfl (fun ls hl => ?_)
  refine lv_iinc (v := x4 + 1) (lv' := [(4, .int (x4 + 1)), (3, .int (s0 + s1)), (0, .ref (g.2.1 64)), (1, .int x1), (2, .int x2)]) hx hb dX10_givenBy_46 hl (k := 4) rfl rfl (by decide) rfl (fun ls hl => ?_)
  refine lv_goto (tgt := 5) hx hb dX10_givenBy_49 (by decide) ?_
  exact hk5 (s0 + s1) (x4 + 1) hf H locs ls hP hS (lv_sub hl [2, 3, 4, 1, 0] rfl)
set_option maxHeartbeats 4000000 in
set_option maxRecDepth 100000 in
theorem mpM_givenBy_5 {p : Program} {l : Launch} {e : Env} {R : Room} {s : State} {m : MethodId} {args : Array Value} {below : List Frame} {meth : Method} {c : Code} {cells slots : Nat} {Q : State → Prop} {g : zG} (hI : zI g 581) (hC : zC g RX10 cX10_givenBy 5 (some .int) p s m meth c args) (hR : 2 ≤ R.frames ∧ 60 * 2 ≤ R.locals ∧ cells ≤ R.cells ∧ slots ≤ R.slots) (m_thrown : Int32) (m_tape : Int32) (m_size : Int32) (m_place : Int32) (m_at : Int32) (m_fault : Int32) (m_faultAt : Int32) (m_clauses : Int32) (m_open : Int32) (m_fed : Nat → Int32) (m_refused : Nat → Int32) (m_readTold : Nat → Int32) (m_told : Nat → Int32) (m_readBeast : Nat → Nat → Int32) (m_beast : Nat → Nat → Int32) (m_readGate : Nat → Nat → Int32) (m_gate : Nat → Nat → Int32) (m_readList : Nat → Nat → Int32) (m_list : Nat → Nat → Int32) (m_lawMany : Int32) (m_readLawMany : Int32) (m_law : Nat → Nat → Int32) (m_readLaw : Nat → Nat → Int32) (m_stack : Nat → Int32) (m_known : Nat → Int32) (m_step : Nat → Nat → Int32) (m_steps : Int32) (m_now : Nat → Int32) (m_trial : Nat → Int32) (m_before : Nat → Nat → Int32) (m_kept : Nat → Nat → Int32) (m_works : Int32) (m_refusedSteps : Int32) (m_images : Int32) (m_spot : Int32) (m_begun : Int32) (m_doneSteps : Int32) (m_mixed : Nat → Int32) (m_fewest : Nat → Int32) (m_leastFees : Nat → Int32) (m_lots : Int32) (m_tars : Int32) (x1 : Int32) (x2 : Int32) (N9 : Nat)   (res : Int32) (hfin : ∀ (r0 : Int32) (H : Heap) (locs : List Loc) (pc : Nat) (ls : Array Slot), r0 = res → va_P g.1 zcl (zM g m_thrown m_tape m_size m_place m_at m_fault m_faultAt m_clauses m_open m_fed m_refused m_readTold m_told m_readBeast m_beast m_readGate m_gate m_readList m_list m_lawMany m_readLawMany m_law m_readLaw m_stack m_known m_step m_steps m_now m_trial m_before m_kept m_works m_refusedSteps m_images m_spot m_begun m_doneSteps m_mixed m_fewest m_leastFees m_lots m_tars) H → va_S (zF g 64 580 s.heap.size) s.heap H locs → decode cX10_givenBy pc = .ok (.ireturn, 1) → W p l e R s m args below meth c H locs cells slots Q (F0 m pc ls [.int r0])) : ∀ (n9 : Nat) (x3 : Int32) (x4 : Int32), pM_givenBy_5 N9 m_told m_now x1 x2 n9 x3 x4 = some res → ∀ (H : Heap) (locs : List Loc) (ls : Array Slot), va_P g.1 zcl (zM g m_thrown m_tape m_size m_place m_at m_fault m_faultAt m_clauses m_open m_fed m_refused m_readTold m_told m_readBeast m_beast m_readGate m_gate m_readList m_list m_lawMany m_readLawMany m_law m_readLaw m_stack m_known m_step m_steps m_now m_trial m_before m_kept m_works m_refusedSteps m_images m_spot m_begun m_doneSteps m_mixed m_fewest m_leastFees m_lots m_tars) H → va_S (zF g 64 580 s.heap.size) s.heap H locs → lv_has ls 5 [(0, .ref (g.2.1 64)), (1, .int x1), (2, .int x2), (3, .int x3), (4, .int x4)] → W p l e R s m args below meth c H locs cells slots Q (F0 m 5 ls []) := by
  obtain ⟨hx, hb, hr, hml, hown, hts, hK, hlk, hST⟩ := id hC
  have hB : ∀ q, (zF g 64 580 s.heap.size) q → zB g q := zF.base hI (Nat.le_of_ble_eq_true rfl) hST.1
  intro n9
  induction n9 with
  | zero => intro x3 x4 hf; cases hf
  | succ n9 ih =>
    intro x3 x4 hf H locs ls hP hS hl
    have hk5 := ih
    have hk44 := mpM_givenBy_44 (l := l) (e := e) (R := R) (below := below) (cells := cells) (slots := slots) (Q := Q) hI hC hR m_thrown m_tape m_size m_place m_at m_fault m_faultAt m_clauses m_open m_fed m_refused m_readTold m_told m_readBeast m_beast m_readGate m_gate m_readList m_list m_lawMany m_readLawMany m_law m_readLaw m_stack m_known m_step m_steps m_now m_trial m_before m_kept m_works m_refusedSteps m_images m_spot m_begun m_doneSteps m_mixed m_fewest m_leastFees m_lots m_tars x1 x2 N9 (pM_givenBy_5 N9 m_told m_now x1 x2 n9) res hfin hk5
    unfold pM_givenBy_5 at hf
    refine lv_iload hx hb dX10_givenBy_5 (lv_at hl 4 rfl) ?_
    refine lv_aload_n hx hb dX10_givenBy_7 rfl (lv_at hl 0 rfl) ?_
    refine zr_m_told hC hP (hC.fl mw_1401) dX10_givenBy_8 ?_
    refine lv_iconst (v := 1) hx hb dX10_givenBy_11 (by decide) ?_
    obtain ⟨hz_1, hf⟩ := zite hf
    refine zl_m_told hC hP hz_1 dX10_givenBy_12 ?_
    refine lv_icmp_ge (tgt := 52) hx hb dX10_givenBy_13 (by decide) (fun hc_2 => ?_) (fun hc_2 => ?_)
    · have hf := zifp hc_2 hf
      refine lv_iload_n hx hb dX10_givenBy_52 rfl (lv_at hl 3 rfl) ?_
      exact hfin _ H locs _ ls (Option.some.inj hf) hP hS dX10_givenBy_53
    · have hf := zifn hc_2 hf
      refine lv_iload_n hx hb dX10_givenBy_16 rfl (lv_at hl 3 rfl) ?_
      refine lv_iload_n hx hb dX10_givenBy_17 rfl (lv_at hl 1 rfl) ?_
      refine lv_iload hx hb dX10_givenBy_18 (lv_at hl 4 rfl) ?_
      obtain ⟨r_3, hf_3, hf⟩ := zb1i hf
      refine zcallP (As := [.int x1, .int x4]) (rest := [.int x3]) hC hS hB (cpM_has l hI x1 x4 N9 hf_3) (hC.ml mw_1789) yo_X10_has rfl hl.1 rfl (Nat.le_of_ble_eq_true rfl) ⟨by omega, by omega⟩ hR.2.2 dX10_givenBy_20 (fun H locs hPk hS _ => ?_)
      have hP := hPk _ _ _ hP
      refine lv_if_eq (tgt := 43) hx hb dX10_givenBy_23 (by decide) (fun hc_4 => ?_) (fun hc_4 => ?_)
      · have hf := zifp hc_4 hf
        refine lv_iconst (v := 0) hx hb dX10_givenBy_43 (by decide) ?_
        exact hk44 x4 x3 0 hf H locs ls hP hS (lv_sub hl [0, 1, 2, 4] rfl)
      · have hf := zifn hc_4 hf
        refine lv_iload_n hx hb dX10_givenBy_26 rfl (lv_at hl 2 rfl) ?_
        refine lv_aload_n hx hb dX10_givenBy_27 rfl (lv_at hl 0 rfl) ?_
        refine zr_m_now hC hP (hC.fl mw_1416) dX10_givenBy_28 ?_
        refine lv_bipush (v := 37) hx hb dX10_givenBy_31 (by decide) ?_
        refine lv_iload hx hb dX10_givenBy_33 (lv_at hl 4 rfl) ?_
        refine lv_iadd hx hb dX10_givenBy_35 ?_
        obtain ⟨hz_5, hf⟩ := zite hf
        refine zl_m_now hC hP hz_5 dX10_givenBy_36 ?_
        obtain ⟨r_6, hf_6, hf⟩ := zb1i hf
        refine zcallP (As := [.int x2, .int (m_now (37 + x4).toNatClampNeg)]) (rest := [.int x3]) hC hS hB (cpM_less l hI x2 (m_now (37 + x4).toNatClampNeg) N9 hf_6) (hC.ml mw_1699) yo_X10_less rfl hl.1 rfl (Nat.le_of_ble_eq_true rfl) ⟨by omega, by omega⟩ hR.2.2 dX10_givenBy_37 (fun H locs hPk hS _ => ?_)
        have hP := hPk _ _ _ hP
        refine lv_goto (tgt := 44) hx hb dX10_givenBy_40 (by decide) ?_
        exact hk44 x4 x3 r_6 hf H locs ls hP hS (lv_sub hl [0, 1, 2, 4] rfl)
set_option maxHeartbeats 4000000 in
set_option maxRecDepth 100000 in
theorem mpM_givenBy {p : Program} {l : Launch} {e : Env} {R : Room} {s : State} {m : MethodId} {args : Array Value} {below : List Frame} {meth : Method} {c : Code} {cells slots : Nat} {Q : State → Prop} {g : zG} (hI : zI g 581) (hC : zC g RX10 cX10_givenBy 5 (some .int) p s m meth c args) (hR : 2 ≤ R.frames ∧ 60 * 2 ≤ R.locals ∧ cells ≤ R.cells ∧ slots ≤ R.slots) (m_thrown : Int32) (m_tape : Int32) (m_size : Int32) (m_place : Int32) (m_at : Int32) (m_fault : Int32) (m_faultAt : Int32) (m_clauses : Int32) (m_open : Int32) (m_fed : Nat → Int32) (m_refused : Nat → Int32) (m_readTold : Nat → Int32) (m_told : Nat → Int32) (m_readBeast : Nat → Nat → Int32) (m_beast : Nat → Nat → Int32) (m_readGate : Nat → Nat → Int32) (m_gate : Nat → Nat → Int32) (m_readList : Nat → Nat → Int32) (m_list : Nat → Nat → Int32) (m_lawMany : Int32) (m_readLawMany : Int32) (m_law : Nat → Nat → Int32) (m_readLaw : Nat → Nat → Int32) (m_stack : Nat → Int32) (m_known : Nat → Int32) (m_step : Nat → Nat → Int32) (m_steps : Int32) (m_now : Nat → Int32) (m_trial : Nat → Int32) (m_before : Nat → Nat → Int32) (m_kept : Nat → Nat → Int32) (m_works : Int32) (m_refusedSteps : Int32) (m_images : Int32) (m_spot : Int32) (m_begun : Int32) (m_doneSteps : Int32) (m_mixed : Nat → Int32) (m_fewest : Nat → Int32) (m_leastFees : Nat → Int32) (m_lots : Int32) (m_tars : Int32) (x1 : Int32) (x2 : Int32) (N9 : Nat)   (res : Int32) (hfin : ∀ (r0 : Int32) (H : Heap) (locs : List Loc) (pc : Nat) (ls : Array Slot), r0 = res → va_P g.1 zcl (zM g m_thrown m_tape m_size m_place m_at m_fault m_faultAt m_clauses m_open m_fed m_refused m_readTold m_told m_readBeast m_beast m_readGate m_gate m_readList m_list m_lawMany m_readLawMany m_law m_readLaw m_stack m_known m_step m_steps m_now m_trial m_before m_kept m_works m_refusedSteps m_images m_spot m_begun m_doneSteps m_mixed m_fewest m_leastFees m_lots m_tars) H → va_S (zF g 64 580 s.heap.size) s.heap H locs → decode cX10_givenBy pc = .ok (.ireturn, 1) → W p l e R s m args below meth c H locs cells slots Q (F0 m pc ls [.int r0])) : pM_givenBy N9 m_told m_now x1 x2 = some res → ∀ (H : Heap) (locs : List Loc) (ls : Array Slot), va_P g.1 zcl (zM g m_thrown m_tape m_size m_place m_at m_fault m_faultAt m_clauses m_open m_fed m_refused m_readTold m_told m_readBeast m_beast m_readGate m_gate m_readList m_list m_lawMany m_readLawMany m_law m_readLaw m_stack m_known m_step m_steps m_now m_trial m_before m_kept m_works m_refusedSteps m_images m_spot m_begun m_doneSteps m_mixed m_fewest m_leastFees m_lots m_tars) H → va_S (zF g 64 580 s.heap.size) s.heap H locs → lv_has ls 5 [(0, .ref (g.2.1 64)), (1, .int x1), (2, .int x2)] → W p l e R s m args below meth c H locs cells slots Q (F0 m 0 ls []) := by
  obtain ⟨hx, hb, hr, hml, hown, hts, hK, hlk, hST⟩ := id hC
  have hB : ∀ q, (zF g 64 580 s.heap.size) q → zB g q := zF.base hI (Nat.le_of_ble_eq_true rfl) hST.1
  intro  hf H locs ls hP hS hl
  have hk5 := mpM_givenBy_5 (l := l) (e := e) (R := R) (below := below) (cells := cells) (slots := slots) (Q := Q) hI hC hR m_thrown m_tape m_size m_place m_at m_fault m_faultAt m_clauses m_open m_fed m_refused m_readTold m_told m_readBeast m_beast m_readGate m_gate m_readList m_list m_lawMany m_readLawMany m_law m_readLaw m_stack m_known m_step m_steps m_now m_trial m_before m_kept m_works m_refusedSteps m_images m_spot m_begun m_doneSteps m_mixed m_fewest m_leastFees m_lots m_tars x1 x2 N9 res hfin N9
  unfold pM_givenBy at hf
  refine lv_iconst (v := 0) hx hb dX10_givenBy_0 (by decide) ?_
  refine lv_istore_n (lv' := [(3, .int 0), (0, .ref (g.2.1 64)), (1, .int x1), (2, .int x2)]) hx hb dX10_givenBy_1 rfl hl (by decide) rfl (fun ls hl => ?_)
  refine lv_iconst (v := 0) hx hb dX10_givenBy_2 (by decide) ?_
  refine lv_istore (lv' := [(4, .int 0), (3, .int 0), (0, .ref (g.2.1 64)), (1, .int x1), (2, .int x2)]) hx hb dX10_givenBy_3 hl (by decide) rfl (fun ls hl => ?_)
  exact hk5 0 0 hf H locs ls hP hS (lv_sub hl [2, 3, 4, 1, 0] rfl)
set_option maxHeartbeats 4000000 in
set_option maxRecDepth 100000 in
theorem cpM_givenBy (l : Launch) {g : zG} (hI : zI g 581) (sz : Nat) (m_thrown : Int32) (m_tape : Int32) (m_size : Int32) (m_place : Int32) (m_at : Int32) (m_fault : Int32) (m_faultAt : Int32) (m_clauses : Int32) (m_open : Int32) (m_fed : Nat → Int32) (m_refused : Nat → Int32) (m_readTold : Nat → Int32) (m_told : Nat → Int32) (m_readBeast : Nat → Nat → Int32) (m_beast : Nat → Nat → Int32) (m_readGate : Nat → Nat → Int32) (m_gate : Nat → Nat → Int32) (m_readList : Nat → Nat → Int32) (m_list : Nat → Nat → Int32) (m_lawMany : Int32) (m_readLawMany : Int32) (m_law : Nat → Nat → Int32) (m_readLaw : Nat → Nat → Int32) (m_stack : Nat → Int32) (m_known : Nat → Int32) (m_step : Nat → Nat → Int32) (m_steps : Int32) (m_now : Nat → Int32) (m_trial : Nat → Int32) (m_before : Nat → Nat → Int32) (m_kept : Nat → Nat → Int32) (m_works : Int32) (m_refusedSteps : Int32) (m_images : Int32) (m_spot : Int32) (m_begun : Int32) (m_doneSteps : Int32) (m_mixed : Nat → Int32) (m_fewest : Nat → Int32) (m_leastFees : Nat → Int32) (m_lots : Int32) (m_tars : Int32) (x1 : Int32)  (x2 : Int32) (N9 : Nat) {r0 : Int32} (hf : pM_givenBy N9  m_told m_now x1 x2 = some r0) : zMi l yX10_givenBy cX10_givenBy 5 (some .int) 2 g (zM g m_thrown m_tape m_size m_place m_at m_fault m_faultAt m_clauses m_open m_fed m_refused m_readTold m_told m_readBeast m_beast m_readGate m_gate m_readList m_list m_lawMany m_readLawMany m_law m_readLaw m_stack m_known m_step m_steps m_now m_trial m_before m_kept m_works m_refusedSteps m_images m_spot m_begun m_doneSteps m_mixed m_fewest m_leastFees m_lots m_tars) (zM g m_thrown m_tape m_size m_place m_at m_fault m_faultAt m_clauses m_open m_fed m_refused m_readTold m_told m_readBeast m_beast m_readGate m_gate m_readList m_list m_lawMany m_readLawMany m_law m_readLaw m_stack m_known m_step m_steps m_now m_trial m_before m_kept m_works m_refusedSteps m_images m_spot m_begun m_doneSteps m_mixed m_fewest m_leastFees m_lots m_tars) sz (zF g 64 580 sz) [.ref (g.2.1 64), .int x1, .int x2] r0 := by
  refine Met.ofW (cc := cX10_givenBy) (maxL := 5) (ret := (some .int)) (by decide +kernel) rfl ?_
  intro p e s m args below meth c s₁ B hml hv
  obtain ⟨rfl, hsz, hP, hK, hST⟩ := hv
  subst hsz
  have hC := zstart (own := RX10) rfl B hml hK hST
  have hl := lv_entry ([.ref (g.2.1 64), .int x1, .int x2]) (n := 5) (Nat.le_of_ble_eq_true rfl)
  rw [lg_entry_eq]
  generalize (lg_sl ([.ref (g.2.1 64), .int x1, .int x2]) ++ List.replicate (5 - (lg_sl ([.ref (g.2.1 64), .int x1, .int x2])).length) Slot.unset).toArray = ls at hl ⊢
  have hl : lv_has ls 5 [(0, .ref (g.2.1 64)), (1, .int x1), (2, .int x2)] := hl
  obtain ⟨hx, hb, hr, hml, hown, hts, hK, hlk, hST⟩ := id hC
  refine mpM_givenBy hI hC ⟨Nat.le_refl _, Nat.le_refl _, Nat.le_refl _, Nat.le_refl _⟩ m_thrown m_tape m_size m_place m_at m_fault m_faultAt m_clauses m_open m_fed m_refused m_readTold m_told m_readBeast m_beast m_readGate m_gate m_readList m_list m_lawMany m_readLawMany m_law m_readLaw m_stack m_known m_step m_steps m_now m_trial m_before m_kept m_works m_refusedSteps m_images m_spot m_begun m_doneSteps m_mixed m_fewest m_leastFees m_lots m_tars x1 x2 N9 r0 ?_ hf _ _ ls hP va_S.rf hl
  intro r1 H locs pc ls he hP hS hd
  cases he
  exact W.iret hx hb hr (fun t ht hW => ⟨⟨_, (), rfl, rfl, by rw [← ht] at hP; exact hP⟩, hS.F ht⟩) hS.2.2 hd hlk
/-! StripeTradeModel.share (III)I [('obj', 'm')] -/
set_option maxHeartbeats 4000000 in
set_option maxRecDepth 100000 in
theorem mpM_share_70 {p : Program} {l : Launch} {e : Env} {R : Room} {s : State} {m : MethodId} {args : Array Value} {below : List Frame} {meth : Method} {c : Code} {cells slots : Nat} {Q : State → Prop} {g : zG} (hI : zI g 581) (hC : zC g RX10 cX10_share 5 (some .int) p s m meth c args) (hR : 3 ≤ R.frames ∧ 60 * 3 ≤ R.locals ∧ cells ≤ R.cells ∧ slots ≤ R.slots) (m_tape : Int32) (m_size : Int32) (m_place : Int32) (m_at : Int32) (m_fault : Int32) (m_faultAt : Int32) (m_clauses : Int32) (m_open : Int32) (m_fed : Nat → Int32) (m_readTold : Nat → Int32) (m_told : Nat → Int32) (m_readBeast : Nat → Nat → Int32) (m_beast : Nat → Nat → Int32) (m_readGate : Nat → Nat → Int32) (m_gate : Nat → Nat → Int32) (m_readList : Nat → Nat → Int32) (m_list : Nat → Nat → Int32) (m_lawMany : Int32) (m_readLawMany : Int32) (m_law : Nat → Nat → Int32) (m_readLaw : Nat → Nat → Int32) (m_stack : Nat → Int32) (m_known : Nat → Int32) (m_step : Nat → Nat → Int32) (m_steps : Int32) (m_now : Nat → Int32) (m_trial : Nat → Int32) (m_before : Nat → Nat → Int32) (m_kept : Nat → Nat → Int32) (m_works : Int32) (m_refusedSteps : Int32) (m_images : Int32) (m_spot : Int32) (m_begun : Int32) (m_doneSteps : Int32) (m_mixed : Nat → Int32) (m_fewest : Nat → Int32) (m_leastFees : Nat → Int32) (m_lots : Int32) (m_tars : Int32)  (N9 : Nat)   (res : Int32 × Int32 × (Nat → Int32)) (hfin : ∀ (r0 : Int32) (m_thrown : Int32) (m_refused : Nat → Int32) (H : Heap) (locs : List Loc) (pc : Nat) (ls : Array Slot), (r0, m_thrown, m_refused) = res → va_P g.1 zcl (zM g m_thrown m_tape m_size m_place m_at m_fault m_faultAt m_clauses m_open m_fed m_refused m_readTold m_told m_readBeast m_beast m_readGate m_gate m_readList m_list m_lawMany m_readLawMany m_law m_readLaw m_stack m_known m_step m_steps m_now m_trial m_before m_kept m_works m_refusedSteps m_images m_spot m_begun m_doneSteps m_mixed m_fewest m_leastFees m_lots m_tars) H → va_S (zF g 64 580 s.heap.size) s.heap H locs → decode cX10_share pc = .ok (.ireturn, 1) → W p l e R s m args below meth c H locs cells slots Q (F0 m pc ls [.int r0])) : ∀ (m_thrown : Int32) (m_refused : Nat → Int32), pM_share_70 N9 m_thrown m_refused = some res → ∀ (H : Heap) (locs : List Loc) (ls : Array Slot), va_P g.1 zcl (zM g m_thrown m_tape m_size m_place m_at m_fault m_faultAt m_clauses m_open m_fed m_refused m_readTold m_told m_readBeast m_beast m_readGate m_gate m_readList m_list m_lawMany m_readLawMany m_law m_readLaw m_stack m_known m_step m_steps m_now m_trial m_before m_kept m_works m_refusedSteps m_images m_spot m_begun m_doneSteps m_mixed m_fewest m_leastFees m_lots m_tars) H → va_S (zF g 64 580 s.heap.size) s.heap H locs → lv_has ls 5 [] → W p l e R s m args below meth c H locs cells slots Q (F0 m 70 ls []) := by
  obtain ⟨hx, hb, hr, hml, hown, hts, hK, hlk, hST⟩ := id hC
  have hB : ∀ q, (zF g 64 580 s.heap.size) q → zB g q := zF.base hI (Nat.le_of_ble_eq_true rfl) hST.1
  intro m_thrown m_refused hf H locs ls hP hS hl
  unfold pM_share_70 at hf
  refine lv_iconst (v := 0) hx hb dX10_share_70 (by decide) ?_
  exact hfin _ _ _ H locs _ ls (Option.some.inj hf) hP hS dX10_share_71
set_option maxHeartbeats 4000000 in
set_option maxRecDepth 100000 in
theorem mpM_share_122 {p : Program} {l : Launch} {e : Env} {R : Room} {s : State} {m : MethodId} {args : Array Value} {below : List Frame} {meth : Method} {c : Code} {cells slots : Nat} {Q : State → Prop} {g : zG} (hI : zI g 581) (hC : zC g RX10 cX10_share 5 (some .int) p s m meth c args) (hR : 3 ≤ R.frames ∧ 60 * 3 ≤ R.locals ∧ cells ≤ R.cells ∧ slots ≤ R.slots) (m_thrown : Int32) (m_tape : Int32) (m_size : Int32) (m_place : Int32) (m_at : Int32) (m_fault : Int32) (m_faultAt : Int32) (m_clauses : Int32) (m_open : Int32) (m_fed : Nat → Int32) (m_refused : Nat → Int32) (m_readTold : Nat → Int32) (m_told : Nat → Int32) (m_readBeast : Nat → Nat → Int32) (m_beast : Nat → Nat → Int32) (m_readGate : Nat → Nat → Int32) (m_gate : Nat → Nat → Int32) (m_readList : Nat → Nat → Int32) (m_list : Nat → Nat → Int32) (m_lawMany : Int32) (m_readLawMany : Int32) (m_law : Nat → Nat → Int32) (m_readLaw : Nat → Nat → Int32) (m_stack : Nat → Int32) (m_known : Nat → Int32) (m_step : Nat → Nat → Int32) (m_steps : Int32) (m_now : Nat → Int32) (m_trial : Nat → Int32) (m_before : Nat → Nat → Int32) (m_kept : Nat → Nat → Int32) (m_works : Int32) (m_refusedSteps : Int32) (m_images : Int32) (m_spot : Int32) (m_begun : Int32) (m_doneSteps : Int32) (m_mixed : Nat → Int32) (m_fewest : Nat → Int32) (m_leastFees : Nat → Int32) (m_lots : Int32) (m_tars : Int32)  (N9 : Nat)   (res : Int32 × Int32 × (Nat → Int32)) (hfin : ∀ (r0 : Int32) (m_thrown : Int32) (m_refused : Nat → Int32) (H : Heap) (locs : List Loc) (pc : Nat) (ls : Array Slot), (r0, m_thrown, m_refused) = res → va_P g.1 zcl (zM g m_thrown m_tape m_size m_place m_at m_fault m_faultAt m_clauses m_open m_fed m_refused m_readTold m_told m_readBeast m_beast m_readGate m_gate m_readList m_list m_lawMany m_readLawMany m_law m_readLaw m_stack m_known m_step m_steps m_now m_trial m_before m_kept m_works m_refusedSteps m_images m_spot m_begun m_doneSteps m_mixed m_fewest m_leastFees m_lots m_tars) H → va_S (zF g 64 580 s.heap.size) s.heap H locs → decode cX10_share pc = .ok (.ireturn, 1) → W p l e R s m args below meth c H locs cells slots Q (F0 m pc ls [.int r0])) : ∀ (s0 : Int32), pM_share_122 N9 m_thrown m_refused s0 = some res → ∀ (H : Heap) (locs : List Loc) (ls : Array Slot), va_P g.1 zcl (zM g m_thrown m_tape m_size m_place m_at m_fault m_faultAt m_clauses m_open m_fed m_refused m_readTold m_told m_readBeast m_beast m_readGate m_gate m_readList m_list m_lawMany m_readLawMany m_law m_readLaw m_stack m_known m_step m_steps m_now m_trial m_before m_kept m_works m_refusedSteps m_images m_spot m_begun m_doneSteps m_mixed m_fewest m_leastFees m_lots m_tars) H → va_S (zF g 64 580 s.heap.size) s.heap H locs → lv_has ls 5 [] → W p l e R s m args below meth c H locs cells slots Q (F0 m 122 ls [.int s0]) := by
  obtain ⟨hx, hb, hr, hml, hown, hts, hK, hlk, hST⟩ := id hC
  have hB : ∀ q, (zF g 64 580 s.heap.size) q → zB g q := zF.base hI (Nat.le_of_ble_eq_true rfl) hST.1
  intro s0 hf H locs ls hP hS hl
  unfold pM_share_122 at hf
  exact hfin _ _ _ H locs _ ls (Option.some.inj hf) hP hS dX10_share_122
set_option maxHeartbeats 4000000 in
set_option maxRecDepth 100000 in
theorem mpM_share_108 {p : Program} {l : Launch} {e : Env} {R : Room} {s : State} {m : MethodId} {args : Array Value} {below : List Frame} {meth : Method} {c : Code} {cells slots : Nat} {Q : State → Prop} {g : zG} (hI : zI g 581) (hC : zC g RX10 cX10_share 5 (some .int) p s m meth c args) (hR : 3 ≤ R.frames ∧ 60 * 3 ≤ R.locals ∧ cells ≤ R.cells ∧ slots ≤ R.slots) (m_thrown : Int32) (m_tape : Int32) (m_size : Int32) (m_place : Int32) (m_at : Int32) (m_fault : Int32) (m_faultAt : Int32) (m_clauses : Int32) (m_open : Int32) (m_fed : Nat → Int32) (m_refused : Nat → Int32) (m_readTold : Nat → Int32) (m_told : Nat → Int32) (m_readBeast : Nat → Nat → Int32) (m_beast : Nat → Nat → Int32) (m_readGate : Nat → Nat → Int32) (m_gate : Nat → Nat → Int32) (m_readList : Nat → Nat → Int32) (m_list : Nat → Nat → Int32) (m_lawMany : Int32) (m_readLawMany : Int32) (m_law : Nat → Nat → Int32) (m_readLaw : Nat → Nat → Int32) (m_stack : Nat → Int32) (m_known : Nat → Int32) (m_step : Nat → Nat → Int32) (m_steps : Int32) (m_now : Nat → Int32) (m_trial : Nat → Int32) (m_before : Nat → Nat → Int32) (m_kept : Nat → Nat → Int32) (m_works : Int32) (m_refusedSteps : Int32) (m_images : Int32) (m_spot : Int32) (m_begun : Int32) (m_doneSteps : Int32) (m_mixed : Nat → Int32) (m_fewest : Nat → Int32) (m_leastFees : Nat → Int32) (m_lots : Int32) (m_tars : Int32) (x1 : Int32) (x2 : Int32) (N9 : Nat)   (res : Int32 × Int32 × (Nat → Int32)) (hfin : ∀ (r0 : Int32) (m_thrown : Int32) (m_refused : Nat → Int32) (H : Heap) (locs : List Loc) (pc : Nat) (ls : Array Slot), (r0, m_thrown, m_refused) = res → va_P g.1 zcl (zM g m_thrown m_tape m_size m_place m_at m_fault m_faultAt m_clauses m_open m_fed m_refused m_readTold m_told m_readBeast m_beast m_readGate m_gate m_readList m_list m_lawMany m_readLawMany m_law m_readLaw m_stack m_known m_step m_steps m_now m_trial m_before m_kept m_works m_refusedSteps m_images m_spot m_begun m_doneSteps m_mixed m_fewest m_leastFees m_lots m_tars) H → va_S (zF g 64 580 s.heap.size) s.heap H locs → decode cX10_share pc = .ok (.ireturn, 1) → W p l e R s m args below meth c H locs cells slots Q (F0 m pc ls [.int r0])) : ∀ (x4 : Int32), pM_share_108 N9 m_thrown m_refused x1 x2 x4 = some res → ∀ (H : Heap) (locs : List Loc) (ls : Array Slot), va_P g.1 zcl (zM g m_thrown m_tape m_size m_place m_at m_fault m_faultAt m_clauses m_open m_fed m_refused m_readTold m_told m_readBeast m_beast m_readGate m_gate m_readList m_list m_lawMany m_readLawMany m_law m_readLaw m_stack m_known m_step m_steps m_now m_trial m_before m_kept m_works m_refusedSteps m_images m_spot m_begun m_doneSteps m_mixed m_fewest m_leastFees m_lots m_tars) H → va_S (zF g 64 580 s.heap.size) s.heap H locs → lv_has ls 5 [(1, .int x1), (2, .int x2), (4, .int x4)] → W p l e R s m args below meth c H locs cells slots Q (F0 m 108 ls []) := by
  obtain ⟨hx, hb, hr, hml, hown, hts, hK, hlk, hST⟩ := id hC
  have hB : ∀ q, (zF g 64 580 s.heap.size) q → zB g q := zF.base hI (Nat.le_of_ble_eq_true rfl) hST.1
  intro x4 hf H locs ls hP hS hl
  have hk122 := mpM_share_122 (l := l) (e := e) (R := R) (below := below) (cells := cells) (slots := slots) (Q := Q) hI hC hR m_thrown m_tape m_size m_place m_at m_fault m_faultAt m_clauses m_open m_fed m_refused m_readTold m_told m_readBeast m_beast m_readGate m_gate m_readList m_list m_lawMany m_readLawMany m_law m_readLaw m_stack m_known m_step m_steps m_now m_trial m_before m_kept m_works m_refusedSteps m_images m_spot m_begun m_doneSteps m_mixed m_fewest m_leastFees m_lots m_tars N9 res hfin
  unfold pM_share_108 at hf
  refine lv_iload_n hx hb dX10_share_108 rfl (lv_at hl 1 rfl) ?_
  refine lv_iload_n hx hb dX10_share_109 rfl (lv_at hl 0 rfl) ?_
  obtain ⟨r_1, hf_1, hf⟩ := zb1i hf
  refine zcallP (As := [.int x2, .int x1]) (rest := []) hC hS hB (cpM_has l hI x2 x1 N9 hf_1) (hC.ml mw_1789) yo_X10_has rfl hl.1 rfl (Nat.le_of_ble_eq_true rfl) ⟨by omega, by omega⟩ hR.2.2 dX10_share_110 (fun H locs hPk hS _ => ?_)
  have hP := hPk _ _ _ hP
  refine lv_if_eq (tgt := 121) hx hb dX10_share_113 (by decide) (fun hc_2 => ?_) (fun hc_2 => ?_)
  · have hf := zifp hc_2 hf
    refine lv_iconst (v := 0) hx hb dX10_share_121 (by decide) ?_
    exact hk122 0 hf H locs ls hP hS (lv_sub hl [] rfl)
  · have hf := zifn hc_2 hf
    refine lv_iload hx hb dX10_share_116 (lv_at hl 2 rfl) ?_
    refine lv_goto (tgt := 122) hx hb dX10_share_118 (by decide) ?_
    exact hk122 x4 hf H locs ls hP hS (lv_sub hl [] rfl)
set_option maxHeartbeats 4000000 in
set_option maxRecDepth 100000 in
theorem mpM_share_75 {p : Program} {l : Launch} {e : Env} {R : Room} {s : State} {m : MethodId} {args : Array Value} {below : List Frame} {meth : Method} {c : Code} {cells slots : Nat} {Q : State → Prop} {g : zG} (hI : zI g 581) (hC : zC g RX10 cX10_share 5 (some .int) p s m meth c args) (hR : 3 ≤ R.frames ∧ 60 * 3 ≤ R.locals ∧ cells ≤ R.cells ∧ slots ≤ R.slots) (m_tape : Int32) (m_size : Int32) (m_place : Int32) (m_at : Int32) (m_fault : Int32) (m_faultAt : Int32) (m_clauses : Int32) (m_open : Int32) (m_fed : Nat → Int32) (m_readTold : Nat → Int32) (m_told : Nat → Int32) (m_readBeast : Nat → Nat → Int32) (m_beast : Nat → Nat → Int32) (m_readGate : Nat → Nat → Int32) (m_gate : Nat → Nat → Int32) (m_readList : Nat → Nat → Int32) (m_list : Nat → Nat → Int32) (m_lawMany : Int32) (m_readLawMany : Int32) (m_law : Nat → Nat → Int32) (m_readLaw : Nat → Nat → Int32) (m_stack : Nat → Int32) (m_known : Nat → Int32) (m_step : Nat → Nat → Int32) (m_steps : Int32) (m_now : Nat → Int32) (m_trial : Nat → Int32) (m_before : Nat → Nat → Int32) (m_kept : Nat → Nat → Int32) (m_works : Int32) (m_refusedSteps : Int32) (m_images : Int32) (m_spot : Int32) (m_begun : Int32) (m_doneSteps : Int32) (m_mixed : Nat → Int32) (m_fewest : Nat → Int32) (m_leastFees : Nat → Int32) (m_lots : Int32) (m_tars : Int32) (x1 : Int32) (x2 : Int32) (x3 : Int32) (N9 : Nat)   (res : Int32 × Int32 × (Nat → Int32)) (hfin : ∀ (r0 : Int32) (m_thrown : Int32) (m_refused : Nat → Int32) (H : Heap) (locs : List Loc) (pc : Nat) (ls : Array Slot), (r0, m_thrown, m_refused) = res → va_P g.1 zcl (zM g m_thrown m_tape m_size m_place m_at m_fault m_faultAt m_clauses m_open m_fed m_refused m_readTold m_told m_readBeast m_beast m_readGate m_gate m_readList m_list m_lawMany m_readLawMany m_law m_readLaw m_stack m_known m_step m_steps m_now m_trial m_before m_kept m_works m_refusedSteps m_images m_spot m_begun m_doneSteps m_mixed m_fewest m_leastFees m_lots m_tars) H → va_S (zF g 64 580 s.heap.size) s.heap H locs → decode cX10_share pc = .ok (.ireturn, 1) → W p l e R s m args below meth c H locs cells slots Q (F0 m pc ls [.int r0])) : ∀ (n9 : Nat) (m_thrown : Int32) (m_refused : Nat → Int32) (x4 : Int32), pM_share_75 N9 m_told m_now x1 x2 x3 n9 m_thrown m_refused x4 = some res → ∀ (H : Heap) (locs : List Loc) (ls : Array Slot), va_P g.1 zcl (zM g m_thrown m_tape m_size m_place m_at m_fault m_faultAt m_clauses m_open m_fed m_refused m_readTold m_told m_readBeast m_beast m_readGate m_gate m_readList m_list m_lawMany m_readLawMany m_law m_readLaw m_stack m_known m_step m_steps m_now m_trial m_before m_kept m_works m_refusedSteps m_images m_spot m_begun m_doneSteps m_mixed m_fewest m_leastFees m_lots m_tars) H → va_S (zF g 64 580 s.heap.size) s.heap H locs → lv_has ls 5 [(0, .ref (g.2.1 64)), (1, .int x1), (2, .int x2), (3, .int x3), (4, .int x4)] → W p l e R s m args below meth c H locs cells slots Q (F0 m 75 ls []) := by
  obtain ⟨hx, hb, hr, hml, hown, hts, hK, hlk, hST⟩ := id hC
  have hB : ∀ q, (zF g 64 580 s.heap.size) q → zB g q := zF.base hI (Nat.le_of_ble_eq_true rfl) hST.1
  intro n9
  induction n9 with
  | zero => intro m_thrown m_refused x4 hf; cases hf
  | succ n9 ih =>
    intro m_thrown m_refused x4 hf H locs ls hP hS hl
    have hk75 := ih
    have hk108 := mpM_share_108 (l := l) (e := e) (R := R) (below := below) (cells := cells) (slots := slots) (Q := Q) hI hC hR m_thrown m_tape m_size m_place m_at m_fault m_faultAt m_clauses m_open m_fed m_refused m_readTold m_told m_readBeast m_beast m_readGate m_gate m_readList m_list m_lawMany m_readLawMany m_law m_readLaw m_stack m_known m_step m_steps m_now m_trial m_before m_kept m_works m_refusedSteps m_images m_spot m_begun m_doneSteps m_mixed m_fewest m_leastFees m_lots m_tars x1 x2 N9 res hfin
    unfold pM_share_75 at hf
    refine lv_iload hx hb dX10_share_75 (lv_at hl 4 rfl) ?_
    refine lv_aload_n hx hb dX10_share_77 rfl (lv_at hl 0 rfl) ?_
    refine zr_m_now hC hP (hC.fl mw_1416) dX10_share_78 ?_
    refine lv_bipush (v := 37) hx hb dX10_share_81 (by decide) ?_
    refine lv_iload_n hx hb dX10_share_83 rfl (lv_at hl 1 rfl) ?_
    refine lv_iadd hx hb dX10_share_84 ?_
    obtain ⟨hz_3, hf⟩ := zite hf
    refine zl_m_now hC hP hz_3 dX10_share_85 ?_
    refine lv_icmp_ge (tgt := 108) hx hb dX10_share_86 (by decide) (fun hc_4 => ?_) (fun hc_4 => ?_)
    · have hf := zifp hc_4 hf
      exact hk108 x4 hf H locs ls hP hS (lv_sub hl [1, 2, 4] rfl)
    · have hf := zifn hc_4 hf
      refine lv_aload_n hx hb dX10_share_89 rfl (lv_at hl 0 rfl) ?_
      refine lv_iload_n hx hb dX10_share_90 rfl (lv_at hl 2 rfl) ?_
      refine lv_iload hx hb dX10_share_91 (lv_at hl 4 rfl) ?_
      refine lv_iconst (v := 1) hx hb dX10_share_93 (by decide) ?_
      refine lv_iadd hx hb dX10_share_94 ?_
      obtain ⟨r_5, hf_5, hf⟩ := zb1i hf
      refine zcallVi (As := [.int x2, .int (x4 + 1)]) (rest := []) hC hP hS hB (fun q h => zF.mono hS.1 h) (cpM_givenBy l hI H.size m_thrown m_tape m_size m_place m_at m_fault m_faultAt m_clauses m_open m_fed m_refused m_readTold m_told m_readBeast m_beast m_readGate m_gate m_readList m_list m_lawMany m_readLawMany m_law m_readLaw m_stack m_known m_step m_steps m_now m_trial m_before m_kept m_works m_refusedSteps m_images m_spot m_begun m_doneSteps m_mixed m_fewest m_leastFees m_lots m_tars x2 (x4 + 1) N9 hf_5) (hC.ml mw_1885) yo_X10_givenBy 0 (zfM rfl) rfl rfl rfl hl.1 rfl (Nat.le_of_ble_eq_true rfl) ⟨by omega, by omega⟩ hR.2.2 dX10_share_95 (fun H locs hP hS _ _ => ?_)
      refine lv_iload_n hx hb dX10_share_98 rfl (lv_at hl 3 rfl) ?_
      refine lv_icmp_gt (tgt := 108) hx hb dX10_share_99 (by decide) (fun hc_6 => ?_) (fun hc_6 => ?_)
      · have hf := zifp hc_6 hf
        exact hk108 x4 hf H locs ls hP hS (lv_sub hl [1, 2, 4] rfl)
      · have hf := zifn hc_6 hf
        refine lv_iinc (v := x4 + 1) (lv' := [(4, .int (x4 + 1)), (0, .ref (g.2.1 64)), (1, .int x1), (2, .int x2), (3, .int x3)]) hx hb dX10_share_102 hl (k := 4) rfl rfl (by decide) rfl (fun ls hl => ?_)
        refine lv_goto (tgt := 75) hx hb dX10_share_105 (by decide) ?_
        exact hk75 m_thrown m_refused (x4 + 1) hf H locs ls hP hS (lv_sub hl [1, 2, 3, 4, 0] rfl)
set_option maxHeartbeats 4000000 in
set_option maxRecDepth 100000 in
theorem mpM_share_62 {p : Program} {l : Launch} {e : Env} {R : Room} {s : State} {m : MethodId} {args : Array Value} {below : List Frame} {meth : Method} {c : Code} {cells slots : Nat} {Q : State → Prop} {g : zG} (hI : zI g 581) (hC : zC g RX10 cX10_share 5 (some .int) p s m meth c args) (hR : 3 ≤ R.frames ∧ 60 * 3 ≤ R.locals ∧ cells ≤ R.cells ∧ slots ≤ R.slots) (m_tape : Int32) (m_size : Int32) (m_place : Int32) (m_at : Int32) (m_fault : Int32) (m_faultAt : Int32) (m_clauses : Int32) (m_open : Int32) (m_fed : Nat → Int32) (m_readTold : Nat → Int32) (m_told : Nat → Int32) (m_readBeast : Nat → Nat → Int32) (m_beast : Nat → Nat → Int32) (m_readGate : Nat → Nat → Int32) (m_gate : Nat → Nat → Int32) (m_readList : Nat → Nat → Int32) (m_list : Nat → Nat → Int32) (m_lawMany : Int32) (m_readLawMany : Int32) (m_law : Nat → Nat → Int32) (m_readLaw : Nat → Nat → Int32) (m_stack : Nat → Int32) (m_known : Nat → Int32) (m_step : Nat → Nat → Int32) (m_steps : Int32) (m_now : Nat → Int32) (m_trial : Nat → Int32) (m_before : Nat → Nat → Int32) (m_kept : Nat → Nat → Int32) (m_works : Int32) (m_refusedSteps : Int32) (m_images : Int32) (m_spot : Int32) (m_begun : Int32) (m_doneSteps : Int32) (m_mixed : Nat → Int32) (m_fewest : Nat → Int32) (m_leastFees : Nat → Int32) (m_lots : Int32) (m_tars : Int32) (x1 : Int32) (x2 : Int32) (x3 : Int32) (N9 : Nat)  (k70 : Int32 → (Nat → Int32) → Option (Int32 × Int32 × (Nat → Int32))) (res : Int32 × Int32 × (Nat → Int32)) (hfin : ∀ (r0 : Int32) (m_thrown : Int32) (m_refused : Nat → Int32) (H : Heap) (locs : List Loc) (pc : Nat) (ls : Array Slot), (r0, m_thrown, m_refused) = res → va_P g.1 zcl (zM g m_thrown m_tape m_size m_place m_at m_fault m_faultAt m_clauses m_open m_fed m_refused m_readTold m_told m_readBeast m_beast m_readGate m_gate m_readList m_list m_lawMany m_readLawMany m_law m_readLaw m_stack m_known m_step m_steps m_now m_trial m_before m_kept m_works m_refusedSteps m_images m_spot m_begun m_doneSteps m_mixed m_fewest m_leastFees m_lots m_tars) H → va_S (zF g 64 580 s.heap.size) s.heap H locs → decode cX10_share pc = .ok (.ireturn, 1) → W p l e R s m args below meth c H locs cells slots Q (F0 m pc ls [.int r0])) (hk70 : ∀ (m_thrown : Int32) (m_refused : Nat → Int32), k70 m_thrown m_refused = some res → ∀ (H : Heap) (locs : List Loc) (ls : Array Slot), va_P g.1 zcl (zM g m_thrown m_tape m_size m_place m_at m_fault m_faultAt m_clauses m_open m_fed m_refused m_readTold m_told m_readBeast m_beast m_readGate m_gate m_readList m_list m_lawMany m_readLawMany m_law m_readLaw m_stack m_known m_step m_steps m_now m_trial m_before m_kept m_works m_refusedSteps m_images m_spot m_begun m_doneSteps m_mixed m_fewest m_leastFees m_lots m_tars) H → va_S (zF g 64 580 s.heap.size) s.heap H locs → lv_has ls 5 [] → W p l e R s m args below meth c H locs cells slots Q (F0 m 70 ls [])) : ∀ (m_thrown : Int32) (m_refused : Nat → Int32) (s1 : Int32), pM_share_62 N9 m_told m_now x1 x2 x3 k70 m_thrown m_refused s1 = some res → ∀ (H : Heap) (locs : List Loc) (ls : Array Slot), va_P g.1 zcl (zM g m_thrown m_tape m_size m_place m_at m_fault m_faultAt m_clauses m_open m_fed m_refused m_readTold m_told m_readBeast m_beast m_readGate m_gate m_readList m_list m_lawMany m_readLawMany m_law m_readLaw m_stack m_known m_step m_steps m_now m_trial m_before m_kept m_works m_refusedSteps m_images m_spot m_begun m_doneSteps m_mixed m_fewest m_leastFees m_lots m_tars) H → va_S (zF g 64 580 s.heap.size) s.heap H locs → lv_has ls 5 [(0, .ref (g.2.1 64)), (1, .int x1), (2, .int x2), (3, .int x3)] → W p l e R s m args below meth c H locs cells slots Q (F0 m 62 ls [.int s1, .ref (g.2.1 64)]) := by
  obtain ⟨hx, hb, hr, hml, hown, hts, hK, hlk, hST⟩ := id hC
  have hB : ∀ q, (zF g 64 580 s.heap.size) q → zB g q := zF.base hI (Nat.le_of_ble_eq_true rfl) hST.1
  intro m_thrown m_refused s1 hf H locs ls hP hS hl
  have hk75 := mpM_share_75 (l := l) (e := e) (R := R) (below := below) (cells := cells) (slots := slots) (Q := Q) hI hC hR m_tape m_size m_place m_at m_fault m_faultAt m_clauses m_open m_fed m_readTold m_told m_readBeast m_beast m_readGate m_gate m_readList m_list m_lawMany m_readLawMany m_law m_readLaw m_stack m_known m_step m_steps m_now m_trial m_before m_kept m_works m_refusedSteps m_images m_spot m_begun m_doneSteps m_mixed m_fewest m_leastFees m_lots m_tars x1 x2 x3 N9 res hfin N9
  unfold pM_share_62 at hf
  refine lv_iconst (v := 2) hx hb dX10_share_62 (by decide) ?_
  refine lv_iconst (v := 1) hx hb dX10_share_63 (by decide) ?_
  obtain ⟨r_7, m_thrown_7, m_refused_7, hf_7, hf⟩ := zb3i hf
  refine zcallVi (As := [.int s1, .int 2, .int 1]) (rest := []) hC hP hS hB (fun q h => zF.mono hS.1 h) (cpM_bad l hI H.size m_thrown m_tape m_size m_place m_at m_fault m_faultAt m_clauses m_open m_fed m_refused m_readTold m_told m_readBeast m_beast m_readGate m_gate m_readList m_list m_lawMany m_readLawMany m_law m_readLaw m_stack m_known m_step m_steps m_now m_trial m_before m_kept m_works m_refusedSteps m_images m_spot m_begun m_doneSteps m_mixed m_fewest m_leastFees m_lots m_tars s1 (2 : Int32) (1 : Int32) N9 hf_7) (hC.ml mw_1531) yo_X10_bad 0 (zfM rfl) rfl rfl rfl hl.1 rfl (Nat.le_of_ble_eq_true rfl) ⟨by omega, by omega⟩ hR.2.2 dX10_share_64 (fun H locs hP hS _ _ => ?_)
  refine lv_if_eq (tgt := 72) hx hb dX10_share_67 (by decide) (fun hc_8 => ?_) (fun hc_8 => ?_)
  · have hf := zifp hc_8 hf
    refine lv_iconst (v := 0) hx hb dX10_share_72 (by decide) ?_
    refine lv_istore (lv' := [(4, .int 0), (0, .ref (g.2.1 64)), (1, .int x1), (2, .int x2), (3, .int x3)]) hx hb dX10_share_73 hl (by decide) rfl (fun ls hl => ?_)
    exact hk75 m_thrown_7 m_refused_7 0 hf H locs ls hP hS (lv_sub hl [1, 2, 3, 4, 0] rfl)
  · have hf := zifn hc_8 hf
    exact hk70 m_thrown_7 m_refused_7 hf H locs ls hP hS (lv_sub hl [] rfl)
set_option maxHeartbeats 4000000 in
set_option maxRecDepth 100000 in
theorem mpM_share_57 {p : Program} {l : Launch} {e : Env} {R : Room} {s : State} {m : MethodId} {args : Array Value} {below : List Frame} {meth : Method} {c : Code} {cells slots : Nat} {Q : State → Prop} {g : zG} (hI : zI g 581) (hC : zC g RX10 cX10_share 5 (some .int) p s m meth c args) (hR : 3 ≤ R.frames ∧ 60 * 3 ≤ R.locals ∧ cells ≤ R.cells ∧ slots ≤ R.slots) (m_tape : Int32) (m_size : Int32) (m_place : Int32) (m_at : Int32) (m_fault : Int32) (m_faultAt : Int32) (m_clauses : Int32) (m_open : Int32) (m_fed : Nat → Int32) (m_readTold : Nat → Int32) (m_told : Nat → Int32) (m_readBeast : Nat → Nat → Int32) (m_beast : Nat → Nat → Int32) (m_readGate : Nat → Nat → Int32) (m_gate : Nat → Nat → Int32) (m_readList : Nat → Nat → Int32) (m_list : Nat → Nat → Int32) (m_lawMany : Int32) (m_readLawMany : Int32) (m_law : Nat → Nat → Int32) (m_readLaw : Nat → Nat → Int32) (m_stack : Nat → Int32) (m_known : Nat → Int32) (m_step : Nat → Nat → Int32) (m_steps : Int32) (m_now : Nat → Int32) (m_trial : Nat → Int32) (m_before : Nat → Nat → Int32) (m_kept : Nat → Nat → Int32) (m_works : Int32) (m_refusedSteps : Int32) (m_images : Int32) (m_spot : Int32) (m_begun : Int32) (m_doneSteps : Int32) (m_mixed : Nat → Int32) (m_fewest : Nat → Int32) (m_leastFees : Nat → Int32) (m_lots : Int32) (m_tars : Int32) (x1 : Int32) (x2 : Int32) (x3 : Int32) (N9 : Nat)  (k62 : Int32 → (Nat → Int32) → Int32 → Option (Int32 × Int32 × (Nat → Int32))) (res : Int32 × Int32 × (Nat → Int32)) (hfin : ∀ (r0 : Int32) (m_thrown : Int32) (m_refused : Nat → Int32) (H : Heap) (locs : List Loc) (pc : Nat) (ls : Array Slot), (r0, m_thrown, m_refused) = res → va_P g.1 zcl (zM g m_thrown m_tape m_size m_place m_at m_fault m_faultAt m_clauses m_open m_fed m_refused m_readTold m_told m_readBeast m_beast m_readGate m_gate m_readList m_list m_lawMany m_readLawMany m_law m_readLaw m_stack m_known m_step m_steps m_now m_trial m_before m_kept m_works m_refusedSteps m_images m_spot m_begun m_doneSteps m_mixed m_fewest m_leastFees m_lots m_tars) H → va_S (zF g 64 580 s.heap.size) s.heap H locs → decode cX10_share pc = .ok (.ireturn, 1) → W p l e R s m args below meth c H locs cells slots Q (F0 m pc ls [.int r0])) (hk62 : ∀ (m_thrown : Int32) (m_refused : Nat → Int32) (s1 : Int32), k62 m_thrown m_refused s1 = some res → ∀ (H : Heap) (locs : List Loc) (ls : Array Slot), va_P g.1 zcl (zM g m_thrown m_tape m_size m_place m_at m_fault m_faultAt m_clauses m_open m_fed m_refused m_readTold m_told m_readBeast m_beast m_readGate m_gate m_readList m_list m_lawMany m_readLawMany m_law m_readLaw m_stack m_known m_step m_steps m_now m_trial m_before m_kept m_works m_refusedSteps m_images m_spot m_begun m_doneSteps m_mixed m_fewest m_leastFees m_lots m_tars) H → va_S (zF g 64 580 s.heap.size) s.heap H locs → lv_has ls 5 [(0, .ref (g.2.1 64)), (1, .int x1), (2, .int x2), (3, .int x3)] → W p l e R s m args below meth c H locs cells slots Q (F0 m 62 ls [.int s1, .ref (g.2.1 64)])) : ∀ (m_thrown : Int32) (m_refused : Nat → Int32), pM_share_57 N9 x1 x2 x3 k62 m_thrown m_refused = some res → ∀ (H : Heap) (locs : List Loc) (ls : Array Slot), va_P g.1 zcl (zM g m_thrown m_tape m_size m_place m_at m_fault m_faultAt m_clauses m_open m_fed m_refused m_readTold m_told m_readBeast m_beast m_readGate m_gate m_readList m_list m_lawMany m_readLawMany m_law m_readLaw m_stack m_known m_step m_steps m_now m_trial m_before m_kept m_works m_refusedSteps m_images m_spot m_begun m_doneSteps m_mixed m_fewest m_leastFees m_lots m_tars) H → va_S (zF g 64 580 s.heap.size) s.heap H locs → lv_has ls 5 [(0, .ref (g.2.1 64)), (1, .int x1), (2, .int x2), (3, .int x3)] → W p l e R s m args below meth c H locs cells slots Q (F0 m 57 ls [.ref (g.2.1 64)]) := by
  obtain ⟨hx, hb, hr, hml, hown, hts, hK, hlk, hST⟩ := id hC
  have hB : ∀ q, (zF g 64 580 s.heap.size) q → zB g q := zF.base hI (Nat.le_of_ble_eq_true rfl) hST.1
  intro m_thrown m_refused hf H locs ls hP hS hl
  unfold pM_share_57 at hf
  refine lv_iconst (v := 1) hx hb dX10_share_57 (by decide) ?_
  refine lv_goto (tgt := 62) hx hb dX10_share_58 (by decide) ?_
  exact hk62 m_thrown m_refused 1 hf H locs ls hP hS (lv_sub hl [0, 1, 2, 3] rfl)
set_option maxHeartbeats 4000000 in
set_option maxRecDepth 100000 in
theorem mpM_share_19 {p : Program} {l : Launch} {e : Env} {R : Room} {s : State} {m : MethodId} {args : Array Value} {below : List Frame} {meth : Method} {c : Code} {cells slots : Nat} {Q : State → Prop} {g : zG} (hI : zI g 581) (hC : zC g RX10 cX10_share 5 (some .int) p s m meth c args) (hR : 3 ≤ R.frames ∧ 60 * 3 ≤ R.locals ∧ cells ≤ R.cells ∧ slots ≤ R.slots) (m_tape : Int32) (m_size : Int32) (m_place : Int32) (m_at : Int32) (m_fault : Int32) (m_faultAt : Int32) (m_clauses : Int32) (m_open : Int32) (m_fed : Nat → Int32) (m_refused : Nat → Int32) (m_readTold : Nat → Int32) (m_told : Nat → Int32) (m_readBeast : Nat → Nat → Int32) (m_beast : Nat → Nat → Int32) (m_readGate : Nat → Nat → Int32) (m_gate : Nat → Nat → Int32) (m_readList : Nat → Nat → Int32) (m_list : Nat → Nat → Int32) (m_lawMany : Int32) (m_readLawMany : Int32) (m_law : Nat → Nat → Int32) (m_readLaw : Nat → Nat → Int32) (m_stack : Nat → Int32) (m_known : Nat → Int32) (m_step : Nat → Nat → Int32) (m_steps : Int32) (m_now : Nat → Int32) (m_trial : Nat → Int32) (m_before : Nat → Nat → Int32) (m_kept : Nat → Nat → Int32) (m_works : Int32) (m_refusedSteps : Int32) (m_images : Int32) (m_spot : Int32) (m_begun : Int32) (m_doneSteps : Int32) (m_mixed : Nat → Int32) (m_fewest : Nat → Int32) (m_leastFees : Nat → Int32) (m_lots : Int32) (m_tars : Int32) (x1 : Int32) (x2 : Int32) (x3 : Int32) (N9 : Nat)   (res : Int32 × Int32 × (Nat → Int32)) (hfin : ∀ (r0 : Int32) (m_thrown : Int32) (m_refused : Nat → Int32) (H : Heap) (locs : List Loc) (pc : Nat) (ls : Array Slot), (r0, m_thrown, m_refused) = res → va_P g.1 zcl (zM g m_thrown m_tape m_size m_place m_at m_fault m_faultAt m_clauses m_open m_fed m_refused m_readTold m_told m_readBeast m_beast m_readGate m_gate m_readList m_list m_lawMany m_readLawMany m_law m_readLaw m_stack m_known m_step m_steps m_now m_trial m_before m_kept m_works m_refusedSteps m_images m_spot m_begun m_doneSteps m_mixed m_fewest m_leastFees m_lots m_tars) H → va_S (zF g 64 580 s.heap.size) s.heap H locs → decode cX10_share pc = .ok (.ireturn, 1) → W p l e R s m args below meth c H locs cells slots Q (F0 m pc ls [.int r0])) : ∀ (m_thrown : Int32) (s1 : Int32), pM_share_19 N9 m_refused m_told m_now x1 x2 x3 m_thrown s1 = some res → ∀ (H : Heap) (locs : List Loc) (ls : Array Slot), va_P g.1 zcl (zM g m_thrown m_tape m_size m_place m_at m_fault m_faultAt m_clauses m_open m_fed m_refused m_readTold m_told m_readBeast m_beast m_readGate m_gate m_readList m_list m_lawMany m_readLawMany m_law m_readLaw m_stack m_known m_step m_steps m_now m_trial m_before m_kept m_works m_refusedSteps m_images m_spot m_begun m_doneSteps m_mixed m_fewest m_leastFees m_lots m_tars) H → va_S (zF g 64 580 s.heap.size) s.heap H locs → lv_has ls 5 [(0, .ref (g.2.1 64)), (1, .int x1), (2, .int x2), (3, .int x3)] → W p l e R s m args below meth c H locs cells slots Q (F0 m 19 ls [.int s1, .ref (g.2.1 64)]) := by
  obtain ⟨hx, hb, hr, hml, hown, hts, hK, hlk, hST⟩ := id hC
  have hB : ∀ q, (zF g 64 580 s.heap.size) q → zB g q := zF.base hI (Nat.le_of_ble_eq_true rfl) hST.1
  intro m_thrown s1 hf H locs ls hP hS hl
  have hk70 := mpM_share_70 (l := l) (e := e) (R := R) (below := below) (cells := cells) (slots := slots) (Q := Q) hI hC hR m_tape m_size m_place m_at m_fault m_faultAt m_clauses m_open m_fed m_readTold m_told m_readBeast m_beast m_readGate m_gate m_readList m_list m_lawMany m_readLawMany m_law m_readLaw m_stack m_known m_step m_steps m_now m_trial m_before m_kept m_works m_refusedSteps m_images m_spot m_begun m_doneSteps m_mixed m_fewest m_leastFees m_lots m_tars N9 res hfin
  have hk62 := mpM_share_62 (l := l) (e := e) (R := R) (below := below) (cells := cells) (slots := slots) (Q := Q) hI hC hR m_tape m_size m_place m_at m_fault m_faultAt m_clauses m_open m_fed m_readTold m_told m_readBeast m_beast m_readGate m_gate m_readList m_list m_lawMany m_readLawMany m_law m_readLaw m_stack m_known m_step m_steps m_now m_trial m_before m_kept m_works m_refusedSteps m_images m_spot m_begun m_doneSteps m_mixed m_fewest m_leastFees m_lots m_tars x1 x2 x3 N9 (pM_share_70 N9) res hfin hk70
  have hk57 := mpM_share_57 (l := l) (e := e) (R := R) (below := below) (cells := cells) (slots := slots) (Q := Q) hI hC hR m_tape m_size m_place m_at m_fault m_faultAt m_clauses m_open m_fed m_readTold m_told m_readBeast m_beast m_readGate m_gate m_readList m_list m_lawMany m_readLawMany m_law m_readLaw m_stack m_known m_step m_steps m_now m_trial m_before m_kept m_works m_refusedSteps m_images m_spot m_begun m_doneSteps m_mixed m_fewest m_leastFees m_lots m_tars x1 x2 x3 N9 (pM_share_62 N9 m_told m_now x1 x2 x3 (pM_share_70 N9)) res hfin hk62
  unfold pM_share_19 at hf
  refine lv_iconst (v := 1) hx hb dX10_share_19 (by decide) ?_
  refine lv_iconst (v := 0) hx hb dX10_share_20 (by decide) ?_
  obtain ⟨r_9, m_thrown_9, m_refused_9, hf_9, hf⟩ := zb3i hf
  refine zcallVi (As := [.int s1, .int 1, .int 0]) (rest := []) hC hP hS hB (fun q h => zF.mono hS.1 h) (cpM_bad l hI H.size m_thrown m_tape m_size m_place m_at m_fault m_faultAt m_clauses m_open m_fed m_refused m_readTold m_told m_readBeast m_beast m_readGate m_gate m_readList m_list m_lawMany m_readLawMany m_law m_readLaw m_stack m_known m_step m_steps m_now m_trial m_before m_kept m_works m_refusedSteps m_images m_spot m_begun m_doneSteps m_mixed m_fewest m_leastFees m_lots m_tars s1 (1 : Int32) (0 : Int32) N9 hf_9) (hC.ml mw_1531) yo_X10_bad 0 (zfM rfl) rfl rfl rfl hl.1 rfl (Nat.le_of_ble_eq_true rfl) ⟨by omega, by omega⟩ hR.2.2 dX10_share_21 (fun H locs hP hS _ _ => ?_)
  refine lv_if_ne (tgt := 70) hx hb dX10_share_24 (by decide) (fun hc_10 => ?_) (fun hc_10 => ?_)
  · have hf := zifn hc_10 hf
    exact hk70 m_thrown_9 m_refused_9 hf H locs ls hP hS (lv_sub hl [] rfl)
  · have hf := zifp hc_10 hf
    refine lv_aload_n hx hb dX10_share_27 rfl (lv_at hl 0 rfl) ?_
    refine lv_iload_n hx hb dX10_share_28 rfl (lv_at hl 2 rfl) ?_
    refine lv_iconst (v := 0) hx hb dX10_share_29 (by decide) ?_
    refine lv_iconst (v := 1) hx hb dX10_share_30 (by decide) ?_
    refine lv_aload_n hx hb dX10_share_31 rfl (lv_at hl 0 rfl) ?_
    refine zr_m_told hC hP (hC.fl mw_1401) dX10_share_32 ?_
    refine lv_iconst (v := 1) hx hb dX10_share_35 (by decide) ?_
    obtain ⟨hz_11, hf⟩ := zite hf
    refine zl_m_told hC hP hz_11 dX10_share_36 ?_
    refine lv_ishl hx hb dX10_share_37 ?_
    refine lv_iconst (v := 1) hx hb dX10_share_38 (by decide) ?_
    refine lv_isub hx hb dX10_share_39 ?_
    obtain ⟨r_12, hf_12, hf⟩ := zb1i hf
    refine zcallP (As := [.int x2, .int 0, .int (((1 : Int32) <<< ((m_told (1 : Int32).toNatClampNeg) &&& 31)) - 1)]) (rest := [.ref (g.2.1 64)]) hC hS hB (cpM_in l hI x2 (0 : Int32) (((1 : Int32) <<< ((m_told (1 : Int32).toNatClampNeg) &&& 31)) - 1) N9 hf_12) (hC.ml mw_1528) yo_X10_in rfl hl.1 rfl (Nat.le_of_ble_eq_true rfl) ⟨by omega, by omega⟩ hR.2.2 dX10_share_40 (fun H locs hPk hS _ => ?_)
    have hP := hPk _ _ _ hP
    refine lv_if_eq (tgt := 57) hx hb dX10_share_43 (by decide) (fun hc_13 => ?_) (fun hc_13 => ?_)
    · have hf := zifp hc_13 hf
      exact hk57 m_thrown_9 m_refused_9 hf H locs ls hP hS (lv_sub hl [0, 1, 2, 3] rfl)
    · have hf := zifn hc_13 hf
      refine lv_iload_n hx hb dX10_share_46 rfl (lv_at hl 3 rfl) ?_
      refine lv_iconst (v := 0) hx hb dX10_share_47 (by decide) ?_
      refine lv_sipush (v := 999) hx hb dX10_share_48 (by decide) ?_
      obtain ⟨r_14, hf_14, hf⟩ := zb1i hf
      refine zcallP (As := [.int x3, .int 0, .int 999]) (rest := [.ref (g.2.1 64)]) hC hS hB (cpM_in l hI x3 (0 : Int32) (999 : Int32) N9 hf_14) (hC.ml mw_1528) yo_X10_in rfl hl.1 rfl (Nat.le_of_ble_eq_true rfl) ⟨by omega, by omega⟩ hR.2.2 dX10_share_51 (fun H locs hPk hS _ => ?_)
      have hP := hPk _ _ _ hP
      refine lv_if_ne (tgt := 61) hx hb dX10_share_54 (by decide) (fun hc_15 => ?_) (fun hc_15 => ?_)
      · have hf := zifn hc_15 hf
        refine lv_iconst (v := 0) hx hb dX10_share_61 (by decide) ?_
        exact hk62 m_thrown_9 m_refused_9 0 hf H locs ls hP hS (lv_sub hl [0, 1, 2, 3] rfl)
      · have hf := zifp hc_15 hf
        exact hk57 m_thrown_9 m_refused_9 hf H locs ls hP hS (lv_sub hl [0, 1, 2, 3] rfl)
set_option maxHeartbeats 4000000 in
set_option maxRecDepth 100000 in
theorem mpM_share {p : Program} {l : Launch} {e : Env} {R : Room} {s : State} {m : MethodId} {args : Array Value} {below : List Frame} {meth : Method} {c : Code} {cells slots : Nat} {Q : State → Prop} {g : zG} (hI : zI g 581) (hC : zC g RX10 cX10_share 5 (some .int) p s m meth c args) (hR : 3 ≤ R.frames ∧ 60 * 3 ≤ R.locals ∧ cells ≤ R.cells ∧ slots ≤ R.slots) (m_thrown : Int32) (m_tape : Int32) (m_size : Int32) (m_place : Int32) (m_at : Int32) (m_fault : Int32) (m_faultAt : Int32) (m_clauses : Int32) (m_open : Int32) (m_fed : Nat → Int32) (m_refused : Nat → Int32) (m_readTold : Nat → Int32) (m_told : Nat → Int32) (m_readBeast : Nat → Nat → Int32) (m_beast : Nat → Nat → Int32) (m_readGate : Nat → Nat → Int32) (m_gate : Nat → Nat → Int32) (m_readList : Nat → Nat → Int32) (m_list : Nat → Nat → Int32) (m_lawMany : Int32) (m_readLawMany : Int32) (m_law : Nat → Nat → Int32) (m_readLaw : Nat → Nat → Int32) (m_stack : Nat → Int32) (m_known : Nat → Int32) (m_step : Nat → Nat → Int32) (m_steps : Int32) (m_now : Nat → Int32) (m_trial : Nat → Int32) (m_before : Nat → Nat → Int32) (m_kept : Nat → Nat → Int32) (m_works : Int32) (m_refusedSteps : Int32) (m_images : Int32) (m_spot : Int32) (m_begun : Int32) (m_doneSteps : Int32) (m_mixed : Nat → Int32) (m_fewest : Nat → Int32) (m_leastFees : Nat → Int32) (m_lots : Int32) (m_tars : Int32) (x1 : Int32) (x2 : Int32) (x3 : Int32) (N9 : Nat)   (res : Int32 × Int32 × (Nat → Int32)) (hfin : ∀ (r0 : Int32) (m_thrown : Int32) (m_refused : Nat → Int32) (H : Heap) (locs : List Loc) (pc : Nat) (ls : Array Slot), (r0, m_thrown, m_refused) = res → va_P g.1 zcl (zM g m_thrown m_tape m_size m_place m_at m_fault m_faultAt m_clauses m_open m_fed m_refused m_readTold m_told m_readBeast m_beast m_readGate m_gate m_readList m_list m_lawMany m_readLawMany m_law m_readLaw m_stack m_known m_step m_steps m_now m_trial m_before m_kept m_works m_refusedSteps m_images m_spot m_begun m_doneSteps m_mixed m_fewest m_leastFees m_lots m_tars) H → va_S (zF g 64 580 s.heap.size) s.heap H locs → decode cX10_share pc = .ok (.ireturn, 1) → W p l e R s m args below meth c H locs cells slots Q (F0 m pc ls [.int r0])) : pM_share N9 m_thrown m_refused m_told m_now x1 x2 x3 = some res → ∀ (H : Heap) (locs : List Loc) (ls : Array Slot), va_P g.1 zcl (zM g m_thrown m_tape m_size m_place m_at m_fault m_faultAt m_clauses m_open m_fed m_refused m_readTold m_told m_readBeast m_beast m_readGate m_gate m_readList m_list m_lawMany m_readLawMany m_law m_readLaw m_stack m_known m_step m_steps m_now m_trial m_before m_kept m_works m_refusedSteps m_images m_spot m_begun m_doneSteps m_mixed m_fewest m_leastFees m_lots m_tars) H → va_S (zF g 64 580 s.heap.size) s.heap H locs → lv_has ls 5 [(0, .ref (g.2.1 64)), (1, .int x1), (2, .int x2), (3, .int x3)] → W p l e R s m args below meth c H locs cells slots Q (F0 m 0 ls []) := by
  obtain ⟨hx, hb, hr, hml, hown, hts, hK, hlk, hST⟩ := id hC
  have hB : ∀ q, (zF g 64 580 s.heap.size) q → zB g q := zF.base hI (Nat.le_of_ble_eq_true rfl) hST.1
  intro  hf H locs ls hP hS hl
  have hk19 := mpM_share_19 (l := l) (e := e) (R := R) (below := below) (cells := cells) (slots := slots) (Q := Q) hI hC hR m_tape m_size m_place m_at m_fault m_faultAt m_clauses m_open m_fed m_refused m_readTold m_told m_readBeast m_beast m_readGate m_gate m_readList m_list m_lawMany m_readLawMany m_law m_readLaw m_stack m_known m_step m_steps m_now m_trial m_before m_kept m_works m_refusedSteps m_images m_spot m_begun m_doneSteps m_mixed m_fewest m_leastFees m_lots m_tars x1 x2 x3 N9 res hfin
  unfold pM_share at hf
  refine lv_aload_n hx hb dX10_share_0 rfl (lv_at hl 0 rfl) ?_
  refine lv_iconst (v := 0) hx hb dX10_share_1 (by decide) ?_
  refine zp_m_thrown hC hP hI (fun k h1 h2 => zF.own h1 h2) hS (hC.fl mw_1389) dX10_share_2 (fun H locs hP hS => ?_)
  refine lv_aload_n hx hb dX10_share_5 rfl (lv_at hl 0 rfl) ?_
  refine lv_aload_n hx hb dX10_share_6 rfl (lv_at hl 0 rfl) ?_
  refine lv_iload_n hx hb dX10_share_7 rfl (lv_at hl 1 rfl) ?_
  obtain ⟨r_16, hf_16, hf⟩ := zb1i hf
  refine zcallVi (As := [.int x1]) (rest := [.ref (g.2.1 64)]) hC hP hS hB (fun q h => zF.mono hS.1 h) (cpM_isGate l hI H.size 0 m_tape m_size m_place m_at m_fault m_faultAt m_clauses m_open m_fed m_refused m_readTold m_told m_readBeast m_beast m_readGate m_gate m_readList m_list m_lawMany m_readLawMany m_law m_readLaw m_stack m_known m_step m_steps m_now m_trial m_before m_kept m_works m_refusedSteps m_images m_spot m_begun m_doneSteps m_mixed m_fewest m_leastFees m_lots m_tars x1 N9 hf_16) (hC.ml mw_1738) yo_X10_isGate 0 (zfM rfl) rfl rfl rfl hl.1 rfl (Nat.le_of_ble_eq_true rfl) ⟨by omega, by omega⟩ hR.2.2 dX10_share_8 (fun H locs hP hS _ _ => ?_)
  refine lv_if_ne (tgt := 18) hx hb dX10_share_11 (by decide) (fun hc_17 => ?_) (fun hc_17 => ?_)
  · have hf := zifn hc_17 hf
    refine lv_iconst (v := 0) hx hb dX10_share_18 (by decide) ?_
    exact hk19 0 0 hf H locs ls hP hS (lv_sub hl [0, 1, 2, 3] rfl)
  · have hf := zifp hc_17 hf
    refine lv_iconst (v := 1) hx hb dX10_share_14 (by decide) ?_
    refine lv_goto (tgt := 19) hx hb dX10_share_15 (by decide) ?_
    exact hk19 0 1 hf H locs ls hP hS (lv_sub hl [0, 1, 2, 3] rfl)
set_option maxHeartbeats 4000000 in
set_option maxRecDepth 100000 in
theorem cpM_share (l : Launch) {g : zG} (hI : zI g 581) (sz : Nat) (m_thrown : Int32) (m_tape : Int32) (m_size : Int32) (m_place : Int32) (m_at : Int32) (m_fault : Int32) (m_faultAt : Int32) (m_clauses : Int32) (m_open : Int32) (m_fed : Nat → Int32) (m_refused : Nat → Int32) (m_readTold : Nat → Int32) (m_told : Nat → Int32) (m_readBeast : Nat → Nat → Int32) (m_beast : Nat → Nat → Int32) (m_readGate : Nat → Nat → Int32) (m_gate : Nat → Nat → Int32) (m_readList : Nat → Nat → Int32) (m_list : Nat → Nat → Int32) (m_lawMany : Int32) (m_readLawMany : Int32) (m_law : Nat → Nat → Int32) (m_readLaw : Nat → Nat → Int32) (m_stack : Nat → Int32) (m_known : Nat → Int32) (m_step : Nat → Nat → Int32) (m_steps : Int32) (m_now : Nat → Int32) (m_trial : Nat → Int32) (m_before : Nat → Nat → Int32) (m_kept : Nat → Nat → Int32) (m_works : Int32) (m_refusedSteps : Int32) (m_images : Int32) (m_spot : Int32) (m_begun : Int32) (m_doneSteps : Int32) (m_mixed : Nat → Int32) (m_fewest : Nat → Int32) (m_leastFees : Nat → Int32) (m_lots : Int32) (m_tars : Int32) (x1 : Int32)  (x2 : Int32)  (x3 : Int32) (N9 : Nat) {r0 : Int32} {m_thrown' : Int32} {m_refused' : Nat → Int32} (hf : pM_share N9  m_thrown m_refused m_told m_now x1 x2 x3 = some (r0, m_thrown', m_refused')) : zMi l yX10_share cX10_share 5 (some .int) 3 g (zM g m_thrown m_tape m_size m_place m_at m_fault m_faultAt m_clauses m_open m_fed m_refused m_readTold m_told m_readBeast m_beast m_readGate m_gate m_readList m_list m_lawMany m_readLawMany m_law m_readLaw m_stack m_known m_step m_steps m_now m_trial m_before m_kept m_works m_refusedSteps m_images m_spot m_begun m_doneSteps m_mixed m_fewest m_leastFees m_lots m_tars) (zM g m_thrown' m_tape m_size m_place m_at m_fault m_faultAt m_clauses m_open m_fed m_refused' m_readTold m_told m_readBeast m_beast m_readGate m_gate m_readList m_list m_lawMany m_readLawMany m_law m_readLaw m_stack m_known m_step m_steps m_now m_trial m_before m_kept m_works m_refusedSteps m_images m_spot m_begun m_doneSteps m_mixed m_fewest m_leastFees m_lots m_tars) sz (zF g 64 580 sz) [.ref (g.2.1 64), .int x1, .int x2, .int x3] r0 := by
  refine Met.ofW (cc := cX10_share) (maxL := 5) (ret := (some .int)) (by decide +kernel) rfl ?_
  intro p e s m args below meth c s₁ B hml hv
  obtain ⟨rfl, hsz, hP, hK, hST⟩ := hv
  subst hsz
  have hC := zstart (own := RX10) rfl B hml hK hST
  have hl := lv_entry ([.ref (g.2.1 64), .int x1, .int x2, .int x3]) (n := 5) (Nat.le_of_ble_eq_true rfl)
  rw [lg_entry_eq]
  generalize (lg_sl ([.ref (g.2.1 64), .int x1, .int x2, .int x3]) ++ List.replicate (5 - (lg_sl ([.ref (g.2.1 64), .int x1, .int x2, .int x3])).length) Slot.unset).toArray = ls at hl ⊢
  have hl : lv_has ls 5 [(0, .ref (g.2.1 64)), (1, .int x1), (2, .int x2), (3, .int x3)] := hl
  obtain ⟨hx, hb, hr, hml, hown, hts, hK, hlk, hST⟩ := id hC
  refine mpM_share hI hC ⟨Nat.le_refl _, Nat.le_refl _, Nat.le_refl _, Nat.le_refl _⟩ m_thrown m_tape m_size m_place m_at m_fault m_faultAt m_clauses m_open m_fed m_refused m_readTold m_told m_readBeast m_beast m_readGate m_gate m_readList m_list m_lawMany m_readLawMany m_law m_readLaw m_stack m_known m_step m_steps m_now m_trial m_before m_kept m_works m_refusedSteps m_images m_spot m_begun m_doneSteps m_mixed m_fewest m_leastFees m_lots m_tars x1 x2 x3 N9 (r0, m_thrown', m_refused') ?_ hf _ _ ls hP va_S.rf hl
  intro r1 m_thrown1 m_refused1 H locs pc ls he hP hS hd
  cases he
  exact W.iret hx hb hr (fun t ht hW => ⟨⟨_, (), rfl, rfl, by rw [← ht] at hP; exact hP⟩, hS.F ht⟩) hS.2.2 hd hlk
/-! StripeTradeModel.draw (I)I [('obj', 'm')] -/
set_option maxHeartbeats 4000000 in
set_option maxRecDepth 100000 in
theorem mpM_draw {p : Program} {l : Launch} {e : Env} {R : Room} {s : State} {m : MethodId} {args : Array Value} {below : List Frame} {meth : Method} {c : Code} {cells slots : Nat} {Q : State → Prop} {g : zG} (hI : zI g 581) (hC : zC g RX10 cX10_draw 2 (some .int) p s m meth c args) (hR : 1 ≤ R.frames ∧ 60 * 1 ≤ R.locals ∧ cells ≤ R.cells ∧ slots ≤ R.slots) (m_thrown : Int32) (m_tape : Int32) (m_size : Int32) (m_place : Int32) (m_at : Int32) (m_fault : Int32) (m_faultAt : Int32) (m_clauses : Int32) (m_open : Int32) (m_fed : Nat → Int32) (m_refused : Nat → Int32) (m_readTold : Nat → Int32) (m_told : Nat → Int32) (m_readBeast : Nat → Nat → Int32) (m_beast : Nat → Nat → Int32) (m_readGate : Nat → Nat → Int32) (m_gate : Nat → Nat → Int32) (m_readList : Nat → Nat → Int32) (m_list : Nat → Nat → Int32) (m_lawMany : Int32) (m_readLawMany : Int32) (m_law : Nat → Nat → Int32) (m_readLaw : Nat → Nat → Int32) (m_stack : Nat → Int32) (m_known : Nat → Int32) (m_step : Nat → Nat → Int32) (m_steps : Int32) (m_now : Nat → Int32) (m_trial : Nat → Int32) (m_before : Nat → Nat → Int32) (m_kept : Nat → Nat → Int32) (m_works : Int32) (m_refusedSteps : Int32) (m_images : Int32) (m_spot : Int32) (m_begun : Int32) (m_doneSteps : Int32) (m_mixed : Nat → Int32) (m_fewest : Nat → Int32) (m_leastFees : Nat → Int32) (m_lots : Int32) (m_tars : Int32) (x1 : Int32) (N9 : Nat)   (res : Int32 × Int32) (hfin : ∀ (r0 : Int32) (m_lots : Int32) (H : Heap) (locs : List Loc) (pc : Nat) (ls : Array Slot), (r0, m_lots) = res → va_P g.1 zcl (zM g m_thrown m_tape m_size m_place m_at m_fault m_faultAt m_clauses m_open m_fed m_refused m_readTold m_told m_readBeast m_beast m_readGate m_gate m_readList m_list m_lawMany m_readLawMany m_law m_readLaw m_stack m_known m_step m_steps m_now m_trial m_before m_kept m_works m_refusedSteps m_images m_spot m_begun m_doneSteps m_mixed m_fewest m_leastFees m_lots m_tars) H → va_S (zF g 64 580 s.heap.size) s.heap H locs → decode cX10_draw pc = .ok (.ireturn, 1) → W p l e R s m args below meth c H locs cells slots Q (F0 m pc ls [.int r0])) : pM_draw N9 m_lots x1 = some res → ∀ (H : Heap) (locs : List Loc) (ls : Array Slot), va_P g.1 zcl (zM g m_thrown m_tape m_size m_place m_at m_fault m_faultAt m_clauses m_open m_fed m_refused m_readTold m_told m_readBeast m_beast m_readGate m_gate m_readList m_list m_lawMany m_readLawMany m_law m_readLaw m_stack m_known m_step m_steps m_now m_trial m_before m_kept m_works m_refusedSteps m_images m_spot m_begun m_doneSteps m_mixed m_fewest m_leastFees m_lots m_tars) H → va_S (zF g 64 580 s.heap.size) s.heap H locs → lv_has ls 2 [(0, .ref (g.2.1 64)), (1, .int x1)] → W p l e R s m args below meth c H locs cells slots Q (F0 m 0 ls []) := by
  obtain ⟨hx, hb, hr, hml, hown, hts, hK, hlk, hST⟩ := id hC
  have hB : ∀ q, (zF g 64 580 s.heap.size) q → zB g q := zF.base hI (Nat.le_of_ble_eq_true rfl) hST.1
  intro  hf H locs ls hP hS hl
  unfold pM_draw at hf
  refine lv_aload_n hx hb dX10_draw_0 rfl (lv_at hl 0 rfl) ?_
  refine lv_aload_n hx hb dX10_draw_1 rfl (lv_at hl 0 rfl) ?_
  refine zg_m_lots hC hP (hC.fl mw_1429) dX10_draw_2 ?_
  refine lv_ldcw (v := 1103515245) hx hb hown (hts _ mw_1904) dX10_draw_5 ?_
  refine lv_imul hx hb dX10_draw_8 ?_
  refine lv_sipush (v := 12345) hx hb dX10_draw_9 (by decide) ?_
  refine lv_iadd hx hb dX10_draw_12 ?_
  refine lv_topi (fun v_1 ev_1 => ?_)
  have hf := zleti ev_1 hf
  refine zp_m_lots hC hP hI (fun k h1 h2 => zF.own h1 h2) hS (hC.fl mw_1429) dX10_draw_13 (fun H locs hP hS => ?_)
  refine lv_aload_n hx hb dX10_draw_16 rfl (lv_at hl 0 rfl) ?_
  refine zg_m_lots hC hP (hC.fl mw_1429) dX10_draw_17 ?_
  refine lv_bipush (v := 16) hx hb dX10_draw_20 (by decide) ?_
  refine lv_ishr hx hb dX10_draw_22 ?_
  refine lv_sipush (v := 32767) hx hb dX10_draw_23 (by decide) ?_
  refine lv_iand hx hb dX10_draw_26 ?_
  refine lv_iload_n hx hb dX10_draw_27 rfl (lv_at hl 1 rfl) ?_
  obtain ⟨hd_2, hf⟩ := zite hf
  refine lv_irem hx hb dX10_draw_28 hd_2 ?_
  exact hfin _ _ H locs _ ls (Option.some.inj hf) hP hS dX10_draw_29
set_option maxHeartbeats 4000000 in
set_option maxRecDepth 100000 in
theorem cpM_draw (l : Launch) {g : zG} (hI : zI g 581) (sz : Nat) (m_thrown : Int32) (m_tape : Int32) (m_size : Int32) (m_place : Int32) (m_at : Int32) (m_fault : Int32) (m_faultAt : Int32) (m_clauses : Int32) (m_open : Int32) (m_fed : Nat → Int32) (m_refused : Nat → Int32) (m_readTold : Nat → Int32) (m_told : Nat → Int32) (m_readBeast : Nat → Nat → Int32) (m_beast : Nat → Nat → Int32) (m_readGate : Nat → Nat → Int32) (m_gate : Nat → Nat → Int32) (m_readList : Nat → Nat → Int32) (m_list : Nat → Nat → Int32) (m_lawMany : Int32) (m_readLawMany : Int32) (m_law : Nat → Nat → Int32) (m_readLaw : Nat → Nat → Int32) (m_stack : Nat → Int32) (m_known : Nat → Int32) (m_step : Nat → Nat → Int32) (m_steps : Int32) (m_now : Nat → Int32) (m_trial : Nat → Int32) (m_before : Nat → Nat → Int32) (m_kept : Nat → Nat → Int32) (m_works : Int32) (m_refusedSteps : Int32) (m_images : Int32) (m_spot : Int32) (m_begun : Int32) (m_doneSteps : Int32) (m_mixed : Nat → Int32) (m_fewest : Nat → Int32) (m_leastFees : Nat → Int32) (m_lots : Int32) (m_tars : Int32) (x1 : Int32) (N9 : Nat) {r0 : Int32} {m_lots' : Int32} (hf : pM_draw N9  m_lots x1 = some (r0, m_lots')) : zMi l yX10_draw cX10_draw 2 (some .int) 1 g (zM g m_thrown m_tape m_size m_place m_at m_fault m_faultAt m_clauses m_open m_fed m_refused m_readTold m_told m_readBeast m_beast m_readGate m_gate m_readList m_list m_lawMany m_readLawMany m_law m_readLaw m_stack m_known m_step m_steps m_now m_trial m_before m_kept m_works m_refusedSteps m_images m_spot m_begun m_doneSteps m_mixed m_fewest m_leastFees m_lots m_tars) (zM g m_thrown m_tape m_size m_place m_at m_fault m_faultAt m_clauses m_open m_fed m_refused m_readTold m_told m_readBeast m_beast m_readGate m_gate m_readList m_list m_lawMany m_readLawMany m_law m_readLaw m_stack m_known m_step m_steps m_now m_trial m_before m_kept m_works m_refusedSteps m_images m_spot m_begun m_doneSteps m_mixed m_fewest m_leastFees m_lots' m_tars) sz (zF g 64 580 sz) [.ref (g.2.1 64), .int x1] r0 := by
  refine Met.ofW (cc := cX10_draw) (maxL := 2) (ret := (some .int)) (by decide +kernel) rfl ?_
  intro p e s m args below meth c s₁ B hml hv
  obtain ⟨rfl, hsz, hP, hK, hST⟩ := hv
  subst hsz
  have hC := zstart (own := RX10) rfl B hml hK hST
  have hl := lv_entry ([.ref (g.2.1 64), .int x1]) (n := 2) (Nat.le_of_ble_eq_true rfl)
  rw [lg_entry_eq]
  generalize (lg_sl ([.ref (g.2.1 64), .int x1]) ++ List.replicate (2 - (lg_sl ([.ref (g.2.1 64), .int x1])).length) Slot.unset).toArray = ls at hl ⊢
  have hl : lv_has ls 2 [(0, .ref (g.2.1 64)), (1, .int x1)] := hl
  obtain ⟨hx, hb, hr, hml, hown, hts, hK, hlk, hST⟩ := id hC
  refine mpM_draw hI hC ⟨Nat.le_refl _, Nat.le_refl _, Nat.le_refl _, Nat.le_refl _⟩ m_thrown m_tape m_size m_place m_at m_fault m_faultAt m_clauses m_open m_fed m_refused m_readTold m_told m_readBeast m_beast m_readGate m_gate m_readList m_list m_lawMany m_readLawMany m_law m_readLaw m_stack m_known m_step m_steps m_now m_trial m_before m_kept m_works m_refusedSteps m_images m_spot m_begun m_doneSteps m_mixed m_fewest m_leastFees m_lots m_tars x1 N9 (r0, m_lots') ?_ hf _ _ ls hP va_S.rf hl
  intro r1 m_lots1 H locs pc ls he hP hS hd
  cases he
  exact W.iret hx hb hr (fun t ht hW => ⟨⟨_, (), rfl, rfl, by rw [← ht] at hP; exact hP⟩, hS.F ht⟩) hS.2.2 hd hlk
/-! StripeTradeModel.paints ([IIII)Z [('arr', 'm_trial')] -/
set_option maxHeartbeats 4000000 in
set_option maxRecDepth 100000 in
theorem mpM_paints_i1 {p : Program} {l : Launch} {e : Env} {R : Room} {s : State} {m : MethodId} {args : Array Value} {below : List Frame} {meth : Method} {c : Code} {cells slots : Nat} {Q : State → Prop} {g : zG} (hI : zI g 581) (hC : zC g RX10 cX10_paints 4 (some .boolean) p s m meth c args) (hR : 1 ≤ R.frames ∧ 60 * 1 ≤ R.locals ∧ cells ≤ R.cells ∧ slots ≤ R.slots) (m_thrown : Int32) (m_tape : Int32) (m_size : Int32) (m_place : Int32) (m_at : Int32) (m_fault : Int32) (m_faultAt : Int32) (m_clauses : Int32) (m_open : Int32) (m_fed : Nat → Int32) (m_refused : Nat → Int32) (m_readTold : Nat → Int32) (m_told : Nat → Int32) (m_readBeast : Nat → Nat → Int32) (m_beast : Nat → Nat → Int32) (m_readGate : Nat → Nat → Int32) (m_gate : Nat → Nat → Int32) (m_readList : Nat → Nat → Int32) (m_list : Nat → Nat → Int32) (m_lawMany : Int32) (m_readLawMany : Int32) (m_law : Nat → Nat → Int32) (m_readLaw : Nat → Nat → Int32) (m_stack : Nat → Int32) (m_known : Nat → Int32) (m_step : Nat → Nat → Int32) (m_steps : Int32) (m_now : Nat → Int32) (m_trial : Nat → Int32) (m_before : Nat → Nat → Int32) (m_kept : Nat → Nat → Int32) (m_works : Int32) (m_refusedSteps : Int32) (m_images : Int32) (m_spot : Int32) (m_begun : Int32) (m_doneSteps : Int32) (m_mixed : Nat → Int32) (m_fewest : Nat → Int32) (m_leastFees : Nat → Int32) (m_lots : Int32) (m_tars : Int32) (x1 : Int32) (x2 : Int32) (x3 : Int32) (N9 : Nat)   (res : Int32 × (Nat → Int32)) (hfin : ∀ (r0 : Int32) (m_trial : Nat → Int32) (H : Heap) (locs : List Loc) (pc : Nat) (ls : Array Slot), (r0, m_trial) = res → r0 &&& 1 = r0 → va_P g.1 zcl (zM g m_thrown m_tape m_size m_place m_at m_fault m_faultAt m_clauses m_open m_fed m_refused m_readTold m_told m_readBeast m_beast m_readGate m_gate m_readList m_list m_lawMany m_readLawMany m_law m_readLaw m_stack m_known m_step m_steps m_now m_trial m_before m_kept m_works m_refusedSteps m_images m_spot m_begun m_doneSteps m_mixed m_fewest m_leastFees m_lots m_tars) H → va_S (zF g 64 580 s.heap.size) s.heap H locs → decode cX10_paints pc = .ok (.ireturn, 1) → W p l e R s m args below meth c H locs cells slots Q (F0 m pc ls [.int r0])) : pM_paints_i1 N9 m_trial x1 x2 x3 = some res → ∀ (H : Heap) (locs : List Loc) (ls : Array Slot), va_P g.1 zcl (zM g m_thrown m_tape m_size m_place m_at m_fault m_faultAt m_clauses m_open m_fed m_refused m_readTold m_told m_readBeast m_beast m_readGate m_gate m_readList m_list m_lawMany m_readLawMany m_law m_readLaw m_stack m_known m_step m_steps m_now m_trial m_before m_kept m_works m_refusedSteps m_images m_spot m_begun m_doneSteps m_mixed m_fewest m_leastFees m_lots m_tars) H → va_S (zF g 64 580 s.heap.size) s.heap H locs → lv_has ls 4 [(0, .ref (g.2.1 81)), (1, .int x1), (2, .int x2), (3, .int x3)] → W p l e R s m args below meth c H locs cells slots Q (F0 m 0 ls []) := by
  obtain ⟨hx, hb, hr, hml, hown, hts, hK, hlk, hST⟩ := id hC
  have hB : ∀ q, (zF g 64 580 s.heap.size) q → zB g q := zF.base hI (Nat.le_of_ble_eq_true rfl) hST.1
  intro  hf H locs ls hP hS hl
  unfold pM_paints_i1 at hf
  refine lv_aload_n hx hb dX10_paints_0 rfl (lv_at hl 0 rfl) ?_
  refine lv_iconst (v := 0) hx hb dX10_paints_1 (by decide) ?_
  refine lv_iload_n hx hb dX10_paints_2 rfl (lv_at hl 1 rfl) ?_
  refine lv_iadd hx hb dX10_paints_3 ?_
  obtain ⟨hz_1, hf⟩ := zite hf
  refine zl_m_trial hC hP hz_1 dX10_paints_4 ?_
  refine lv_iload_n hx hb dX10_paints_5 rfl (lv_at hl 2 rfl) ?_
  refine lv_ishr hx hb dX10_paints_6 ?_
  refine lv_iconst (v := 1) hx hb dX10_paints_7 (by decide) ?_
  refine lv_iand hx hb dX10_paints_8 ?_
  refine lv_iload_n hx hb dX10_paints_9 rfl (lv_at hl 3 rfl) ?_
  refine lv_icmp_ne (tgt := 15) hx hb dX10_paints_10 (by decide) (fun hc_2 => ?_) (fun hc_2 => ?_)
  · have hf := zifn hc_2 hf
    refine lv_aload_n hx hb dX10_paints_15 rfl (lv_at hl 0 rfl) ?_
    refine lv_iconst (v := 0) hx hb dX10_paints_16 (by decide) ?_
    refine lv_iload_n hx hb dX10_paints_17 rfl (lv_at hl 1 rfl) ?_
    refine lv_iadd hx hb dX10_paints_18 ?_
    refine lv_dup2_11 hx hb dX10_paints_19 rfl rfl ?_
    refine zl_m_trial hC hP hz_1 dX10_paints_20 ?_
    refine lv_iconst (v := 1) hx hb dX10_paints_21 (by decide) ?_
    refine lv_iload_n hx hb dX10_paints_22 rfl (lv_at hl 2 rfl) ?_
    refine lv_ishl hx hb dX10_paints_23 ?_
    refine lv_ixor hx hb dX10_paints_24 ?_
    refine lv_topi (fun v_3 ev_3 => ?_)
    have hf := zleti ev_3 hf
    refine zs_m_trial hC hP hI (fun k h1 h2 => zF.own h1 h2) hS hz_1 dX10_paints_25 (fun H locs hP hS => ?_)
    refine lv_iconst (v := 1) hx hb dX10_paints_26 (by decide) ?_
    exact hfin _ _ H locs _ ls (Option.some.inj hf) (by decide) hP hS dX10_paints_27
  · have hf := zifp hc_2 hf
    refine lv_iconst (v := 0) hx hb dX10_paints_13 (by decide) ?_
    exact hfin _ _ H locs _ ls (Option.some.inj hf) (by decide) hP hS dX10_paints_14
set_option maxHeartbeats 4000000 in
set_option maxRecDepth 100000 in
theorem cpM_paints_i1 (l : Launch) {g : zG} (hI : zI g 581) (sz : Nat) (m_thrown : Int32) (m_tape : Int32) (m_size : Int32) (m_place : Int32) (m_at : Int32) (m_fault : Int32) (m_faultAt : Int32) (m_clauses : Int32) (m_open : Int32) (m_fed : Nat → Int32) (m_refused : Nat → Int32) (m_readTold : Nat → Int32) (m_told : Nat → Int32) (m_readBeast : Nat → Nat → Int32) (m_beast : Nat → Nat → Int32) (m_readGate : Nat → Nat → Int32) (m_gate : Nat → Nat → Int32) (m_readList : Nat → Nat → Int32) (m_list : Nat → Nat → Int32) (m_lawMany : Int32) (m_readLawMany : Int32) (m_law : Nat → Nat → Int32) (m_readLaw : Nat → Nat → Int32) (m_stack : Nat → Int32) (m_known : Nat → Int32) (m_step : Nat → Nat → Int32) (m_steps : Int32) (m_now : Nat → Int32) (m_trial : Nat → Int32) (m_before : Nat → Nat → Int32) (m_kept : Nat → Nat → Int32) (m_works : Int32) (m_refusedSteps : Int32) (m_images : Int32) (m_spot : Int32) (m_begun : Int32) (m_doneSteps : Int32) (m_mixed : Nat → Int32) (m_fewest : Nat → Int32) (m_leastFees : Nat → Int32) (m_lots : Int32) (m_tars : Int32) (x1 : Int32)  (x2 : Int32)  (x3 : Int32) (N9 : Nat) {r0 : Int32} {m_trial' : Nat → Int32} (hf : pM_paints_i1 N9  m_trial x1 x2 x3 = some (r0, m_trial')) : zMi l yX10_paints cX10_paints 4 (some .boolean) 1 g (zM g m_thrown m_tape m_size m_place m_at m_fault m_faultAt m_clauses m_open m_fed m_refused m_readTold m_told m_readBeast m_beast m_readGate m_gate m_readList m_list m_lawMany m_readLawMany m_law m_readLaw m_stack m_known m_step m_steps m_now m_trial m_before m_kept m_works m_refusedSteps m_images m_spot m_begun m_doneSteps m_mixed m_fewest m_leastFees m_lots m_tars) (zM g m_thrown m_tape m_size m_place m_at m_fault m_faultAt m_clauses m_open m_fed m_refused m_readTold m_told m_readBeast m_beast m_readGate m_gate m_readList m_list m_lawMany m_readLawMany m_law m_readLaw m_stack m_known m_step m_steps m_now m_trial' m_before m_kept m_works m_refusedSteps m_images m_spot m_begun m_doneSteps m_mixed m_fewest m_leastFees m_lots m_tars) sz (zF g 64 580 sz) [.ref (g.2.1 81), .int x1, .int x2, .int x3] r0 := by
  refine Met.ofW (cc := cX10_paints) (maxL := 4) (ret := (some .boolean)) (by decide +kernel) rfl ?_
  intro p e s m args below meth c s₁ B hml hv
  obtain ⟨rfl, hsz, hP, hK, hST⟩ := hv
  subst hsz
  have hC := zstart (own := RX10) rfl B hml hK hST
  have hl := lv_entry ([.ref (g.2.1 81), .int x1, .int x2, .int x3]) (n := 4) (Nat.le_of_ble_eq_true rfl)
  rw [lg_entry_eq]
  generalize (lg_sl ([.ref (g.2.1 81), .int x1, .int x2, .int x3]) ++ List.replicate (4 - (lg_sl ([.ref (g.2.1 81), .int x1, .int x2, .int x3])).length) Slot.unset).toArray = ls at hl ⊢
  have hl : lv_has ls 4 [(0, .ref (g.2.1 81)), (1, .int x1), (2, .int x2), (3, .int x3)] := hl
  obtain ⟨hx, hb, hr, hml, hown, hts, hK, hlk, hST⟩ := id hC
  refine mpM_paints_i1 hI hC ⟨Nat.le_refl _, Nat.le_refl _, Nat.le_refl _, Nat.le_refl _⟩ m_thrown m_tape m_size m_place m_at m_fault m_faultAt m_clauses m_open m_fed m_refused m_readTold m_told m_readBeast m_beast m_readGate m_gate m_readList m_list m_lawMany m_readLawMany m_law m_readLaw m_stack m_known m_step m_steps m_now m_trial m_before m_kept m_works m_refusedSteps m_images m_spot m_begun m_doneSteps m_mixed m_fewest m_leastFees m_lots m_tars x1 x2 x3 N9 (r0, m_trial') ?_ hf _ _ ls hP va_S.rf hl
  intro r1 m_trial1 H locs pc ls he hz hP hS hd
  cases he
  exact W.zret hx hb hr (congrArg Value.int hz) (fun t ht hW => ⟨⟨_, (), rfl, rfl, by rw [← ht] at hP; exact hP⟩, hS.F ht⟩) hS.2.2 hd hlk
/-! StripeTradeModel.washes ([II)Z [('arr', 'm_trial')] -/
set_option maxHeartbeats 4000000 in
set_option maxRecDepth 100000 in
theorem mpM_washes_i1_19 {p : Program} {l : Launch} {e : Env} {R : Room} {s : State} {m : MethodId} {args : Array Value} {below : List Frame} {meth : Method} {c : Code} {cells slots : Nat} {Q : State → Prop} {g : zG} (hI : zI g 581) (hC : zC g RX10 cX10_washes 3 (some .boolean) p s m meth c args) (hR : 1 ≤ R.frames ∧ 60 * 1 ≤ R.locals ∧ cells ≤ R.cells ∧ slots ≤ R.slots) (m_thrown : Int32) (m_tape : Int32) (m_size : Int32) (m_place : Int32) (m_at : Int32) (m_fault : Int32) (m_faultAt : Int32) (m_clauses : Int32) (m_open : Int32) (m_fed : Nat → Int32) (m_refused : Nat → Int32) (m_readTold : Nat → Int32) (m_told : Nat → Int32) (m_readBeast : Nat → Nat → Int32) (m_beast : Nat → Nat → Int32) (m_readGate : Nat → Nat → Int32) (m_gate : Nat → Nat → Int32) (m_readList : Nat → Nat → Int32) (m_list : Nat → Nat → Int32) (m_lawMany : Int32) (m_readLawMany : Int32) (m_law : Nat → Nat → Int32) (m_readLaw : Nat → Nat → Int32) (m_stack : Nat → Int32) (m_known : Nat → Int32) (m_step : Nat → Nat → Int32) (m_steps : Int32) (m_now : Nat → Int32) (m_trial : Nat → Int32) (m_before : Nat → Nat → Int32) (m_kept : Nat → Nat → Int32) (m_works : Int32) (m_refusedSteps : Int32) (m_images : Int32) (m_spot : Int32) (m_begun : Int32) (m_doneSteps : Int32) (m_mixed : Nat → Int32) (m_fewest : Nat → Int32) (m_leastFees : Nat → Int32) (m_lots : Int32) (m_tars : Int32) (x1 : Int32) (N9 : Nat)   (res : Int32 × (Nat → Int32)) (hfin : ∀ (r0 : Int32) (m_trial : Nat → Int32) (H : Heap) (locs : List Loc) (pc : Nat) (ls : Array Slot), (r0, m_trial) = res → r0 &&& 1 = r0 → va_P g.1 zcl (zM g m_thrown m_tape m_size m_place m_at m_fault m_faultAt m_clauses m_open m_fed m_refused m_readTold m_told m_readBeast m_beast m_readGate m_gate m_readList m_list m_lawMany m_readLawMany m_law m_readLaw m_stack m_known m_step m_steps m_now m_trial m_before m_kept m_works m_refusedSteps m_images m_spot m_begun m_doneSteps m_mixed m_fewest m_leastFees m_lots m_tars) H → va_S (zF g 64 580 s.heap.size) s.heap H locs → decode cX10_washes pc = .ok (.ireturn, 1) → W p l e R s m args below meth c H locs cells slots Q (F0 m pc ls [.int r0])) : ∀ (s0 : Int32), pM_washes_i1_19 N9 m_trial x1 s0 = some res → ∀ (H : Heap) (locs : List Loc) (ls : Array Slot), va_P g.1 zcl (zM g m_thrown m_tape m_size m_place m_at m_fault m_faultAt m_clauses m_open m_fed m_refused m_readTold m_told m_readBeast m_beast m_readGate m_gate m_readList m_list m_lawMany m_readLawMany m_law m_readLaw m_stack m_known m_step m_steps m_now m_trial m_before m_kept m_works m_refusedSteps m_images m_spot m_begun m_doneSteps m_mixed m_fewest m_leastFees m_lots m_tars) H → va_S (zF g 64 580 s.heap.size) s.heap H locs → lv_has ls 3 [(0, .ref (g.2.1 81)), (1, .int x1)] → W p l e R s m args below meth c H locs cells slots Q (F0 m 19 ls [.int s0]) := by
  obtain ⟨hx, hb, hr, hml, hown, hts, hK, hlk, hST⟩ := id hC
  have hB : ∀ q, (zF g 64 580 s.heap.size) q → zB g q := zF.base hI (Nat.le_of_ble_eq_true rfl) hST.1
  intro s0 hf H locs ls hP hS hl
  unfold pM_washes_i1_19 at hf
  refine lv_istore_n (lv' := [(2, .int s0), (0, .ref (g.2.1 81)), (1, .int x1)]) hx hb dX10_washes_19 rfl hl (by decide) rfl (fun ls hl => ?_)
  refine lv_aload_n hx hb dX10_washes_20 rfl (lv_at hl 1 rfl) ?_
  refine lv_iconst (v := 0) hx hb dX10_washes_21 (by decide) ?_
  refine lv_iload_n hx hb dX10_washes_22 rfl (lv_at hl 2 rfl) ?_
  refine lv_iadd hx hb dX10_washes_23 ?_
  refine lv_aload_n hx hb dX10_washes_24 rfl (lv_at hl 1 rfl) ?_
  refine lv_bipush (v := 8) hx hb dX10_washes_25 (by decide) ?_
  refine lv_iload_n hx hb dX10_washes_27 rfl (lv_at hl 2 rfl) ?_
  refine lv_iadd hx hb dX10_washes_28 ?_
  obtain ⟨hz_1, hf⟩ := zite hf
  refine zl_m_trial hC hP hz_1 dX10_washes_29 ?_
  refine lv_topi (fun v_2 ev_2 => ?_)
  have hf := zleti ev_2 hf
  obtain ⟨hz_3, hf⟩ := zite hf
  refine zs_m_trial hC hP hI (fun k h1 h2 => zF.own h1 h2) hS hz_3 dX10_washes_30 (fun H locs hP hS => ?_)
  refine lv_iload_n hx hb dX10_washes_31 rfl (lv_at hl 0 rfl) ?_
  obtain ⟨hz9, hf⟩ := zite hf
  exact hfin _ _ H locs _ ls (Option.some.inj hf) hz9 hP hS dX10_washes_32
set_option maxHeartbeats 4000000 in
set_option maxRecDepth 100000 in
theorem mpM_washes_i1 {p : Program} {l : Launch} {e : Env} {R : Room} {s : State} {m : MethodId} {args : Array Value} {below : List Frame} {meth : Method} {c : Code} {cells slots : Nat} {Q : State → Prop} {g : zG} (hI : zI g 581) (hC : zC g RX10 cX10_washes 3 (some .boolean) p s m meth c args) (hR : 1 ≤ R.frames ∧ 60 * 1 ≤ R.locals ∧ cells ≤ R.cells ∧ slots ≤ R.slots) (m_thrown : Int32) (m_tape : Int32) (m_size : Int32) (m_place : Int32) (m_at : Int32) (m_fault : Int32) (m_faultAt : Int32) (m_clauses : Int32) (m_open : Int32) (m_fed : Nat → Int32) (m_refused : Nat → Int32) (m_readTold : Nat → Int32) (m_told : Nat → Int32) (m_readBeast : Nat → Nat → Int32) (m_beast : Nat → Nat → Int32) (m_readGate : Nat → Nat → Int32) (m_gate : Nat → Nat → Int32) (m_readList : Nat → Nat → Int32) (m_list : Nat → Nat → Int32) (m_lawMany : Int32) (m_readLawMany : Int32) (m_law : Nat → Nat → Int32) (m_readLaw : Nat → Nat → Int32) (m_stack : Nat → Int32) (m_known : Nat → Int32) (m_step : Nat → Nat → Int32) (m_steps : Int32) (m_now : Nat → Int32) (m_trial : Nat → Int32) (m_before : Nat → Nat → Int32) (m_kept : Nat → Nat → Int32) (m_works : Int32) (m_refusedSteps : Int32) (m_images : Int32) (m_spot : Int32) (m_begun : Int32) (m_doneSteps : Int32) (m_mixed : Nat → Int32) (m_fewest : Nat → Int32) (m_leastFees : Nat → Int32) (m_lots : Int32) (m_tars : Int32) (x1 : Int32) (N9 : Nat)   (res : Int32 × (Nat → Int32)) (hfin : ∀ (r0 : Int32) (m_trial : Nat → Int32) (H : Heap) (locs : List Loc) (pc : Nat) (ls : Array Slot), (r0, m_trial) = res → r0 &&& 1 = r0 → va_P g.1 zcl (zM g m_thrown m_tape m_size m_place m_at m_fault m_faultAt m_clauses m_open m_fed m_refused m_readTold m_told m_readBeast m_beast m_readGate m_gate m_readList m_list m_lawMany m_readLawMany m_law m_readLaw m_stack m_known m_step m_steps m_now m_trial m_before m_kept m_works m_refusedSteps m_images m_spot m_begun m_doneSteps m_mixed m_fewest m_leastFees m_lots m_tars) H → va_S (zF g 64 580 s.heap.size) s.heap H locs → decode cX10_washes pc = .ok (.ireturn, 1) → W p l e R s m args below meth c H locs cells slots Q (F0 m pc ls [.int r0])) : pM_washes_i1 N9 m_trial x1 = some res → ∀ (H : Heap) (locs : List Loc) (ls : Array Slot), va_P g.1 zcl (zM g m_thrown m_tape m_size m_place m_at m_fault m_faultAt m_clauses m_open m_fed m_refused m_readTold m_told m_readBeast m_beast m_readGate m_gate m_readList m_list m_lawMany m_readLawMany m_law m_readLaw m_stack m_known m_step m_steps m_now m_trial m_before m_kept m_works m_refusedSteps m_images m_spot m_begun m_doneSteps m_mixed m_fewest m_leastFees m_lots m_tars) H → va_S (zF g 64 580 s.heap.size) s.heap H locs → lv_has ls 3 [(0, .ref (g.2.1 81)), (1, .int x1)] → W p l e R s m args below meth c H locs cells slots Q (F0 m 0 ls []) := by
  obtain ⟨hx, hb, hr, hml, hown, hts, hK, hlk, hST⟩ := id hC
  have hB : ∀ q, (zF g 64 580 s.heap.size) q → zB g q := zF.base hI (Nat.le_of_ble_eq_true rfl) hST.1
  intro  hf H locs ls hP hS hl
  have hk19 := mpM_washes_i1_19 (l := l) (e := e) (R := R) (below := below) (cells := cells) (slots := slots) (Q := Q) hI hC hR m_thrown m_tape m_size m_place m_at m_fault m_faultAt m_clauses m_open m_fed m_refused m_readTold m_told m_readBeast m_beast m_readGate m_gate m_readList m_list m_lawMany m_readLawMany m_law m_readLaw m_stack m_known m_step m_steps m_now m_trial m_before m_kept m_works m_refusedSteps m_images m_spot m_begun m_doneSteps m_mixed m_fewest m_leastFees m_lots m_tars x1 N9 res hfin
  unfold pM_washes_i1 at hf
  refine lv_aload_n hx hb dX10_washes_0 rfl (lv_at hl 0 rfl) ?_
  refine lv_iconst (v := 0) hx hb dX10_washes_1 (by decide) ?_
  refine lv_iload_n hx hb dX10_washes_2 rfl (lv_at hl 1 rfl) ?_
  refine lv_iadd hx hb dX10_washes_3 ?_
  obtain ⟨hz_4, hf⟩ := zite hf
  refine zl_m_trial hC hP hz_4 dX10_washes_4 ?_
  refine lv_aload_n hx hb dX10_washes_5 rfl (lv_at hl 0 rfl) ?_
  refine lv_bipush (v := 8) hx hb dX10_washes_6 (by decide) ?_
  refine lv_iload_n hx hb dX10_washes_8 rfl (lv_at hl 1 rfl) ?_
  refine lv_iadd hx hb dX10_washes_9 ?_
  obtain ⟨hz_5, hf⟩ := zite hf
  refine zl_m_trial hC hP hz_5 dX10_washes_10 ?_
  refine lv_icmp_eq (tgt := 18) hx hb dX10_washes_11 (by decide) (fun hc_6 => ?_) (fun hc_6 => ?_)
  · have hf := zifp hc_6 hf
    refine lv_iconst (v := 0) hx hb dX10_washes_18 (by decide) ?_
    exact hk19 0 hf H locs ls hP hS (lv_sub hl [0, 1] rfl)
  · have hf := zifn hc_6 hf
    refine lv_iconst (v := 1) hx hb dX10_washes_14 (by decide) ?_
    refine lv_goto (tgt := 19) hx hb dX10_washes_15 (by decide) ?_
    exact hk19 1 hf H locs ls hP hS (lv_sub hl [0, 1] rfl)
set_option maxHeartbeats 4000000 in
set_option maxRecDepth 100000 in
theorem cpM_washes_i1 (l : Launch) {g : zG} (hI : zI g 581) (sz : Nat) (m_thrown : Int32) (m_tape : Int32) (m_size : Int32) (m_place : Int32) (m_at : Int32) (m_fault : Int32) (m_faultAt : Int32) (m_clauses : Int32) (m_open : Int32) (m_fed : Nat → Int32) (m_refused : Nat → Int32) (m_readTold : Nat → Int32) (m_told : Nat → Int32) (m_readBeast : Nat → Nat → Int32) (m_beast : Nat → Nat → Int32) (m_readGate : Nat → Nat → Int32) (m_gate : Nat → Nat → Int32) (m_readList : Nat → Nat → Int32) (m_list : Nat → Nat → Int32) (m_lawMany : Int32) (m_readLawMany : Int32) (m_law : Nat → Nat → Int32) (m_readLaw : Nat → Nat → Int32) (m_stack : Nat → Int32) (m_known : Nat → Int32) (m_step : Nat → Nat → Int32) (m_steps : Int32) (m_now : Nat → Int32) (m_trial : Nat → Int32) (m_before : Nat → Nat → Int32) (m_kept : Nat → Nat → Int32) (m_works : Int32) (m_refusedSteps : Int32) (m_images : Int32) (m_spot : Int32) (m_begun : Int32) (m_doneSteps : Int32) (m_mixed : Nat → Int32) (m_fewest : Nat → Int32) (m_leastFees : Nat → Int32) (m_lots : Int32) (m_tars : Int32) (x1 : Int32) (N9 : Nat) {r0 : Int32} {m_trial' : Nat → Int32} (hf : pM_washes_i1 N9  m_trial x1 = some (r0, m_trial')) : zMi l yX10_washes cX10_washes 3 (some .boolean) 1 g (zM g m_thrown m_tape m_size m_place m_at m_fault m_faultAt m_clauses m_open m_fed m_refused m_readTold m_told m_readBeast m_beast m_readGate m_gate m_readList m_list m_lawMany m_readLawMany m_law m_readLaw m_stack m_known m_step m_steps m_now m_trial m_before m_kept m_works m_refusedSteps m_images m_spot m_begun m_doneSteps m_mixed m_fewest m_leastFees m_lots m_tars) (zM g m_thrown m_tape m_size m_place m_at m_fault m_faultAt m_clauses m_open m_fed m_refused m_readTold m_told m_readBeast m_beast m_readGate m_gate m_readList m_list m_lawMany m_readLawMany m_law m_readLaw m_stack m_known m_step m_steps m_now m_trial' m_before m_kept m_works m_refusedSteps m_images m_spot m_begun m_doneSteps m_mixed m_fewest m_leastFees m_lots m_tars) sz (zF g 64 580 sz) [.ref (g.2.1 81), .int x1] r0 := by
  refine Met.ofW (cc := cX10_washes) (maxL := 3) (ret := (some .boolean)) (by decide +kernel) rfl ?_
  intro p e s m args below meth c s₁ B hml hv
  obtain ⟨rfl, hsz, hP, hK, hST⟩ := hv
  subst hsz
  have hC := zstart (own := RX10) rfl B hml hK hST
  have hl := lv_entry ([.ref (g.2.1 81), .int x1]) (n := 3) (Nat.le_of_ble_eq_true rfl)
  rw [lg_entry_eq]
  generalize (lg_sl ([.ref (g.2.1 81), .int x1]) ++ List.replicate (3 - (lg_sl ([.ref (g.2.1 81), .int x1])).length) Slot.unset).toArray = ls at hl ⊢
  have hl : lv_has ls 3 [(0, .ref (g.2.1 81)), (1, .int x1)] := hl
  obtain ⟨hx, hb, hr, hml, hown, hts, hK, hlk, hST⟩ := id hC
  refine mpM_washes_i1 hI hC ⟨Nat.le_refl _, Nat.le_refl _, Nat.le_refl _, Nat.le_refl _⟩ m_thrown m_tape m_size m_place m_at m_fault m_faultAt m_clauses m_open m_fed m_refused m_readTold m_told m_readBeast m_beast m_readGate m_gate m_readList m_list m_lawMany m_readLawMany m_law m_readLaw m_stack m_known m_step m_steps m_now m_trial m_before m_kept m_works m_refusedSteps m_images m_spot m_begun m_doneSteps m_mixed m_fewest m_leastFees m_lots m_tars x1 N9 (r0, m_trial') ?_ hf _ _ ls hP va_S.rf hl
  intro r1 m_trial1 H locs pc ls he hz hP hS hd
  cases he
  exact W.zret hx hb hr (congrArg Value.int hz) (fun t ht hW => ⟨⟨_, (), rfl, rfl, by rw [← ht] at hP; exact hP⟩, hS.F ht⟩) hS.2.2 hd hlk
/-! StripeTradeModel.yearEnds ([I)V [('arr', 'm_trial')] -/
set_option maxHeartbeats 4000000 in
set_option maxRecDepth 100000 in
theorem mpM_yearEnds_i1_10 {p : Program} {l : Launch} {e : Env} {R : Room} {s : State} {m : MethodId} {args : Array Value} {below : List Frame} {meth : Method} {c : Code} {cells slots : Nat} {Q : State → Prop} {g : zG} (hI : zI g 581) (hC : zC g RX10 cX10_yearEnds 2 none p s m meth c args) (hR : 1 ≤ R.frames ∧ 60 * 1 ≤ R.locals ∧ cells ≤ R.cells ∧ slots ≤ R.slots) (m_thrown : Int32) (m_tape : Int32) (m_size : Int32) (m_place : Int32) (m_at : Int32) (m_fault : Int32) (m_faultAt : Int32) (m_clauses : Int32) (m_open : Int32) (m_fed : Nat → Int32) (m_refused : Nat → Int32) (m_readTold : Nat → Int32) (m_told : Nat → Int32) (m_readBeast : Nat → Nat → Int32) (m_beast : Nat → Nat → Int32) (m_readGate : Nat → Nat → Int32) (m_gate : Nat → Nat → Int32) (m_readList : Nat → Nat → Int32) (m_list : Nat → Nat → Int32) (m_lawMany : Int32) (m_readLawMany : Int32) (m_law : Nat → Nat → Int32) (m_readLaw : Nat → Nat → Int32) (m_stack : Nat → Int32) (m_known : Nat → Int32) (m_step : Nat → Nat → Int32) (m_steps : Int32) (m_now : Nat → Int32) (m_before : Nat → Nat → Int32) (m_kept : Nat → Nat → Int32) (m_works : Int32) (m_refusedSteps : Int32) (m_images : Int32) (m_spot : Int32) (m_begun : Int32) (m_doneSteps : Int32) (m_mixed : Nat → Int32) (m_fewest : Nat → Int32) (m_leastFees : Nat → Int32) (m_lots : Int32) (m_tars : Int32)  (N9 : Nat)   (res : Nat → Int32) (hfin : ∀ (m_trial : Nat → Int32) (H : Heap) (locs : List Loc) (pc : Nat) (ls : Array Slot), m_trial = res → va_P g.1 zcl (zM g m_thrown m_tape m_size m_place m_at m_fault m_faultAt m_clauses m_open m_fed m_refused m_readTold m_told m_readBeast m_beast m_readGate m_gate m_readList m_list m_lawMany m_readLawMany m_law m_readLaw m_stack m_known m_step m_steps m_now m_trial m_before m_kept m_works m_refusedSteps m_images m_spot m_begun m_doneSteps m_mixed m_fewest m_leastFees m_lots m_tars) H → va_S (zF g 64 580 s.heap.size) s.heap H locs → decode cX10_yearEnds pc = .ok (.return_, 1) → W p l e R s m args below meth c H locs cells slots Q (F0 m pc ls [])) : ∀ (n9 : Nat) (m_trial : Nat → Int32) (x1 : Int32), pM_yearEnds_i1_10 N9 n9 m_trial x1 = some res → ∀ (H : Heap) (locs : List Loc) (ls : Array Slot), va_P g.1 zcl (zM g m_thrown m_tape m_size m_place m_at m_fault m_faultAt m_clauses m_open m_fed m_refused m_readTold m_told m_readBeast m_beast m_readGate m_gate m_readList m_list m_lawMany m_readLawMany m_law m_readLaw m_stack m_known m_step m_steps m_now m_trial m_before m_kept m_works m_refusedSteps m_images m_spot m_begun m_doneSteps m_mixed m_fewest m_leastFees m_lots m_tars) H → va_S (zF g 64 580 s.heap.size) s.heap H locs → lv_has ls 2 [(0, .ref (g.2.1 81)), (1, .int x1)] → W p l e R s m args below meth c H locs cells slots Q (F0 m 10 ls []) := by
  obtain ⟨hx, hb, hr, hml, hown, hts, hK, hlk, hST⟩ := id hC
  have hB : ∀ q, (zF g 64 580 s.heap.size) q → zB g q := zF.base hI (Nat.le_of_ble_eq_true rfl) hST.1
  intro n9
  induction n9 with
  | zero => intro m_trial x1 hf; cases hf
  | succ n9 ih =>
    intro m_trial x1 hf H locs ls hP hS hl
    have hk10 := ih
    unfold pM_yearEnds_i1_10 at hf
    refine lv_iload_n hx hb dX10_yearEnds_10 rfl (lv_at hl 1 rfl) ?_
    refine lv_aload_n hx hb dX10_yearEnds_11 rfl (lv_at hl 0 rfl) ?_
    refine lv_bipush (v := 42) hx hb dX10_yearEnds_12 (by decide) ?_
    obtain ⟨hz_1, hf⟩ := zite hf
    refine zl_m_trial hC hP hz_1 dX10_yearEnds_14 ?_
    refine lv_icmp_ge (tgt := 34) hx hb dX10_yearEnds_15 (by decide) (fun hc_2 => ?_) (fun hc_2 => ?_)
    · have hf := zifp hc_2 hf
      exact hfin _ H locs _ ls (Option.some.inj hf) hP hS dX10_yearEnds_34
    · have hf := zifn hc_2 hf
      refine lv_aload_n hx hb dX10_yearEnds_18 rfl (lv_at hl 0 rfl) ?_
      refine lv_bipush (v := 16) hx hb dX10_yearEnds_19 (by decide) ?_
      refine lv_iload_n hx hb dX10_yearEnds_21 rfl (lv_at hl 1 rfl) ?_
      refine lv_iadd hx hb dX10_yearEnds_22 ?_
      refine lv_dup2_11 hx hb dX10_yearEnds_23 rfl rfl ?_
      obtain ⟨hz_3, hf⟩ := zite hf
      refine zl_m_trial hC hP hz_3 dX10_yearEnds_24 ?_
      refine lv_iconst (v := 1) hx hb dX10_yearEnds_25 (by decide) ?_
      refine lv_iadd hx hb dX10_yearEnds_26 ?_
      refine lv_topi (fun v_4 ev_4 => ?_)
      have hf := zleti ev_4 hf
      refine zs_m_trial hC hP hI (fun k h1 h2 => zF.own h1 h2) hS hz_3 dX10_yearEnds_27 (fun H locs hP hS => ?_)
      refine lv_iinc (v := x1 + 1) (lv' := [(1, .int (x1 + 1)), (0, .ref (g.2.1 81))]) hx hb dX10_yearEnds_28 hl (k := 1) rfl rfl (by decide) rfl (fun ls hl => ?_)
      refine lv_goto (tgt := 10) hx hb dX10_yearEnds_31 (by decide) ?_
      exact hk10 (upd m_trial (16 + x1).toNatClampNeg v_4) (x1 + 1) hf H locs ls hP hS (lv_sub hl [1, 0] rfl)
set_option maxHeartbeats 4000000 in
set_option maxRecDepth 100000 in
theorem mpM_yearEnds_i1 {p : Program} {l : Launch} {e : Env} {R : Room} {s : State} {m : MethodId} {args : Array Value} {below : List Frame} {meth : Method} {c : Code} {cells slots : Nat} {Q : State → Prop} {g : zG} (hI : zI g 581) (hC : zC g RX10 cX10_yearEnds 2 none p s m meth c args) (hR : 1 ≤ R.frames ∧ 60 * 1 ≤ R.locals ∧ cells ≤ R.cells ∧ slots ≤ R.slots) (m_thrown : Int32) (m_tape : Int32) (m_size : Int32) (m_place : Int32) (m_at : Int32) (m_fault : Int32) (m_faultAt : Int32) (m_clauses : Int32) (m_open : Int32) (m_fed : Nat → Int32) (m_refused : Nat → Int32) (m_readTold : Nat → Int32) (m_told : Nat → Int32) (m_readBeast : Nat → Nat → Int32) (m_beast : Nat → Nat → Int32) (m_readGate : Nat → Nat → Int32) (m_gate : Nat → Nat → Int32) (m_readList : Nat → Nat → Int32) (m_list : Nat → Nat → Int32) (m_lawMany : Int32) (m_readLawMany : Int32) (m_law : Nat → Nat → Int32) (m_readLaw : Nat → Nat → Int32) (m_stack : Nat → Int32) (m_known : Nat → Int32) (m_step : Nat → Nat → Int32) (m_steps : Int32) (m_now : Nat → Int32) (m_trial : Nat → Int32) (m_before : Nat → Nat → Int32) (m_kept : Nat → Nat → Int32) (m_works : Int32) (m_refusedSteps : Int32) (m_images : Int32) (m_spot : Int32) (m_begun : Int32) (m_doneSteps : Int32) (m_mixed : Nat → Int32) (m_fewest : Nat → Int32) (m_leastFees : Nat → Int32) (m_lots : Int32) (m_tars : Int32)  (N9 : Nat)   (res : Nat → Int32) (hfin : ∀ (m_trial : Nat → Int32) (H : Heap) (locs : List Loc) (pc : Nat) (ls : Array Slot), m_trial = res → va_P g.1 zcl (zM g m_thrown m_tape m_size m_place m_at m_fault m_faultAt m_clauses m_open m_fed m_refused m_readTold m_told m_readBeast m_beast m_readGate m_gate m_readList m_list m_lawMany m_readLawMany m_law m_readLaw m_stack m_known m_step m_steps m_now m_trial m_before m_kept m_works m_refusedSteps m_images m_spot m_begun m_doneSteps m_mixed m_fewest m_leastFees m_lots m_tars) H → va_S (zF g 64 580 s.heap.size) s.heap H locs → decode cX10_yearEnds pc = .ok (.return_, 1) → W p l e R s m args below meth c H locs cells slots Q (F0 m pc ls [])) : pM_yearEnds_i1 N9 m_trial = some res → ∀ (H : Heap) (locs : List Loc) (ls : Array Slot), va_P g.1 zcl (zM g m_thrown m_tape m_size m_place m_at m_fault m_faultAt m_clauses m_open m_fed m_refused m_readTold m_told m_readBeast m_beast m_readGate m_gate m_readList m_list m_lawMany m_readLawMany m_law m_readLaw m_stack m_known m_step m_steps m_now m_trial m_before m_kept m_works m_refusedSteps m_images m_spot m_begun m_doneSteps m_mixed m_fewest m_leastFees m_lots m_tars) H → va_S (zF g 64 580 s.heap.size) s.heap H locs → lv_has ls 2 [(0, .ref (g.2.1 81))] → W p l e R s m args below meth c H locs cells slots Q (F0 m 0 ls []) := by
  obtain ⟨hx, hb, hr, hml, hown, hts, hK, hlk, hST⟩ := id hC
  have hB : ∀ q, (zF g 64 580 s.heap.size) q → zB g q := zF.base hI (Nat.le_of_ble_eq_true rfl) hST.1
  intro  hf H locs ls hP hS hl
  have hk10 := mpM_yearEnds_i1_10 (l := l) (e := e) (R := R) (below := below) (cells := cells) (slots := slots) (Q := Q) hI hC hR m_thrown m_tape m_size m_place m_at m_fault m_faultAt m_clauses m_open m_fed m_refused m_readTold m_told m_readBeast m_beast m_readGate m_gate m_readList m_list m_lawMany m_readLawMany m_law m_readLaw m_stack m_known m_step m_steps m_now m_before m_kept m_works m_refusedSteps m_images m_spot m_begun m_doneSteps m_mixed m_fewest m_leastFees m_lots m_tars N9 res hfin N9
  unfold pM_yearEnds_i1 at hf
  refine lv_aload_n hx hb dX10_yearEnds_0 rfl (lv_at hl 0 rfl) ?_
  refine lv_bipush (v := 44) hx hb dX10_yearEnds_1 (by decide) ?_
  refine lv_dup2_11 hx hb dX10_yearEnds_3 rfl rfl ?_
  obtain ⟨hz_5, hf⟩ := zite hf
  refine zl_m_trial hC hP hz_5 dX10_yearEnds_4 ?_
  refine lv_iconst (v := 1) hx hb dX10_yearEnds_5 (by decide) ?_
  refine lv_iadd hx hb dX10_yearEnds_6 ?_
  refine lv_topi (fun v_6 ev_6 => ?_)
  have hf := zleti ev_6 hf
  refine zs_m_trial hC hP hI (fun k h1 h2 => zF.own h1 h2) hS hz_5 dX10_yearEnds_7 (fun H locs hP hS => ?_)
  refine lv_iconst (v := 0) hx hb dX10_yearEnds_8 (by decide) ?_
  refine lv_istore_n (lv' := [(1, .int 0), (0, .ref (g.2.1 81))]) hx hb dX10_yearEnds_9 rfl hl (by decide) rfl (fun ls hl => ?_)
  exact hk10 (upd m_trial (44 : Int32).toNatClampNeg v_6) 0 hf H locs ls hP hS (lv_sub hl [1, 0] rfl)
set_option maxHeartbeats 4000000 in
set_option maxRecDepth 100000 in
theorem cpM_yearEnds_i1 (l : Launch) {g : zG} (hI : zI g 581) (sz : Nat) (m_thrown : Int32) (m_tape : Int32) (m_size : Int32) (m_place : Int32) (m_at : Int32) (m_fault : Int32) (m_faultAt : Int32) (m_clauses : Int32) (m_open : Int32) (m_fed : Nat → Int32) (m_refused : Nat → Int32) (m_readTold : Nat → Int32) (m_told : Nat → Int32) (m_readBeast : Nat → Nat → Int32) (m_beast : Nat → Nat → Int32) (m_readGate : Nat → Nat → Int32) (m_gate : Nat → Nat → Int32) (m_readList : Nat → Nat → Int32) (m_list : Nat → Nat → Int32) (m_lawMany : Int32) (m_readLawMany : Int32) (m_law : Nat → Nat → Int32) (m_readLaw : Nat → Nat → Int32) (m_stack : Nat → Int32) (m_known : Nat → Int32) (m_step : Nat → Nat → Int32) (m_steps : Int32) (m_now : Nat → Int32) (m_trial : Nat → Int32) (m_before : Nat → Nat → Int32) (m_kept : Nat → Nat → Int32) (m_works : Int32) (m_refusedSteps : Int32) (m_images : Int32) (m_spot : Int32) (m_begun : Int32) (m_doneSteps : Int32) (m_mixed : Nat → Int32) (m_fewest : Nat → Int32) (m_leastFees : Nat → Int32) (m_lots : Int32) (m_tars : Int32) (N9 : Nat) {m_trial' : Nat → Int32} (hf : pM_yearEnds_i1 N9  m_trial = some m_trial') : zMv l yX10_yearEnds cX10_yearEnds 2 none 1 g (zM g m_thrown m_tape m_size m_place m_at m_fault m_faultAt m_clauses m_open m_fed m_refused m_readTold m_told m_readBeast m_beast m_readGate m_gate m_readList m_list m_lawMany m_readLawMany m_law m_readLaw m_stack m_known m_step m_steps m_now m_trial m_before m_kept m_works m_refusedSteps m_images m_spot m_begun m_doneSteps m_mixed m_fewest m_leastFees m_lots m_tars) (zM g m_thrown m_tape m_size m_place m_at m_fault m_faultAt m_clauses m_open m_fed m_refused m_readTold m_told m_readBeast m_beast m_readGate m_gate m_readList m_list m_lawMany m_readLawMany m_law m_readLaw m_stack m_known m_step m_steps m_now m_trial' m_before m_kept m_works m_refusedSteps m_images m_spot m_begun m_doneSteps m_mixed m_fewest m_leastFees m_lots m_tars) sz (zF g 64 580 sz) [.ref (g.2.1 81)] := by
  refine Met.ofW (cc := cX10_yearEnds) (maxL := 2) (ret := none) (by decide +kernel) rfl ?_
  intro p e s m args below meth c s₁ B hml hv
  obtain ⟨rfl, hsz, hP, hK, hST⟩ := hv
  subst hsz
  have hC := zstart (own := RX10) rfl B hml hK hST
  have hl := lv_entry ([.ref (g.2.1 81)]) (n := 2) (Nat.le_of_ble_eq_true rfl)
  rw [lg_entry_eq]
  generalize (lg_sl ([.ref (g.2.1 81)]) ++ List.replicate (2 - (lg_sl ([.ref (g.2.1 81)])).length) Slot.unset).toArray = ls at hl ⊢
  have hl : lv_has ls 2 [(0, .ref (g.2.1 81))] := hl
  obtain ⟨hx, hb, hr, hml, hown, hts, hK, hlk, hST⟩ := id hC
  refine mpM_yearEnds_i1 hI hC ⟨Nat.le_refl _, Nat.le_refl _, Nat.le_refl _, Nat.le_refl _⟩ m_thrown m_tape m_size m_place m_at m_fault m_faultAt m_clauses m_open m_fed m_refused m_readTold m_told m_readBeast m_beast m_readGate m_gate m_readList m_list m_lawMany m_readLawMany m_law m_readLaw m_stack m_known m_step m_steps m_now m_trial m_before m_kept m_works m_refusedSteps m_images m_spot m_begun m_doneSteps m_mixed m_fewest m_leastFees m_lots m_tars N9 m_trial' ?_ hf _ _ ls hP va_S.rf hl
  intro m_trial1 H locs pc ls he hP hS hd
  cases he
  exact W.vret hx hb hr (fun t ht hW => ⟨⟨(), rfl, trivial, by rw [← ht] at hP; exact hP⟩, hS.F ht⟩) hS.2.2 hd hlk
/-! StripeTradeModel.yearsBy (IIII)V [('obj', 'm')] -/
set_option maxHeartbeats 4000000 in
set_option maxRecDepth 100000 in
theorem mpM_yearsBy_40 {p : Program} {l : Launch} {e : Env} {R : Room} {s : State} {m : MethodId} {args : Array Value} {below : List Frame} {meth : Method} {c : Code} {cells slots : Nat} {Q : State → Prop} {g : zG} (hI : zI g 581) (hC : zC g RX10 cX10_yearsBy 8 none p s m meth c args) (hR : 8 ≤ R.frames ∧ 60 * 8 ≤ R.locals ∧ cells ≤ R.cells ∧ slots ≤ R.slots) (m_thrown : Int32) (m_tape : Int32) (m_size : Int32) (m_place : Int32) (m_at : Int32) (m_fault : Int32) (m_faultAt : Int32) (m_clauses : Int32) (m_open : Int32) (m_fed : Nat → Int32) (m_refused : Nat → Int32) (m_readTold : Nat → Int32) (m_told : Nat → Int32) (m_readBeast : Nat → Nat → Int32) (m_beast : Nat → Nat → Int32) (m_readGate : Nat → Nat → Int32) (m_gate : Nat → Nat → Int32) (m_readList : Nat → Nat → Int32) (m_list : Nat → Nat → Int32) (m_lawMany : Int32) (m_readLawMany : Int32) (m_law : Nat → Nat → Int32) (m_readLaw : Nat → Nat → Int32) (m_stack : Nat → Int32) (m_known : Nat → Int32) (m_step : Nat → Nat → Int32) (m_steps : Int32) (m_now : Nat → Int32) (m_before : Nat → Nat → Int32) (m_kept : Nat → Nat → Int32) (m_works : Int32) (m_refusedSteps : Int32) (m_images : Int32) (m_spot : Int32) (m_begun : Int32) (m_doneSteps : Int32) (m_mixed : Nat → Int32) (m_fewest : Nat → Int32) (m_leastFees : Nat → Int32)  (N9 : Nat)   (res : (Nat → Int32) × (Nat → Int32) × (Nat → Int32) × Int32 × Int32) (hfin : ∀ (m_stack : Nat → Int32) (m_known : Nat → Int32) (m_trial : Nat → Int32) (m_lots : Int32) (m_tars : Int32) (H : Heap) (locs : List Loc) (pc : Nat) (ls : Array Slot), (m_stack, m_known, m_trial, m_lots, m_tars) = res → va_P g.1 zcl (zM g m_thrown m_tape m_size m_place m_at m_fault m_faultAt m_clauses m_open m_fed m_refused m_readTold m_told m_readBeast m_beast m_readGate m_gate m_readList m_list m_lawMany m_readLawMany m_law m_readLaw m_stack m_known m_step m_steps m_now m_trial m_before m_kept m_works m_refusedSteps m_images m_spot m_begun m_doneSteps m_mixed m_fewest m_leastFees m_lots m_tars) H → va_S (zF g 64 580 s.heap.size) s.heap H locs → decode cX10_yearsBy pc = .ok (.return_, 1) → W p l e R s m args below meth c H locs cells slots Q (F0 m pc ls [])) : ∀ (m_trial : Nat → Int32) (m_lots : Int32) (m_tars : Int32), pM_yearsBy_40 N9 m_stack m_known m_trial m_lots m_tars = some res → ∀ (H : Heap) (locs : List Loc) (ls : Array Slot), va_P g.1 zcl (zM g m_thrown m_tape m_size m_place m_at m_fault m_faultAt m_clauses m_open m_fed m_refused m_readTold m_told m_readBeast m_beast m_readGate m_gate m_readList m_list m_lawMany m_readLawMany m_law m_readLaw m_stack m_known m_step m_steps m_now m_trial m_before m_kept m_works m_refusedSteps m_images m_spot m_begun m_doneSteps m_mixed m_fewest m_leastFees m_lots m_tars) H → va_S (zF g 64 580 s.heap.size) s.heap H locs → lv_has ls 8 [] → W p l e R s m args below meth c H locs cells slots Q (F0 m 40 ls []) := by
  obtain ⟨hx, hb, hr, hml, hown, hts, hK, hlk, hST⟩ := id hC
  have hB : ∀ q, (zF g 64 580 s.heap.size) q → zB g q := zF.base hI (Nat.le_of_ble_eq_true rfl) hST.1
  intro m_trial m_lots m_tars hf H locs ls hP hS hl
  unfold pM_yearsBy_40 at hf
  exact hfin _ _ _ _ _ H locs _ ls (Option.some.inj hf) hP hS dX10_yearsBy_40
set_option maxHeartbeats 4000000 in
set_option maxRecDepth 100000 in
theorem mpM_yearsBy_166 {p : Program} {l : Launch} {e : Env} {R : Room} {s : State} {m : MethodId} {args : Array Value} {below : List Frame} {meth : Method} {c : Code} {cells slots : Nat} {Q : State → Prop} {g : zG} (hI : zI g 581) (hC : zC g RX10 cX10_yearsBy 8 none p s m meth c args) (hR : 8 ≤ R.frames ∧ 60 * 8 ≤ R.locals ∧ cells ≤ R.cells ∧ slots ≤ R.slots) (m_thrown : Int32) (m_tape : Int32) (m_size : Int32) (m_place : Int32) (m_at : Int32) (m_fault : Int32) (m_faultAt : Int32) (m_clauses : Int32) (m_open : Int32) (m_fed : Nat → Int32) (m_refused : Nat → Int32) (m_readTold : Nat → Int32) (m_told : Nat → Int32) (m_readBeast : Nat → Nat → Int32) (m_beast : Nat → Nat → Int32) (m_readGate : Nat → Nat → Int32) (m_gate : Nat → Nat → Int32) (m_readList : Nat → Nat → Int32) (m_list : Nat → Nat → Int32) (m_lawMany : Int32) (m_readLawMany : Int32) (m_law : Nat → Nat → Int32) (m_readLaw : Nat → Nat → Int32) (m_stack : Nat → Int32) (m_known : Nat → Int32) (m_step : Nat → Nat → Int32) (m_steps : Int32) (m_now : Nat → Int32) (m_before : Nat → Nat → Int32) (m_kept : Nat → Nat → Int32) (m_works : Int32) (m_refusedSteps : Int32) (m_images : Int32) (m_spot : Int32) (m_begun : Int32) (m_doneSteps : Int32) (m_mixed : Nat → Int32) (m_fewest : Nat → Int32) (m_leastFees : Nat → Int32) (m_lots : Int32) (m_tars : Int32) (x2 : Int32) (x3 : Int32) (x4 : Int32) (N9 : Nat)  (k44 : (Nat → Int32) → (Nat → Int32) → (Nat → Int32) → Int32 → Int32 → Int32 → Option ((Nat → Int32) × (Nat → Int32) × (Nat → Int32) × Int32 × Int32)) (res : (Nat → Int32) × (Nat → Int32) × (Nat → Int32) × Int32 × Int32) (hfin : ∀ (m_stack : Nat → Int32) (m_known : Nat → Int32) (m_trial : Nat → Int32) (m_lots : Int32) (m_tars : Int32) (H : Heap) (locs : List Loc) (pc : Nat) (ls : Array Slot), (m_stack, m_known, m_trial, m_lots, m_tars) = res → va_P g.1 zcl (zM g m_thrown m_tape m_size m_place m_at m_fault m_faultAt m_clauses m_open m_fed m_refused m_readTold m_told m_readBeast m_beast m_readGate m_gate m_readList m_list m_lawMany m_readLawMany m_law m_readLaw m_stack m_known m_step m_steps m_now m_trial m_before m_kept m_works m_refusedSteps m_images m_spot m_begun m_doneSteps m_mixed m_fewest m_leastFees m_lots m_tars) H → va_S (zF g 64 580 s.heap.size) s.heap H locs → decode cX10_yearsBy pc = .ok (.return_, 1) → W p l e R s m args below meth c H locs cells slots Q (F0 m pc ls [])) (hk44 : ∀ (m_stack : Nat → Int32) (m_known : Nat → Int32) (m_trial : Nat → Int32) (m_lots : Int32) (m_tars : Int32) (x5 : Int32), k44 m_stack m_known m_trial m_lots m_tars x5 = some res → ∀ (H : Heap) (locs : List Loc) (ls : Array Slot), va_P g.1 zcl (zM g m_thrown m_tape m_size m_place m_at m_fault m_faultAt m_clauses m_open m_fed m_refused m_readTold m_told m_readBeast m_beast m_readGate m_gate m_readList m_list m_lawMany m_readLawMany m_law m_readLaw m_stack m_known m_step m_steps m_now m_trial m_before m_kept m_works m_refusedSteps m_images m_spot m_begun m_doneSteps m_mixed m_fewest m_leastFees m_lots m_tars) H → va_S (zF g 64 580 s.heap.size) s.heap H locs → lv_has ls 8 [(0, .ref (g.2.1 64)), (2, .int x2), (3, .int x3), (4, .int x4), (5, .int x5)] → W p l e R s m args below meth c H locs cells slots Q (F0 m 44 ls [])) : ∀ (m_trial : Nat → Int32) (x5 : Int32), pM_yearsBy_166 N9 m_stack m_known m_lots m_tars x2 x3 x4 k44 m_trial x5 = some res → ∀ (H : Heap) (locs : List Loc) (ls : Array Slot), va_P g.1 zcl (zM g m_thrown m_tape m_size m_place m_at m_fault m_faultAt m_clauses m_open m_fed m_refused m_readTold m_told m_readBeast m_beast m_readGate m_gate m_readList m_list m_lawMany m_readLawMany m_law m_readLaw m_stack m_known m_step m_steps m_now m_trial m_before m_kept m_works m_refusedSteps m_images m_spot m_begun m_doneSteps m_mixed m_fewest m_leastFees m_lots m_tars) H → va_S (zF g 64 580 s.heap.size) s.heap H locs → lv_has ls 8 [(0, .ref (g.2.1 64)), (2, .int x2), (3, .int x3), (4, .int x4), (5, .int x5)] → W p l e R s m args below meth c H locs cells slots Q (F0 m 166 ls []) := by
  obtain ⟨hx, hb, hr, hml, hown, hts, hK, hlk, hST⟩ := id hC
  have hB : ∀ q, (zF g 64 580 s.heap.size) q → zB g q := zF.base hI (Nat.le_of_ble_eq_true rfl) hST.1
  intro m_trial x5 hf H locs ls hP hS hl
  unfold pM_yearsBy_166 at hf
  refine lv_iinc (v := x5 + 1) (lv' := [(5, .int (x5 + 1)), (0, .ref (g.2.1 64)), (2, .int x2), (3, .int x3), (4, .int x4)]) hx hb dX10_yearsBy_166 hl (k := 4) rfl rfl (by decide) rfl (fun ls hl => ?_)
  refine lv_goto (tgt := 44) hx hb dX10_yearsBy_169 (by decide) ?_
  exact hk44 m_stack m_known m_trial m_lots m_tars (x5 + 1) hf H locs ls hP hS (lv_sub hl [1, 2, 3, 4, 0] rfl)
set_option maxHeartbeats 4000000 in
set_option maxRecDepth 100000 in
theorem mpM_yearsBy_152 {p : Program} {l : Launch} {e : Env} {R : Room} {s : State} {m : MethodId} {args : Array Value} {below : List Frame} {meth : Method} {c : Code} {cells slots : Nat} {Q : State → Prop} {g : zG} (hI : zI g 581) (hC : zC g RX10 cX10_yearsBy 8 none p s m meth c args) (hR : 8 ≤ R.frames ∧ 60 * 8 ≤ R.locals ∧ cells ≤ R.cells ∧ slots ≤ R.slots) (m_thrown : Int32) (m_tape : Int32) (m_size : Int32) (m_place : Int32) (m_at : Int32) (m_fault : Int32) (m_faultAt : Int32) (m_clauses : Int32) (m_open : Int32) (m_fed : Nat → Int32) (m_refused : Nat → Int32) (m_readTold : Nat → Int32) (m_told : Nat → Int32) (m_readBeast : Nat → Nat → Int32) (m_beast : Nat → Nat → Int32) (m_readGate : Nat → Nat → Int32) (m_gate : Nat → Nat → Int32) (m_readList : Nat → Nat → Int32) (m_list : Nat → Nat → Int32) (m_lawMany : Int32) (m_readLawMany : Int32) (m_law : Nat → Nat → Int32) (m_readLaw : Nat → Nat → Int32) (m_stack : Nat → Int32) (m_known : Nat → Int32) (m_step : Nat → Nat → Int32) (m_steps : Int32) (m_now : Nat → Int32) (m_before : Nat → Nat → Int32) (m_kept : Nat → Nat → Int32) (m_works : Int32) (m_refusedSteps : Int32) (m_images : Int32) (m_spot : Int32) (m_begun : Int32) (m_doneSteps : Int32) (m_mixed : Nat → Int32) (m_fewest : Nat → Int32) (m_leastFees : Nat → Int32) (m_tars : Int32) (x2 : Int32) (x3 : Int32) (x4 : Int32) (N9 : Nat)  (k44 : (Nat → Int32) → (Nat → Int32) → (Nat → Int32) → Int32 → Int32 → Int32 → Option ((Nat → Int32) × (Nat → Int32) × (Nat → Int32) × Int32 × Int32)) (res : (Nat → Int32) × (Nat → Int32) × (Nat → Int32) × Int32 × Int32) (hfin : ∀ (m_stack : Nat → Int32) (m_known : Nat → Int32) (m_trial : Nat → Int32) (m_lots : Int32) (m_tars : Int32) (H : Heap) (locs : List Loc) (pc : Nat) (ls : Array Slot), (m_stack, m_known, m_trial, m_lots, m_tars) = res → va_P g.1 zcl (zM g m_thrown m_tape m_size m_place m_at m_fault m_faultAt m_clauses m_open m_fed m_refused m_readTold m_told m_readBeast m_beast m_readGate m_gate m_readList m_list m_lawMany m_readLawMany m_law m_readLaw m_stack m_known m_step m_steps m_now m_trial m_before m_kept m_works m_refusedSteps m_images m_spot m_begun m_doneSteps m_mixed m_fewest m_leastFees m_lots m_tars) H → va_S (zF g 64 580 s.heap.size) s.heap H locs → decode cX10_yearsBy pc = .ok (.return_, 1) → W p l e R s m args below meth c H locs cells slots Q (F0 m pc ls [])) (hk44 : ∀ (m_stack : Nat → Int32) (m_known : Nat → Int32) (m_trial : Nat → Int32) (m_lots : Int32) (m_tars : Int32) (x5 : Int32), k44 m_stack m_known m_trial m_lots m_tars x5 = some res → ∀ (H : Heap) (locs : List Loc) (ls : Array Slot), va_P g.1 zcl (zM g m_thrown m_tape m_size m_place m_at m_fault m_faultAt m_clauses m_open m_fed m_refused m_readTold m_told m_readBeast m_beast m_readGate m_gate m_readList m_list m_lawMany m_readLawMany m_law m_readLaw m_stack m_known m_step m_steps m_now m_trial m_before m_kept m_works m_refusedSteps m_images m_spot m_begun m_doneSteps m_mixed m_fewest m_leastFees m_lots m_tars) H → va_S (zF g 64 580 s.heap.size) s.heap H locs → lv_has ls 8 [(0, .ref (g.2.1 64)), (2, .int x2), (3, .int x3), (4, .int x4), (5, .int x5)] → W p l e R s m args below meth c H locs cells slots Q (F0 m 44 ls [])) : ∀ (m_trial : Nat → Int32) (m_lots : Int32) (x5 : Int32), pM_yearsBy_152 N9 m_stack m_known m_tars x2 x3 x4 k44 m_trial m_lots x5 = some res → ∀ (H : Heap) (locs : List Loc) (ls : Array Slot), va_P g.1 zcl (zM g m_thrown m_tape m_size m_place m_at m_fault m_faultAt m_clauses m_open m_fed m_refused m_readTold m_told m_readBeast m_beast m_readGate m_gate m_readList m_list m_lawMany m_readLawMany m_law m_readLaw m_stack m_known m_step m_steps m_now m_trial m_before m_kept m_works m_refusedSteps m_images m_spot m_begun m_doneSteps m_mixed m_fewest m_leastFees m_lots m_tars) H → va_S (zF g 64 580 s.heap.size) s.heap H locs → lv_has ls 8 [(0, .ref (g.2.1 64)), (2, .int x2), (3, .int x3), (4, .int x4), (5, .int x5)] → W p l e R s m args below meth c H locs cells slots Q (F0 m 152 ls []) := by
  obtain ⟨hx, hb, hr, hml, hown, hts, hK, hlk, hST⟩ := id hC
  have hB : ∀ q, (zF g 64 580 s.heap.size) q → zB g q := zF.base hI (Nat.le_of_ble_eq_true rfl) hST.1
  intro m_trial m_lots x5 hf H locs ls hP hS hl
  have hk166 := mpM_yearsBy_166 (l := l) (e := e) (R := R) (below := below) (cells := cells) (slots := slots) (Q := Q) hI hC hR m_thrown m_tape m_size m_place m_at m_fault m_faultAt m_clauses m_open m_fed m_refused m_readTold m_told m_readBeast m_beast m_readGate m_gate m_readList m_list m_lawMany m_readLawMany m_law m_readLaw m_stack m_known m_step m_steps m_now m_before m_kept m_works m_refusedSteps m_images m_spot m_begun m_doneSteps m_mixed m_fewest m_leastFees m_lots m_tars x2 x3 x4 N9 k44 res hfin hk44
  unfold pM_yearsBy_152 at hf
  refine lv_iload hx hb dX10_yearsBy_152 (lv_at hl 4 rfl) ?_
  refine lv_iconst (v := 4) hx hb dX10_yearsBy_154 (by decide) ?_
  have hd_1 : ¬ (4 : Int32) = 0 := by decide
  refine lv_irem hx hb dX10_yearsBy_155 hd_1 ?_
  refine lv_if_ne (tgt := 166) hx hb dX10_yearsBy_156 (by decide) (fun hc_2 => ?_) (fun hc_2 => ?_)
  · have hf := zifn hc_2 hf
    exact hk166 m_trial x5 hf H locs ls hP hS (lv_sub hl [0, 1, 2, 3, 4] rfl)
  · have hf := zifp hc_2 hf
    refine lv_aload_n hx hb dX10_yearsBy_159 rfl (lv_at hl 0 rfl) ?_
    refine zr_m_trial hC hP (hC.fl mw_1417) dX10_yearsBy_160 ?_
    obtain ⟨m_trial_3, hf_3, hf⟩ := zb1i hf
    refine zcallSv (As := [.ref (g.2.1 81)]) (rest := []) hC hP hS hB (fun q h => zF.mono hS.1 h) (cpM_yearEnds_i1 l hI H.size m_thrown m_tape m_size m_place m_at m_fault m_faultAt m_clauses m_open m_fed m_refused m_readTold m_told m_readBeast m_beast m_readGate m_gate m_readList m_list m_lawMany m_readLawMany m_law m_readLaw m_stack m_known m_step m_steps m_now m_trial m_before m_kept m_works m_refusedSteps m_images m_spot m_begun m_doneSteps m_mixed m_fewest m_leastFees m_lots m_tars  N9 hf_3) (hC.ml mw_1708) yo_X10_yearEnds rfl hl.1 rfl (Nat.le_of_ble_eq_true rfl) ⟨by omega, by omega⟩ hR.2.2 dX10_yearsBy_163 (fun H locs hP hS _ _ => ?_)
    exact hk166 m_trial_3 x5 hf H locs ls hP hS (lv_sub hl [0, 1, 2, 3, 4] rfl)
set_option maxHeartbeats 4000000 in
set_option maxRecDepth 100000 in
theorem mpM_yearsBy_131 {p : Program} {l : Launch} {e : Env} {R : Room} {s : State} {m : MethodId} {args : Array Value} {below : List Frame} {meth : Method} {c : Code} {cells slots : Nat} {Q : State → Prop} {g : zG} (hI : zI g 581) (hC : zC g RX10 cX10_yearsBy 8 none p s m meth c args) (hR : 8 ≤ R.frames ∧ 60 * 8 ≤ R.locals ∧ cells ≤ R.cells ∧ slots ≤ R.slots) (m_thrown : Int32) (m_tape : Int32) (m_size : Int32) (m_place : Int32) (m_at : Int32) (m_fault : Int32) (m_faultAt : Int32) (m_clauses : Int32) (m_open : Int32) (m_fed : Nat → Int32) (m_refused : Nat → Int32) (m_readTold : Nat → Int32) (m_told : Nat → Int32) (m_readBeast : Nat → Nat → Int32) (m_beast : Nat → Nat → Int32) (m_readGate : Nat → Nat → Int32) (m_gate : Nat → Nat → Int32) (m_readList : Nat → Nat → Int32) (m_list : Nat → Nat → Int32) (m_lawMany : Int32) (m_readLawMany : Int32) (m_law : Nat → Nat → Int32) (m_readLaw : Nat → Nat → Int32) (m_step : Nat → Nat → Int32) (m_steps : Int32) (m_now : Nat → Int32) (m_before : Nat → Nat → Int32) (m_kept : Nat → Nat → Int32) (m_works : Int32) (m_refusedSteps : Int32) (m_images : Int32) (m_spot : Int32) (m_begun : Int32) (m_doneSteps : Int32) (m_mixed : Nat → Int32) (m_fewest : Nat → Int32) (m_leastFees : Nat → Int32) (x2 : Int32) (x3 : Int32) (x4 : Int32) (N9 : Nat)  (k44 : (Nat → Int32) → (Nat → Int32) → (Nat → Int32) → Int32 → Int32 → Int32 → Option ((Nat → Int32) × (Nat → Int32) × (Nat → Int32) × Int32 × Int32)) (res : (Nat → Int32) × (Nat → Int32) × (Nat → Int32) × Int32 × Int32) (hfin : ∀ (m_stack : Nat → Int32) (m_known : Nat → Int32) (m_trial : Nat → Int32) (m_lots : Int32) (m_tars : Int32) (H : Heap) (locs : List Loc) (pc : Nat) (ls : Array Slot), (m_stack, m_known, m_trial, m_lots, m_tars) = res → va_P g.1 zcl (zM g m_thrown m_tape m_size m_place m_at m_fault m_faultAt m_clauses m_open m_fed m_refused m_readTold m_told m_readBeast m_beast m_readGate m_gate m_readList m_list m_lawMany m_readLawMany m_law m_readLaw m_stack m_known m_step m_steps m_now m_trial m_before m_kept m_works m_refusedSteps m_images m_spot m_begun m_doneSteps m_mixed m_fewest m_leastFees m_lots m_tars) H → va_S (zF g 64 580 s.heap.size) s.heap H locs → decode cX10_yearsBy pc = .ok (.return_, 1) → W p l e R s m args below meth c H locs cells slots Q (F0 m pc ls [])) (hk44 : ∀ (m_stack : Nat → Int32) (m_known : Nat → Int32) (m_trial : Nat → Int32) (m_lots : Int32) (m_tars : Int32) (x5 : Int32), k44 m_stack m_known m_trial m_lots m_tars x5 = some res → ∀ (H : Heap) (locs : List Loc) (ls : Array Slot), va_P g.1 zcl (zM g m_thrown m_tape m_size m_place m_at m_fault m_faultAt m_clauses m_open m_fed m_refused m_readTold m_told m_readBeast m_beast m_readGate m_gate m_readList m_list m_lawMany m_readLawMany m_law m_readLaw m_stack m_known m_step m_steps m_now m_trial m_before m_kept m_works m_refusedSteps m_images m_spot m_begun m_doneSteps m_mixed m_fewest m_leastFees m_lots m_tars) H → va_S (zF g 64 580 s.heap.size) s.heap H locs → lv_has ls 8 [(0, .ref (g.2.1 64)), (2, .int x2), (3, .int x3), (4, .int x4), (5, .int x5)] → W p l e R s m args below meth c H locs cells slots Q (F0 m 44 ls [])) : ∀ (m_stack : Nat → Int32) (m_known : Nat → Int32) (m_trial : Nat → Int32) (m_lots : Int32) (m_tars : Int32) (x5 : Int32) (x6 : Int32), pM_yearsBy_131 N9 x2 x3 x4 k44 m_stack m_known m_trial m_lots m_tars x5 x6 = some res → ∀ (H : Heap) (locs : List Loc) (ls : Array Slot), va_P g.1 zcl (zM g m_thrown m_tape m_size m_place m_at m_fault m_faultAt m_clauses m_open m_fed m_refused m_readTold m_told m_readBeast m_beast m_readGate m_gate m_readList m_list m_lawMany m_readLawMany m_law m_readLaw m_stack m_known m_step m_steps m_now m_trial m_before m_kept m_works m_refusedSteps m_images m_spot m_begun m_doneSteps m_mixed m_fewest m_leastFees m_lots m_tars) H → va_S (zF g 64 580 s.heap.size) s.heap H locs → lv_has ls 8 [(0, .ref (g.2.1 64)), (2, .int x2), (3, .int x3), (4, .int x4), (5, .int x5), (6, .int x6)] → W p l e R s m args below meth c H locs cells slots Q (F0 m 131 ls []) := by
  obtain ⟨hx, hb, hr, hml, hown, hts, hK, hlk, hST⟩ := id hC
  have hB : ∀ q, (zF g 64 580 s.heap.size) q → zB g q := zF.base hI (Nat.le_of_ble_eq_true rfl) hST.1
  intro m_stack m_known m_trial m_lots m_tars x5 x6 hf H locs ls hP hS hl
  have hk152 := mpM_yearsBy_152 (l := l) (e := e) (R := R) (below := below) (cells := cells) (slots := slots) (Q := Q) hI hC hR m_thrown m_tape m_size m_place m_at m_fault m_faultAt m_clauses m_open m_fed m_refused m_readTold m_told m_readBeast m_beast m_readGate m_gate m_readList m_list m_lawMany m_readLawMany m_law m_readLaw m_stack m_known m_step m_steps m_now m_before m_kept m_works m_refusedSteps m_images m_spot m_begun m_doneSteps m_mixed m_fewest m_leastFees m_tars x2 x3 x4 N9 k44 res hfin hk44
  unfold pM_yearsBy_131 at hf
  refine lv_aload_n hx hb dX10_yearsBy_131 rfl (lv_at hl 0 rfl) ?_
  refine lv_bipush (v := 16) hx hb dX10_yearsBy_132 (by decide) ?_
  obtain ⟨r_4, m_lots_4, hf_4, hf⟩ := zb2i hf
  refine zcallVi (As := [.int 16]) (rest := []) hC hP hS hB (fun q h => zF.mono hS.1 h) (cpM_draw l hI H.size m_thrown m_tape m_size m_place m_at m_fault m_faultAt m_clauses m_open m_fed m_refused m_readTold m_told m_readBeast m_beast m_readGate m_gate m_readList m_list m_lawMany m_readLawMany m_law m_readLaw m_stack m_known m_step m_steps m_now m_trial m_before m_kept m_works m_refusedSteps m_images m_spot m_begun m_doneSteps m_mixed m_fewest m_leastFees m_lots m_tars (16 : Int32) N9 hf_4) (hC.ml mw_1900) yo_X10_draw 0 (zfM rfl) rfl rfl rfl hl.1 rfl (Nat.le_of_ble_eq_true rfl) ⟨by omega, by omega⟩ hR.2.2 dX10_yearsBy_134 (fun H locs hP hS _ _ => ?_)
  refine lv_iload hx hb dX10_yearsBy_137 (lv_at hl 3 rfl) ?_
  refine lv_icmp_ge (tgt := 152) hx hb dX10_yearsBy_139 (by decide) (fun hc_5 => ?_) (fun hc_5 => ?_)
  · have hf := zifp hc_5 hf
    exact hk152 m_trial m_lots_4 x5 hf H locs ls hP hS (lv_sub hl [0, 1, 2, 3, 4] rfl)
  · have hf := zifn hc_5 hf
    refine lv_aload_n hx hb dX10_yearsBy_142 rfl (lv_at hl 0 rfl) ?_
    refine zr_m_trial hC hP (hC.fl mw_1417) dX10_yearsBy_143 ?_
    refine lv_iload hx hb dX10_yearsBy_146 (lv_at hl 5 rfl) ?_
    obtain ⟨r_6, m_trial_6, hf_6, hf⟩ := zb2i hf
    refine zcallSi (As := [.ref (g.2.1 81), .int x6]) (rest := []) hC hP hS hB (fun q h => zF.mono hS.1 h) (cpM_washes_i1 l hI H.size m_thrown m_tape m_size m_place m_at m_fault m_faultAt m_clauses m_open m_fed m_refused m_readTold m_told m_readBeast m_beast m_readGate m_gate m_readList m_list m_lawMany m_readLawMany m_law m_readLaw m_stack m_known m_step m_steps m_now m_trial m_before m_kept m_works m_refusedSteps m_images m_spot m_begun m_doneSteps m_mixed m_fewest m_leastFees m_lots_4 m_tars x6 N9 hf_6) (hC.ml mw_1662) yo_X10_washes rfl hl.1 rfl (Nat.le_of_ble_eq_true rfl) ⟨by omega, by omega⟩ hR.2.2 dX10_yearsBy_148 (fun H locs hP hS _ _ => ?_)
    refine lv_pop hx hb dX10_yearsBy_151 rfl ?_
    exact hk152 m_trial_6 m_lots_4 x5 hf H locs ls hP hS (lv_sub hl [0, 1, 2, 3, 4] rfl)
set_option maxHeartbeats 4000000 in
set_option maxRecDepth 100000 in
theorem mpM_yearsBy_127 {p : Program} {l : Launch} {e : Env} {R : Room} {s : State} {m : MethodId} {args : Array Value} {below : List Frame} {meth : Method} {c : Code} {cells slots : Nat} {Q : State → Prop} {g : zG} (hI : zI g 581) (hC : zC g RX10 cX10_yearsBy 8 none p s m meth c args) (hR : 8 ≤ R.frames ∧ 60 * 8 ≤ R.locals ∧ cells ≤ R.cells ∧ slots ≤ R.slots) (m_thrown : Int32) (m_tape : Int32) (m_size : Int32) (m_place : Int32) (m_at : Int32) (m_fault : Int32) (m_faultAt : Int32) (m_clauses : Int32) (m_open : Int32) (m_fed : Nat → Int32) (m_refused : Nat → Int32) (m_readTold : Nat → Int32) (m_told : Nat → Int32) (m_readBeast : Nat → Nat → Int32) (m_beast : Nat → Nat → Int32) (m_readGate : Nat → Nat → Int32) (m_gate : Nat → Nat → Int32) (m_readList : Nat → Nat → Int32) (m_list : Nat → Nat → Int32) (m_lawMany : Int32) (m_readLawMany : Int32) (m_law : Nat → Nat → Int32) (m_readLaw : Nat → Nat → Int32) (m_step : Nat → Nat → Int32) (m_steps : Int32) (m_now : Nat → Int32) (m_before : Nat → Nat → Int32) (m_kept : Nat → Nat → Int32) (m_works : Int32) (m_refusedSteps : Int32) (m_images : Int32) (m_spot : Int32) (m_begun : Int32) (m_doneSteps : Int32) (m_mixed : Nat → Int32) (m_fewest : Nat → Int32) (m_leastFees : Nat → Int32) (x2 : Int32) (x3 : Int32) (x4 : Int32) (N9 : Nat)  (k131 : (Nat → Int32) → (Nat → Int32) → (Nat → Int32) → Int32 → Int32 → Int32 → Int32 → Option ((Nat → Int32) × (Nat → Int32) × (Nat → Int32) × Int32 × Int32)) (res : (Nat → Int32) × (Nat → Int32) × (Nat → Int32) × Int32 × Int32) (hfin : ∀ (m_stack : Nat → Int32) (m_known : Nat → Int32) (m_trial : Nat → Int32) (m_lots : Int32) (m_tars : Int32) (H : Heap) (locs : List Loc) (pc : Nat) (ls : Array Slot), (m_stack, m_known, m_trial, m_lots, m_tars) = res → va_P g.1 zcl (zM g m_thrown m_tape m_size m_place m_at m_fault m_faultAt m_clauses m_open m_fed m_refused m_readTold m_told m_readBeast m_beast m_readGate m_gate m_readList m_list m_lawMany m_readLawMany m_law m_readLaw m_stack m_known m_step m_steps m_now m_trial m_before m_kept m_works m_refusedSteps m_images m_spot m_begun m_doneSteps m_mixed m_fewest m_leastFees m_lots m_tars) H → va_S (zF g 64 580 s.heap.size) s.heap H locs → decode cX10_yearsBy pc = .ok (.return_, 1) → W p l e R s m args below meth c H locs cells slots Q (F0 m pc ls [])) (hk131 : ∀ (m_stack : Nat → Int32) (m_known : Nat → Int32) (m_trial : Nat → Int32) (m_lots : Int32) (m_tars : Int32) (x5 : Int32) (x6 : Int32), k131 m_stack m_known m_trial m_lots m_tars x5 x6 = some res → ∀ (H : Heap) (locs : List Loc) (ls : Array Slot), va_P g.1 zcl (zM g m_thrown m_tape m_size m_place m_at m_fault m_faultAt m_clauses m_open m_fed m_refused m_readTold m_told m_readBeast m_beast m_readGate m_gate m_readList m_list m_lawMany m_readLawMany m_law m_readLaw m_stack m_known m_step m_steps m_now m_trial m_before m_kept m_works m_refusedSteps m_images m_spot m_begun m_doneSteps m_mixed m_fewest m_leastFees m_lots m_tars) H → va_S (zF g 64 580 s.heap.size) s.heap H locs → lv_has ls 8 [(0, .ref (g.2.1 64)), (2, .int x2), (3, .int x3), (4, .int x4), (5, .int x5), (6, .int x6)] → W p l e R s m args below meth c H locs cells slots Q (F0 m 131 ls [])) : ∀ (m_stack : Nat → Int32) (m_known : Nat → Int32) (m_trial : Nat → Int32) (m_lots : Int32) (m_tars : Int32) (x5 : Int32) (x6 : Int32) (s1 : Int32) (s2 : Int32), pM_yearsBy_127 N9 x2 x3 x4 k131 m_stack m_known m_trial m_lots m_tars x5 x6 s1 s2 = some res → ∀ (H : Heap) (locs : List Loc) (ls : Array Slot), va_P g.1 zcl (zM g m_thrown m_tape m_size m_place m_at m_fault m_faultAt m_clauses m_open m_fed m_refused m_readTold m_told m_readBeast m_beast m_readGate m_gate m_readList m_list m_lawMany m_readLawMany m_law m_readLaw m_stack m_known m_step m_steps m_now m_trial m_before m_kept m_works m_refusedSteps m_images m_spot m_begun m_doneSteps m_mixed m_fewest m_leastFees m_lots m_tars) H → va_S (zF g 64 580 s.heap.size) s.heap H locs → lv_has ls 8 [(0, .ref (g.2.1 64)), (2, .int x2), (3, .int x3), (4, .int x4), (5, .int x5), (6, .int x6)] → W p l e R s m args below meth c H locs cells slots Q (F0 m 127 ls [.int s2, .int s1, .ref (g.2.1 64)]) := by
  obtain ⟨hx, hb, hr, hml, hown, hts, hK, hlk, hST⟩ := id hC
  have hB : ∀ q, (zF g 64 580 s.heap.size) q → zB g q := zF.base hI (Nat.le_of_ble_eq_true rfl) hST.1
  intro m_stack m_known m_trial m_lots m_tars x5 x6 s1 s2 hf H locs ls hP hS hl
  unfold pM_yearsBy_127 at hf
  refine lv_iadd hx hb dX10_yearsBy_127 ?_
  refine zp_m_tars hC hP hI (fun k h1 h2 => zF.own h1 h2) hS (hC.fl mw_1430) dX10_yearsBy_128 (fun H locs hP hS => ?_)
  exact hk131 m_stack m_known m_trial m_lots (s1 + s2) x5 x6 hf H locs ls hP hS (lv_sub hl [0, 1, 2, 3, 4, 5] rfl)
set_option maxHeartbeats 4000000 in
set_option maxRecDepth 100000 in
theorem mpM_yearsBy_44 {p : Program} {l : Launch} {e : Env} {R : Room} {s : State} {m : MethodId} {args : Array Value} {below : List Frame} {meth : Method} {c : Code} {cells slots : Nat} {Q : State → Prop} {g : zG} (hI : zI g 581) (hC : zC g RX10 cX10_yearsBy 8 none p s m meth c args) (hR : 8 ≤ R.frames ∧ 60 * 8 ≤ R.locals ∧ cells ≤ R.cells ∧ slots ≤ R.slots) (m_thrown : Int32) (m_tape : Int32) (m_size : Int32) (m_place : Int32) (m_at : Int32) (m_fault : Int32) (m_faultAt : Int32) (m_clauses : Int32) (m_open : Int32) (m_fed : Nat → Int32) (m_refused : Nat → Int32) (m_readTold : Nat → Int32) (m_told : Nat → Int32) (m_readBeast : Nat → Nat → Int32) (m_beast : Nat → Nat → Int32) (m_readGate : Nat → Nat → Int32) (m_gate : Nat → Nat → Int32) (m_readList : Nat → Nat → Int32) (m_list : Nat → Nat → Int32) (m_lawMany : Int32) (m_readLawMany : Int32) (m_law : Nat → Nat → Int32) (m_readLaw : Nat → Nat → Int32) (m_step : Nat → Nat → Int32) (m_steps : Int32) (m_now : Nat → Int32) (m_before : Nat → Nat → Int32) (m_kept : Nat → Nat → Int32) (m_works : Int32) (m_refusedSteps : Int32) (m_images : Int32) (m_spot : Int32) (m_begun : Int32) (m_doneSteps : Int32) (m_mixed : Nat → Int32) (m_fewest : Nat → Int32) (m_leastFees : Nat → Int32) (x2 : Int32) (x3 : Int32) (x4 : Int32) (N9 : Nat)   (res : (Nat → Int32) × (Nat → Int32) × (Nat → Int32) × Int32 × Int32) (hfin : ∀ (m_stack : Nat → Int32) (m_known : Nat → Int32) (m_trial : Nat → Int32) (m_lots : Int32) (m_tars : Int32) (H : Heap) (locs : List Loc) (pc : Nat) (ls : Array Slot), (m_stack, m_known, m_trial, m_lots, m_tars) = res → va_P g.1 zcl (zM g m_thrown m_tape m_size m_place m_at m_fault m_faultAt m_clauses m_open m_fed m_refused m_readTold m_told m_readBeast m_beast m_readGate m_gate m_readList m_list m_lawMany m_readLawMany m_law m_readLaw m_stack m_known m_step m_steps m_now m_trial m_before m_kept m_works m_refusedSteps m_images m_spot m_begun m_doneSteps m_mixed m_fewest m_leastFees m_lots m_tars) H → va_S (zF g 64 580 s.heap.size) s.heap H locs → decode cX10_yearsBy pc = .ok (.return_, 1) → W p l e R s m args below meth c H locs cells slots Q (F0 m pc ls [])) : ∀ (n9 : Nat) (m_stack : Nat → Int32) (m_known : Nat → Int32) (m_trial : Nat → Int32) (m_lots : Int32) (m_tars : Int32) (x5 : Int32), pM_yearsBy_44 N9 m_told m_gate m_list m_lawMany m_law m_now x2 x3 x4 n9 m_stack m_known m_trial m_lots m_tars x5 = some res → ∀ (H : Heap) (locs : List Loc) (ls : Array Slot), va_P g.1 zcl (zM g m_thrown m_tape m_size m_place m_at m_fault m_faultAt m_clauses m_open m_fed m_refused m_readTold m_told m_readBeast m_beast m_readGate m_gate m_readList m_list m_lawMany m_readLawMany m_law m_readLaw m_stack m_known m_step m_steps m_now m_trial m_before m_kept m_works m_refusedSteps m_images m_spot m_begun m_doneSteps m_mixed m_fewest m_leastFees m_lots m_tars) H → va_S (zF g 64 580 s.heap.size) s.heap H locs → lv_has ls 8 [(0, .ref (g.2.1 64)), (2, .int x2), (3, .int x3), (4, .int x4), (5, .int x5)] → W p l e R s m args below meth c H locs cells slots Q (F0 m 44 ls []) := by
  obtain ⟨hx, hb, hr, hml, hown, hts, hK, hlk, hST⟩ := id hC
  have hB : ∀ q, (zF g 64 580 s.heap.size) q → zB g q := zF.base hI (Nat.le_of_ble_eq_true rfl) hST.1
  intro n9
  induction n9 with
  | zero => intro m_stack m_known m_trial m_lots m_tars x5 hf; cases hf
  | succ n9 ih =>
    intro m_stack m_known m_trial m_lots m_tars x5 hf H locs ls hP hS hl
    have hk44 := ih
    have hk131 := mpM_yearsBy_131 (l := l) (e := e) (R := R) (below := below) (cells := cells) (slots := slots) (Q := Q) hI hC hR m_thrown m_tape m_size m_place m_at m_fault m_faultAt m_clauses m_open m_fed m_refused m_readTold m_told m_readBeast m_beast m_readGate m_gate m_readList m_list m_lawMany m_readLawMany m_law m_readLaw m_step m_steps m_now m_before m_kept m_works m_refusedSteps m_images m_spot m_begun m_doneSteps m_mixed m_fewest m_leastFees x2 x3 x4 N9 (pM_yearsBy_44 N9 m_told m_gate m_list m_lawMany m_law m_now x2 x3 x4 n9) res hfin hk44
    have hk127 := mpM_yearsBy_127 (l := l) (e := e) (R := R) (below := below) (cells := cells) (slots := slots) (Q := Q) hI hC hR m_thrown m_tape m_size m_place m_at m_fault m_faultAt m_clauses m_open m_fed m_refused m_readTold m_told m_readBeast m_beast m_readGate m_gate m_readList m_list m_lawMany m_readLawMany m_law m_readLaw m_step m_steps m_now m_before m_kept m_works m_refusedSteps m_images m_spot m_begun m_doneSteps m_mixed m_fewest m_leastFees x2 x3 x4 N9 (pM_yearsBy_131 N9 x2 x3 x4 (pM_yearsBy_44 N9 m_told m_gate m_list m_lawMany m_law m_now x2 x3 x4 n9)) res hfin hk131
    unfold pM_yearsBy_44 at hf
    refine lv_iload hx hb dX10_yearsBy_44 (lv_at hl 4 rfl) ?_
    refine lv_iload_n hx hb dX10_yearsBy_46 rfl (lv_at hl 1 rfl) ?_
    refine lv_icmp_gt (tgt := 172) hx hb dX10_yearsBy_47 (by decide) (fun hc_7 => ?_) (fun hc_7 => ?_)
    · have hf := zifp hc_7 hf
      exact hfin _ _ _ _ _ H locs _ ls (Option.some.inj hf) hP hS dX10_yearsBy_172
    · have hf := zifn hc_7 hf
      refine lv_aload_n hx hb dX10_yearsBy_50 rfl (lv_at hl 0 rfl) ?_
      refine lv_aload_n hx hb dX10_yearsBy_51 rfl (lv_at hl 0 rfl) ?_
      refine zr_m_now hC hP (hC.fl mw_1416) dX10_yearsBy_52 ?_
      refine lv_bipush (v := 42) hx hb dX10_yearsBy_55 (by decide) ?_
      obtain ⟨hz_8, hf⟩ := zite hf
      refine zl_m_now hC hP hz_8 dX10_yearsBy_57 ?_
      obtain ⟨r_9, m_lots_9, hf_9, hf⟩ := zb2i hf
      refine zcallVi (As := [.int (m_now (42 : Int32).toNatClampNeg)]) (rest := []) hC hP hS hB (fun q h => zF.mono hS.1 h) (cpM_draw l hI H.size m_thrown m_tape m_size m_place m_at m_fault m_faultAt m_clauses m_open m_fed m_refused m_readTold m_told m_readBeast m_beast m_readGate m_gate m_readList m_list m_lawMany m_readLawMany m_law m_readLaw m_stack m_known m_step m_steps m_now m_trial m_before m_kept m_works m_refusedSteps m_images m_spot m_begun m_doneSteps m_mixed m_fewest m_leastFees m_lots m_tars (m_now (42 : Int32).toNatClampNeg) N9 hf_9) (hC.ml mw_1900) yo_X10_draw 0 (zfM rfl) rfl rfl rfl hl.1 rfl (Nat.le_of_ble_eq_true rfl) ⟨by omega, by omega⟩ hR.2.2 dX10_yearsBy_58 (fun H locs hP hS _ _ => ?_)
      refine lv_istore (lv' := [(6, .int r_9), (0, .ref (g.2.1 64)), (2, .int x2), (3, .int x3), (4, .int x4), (5, .int x5)]) hx hb dX10_yearsBy_61 hl (by decide) rfl (fun ls hl => ?_)
      refine lv_aload_n hx hb dX10_yearsBy_63 rfl (lv_at hl 1 rfl) ?_
      refine lv_aload_n hx hb dX10_yearsBy_64 rfl (lv_at hl 1 rfl) ?_
      refine zr_m_told hC hP (hC.fl mw_1401) dX10_yearsBy_65 ?_
      refine lv_iconst (v := 1) hx hb dX10_yearsBy_68 (by decide) ?_
      obtain ⟨hz_10, hf⟩ := zite hf
      refine zl_m_told hC hP hz_10 dX10_yearsBy_69 ?_
      obtain ⟨r_11, m_lots_11, hf_11, hf⟩ := zb2i hf
      refine zcallVi (As := [.int (m_told (1 : Int32).toNatClampNeg)]) (rest := []) hC hP hS hB (fun q h => zF.mono hS.1 h) (cpM_draw l hI H.size m_thrown m_tape m_size m_place m_at m_fault m_faultAt m_clauses m_open m_fed m_refused m_readTold m_told m_readBeast m_beast m_readGate m_gate m_readList m_list m_lawMany m_readLawMany m_law m_readLaw m_stack m_known m_step m_steps m_now m_trial m_before m_kept m_works m_refusedSteps m_images m_spot m_begun m_doneSteps m_mixed m_fewest m_leastFees m_lots_9 m_tars (m_told (1 : Int32).toNatClampNeg) N9 hf_11) (hC.ml mw_1900) yo_X10_draw 0 (zfM rfl) rfl rfl rfl hl.1 rfl (Nat.le_of_ble_eq_true rfl) ⟨by omega, by omega⟩ hR.2.2 dX10_yearsBy_70 (fun H locs hP hS _ _ => ?_)
      refine lv_istore (lv' := [(7, .int r_11), (6, .int r_9), (0, .ref (g.2.1 64)), (2, .int x2), (3, .int x3), (4, .int x4), (5, .int x5)]) hx hb dX10_yearsBy_73 hl (by decide) rfl (fun ls hl => ?_)
      refine lv_aload_n hx hb dX10_yearsBy_75 rfl (lv_at hl 2 rfl) ?_
      refine lv_aload_n hx hb dX10_yearsBy_76 rfl (lv_at hl 2 rfl) ?_
      refine zr_m_trial hC hP (hC.fl mw_1417) dX10_yearsBy_77 ?_
      refine lv_iload hx hb dX10_yearsBy_80 (lv_at hl 1 rfl) ?_
      refine lv_iload hx hb dX10_yearsBy_82 (lv_at hl 0 rfl) ?_
      obtain ⟨r_12, m_stack_12, m_known_12, m_trial_12, hf_12, hf⟩ := zb4i hf
      refine zcallVi (As := [.ref (g.2.1 81), .int r_9, .int r_11]) (rest := []) hC hP hS hB (fun q h => zF.mono hS.1 h) (cpM_passes_i1 l hI H.size m_thrown m_tape m_size m_place m_at m_fault m_faultAt m_clauses m_open m_fed m_refused m_readTold m_told m_readBeast m_beast m_readGate m_gate m_readList m_list m_lawMany m_readLawMany m_law m_readLaw m_stack m_known m_step m_steps m_now m_trial m_before m_kept m_works m_refusedSteps m_images m_spot m_begun m_doneSteps m_mixed m_fewest m_leastFees m_lots_11 m_tars r_9 r_11 N9 hf_12) (hC.ml mw_1665) yo_X10_passes 0 (zfM rfl) rfl rfl rfl hl.1 rfl (Nat.le_of_ble_eq_true rfl) ⟨by omega, by omega⟩ hR.2.2 dX10_yearsBy_84 (fun H locs hP hS _ _ => ?_)
      refine lv_pop hx hb dX10_yearsBy_87 rfl ?_
      refine lv_aload_n hx hb dX10_yearsBy_88 rfl (lv_at hl 2 rfl) ?_
      refine lv_bipush (v := 16) hx hb dX10_yearsBy_89 (by decide) ?_
      obtain ⟨r_13, m_lots_13, hf_13, hf⟩ := zb2i hf
      refine zcallVi (As := [.int 16]) (rest := []) hC hP hS hB (fun q h => zF.mono hS.1 h) (cpM_draw l hI H.size m_thrown m_tape m_size m_place m_at m_fault m_faultAt m_clauses m_open m_fed m_refused m_readTold m_told m_readBeast m_beast m_readGate m_gate m_readList m_list m_lawMany m_readLawMany m_law m_readLaw m_stack_12 m_known_12 m_step m_steps m_now m_trial_12 m_before m_kept m_works m_refusedSteps m_images m_spot m_begun m_doneSteps m_mixed m_fewest m_leastFees m_lots_11 m_tars (16 : Int32) N9 hf_13) (hC.ml mw_1900) yo_X10_draw 0 (zfM rfl) rfl rfl rfl hl.1 rfl (Nat.le_of_ble_eq_true rfl) ⟨by omega, by omega⟩ hR.2.2 dX10_yearsBy_91 (fun H locs hP hS _ _ => ?_)
      refine lv_iload_n hx hb dX10_yearsBy_94 rfl (lv_at hl 4 rfl) ?_
      refine lv_icmp_ge (tgt := 131) hx hb dX10_yearsBy_95 (by decide) (fun hc_14 => ?_) (fun hc_14 => ?_)
      · have hf := zifp hc_14 hf
        exact hk131 m_stack_12 m_known_12 m_trial_12 m_lots_13 m_tars x5 r_9 hf H locs ls hP hS (lv_sub hl [2, 3, 4, 5, 6, 1] rfl)
      · have hf := zifn hc_14 hf
        refine lv_aload_n hx hb dX10_yearsBy_98 rfl (lv_at hl 2 rfl) ?_
        refine lv_dup hx hb dX10_yearsBy_99 rfl ?_
        refine zg_m_tars hC hP (hC.fl mw_1430) dX10_yearsBy_100 ?_
        refine lv_aload_n hx hb dX10_yearsBy_103 rfl (lv_at hl 2 rfl) ?_
        refine zr_m_trial hC hP (hC.fl mw_1417) dX10_yearsBy_104 ?_
        refine lv_iload hx hb dX10_yearsBy_107 (lv_at hl 1 rfl) ?_
        refine lv_aload_n hx hb dX10_yearsBy_109 rfl (lv_at hl 2 rfl) ?_
        refine lv_bipush (v := 8) hx hb dX10_yearsBy_110 (by decide) ?_
        obtain ⟨r_15, m_lots_15, hf_15, hf⟩ := zb2i hf
        refine zcallVi (As := [.int 8]) (rest := [.int r_9, .ref (g.2.1 81), .int m_tars, .ref (g.2.1 64)]) hC hP hS hB (fun q h => zF.mono hS.1 h) (cpM_draw l hI H.size m_thrown m_tape m_size m_place m_at m_fault m_faultAt m_clauses m_open m_fed m_refused m_readTold m_told m_readBeast m_beast m_readGate m_gate m_readList m_list m_lawMany m_readLawMany m_law m_readLaw m_stack_12 m_known_12 m_step m_steps m_now m_trial_12 m_before m_kept m_works m_refusedSteps m_images m_spot m_begun m_doneSteps m_mixed m_fewest m_leastFees m_lots_13 m_tars (8 : Int32) N9 hf_15) (hC.ml mw_1900) yo_X10_draw 0 (zfM rfl) rfl rfl rfl hl.1 rfl (Nat.le_of_ble_eq_true rfl) ⟨by omega, by omega⟩ hR.2.2 dX10_yearsBy_112 (fun H locs hP hS _ _ => ?_)
        refine lv_iconst (v := 1) hx hb dX10_yearsBy_115 (by decide) ?_
        obtain ⟨r_16, m_trial_16, hf_16, hf⟩ := zb2i hf
        refine zcallSi (As := [.ref (g.2.1 81), .int r_9, .int r_15, .int 1]) (rest := [.int m_tars, .ref (g.2.1 64)]) hC hP hS hB (fun q h => zF.mono hS.1 h) (cpM_paints_i1 l hI H.size m_thrown m_tape m_size m_place m_at m_fault m_faultAt m_clauses m_open m_fed m_refused m_readTold m_told m_readBeast m_beast m_readGate m_gate m_readList m_list m_lawMany m_readLawMany m_law m_readLaw m_stack_12 m_known_12 m_step m_steps m_now m_trial_12 m_before m_kept m_works m_refusedSteps m_images m_spot m_begun m_doneSteps m_mixed m_fewest m_leastFees m_lots_15 m_tars r_9 r_15 (1 : Int32) N9 hf_16) (hC.ml mw_1659) yo_X10_paints rfl hl.1 rfl (Nat.le_of_ble_eq_true rfl) ⟨by omega, by omega⟩ hR.2.2 dX10_yearsBy_116 (fun H locs hP hS _ _ => ?_)
        refine lv_if_eq (tgt := 126) hx hb dX10_yearsBy_119 (by decide) (fun hc_17 => ?_) (fun hc_17 => ?_)
        · have hf := zifp hc_17 hf
          refine lv_iconst (v := 0) hx hb dX10_yearsBy_126 (by decide) ?_
          exact hk127 m_stack_12 m_known_12 m_trial_16 m_lots_15 m_tars x5 r_9 m_tars 0 hf H locs ls hP hS (lv_sub hl [2, 3, 4, 5, 6, 1] rfl)
        · have hf := zifn hc_17 hf
          refine lv_iconst (v := 1) hx hb dX10_yearsBy_122 (by decide) ?_
          refine lv_goto (tgt := 127) hx hb dX10_yearsBy_123 (by decide) ?_
          exact hk127 m_stack_12 m_known_12 m_trial_16 m_lots_15 m_tars x5 r_9 m_tars 1 hf H locs ls hP hS (lv_sub hl [2, 3, 4, 5, 6, 1] rfl)
set_option maxHeartbeats 4000000 in
set_option maxRecDepth 100000 in
theorem mpM_yearsBy {p : Program} {l : Launch} {e : Env} {R : Room} {s : State} {m : MethodId} {args : Array Value} {below : List Frame} {meth : Method} {c : Code} {cells slots : Nat} {Q : State → Prop} {g : zG} (hI : zI g 581) (hC : zC g RX10 cX10_yearsBy 8 none p s m meth c args) (hR : 8 ≤ R.frames ∧ 60 * 8 ≤ R.locals ∧ cells ≤ R.cells ∧ slots ≤ R.slots) (m_thrown : Int32) (m_tape : Int32) (m_size : Int32) (m_place : Int32) (m_at : Int32) (m_fault : Int32) (m_faultAt : Int32) (m_clauses : Int32) (m_open : Int32) (m_fed : Nat → Int32) (m_refused : Nat → Int32) (m_readTold : Nat → Int32) (m_told : Nat → Int32) (m_readBeast : Nat → Nat → Int32) (m_beast : Nat → Nat → Int32) (m_readGate : Nat → Nat → Int32) (m_gate : Nat → Nat → Int32) (m_readList : Nat → Nat → Int32) (m_list : Nat → Nat → Int32) (m_lawMany : Int32) (m_readLawMany : Int32) (m_law : Nat → Nat → Int32) (m_readLaw : Nat → Nat → Int32) (m_stack : Nat → Int32) (m_known : Nat → Int32) (m_step : Nat → Nat → Int32) (m_steps : Int32) (m_now : Nat → Int32) (m_trial : Nat → Int32) (m_before : Nat → Nat → Int32) (m_kept : Nat → Nat → Int32) (m_works : Int32) (m_refusedSteps : Int32) (m_images : Int32) (m_spot : Int32) (m_begun : Int32) (m_doneSteps : Int32) (m_mixed : Nat → Int32) (m_fewest : Nat → Int32) (m_leastFees : Nat → Int32) (m_lots : Int32) (m_tars : Int32) (x1 : Int32) (x2 : Int32) (x3 : Int32) (x4 : Int32) (N9 : Nat)   (res : (Nat → Int32) × (Nat → Int32) × (Nat → Int32) × Int32 × Int32) (hfin : ∀ (m_stack : Nat → Int32) (m_known : Nat → Int32) (m_trial : Nat → Int32) (m_lots : Int32) (m_tars : Int32) (H : Heap) (locs : List Loc) (pc : Nat) (ls : Array Slot), (m_stack, m_known, m_trial, m_lots, m_tars) = res → va_P g.1 zcl (zM g m_thrown m_tape m_size m_place m_at m_fault m_faultAt m_clauses m_open m_fed m_refused m_readTold m_told m_readBeast m_beast m_readGate m_gate m_readList m_list m_lawMany m_readLawMany m_law m_readLaw m_stack m_known m_step m_steps m_now m_trial m_before m_kept m_works m_refusedSteps m_images m_spot m_begun m_doneSteps m_mixed m_fewest m_leastFees m_lots m_tars) H → va_S (zF g 64 580 s.heap.size) s.heap H locs → decode cX10_yearsBy pc = .ok (.return_, 1) → W p l e R s m args below meth c H locs cells slots Q (F0 m pc ls [])) : pM_yearsBy N9 m_told m_gate m_list m_lawMany m_law m_stack m_known m_now m_trial m_lots m_tars x1 x2 x3 x4 = some res → ∀ (H : Heap) (locs : List Loc) (ls : Array Slot), va_P g.1 zcl (zM g m_thrown m_tape m_size m_place m_at m_fault m_faultAt m_clauses m_open m_fed m_refused m_readTold m_told m_readBeast m_beast m_readGate m_gate m_readList m_list m_lawMany m_readLawMany m_law m_readLaw m_stack m_known m_step m_steps m_now m_trial m_before m_kept m_works m_refusedSteps m_images m_spot m_begun m_doneSteps m_mixed m_fewest m_leastFees m_lots m_tars) H → va_S (zF g 64 580 s.heap.size) s.heap H locs → lv_has ls 8 [(0, .ref (g.2.1 64)), (1, .int x1), (2, .int x2), (3, .int x3), (4, .int x4)] → W p l e R s m args below meth c H locs cells slots Q (F0 m 0 ls []) := by
  obtain ⟨hx, hb, hr, hml, hown, hts, hK, hlk, hST⟩ := id hC
  have hB : ∀ q, (zF g 64 580 s.heap.size) q → zB g q := zF.base hI (Nat.le_of_ble_eq_true rfl) hST.1
  intro  hf H locs ls hP hS hl
  have hk40 := mpM_yearsBy_40 (l := l) (e := e) (R := R) (below := below) (cells := cells) (slots := slots) (Q := Q) hI hC hR m_thrown m_tape m_size m_place m_at m_fault m_faultAt m_clauses m_open m_fed m_refused m_readTold m_told m_readBeast m_beast m_readGate m_gate m_readList m_list m_lawMany m_readLawMany m_law m_readLaw m_stack m_known m_step m_steps m_now m_before m_kept m_works m_refusedSteps m_images m_spot m_begun m_doneSteps m_mixed m_fewest m_leastFees N9 res hfin
  have hk44 := mpM_yearsBy_44 (l := l) (e := e) (R := R) (below := below) (cells := cells) (slots := slots) (Q := Q) hI hC hR m_thrown m_tape m_size m_place m_at m_fault m_faultAt m_clauses m_open m_fed m_refused m_readTold m_told m_readBeast m_beast m_readGate m_gate m_readList m_list m_lawMany m_readLawMany m_law m_readLaw m_step m_steps m_now m_before m_kept m_works m_refusedSteps m_images m_spot m_begun m_doneSteps m_mixed m_fewest m_leastFees x2 x3 x4 N9 res hfin N9
  unfold pM_yearsBy at hf
  refine lv_aload_n hx hb dX10_yearsBy_0 rfl (lv_at hl 0 rfl) ?_
  refine zr_m_now hC hP (hC.fl mw_1416) dX10_yearsBy_1 ?_
  refine lv_aload_n hx hb dX10_yearsBy_4 rfl (lv_at hl 0 rfl) ?_
  refine zr_m_trial hC hP (hC.fl mw_1417) dX10_yearsBy_5 ?_
  obtain ⟨m_trial_18, hf_18, hf⟩ := zb1i hf
  refine zcallSv (As := [.ref (g.2.1 80), .ref (g.2.1 81)]) (rest := []) hC hP hS hB (fun q h => zF.mono hS.1 h) (cpM_copies_i2 l hI H.size m_thrown m_tape m_size m_place m_at m_fault m_faultAt m_clauses m_open m_fed m_refused m_readTold m_told m_readBeast m_beast m_readGate m_gate m_readList m_list m_lawMany m_readLawMany m_law m_readLaw m_stack m_known m_step m_steps m_now m_trial m_before m_kept m_works m_refusedSteps m_images m_spot m_begun m_doneSteps m_mixed m_fewest m_leastFees m_lots m_tars  N9 hf_18) (hC.ml mw_1648) yo_X10_copies rfl hl.1 rfl (Nat.le_of_ble_eq_true rfl) ⟨by omega, by omega⟩ hR.2.2 dX10_yearsBy_8 (fun H locs hP hS _ _ => ?_)
  refine lv_aload_n hx hb dX10_yearsBy_11 rfl (lv_at hl 0 rfl) ?_
  refine lv_iload_n hx hb dX10_yearsBy_12 rfl (lv_at hl 1 rfl) ?_
  refine zp_m_lots hC hP hI (fun k h1 h2 => zF.own h1 h2) hS (hC.fl mw_1429) dX10_yearsBy_13 (fun H locs hP hS => ?_)
  refine lv_aload_n hx hb dX10_yearsBy_16 rfl (lv_at hl 0 rfl) ?_
  refine lv_iconst (v := 0) hx hb dX10_yearsBy_17 (by decide) ?_
  refine zp_m_tars hC hP hI (fun k h1 h2 => zF.own h1 h2) hS (hC.fl mw_1430) dX10_yearsBy_18 (fun H locs hP hS => ?_)
  refine lv_aload_n hx hb dX10_yearsBy_21 rfl (lv_at hl 0 rfl) ?_
  refine zr_m_now hC hP (hC.fl mw_1416) dX10_yearsBy_22 ?_
  refine lv_bipush (v := 42) hx hb dX10_yearsBy_25 (by decide) ?_
  obtain ⟨hz_19, hf⟩ := zite hf
  refine zl_m_now hC hP hz_19 dX10_yearsBy_27 ?_
  refine lv_if_eq (tgt := 40) hx hb dX10_yearsBy_28 (by decide) (fun hc_20 => ?_) (fun hc_20 => ?_)
  · have hf := zifp hc_20 hf
    exact hk40 m_trial_18 x1 0 hf H locs ls hP hS (lv_sub hl [] rfl)
  · have hf := zifn hc_20 hf
    refine lv_aload_n hx hb dX10_yearsBy_31 rfl (lv_at hl 0 rfl) ?_
    refine zr_m_told hC hP (hC.fl mw_1401) dX10_yearsBy_32 ?_
    refine lv_iconst (v := 1) hx hb dX10_yearsBy_35 (by decide) ?_
    obtain ⟨hz_21, hf⟩ := zite hf
    refine zl_m_told hC hP hz_21 dX10_yearsBy_36 ?_
    refine lv_if_ne (tgt := 41) hx hb dX10_yearsBy_37 (by decide) (fun hc_22 => ?_) (fun hc_22 => ?_)
    · have hf := zifn hc_22 hf
      refine lv_iconst (v := 1) hx hb dX10_yearsBy_41 (by decide) ?_
      refine lv_istore (lv' := [(5, .int 1), (0, .ref (g.2.1 64)), (1, .int x1), (2, .int x2), (3, .int x3), (4, .int x4)]) hx hb dX10_yearsBy_42 hl (by decide) rfl (fun ls hl => ?_)
      exact hk44 m_stack m_known m_trial_18 x1 0 1 hf H locs ls hP hS (lv_sub hl [1, 3, 4, 5, 0] rfl)
    · have hf := zifp hc_22 hf
      exact hk40 m_trial_18 x1 0 hf H locs ls hP hS (lv_sub hl [] rfl)
set_option maxHeartbeats 4000000 in
set_option maxRecDepth 100000 in
theorem cpM_yearsBy (l : Launch) {g : zG} (hI : zI g 581) (sz : Nat) (m_thrown : Int32) (m_tape : Int32) (m_size : Int32) (m_place : Int32) (m_at : Int32) (m_fault : Int32) (m_faultAt : Int32) (m_clauses : Int32) (m_open : Int32) (m_fed : Nat → Int32) (m_refused : Nat → Int32) (m_readTold : Nat → Int32) (m_told : Nat → Int32) (m_readBeast : Nat → Nat → Int32) (m_beast : Nat → Nat → Int32) (m_readGate : Nat → Nat → Int32) (m_gate : Nat → Nat → Int32) (m_readList : Nat → Nat → Int32) (m_list : Nat → Nat → Int32) (m_lawMany : Int32) (m_readLawMany : Int32) (m_law : Nat → Nat → Int32) (m_readLaw : Nat → Nat → Int32) (m_stack : Nat → Int32) (m_known : Nat → Int32) (m_step : Nat → Nat → Int32) (m_steps : Int32) (m_now : Nat → Int32) (m_trial : Nat → Int32) (m_before : Nat → Nat → Int32) (m_kept : Nat → Nat → Int32) (m_works : Int32) (m_refusedSteps : Int32) (m_images : Int32) (m_spot : Int32) (m_begun : Int32) (m_doneSteps : Int32) (m_mixed : Nat → Int32) (m_fewest : Nat → Int32) (m_leastFees : Nat → Int32) (m_lots : Int32) (m_tars : Int32) (x1 : Int32)  (x2 : Int32)  (x3 : Int32)  (x4 : Int32) (N9 : Nat) {m_stack' : Nat → Int32} {m_known' : Nat → Int32} {m_trial' : Nat → Int32} {m_lots' : Int32} {m_tars' : Int32} (hf : pM_yearsBy N9  m_told m_gate m_list m_lawMany m_law m_stack m_known m_now m_trial m_lots m_tars x1 x2 x3 x4 = some (m_stack', m_known', m_trial', m_lots', m_tars')) : zMv l yX10_yearsBy cX10_yearsBy 8 none 8 g (zM g m_thrown m_tape m_size m_place m_at m_fault m_faultAt m_clauses m_open m_fed m_refused m_readTold m_told m_readBeast m_beast m_readGate m_gate m_readList m_list m_lawMany m_readLawMany m_law m_readLaw m_stack m_known m_step m_steps m_now m_trial m_before m_kept m_works m_refusedSteps m_images m_spot m_begun m_doneSteps m_mixed m_fewest m_leastFees m_lots m_tars) (zM g m_thrown m_tape m_size m_place m_at m_fault m_faultAt m_clauses m_open m_fed m_refused m_readTold m_told m_readBeast m_beast m_readGate m_gate m_readList m_list m_lawMany m_readLawMany m_law m_readLaw m_stack' m_known' m_step m_steps m_now m_trial' m_before m_kept m_works m_refusedSteps m_images m_spot m_begun m_doneSteps m_mixed m_fewest m_leastFees m_lots' m_tars') sz (zF g 64 580 sz) [.ref (g.2.1 64), .int x1, .int x2, .int x3, .int x4] := by
  refine Met.ofW (cc := cX10_yearsBy) (maxL := 8) (ret := none) (by decide +kernel) rfl ?_
  intro p e s m args below meth c s₁ B hml hv
  obtain ⟨rfl, hsz, hP, hK, hST⟩ := hv
  subst hsz
  have hC := zstart (own := RX10) rfl B hml hK hST
  have hl := lv_entry ([.ref (g.2.1 64), .int x1, .int x2, .int x3, .int x4]) (n := 8) (Nat.le_of_ble_eq_true rfl)
  rw [lg_entry_eq]
  generalize (lg_sl ([.ref (g.2.1 64), .int x1, .int x2, .int x3, .int x4]) ++ List.replicate (8 - (lg_sl ([.ref (g.2.1 64), .int x1, .int x2, .int x3, .int x4])).length) Slot.unset).toArray = ls at hl ⊢
  have hl : lv_has ls 8 [(0, .ref (g.2.1 64)), (1, .int x1), (2, .int x2), (3, .int x3), (4, .int x4)] := hl
  obtain ⟨hx, hb, hr, hml, hown, hts, hK, hlk, hST⟩ := id hC
  refine mpM_yearsBy hI hC ⟨Nat.le_refl _, Nat.le_refl _, Nat.le_refl _, Nat.le_refl _⟩ m_thrown m_tape m_size m_place m_at m_fault m_faultAt m_clauses m_open m_fed m_refused m_readTold m_told m_readBeast m_beast m_readGate m_gate m_readList m_list m_lawMany m_readLawMany m_law m_readLaw m_stack m_known m_step m_steps m_now m_trial m_before m_kept m_works m_refusedSteps m_images m_spot m_begun m_doneSteps m_mixed m_fewest m_leastFees m_lots m_tars x1 x2 x3 x4 N9 (m_stack', m_known', m_trial', m_lots', m_tars') ?_ hf _ _ ls hP va_S.rf hl
  intro m_stack1 m_known1 m_trial1 m_lots1 m_tars1 H locs pc ls he hP hS hd
  cases he
  exact W.vret hx hb hr (fun t ht hW => ⟨⟨(), rfl, trivial, by rw [← ht] at hP; exact hP⟩, hS.F ht⟩) hS.2.2 hd hlk
/-! StripeTradeModel.areYears (III)Z [] -/
set_option maxHeartbeats 4000000 in
set_option maxRecDepth 100000 in
theorem mpM_areYears_35 {p : Program} {l : Launch} {e : Env} {R : Room} {s : State} {m : MethodId} {args : Array Value} {below : List Frame} {meth : Method} {c : Code} {cells slots : Nat} {Q : State → Prop} {g : zG} (hI : zI g 581) (hC : zC g RX10 cX10_areYears 3 (some .boolean) p s m meth c args) (hR : 2 ≤ R.frames ∧ 60 * 2 ≤ R.locals ∧ cells ≤ R.cells ∧ slots ≤ R.slots)   (N9 : Nat)   (res : Int32) (hfin : ∀ (r0 : Int32) (H : Heap) (locs : List Loc) (pc : Nat) (ls : Array Slot), r0 = res → r0 &&& 1 = r0 → True → va_S (fun _ => False) s.heap H locs → decode cX10_areYears pc = .ok (.ireturn, 1) → W p l e R s m args below meth c H locs cells slots Q (F0 m pc ls [.int r0])) : ∀ (s0 : Int32), pM_areYears_35 N9 s0 = some res → ∀ (H : Heap) (locs : List Loc) (ls : Array Slot), True → va_S (fun _ => False) s.heap H locs → lv_has ls 3 [] → W p l e R s m args below meth c H locs cells slots Q (F0 m 35 ls [.int s0]) := by
  obtain ⟨hx, hb, hr, hml, hown, hts, hK, hlk, hST⟩ := id hC
  have hB : ∀ q, (fun _ => False) q → zB g q := fun q h => h.elim
  intro s0 hf H locs ls hP hS hl
  unfold pM_areYears_35 at hf
  obtain ⟨hz9, hf⟩ := zite hf
  exact hfin _ H locs _ ls (Option.some.inj hf) hz9 hP hS dX10_areYears_35
set_option maxHeartbeats 4000000 in
set_option maxRecDepth 100000 in
theorem mpM_areYears_34 {p : Program} {l : Launch} {e : Env} {R : Room} {s : State} {m : MethodId} {args : Array Value} {below : List Frame} {meth : Method} {c : Code} {cells slots : Nat} {Q : State → Prop} {g : zG} (hI : zI g 581) (hC : zC g RX10 cX10_areYears 3 (some .boolean) p s m meth c args) (hR : 2 ≤ R.frames ∧ 60 * 2 ≤ R.locals ∧ cells ≤ R.cells ∧ slots ≤ R.slots)   (N9 : Nat)  (k35 : Int32 → Option (Int32)) (res : Int32) (hfin : ∀ (r0 : Int32) (H : Heap) (locs : List Loc) (pc : Nat) (ls : Array Slot), r0 = res → r0 &&& 1 = r0 → True → va_S (fun _ => False) s.heap H locs → decode cX10_areYears pc = .ok (.ireturn, 1) → W p l e R s m args below meth c H locs cells slots Q (F0 m pc ls [.int r0])) (hk35 : ∀ (s0 : Int32), k35 s0 = some res → ∀ (H : Heap) (locs : List Loc) (ls : Array Slot), True → va_S (fun _ => False) s.heap H locs → lv_has ls 3 [] → W p l e R s m args below meth c H locs cells slots Q (F0 m 35 ls [.int s0])) : pM_areYears_34 N9 k35 = some res → ∀ (H : Heap) (locs : List Loc) (ls : Array Slot), True → va_S (fun _ => False) s.heap H locs → lv_has ls 3 [] → W p l e R s m args below meth c H locs cells slots Q (F0 m 34 ls []) := by
  obtain ⟨hx, hb, hr, hml, hown, hts, hK, hlk, hST⟩ := id hC
  have hB : ∀ q, (fun _ => False) q → zB g q := fun q h => h.elim
  intro  hf H locs ls hP hS hl
  unfold pM_areYears_34 at hf
  refine lv_iconst (v := 0) hx hb dX10_areYears_34 (by decide) ?_
  exact hk35 0 hf H locs ls hP hS (lv_sub hl [] rfl)
set_option maxHeartbeats 4000000 in
set_option maxRecDepth 100000 in
theorem mpM_areYears {p : Program} {l : Launch} {e : Env} {R : Room} {s : State} {m : MethodId} {args : Array Value} {below : List Frame} {meth : Method} {c : Code} {cells slots : Nat} {Q : State → Prop} {g : zG} (hI : zI g 581) (hC : zC g RX10 cX10_areYears 3 (some .boolean) p s m meth c args) (hR : 2 ≤ R.frames ∧ 60 * 2 ≤ R.locals ∧ cells ≤ R.cells ∧ slots ≤ R.slots)  (x0 : Int32) (x1 : Int32) (x2 : Int32) (N9 : Nat)   (res : Int32) (hfin : ∀ (r0 : Int32) (H : Heap) (locs : List Loc) (pc : Nat) (ls : Array Slot), r0 = res → r0 &&& 1 = r0 → True → va_S (fun _ => False) s.heap H locs → decode cX10_areYears pc = .ok (.ireturn, 1) → W p l e R s m args below meth c H locs cells slots Q (F0 m pc ls [.int r0])) : pM_areYears N9 x0 x1 x2 = some res → ∀ (H : Heap) (locs : List Loc) (ls : Array Slot), True → va_S (fun _ => False) s.heap H locs → lv_has ls 3 [(0, .int x0), (1, .int x1), (2, .int x2)] → W p l e R s m args below meth c H locs cells slots Q (F0 m 0 ls []) := by
  obtain ⟨hx, hb, hr, hml, hown, hts, hK, hlk, hST⟩ := id hC
  have hB : ∀ q, (fun _ => False) q → zB g q := fun q h => h.elim
  intro  hf H locs ls hP hS hl
  have hk35 := mpM_areYears_35 (l := l) (e := e) (R := R) (below := below) (cells := cells) (slots := slots) (Q := Q) hI hC hR N9 res hfin
  have hk34 := mpM_areYears_34 (l := l) (e := e) (R := R) (below := below) (cells := cells) (slots := slots) (Q := Q) hI hC hR N9 (pM_areYears_35 N9) res hfin hk35
  unfold pM_areYears at hf
  refine lv_iload_n hx hb dX10_areYears_0 rfl (lv_at hl 0 rfl) ?_
  refine lv_iconst (v := 1) hx hb dX10_areYears_1 (by decide) ?_
  refine lv_bipush (v := 96) hx hb dX10_areYears_2 (by decide) ?_
  obtain ⟨r_1, hf_1, hf⟩ := zb1i hf
  refine zcallP (As := [.int x0, .int 1, .int 96]) (rest := []) hC hS hB (cpM_in l hI x0 (1 : Int32) (96 : Int32) N9 hf_1) (hC.ml mw_1528) yo_X10_in rfl hl.1 rfl (Nat.le_of_ble_eq_true rfl) ⟨by omega, by omega⟩ hR.2.2 dX10_areYears_4 (fun H locs hPk hS _ => ?_)
  refine lv_if_eq (tgt := 34) hx hb dX10_areYears_7 (by decide) (fun hc_2 => ?_) (fun hc_2 => ?_)
  · have hf := zifp hc_2 hf
    exact hk34  hf H locs ls hP hS (lv_sub hl [] rfl)
  · have hf := zifn hc_2 hf
    refine lv_iload_n hx hb dX10_areYears_10 rfl (lv_at hl 1 rfl) ?_
    refine lv_iconst (v := 0) hx hb dX10_areYears_11 (by decide) ?_
    refine lv_bipush (v := 16) hx hb dX10_areYears_12 (by decide) ?_
    obtain ⟨r_3, hf_3, hf⟩ := zb1i hf
    refine zcallP (As := [.int x1, .int 0, .int 16]) (rest := []) hC hS hB (cpM_in l hI x1 (0 : Int32) (16 : Int32) N9 hf_3) (hC.ml mw_1528) yo_X10_in rfl hl.1 rfl (Nat.le_of_ble_eq_true rfl) ⟨by omega, by omega⟩ hR.2.2 dX10_areYears_14 (fun H locs hPk hS _ => ?_)
    refine lv_if_eq (tgt := 34) hx hb dX10_areYears_17 (by decide) (fun hc_4 => ?_) (fun hc_4 => ?_)
    · have hf := zifp hc_4 hf
      exact hk34  hf H locs ls hP hS (lv_sub hl [] rfl)
    · have hf := zifn hc_4 hf
      refine lv_iload_n hx hb dX10_areYears_20 rfl (lv_at hl 2 rfl) ?_
      refine lv_iconst (v := 0) hx hb dX10_areYears_21 (by decide) ?_
      refine lv_bipush (v := 16) hx hb dX10_areYears_22 (by decide) ?_
      obtain ⟨r_5, hf_5, hf⟩ := zb1i hf
      refine zcallP (As := [.int x2, .int 0, .int 16]) (rest := []) hC hS hB (cpM_in l hI x2 (0 : Int32) (16 : Int32) N9 hf_5) (hC.ml mw_1528) yo_X10_in rfl hl.1 rfl (Nat.le_of_ble_eq_true rfl) ⟨by omega, by omega⟩ hR.2.2 dX10_areYears_24 (fun H locs hPk hS _ => ?_)
      refine lv_if_eq (tgt := 34) hx hb dX10_areYears_27 (by decide) (fun hc_6 => ?_) (fun hc_6 => ?_)
      · have hf := zifp hc_6 hf
        exact hk34  hf H locs ls hP hS (lv_sub hl [] rfl)
      · have hf := zifn hc_6 hf
        refine lv_iconst (v := 1) hx hb dX10_areYears_30 (by decide) ?_
        refine lv_goto (tgt := 35) hx hb dX10_areYears_31 (by decide) ?_
        exact hk35 1 hf H locs ls hP hS (lv_sub hl [] rfl)
set_option maxHeartbeats 4000000 in
set_option maxRecDepth 100000 in
theorem cpM_areYears (l : Launch) {g : zG} (hI : zI g 581)  (x0 : Int32)  (x1 : Int32)  (x2 : Int32) (N9 : Nat) {r0 : Int32} (hf : pM_areYears N9  x0 x1 x2 = some r0) : zMp l yX10_areYears cX10_areYears 3 (some .boolean) 2 g [.int x0, .int x1, .int x2] r0 := by
  refine Met.ofW (cc := cX10_areYears) (maxL := 3) (ret := (some .boolean)) (by decide +kernel) rfl ?_
  intro p e s m args below meth c s₁ B hml hv
  obtain ⟨rfl, hK, hST⟩ := hv
  have hP : True := trivial
  have hC := zstart (own := RX10) rfl B hml hK hST
  have hl := lv_entry ([.int x0, .int x1, .int x2]) (n := 3) (Nat.le_of_ble_eq_true rfl)
  rw [lg_entry_eq]
  generalize (lg_sl ([.int x0, .int x1, .int x2]) ++ List.replicate (3 - (lg_sl ([.int x0, .int x1, .int x2])).length) Slot.unset).toArray = ls at hl ⊢
  have hl : lv_has ls 3 [(0, .int x0), (1, .int x1), (2, .int x2)] := hl
  obtain ⟨hx, hb, hr, hml, hown, hts, hK, hlk, hST⟩ := id hC
  refine mpM_areYears hI hC ⟨Nat.le_refl _, Nat.le_refl _, Nat.le_refl _, Nat.le_refl _⟩ x0 x1 x2 N9 r0 ?_ hf _ _ ls hP va_S.rf hl
  intro r1 H locs pc ls he hz hP hS hd
  cases he
  exact W.zret hx hb hr (congrArg Value.int hz) (fun t ht hW => ⟨⟨_, (), rfl, rfl, trivial⟩, hS.F ht⟩) hS.2.2 hd hlk
