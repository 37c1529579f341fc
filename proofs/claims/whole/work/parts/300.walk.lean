/-! StripeTradeModel.tellsNothing ()V [('obj', 'm')] -/
set_option maxHeartbeats 4000000 in
set_option maxRecDepth 100000 in
theorem mpM_tellsNothing_2 {p : Program} {l : Launch} {e : Env} {R : Room} {s : State} {m : MethodId} {args : Array Value} {below : List Frame} {meth : Method} {c : Code} {cells slots : Nat} {Q : State → Prop} {g : zG} (hI : zI g 581) (hC : zC g RX10 cX10_tellsNothing 2 none p s m meth c args) (hR : 1 ≤ R.frames ∧ 60 * 1 ≤ R.locals ∧ cells ≤ R.cells ∧ slots ≤ R.slots) (m_thrown : Int32) (m_tape : Int32) (m_size : Int32) (m_place : Int32) (m_at : Int32) (m_fault : Int32) (m_faultAt : Int32) (m_clauses : Int32) (m_open : Int32) (m_fed : Nat → Int32) (m_refused : Nat → Int32) (m_told : Nat → Int32) (m_readBeast : Nat → Nat → Int32) (m_beast : Nat → Nat → Int32) (m_readGate : Nat → Nat → Int32) (m_gate : Nat → Nat → Int32) (m_readList : Nat → Nat → Int32) (m_list : Nat → Nat → Int32) (m_lawMany : Int32) (m_readLawMany : Int32) (m_law : Nat → Nat → Int32) (m_readLaw : Nat → Nat → Int32) (m_stack : Nat → Int32) (m_known : Nat → Int32) (m_step : Nat → Nat → Int32) (m_steps : Int32) (m_now : Nat → Int32) (m_trial : Nat → Int32) (m_before : Nat → Nat → Int32) (m_kept : Nat → Nat → Int32) (m_works : Int32) (m_refusedSteps : Int32) (m_images : Int32) (m_spot : Int32) (m_begun : Int32) (m_doneSteps : Int32) (m_mixed : Nat → Int32) (m_fewest : Nat → Int32) (m_leastFees : Nat → Int32) (m_lots : Int32) (m_tars : Int32)  (N9 : Nat)   (res : Nat → Int32) (hfin : ∀ (m_readTold : Nat → Int32) (H : Heap) (locs : List Loc) (pc : Nat) (ls : Array Slot), m_readTold = res → va_P g.1 zcl (zM g m_thrown m_tape m_size m_place m_at m_fault m_faultAt m_clauses m_open m_fed m_refused m_readTold m_told m_readBeast m_beast m_readGate m_gate m_readList m_list m_lawMany m_readLawMany m_law m_readLaw m_stack m_known m_step m_steps m_now m_trial m_before m_kept m_works m_refusedSteps m_images m_spot m_begun m_doneSteps m_mixed m_fewest m_leastFees m_lots m_tars) H → va_S (zF g 64 580 s.heap.size) s.heap H locs → decode cX10_tellsNothing pc = .ok (.return_, 1) → W p l e R s m args below meth c H locs cells slots Q (F0 m pc ls [])) : ∀ (n9 : Nat) (m_readTold : Nat → Int32) (x1 : Int32), pM_tellsNothing_2 N9 n9 m_readTold x1 = some res → ∀ (H : Heap) (locs : List Loc) (ls : Array Slot), va_P g.1 zcl (zM g m_thrown m_tape m_size m_place m_at m_fault m_faultAt m_clauses m_open m_fed m_refused m_readTold m_told m_readBeast m_beast m_readGate m_gate m_readList m_list m_lawMany m_readLawMany m_law m_readLaw m_stack m_known m_step m_steps m_now m_trial m_before m_kept m_works m_refusedSteps m_images m_spot m_begun m_doneSteps m_mixed m_fewest m_leastFees m_lots m_tars) H → va_S (zF g 64 580 s.heap.size) s.heap H locs → lv_has ls 2 [(0, .ref (g.2.1 64)), (1, .int x1)] → W p l e R s m args below meth c H locs cells slots Q (F0 m 2 ls []) := by
  obtain ⟨hx, hb, hr, hml, hown, hts, hK, hlk, hST⟩ := id hC
  have hB : ∀ q, (zF g 64 580 s.heap.size) q → zB g q := zF.base hI (Nat.le_of_ble_eq_true rfl) hST.1
  intro n9
  induction n9 with
  | zero => intro m_readTold x1 hf; cases hf
  | succ n9 ih =>
    intro m_readTold x1 hf H locs ls hP hS hl
    have hk2 := ih
    unfold pM_tellsNothing_2 at hf
    refine lv_iload_n hx hb dX10_tellsNothing_2 rfl (lv_at hl 1 rfl) ?_
    refine lv_iconst (v := 3) hx hb dX10_tellsNothing_3 (by decide) ?_
    refine lv_icmp_ge (tgt := 20) hx hb dX10_tellsNothing_4 (by decide) (fun hc_1 => ?_) (fun hc_1 => ?_)
    · have hf := zifp hc_1 hf
      refine lv_aload_n hx hb dX10_tellsNothing_20 rfl (lv_at hl 0 rfl) ?_
      refine zr_m_readTold hC hP (hC.fl mw_1400) dX10_tellsNothing_21 ?_
      refine lv_iconst (v := 3) hx hb dX10_tellsNothing_24 (by decide) ?_
      refine lv_bipush (v := 100) hx hb dX10_tellsNothing_25 (by decide) ?_
      obtain ⟨hz_2, hf⟩ := zite hf
      refine zs_m_readTold hC hP hI (fun k h1 h2 => zF.own h1 h2) hS hz_2 dX10_tellsNothing_27 (fun H locs hP hS => ?_)
      exact hfin _ H locs _ ls (Option.some.inj hf) hP hS dX10_tellsNothing_28
    · have hf := zifn hc_1 hf
      refine lv_aload_n hx hb dX10_tellsNothing_7 rfl (lv_at hl 0 rfl) ?_
      refine zr_m_readTold hC hP (hC.fl mw_1400) dX10_tellsNothing_8 ?_
      refine lv_iload_n hx hb dX10_tellsNothing_11 rfl (lv_at hl 1 rfl) ?_
      refine lv_iconst (v := 0) hx hb dX10_tellsNothing_12 (by decide) ?_
      obtain ⟨hz_3, hf⟩ := zite hf
      refine zs_m_readTold hC hP hI (fun k h1 h2 => zF.own h1 h2) hS hz_3 dX10_tellsNothing_13 (fun H locs hP hS => ?_)
      refine lv_iinc (v := x1 + 1) (lv' := [(1, .int (x1 + 1)), (0, .ref (g.2.1 64))]) hx hb dX10_tellsNothing_14 hl (k := 1) rfl rfl (by decide) rfl (fun ls hl => ?_)
      refine lv_goto (tgt := 2) hx hb dX10_tellsNothing_17 (by decide) ?_
      exact hk2 (upd m_readTold x1.toNatClampNeg 0) (x1 + 1) hf H locs ls hP hS (lv_sub hl [1, 0] rfl)
set_option maxHeartbeats 4000000 in
set_option maxRecDepth 100000 in
theorem mpM_tellsNothing {p : Program} {l : Launch} {e : Env} {R : Room} {s : State} {m : MethodId} {args : Array Value} {below : List Frame} {meth : Method} {c : Code} {cells slots : Nat} {Q : State → Prop} {g : zG} (hI : zI g 581) (hC : zC g RX10 cX10_tellsNothing 2 none p s m meth c args) (hR : 1 ≤ R.frames ∧ 60 * 1 ≤ R.locals ∧ cells ≤ R.cells ∧ slots ≤ R.slots) (m_thrown : Int32) (m_tape : Int32) (m_size : Int32) (m_place : Int32) (m_at : Int32) (m_fault : Int32) (m_faultAt : Int32) (m_clauses : Int32) (m_open : Int32) (m_fed : Nat → Int32) (m_refused : Nat → Int32) (m_readTold : Nat → Int32) (m_told : Nat → Int32) (m_readBeast : Nat → Nat → Int32) (m_beast : Nat → Nat → Int32) (m_readGate : Nat → Nat → Int32) (m_gate : Nat → Nat → Int32) (m_readList : Nat → Nat → Int32) (m_list : Nat → Nat → Int32) (m_lawMany : Int32) (m_readLawMany : Int32) (m_law : Nat → Nat → Int32) (m_readLaw : Nat → Nat → Int32) (m_stack : Nat → Int32) (m_known : Nat → Int32) (m_step : Nat → Nat → Int32) (m_steps : Int32) (m_now : Nat → Int32) (m_trial : Nat → Int32) (m_before : Nat → Nat → Int32) (m_kept : Nat → Nat → Int32) (m_works : Int32) (m_refusedSteps : Int32) (m_images : Int32) (m_spot : Int32) (m_begun : Int32) (m_doneSteps : Int32) (m_mixed : Nat → Int32) (m_fewest : Nat → Int32) (m_leastFees : Nat → Int32) (m_lots : Int32) (m_tars : Int32)  (N9 : Nat)   (res : Nat → Int32) (hfin : ∀ (m_readTold : Nat → Int32) (H : Heap) (locs : List Loc) (pc : Nat) (ls : Array Slot), m_readTold = res → va_P g.1 zcl (zM g m_thrown m_tape m_size m_place m_at m_fault m_faultAt m_clauses m_open m_fed m_refused m_readTold m_told m_readBeast m_beast m_readGate m_gate m_readList m_list m_lawMany m_readLawMany m_law m_readLaw m_stack m_known m_step m_steps m_now m_trial m_before m_kept m_works m_refusedSteps m_images m_spot m_begun m_doneSteps m_mixed m_fewest m_leastFees m_lots m_tars) H → va_S (zF g 64 580 s.heap.size) s.heap H locs → decode cX10_tellsNothing pc = .ok (.return_, 1) → W p l e R s m args below meth c H locs cells slots Q (F0 m pc ls [])) : pM_tellsNothing N9 m_readTold = some res → ∀ (H : Heap) (locs : List Loc) (ls : Array Slot), va_P g.1 zcl (zM g m_thrown m_tape m_size m_place m_at m_fault m_faultAt m_clauses m_open m_fed m_refused m_readTold m_told m_readBeast m_beast m_readGate m_gate m_readList m_list m_lawMany m_readLawMany m_law m_readLaw m_stack m_known m_step m_steps m_now m_trial m_before m_kept m_works m_refusedSteps m_images m_spot m_begun m_doneSteps m_mixed m_fewest m_leastFees m_lots m_tars) H → va_S (zF g 64 580 s.heap.size) s.heap H locs → lv_has ls 2 [(0, .ref (g.2.1 64))] → W p l e R s m args below meth c H locs cells slots Q (F0 m 0 ls []) := by
  obtain ⟨hx, hb, hr, hml, hown, hts, hK, hlk, hST⟩ := id hC
  have hB : ∀ q, (zF g 64 580 s.heap.size) q → zB g q := zF.base hI (Nat.le_of_ble_eq_true rfl) hST.1
  intro  hf H locs ls hP hS hl
  have hk2 := mpM_tellsNothing_2 (l := l) (e := e) (R := R) (below := below) (cells := cells) (slots := slots) (Q := Q) hI hC hR m_thrown m_tape m_size m_place m_at m_fault m_faultAt m_clauses m_open m_fed m_refused m_told m_readBeast m_beast m_readGate m_gate m_readList m_list m_lawMany m_readLawMany m_law m_readLaw m_stack m_known m_step m_steps m_now m_trial m_before m_kept m_works m_refusedSteps m_images m_spot m_begun m_doneSteps m_mixed m_fewest m_leastFees m_lots m_tars N9 res hfin N9
  unfold pM_tellsNothing at hf
  refine lv_iconst (v := 0) hx hb dX10_tellsNothing_0 (by decide) ?_
  refine lv_istore_n (lv' := [(1, .int 0), (0, .ref (g.2.1 64))]) hx hb dX10_tellsNothing_1 rfl hl (by decide) rfl (fun ls hl => ?_)
  exact hk2 m_readTold 0 hf H locs ls hP hS (lv_sub hl [1, 0] rfl)
set_option maxHeartbeats 4000000 in
set_option maxRecDepth 100000 in
theorem cpM_tellsNothing (l : Launch) {g : zG} (hI : zI g 581) (sz : Nat) (m_thrown : Int32) (m_tape : Int32) (m_size : Int32) (m_place : Int32) (m_at : Int32) (m_fault : Int32) (m_faultAt : Int32) (m_clauses : Int32) (m_open : Int32) (m_fed : Nat → Int32) (m_refused : Nat → Int32) (m_readTold : Nat → Int32) (m_told : Nat → Int32) (m_readBeast : Nat → Nat → Int32) (m_beast : Nat → Nat → Int32) (m_readGate : Nat → Nat → Int32) (m_gate : Nat → Nat → Int32) (m_readList : Nat → Nat → Int32) (m_list : Nat → Nat → Int32) (m_lawMany : Int32) (m_readLawMany : Int32) (m_law : Nat → Nat → Int32) (m_readLaw : Nat → Nat → Int32) (m_stack : Nat → Int32) (m_known : Nat → Int32) (m_step : Nat → Nat → Int32) (m_steps : Int32) (m_now : Nat → Int32) (m_trial : Nat → Int32) (m_before : Nat → Nat → Int32) (m_kept : Nat → Nat → Int32) (m_works : Int32) (m_refusedSteps : Int32) (m_images : Int32) (m_spot : Int32) (m_begun : Int32) (m_doneSteps : Int32) (m_mixed : Nat → Int32) (m_fewest : Nat → Int32) (m_leastFees : Nat → Int32) (m_lots : Int32) (m_tars : Int32) (N9 : Nat) {m_readTold' : Nat → Int32} (hf : pM_tellsNothing N9  m_readTold = some m_readTold') : zMv l yX10_tellsNothing cX10_tellsNothing 2 none 1 g (zM g m_thrown m_tape m_size m_place m_at m_fault m_faultAt m_clauses m_open m_fed m_refused m_readTold m_told m_readBeast m_beast m_readGate m_gate m_readList m_list m_lawMany m_readLawMany m_law m_readLaw m_stack m_known m_step m_steps m_now m_trial m_before m_kept m_works m_refusedSteps m_images m_spot m_begun m_doneSteps m_mixed m_fewest m_leastFees m_lots m_tars) (zM g m_thrown m_tape m_size m_place m_at m_fault m_faultAt m_clauses m_open m_fed m_refused m_readTold' m_told m_readBeast m_beast m_readGate m_gate m_readList m_list m_lawMany m_readLawMany m_law m_readLaw m_stack m_known m_step m_steps m_now m_trial m_before m_kept m_works m_refusedSteps m_images m_spot m_begun m_doneSteps m_mixed m_fewest m_leastFees m_lots m_tars) sz (zF g 64 580 sz) [.ref (g.2.1 64)] := by
  refine Met.ofW (cc := cX10_tellsNothing) (maxL := 2) (ret := none) (by decide +kernel) rfl ?_
  intro p e s m args below meth c s₁ B hml hv
  obtain ⟨rfl, hsz, hP, hK, hST⟩ := hv
  subst hsz
  have hC := zstart (own := RX10) rfl B hml hK hST
  have hl := lv_entry ([.ref (g.2.1 64)]) (n := 2) (Nat.le_of_ble_eq_true rfl)
  rw [lg_entry_eq]
  generalize (lg_sl ([.ref (g.2.1 64)]) ++ List.replicate (2 - (lg_sl ([.ref (g.2.1 64)])).length) Slot.unset).toArray = ls at hl ⊢
  have hl : lv_has ls 2 [(0, .ref (g.2.1 64))] := hl
  obtain ⟨hx, hb, hr, hml, hown, hts, hK, hlk, hST⟩ := id hC
  refine mpM_tellsNothing hI hC ⟨Nat.le_refl _, Nat.le_refl _, Nat.le_refl _, Nat.le_refl _⟩ m_thrown m_tape m_size m_place m_at m_fault m_faultAt m_clauses m_open m_fed m_refused m_readTold m_told m_readBeast m_beast m_readGate m_gate m_readList m_list m_lawMany m_readLawMany m_law m_readLaw m_stack m_known m_step m_steps m_now m_trial m_before m_kept m_works m_refusedSteps m_images m_spot m_begun m_doneSteps m_mixed m_fewest m_leastFees m_lots m_tars N9 m_readTold' ?_ hf _ _ ls hP va_S.rf hl
  intro m_readTold1 H locs pc ls he hP hS hd
  cases he
  exact W.vret hx hb hr (fun t ht hW => ⟨⟨(), rfl, trivial, by rw [← ht] at hP; exact hP⟩, hS.F ht⟩) hS.2.2 hd hlk
/-! StripeTradeModel.thrown ()I [('obj', 'm')] -/
set_option maxHeartbeats 4000000 in
set_option maxRecDepth 100000 in
theorem mpM_thrown {p : Program} {l : Launch} {e : Env} {R : Room} {s : State} {m : MethodId} {args : Array Value} {below : List Frame} {meth : Method} {c : Code} {cells slots : Nat} {Q : State → Prop} {g : zG} (hI : zI g 581) (hC : zC g RX10 cX10_thrown 1 (some .int) p s m meth c args) (hR : 1 ≤ R.frames ∧ 60 * 1 ≤ R.locals ∧ cells ≤ R.cells ∧ slots ≤ R.slots) (m_thrown : Int32) (m_tape : Int32) (m_size : Int32) (m_place : Int32) (m_at : Int32) (m_fault : Int32) (m_faultAt : Int32) (m_clauses : Int32) (m_open : Int32) (m_fed : Nat → Int32) (m_refused : Nat → Int32) (m_readTold : Nat → Int32) (m_told : Nat → Int32) (m_readBeast : Nat → Nat → Int32) (m_beast : Nat → Nat → Int32) (m_readGate : Nat → Nat → Int32) (m_gate : Nat → Nat → Int32) (m_readList : Nat → Nat → Int32) (m_list : Nat → Nat → Int32) (m_lawMany : Int32) (m_readLawMany : Int32) (m_law : Nat → Nat → Int32) (m_readLaw : Nat → Nat → Int32) (m_stack : Nat → Int32) (m_known : Nat → Int32) (m_step : Nat → Nat → Int32) (m_steps : Int32) (m_now : Nat → Int32) (m_trial : Nat → Int32) (m_before : Nat → Nat → Int32) (m_kept : Nat → Nat → Int32) (m_works : Int32) (m_refusedSteps : Int32) (m_images : Int32) (m_spot : Int32) (m_begun : Int32) (m_doneSteps : Int32) (m_mixed : Nat → Int32) (m_fewest : Nat → Int32) (m_leastFees : Nat → Int32) (m_lots : Int32) (m_tars : Int32)  (N9 : Nat)   (res : Int32) (hfin : ∀ (r0 : Int32) (H : Heap) (locs : List Loc) (pc : Nat) (ls : Array Slot), r0 = res → va_P g.1 zcl (zM g m_thrown m_tape m_size m_place m_at m_fault m_faultAt m_clauses m_open m_fed m_refused m_readTold m_told m_readBeast m_beast m_readGate m_gate m_readList m_list m_lawMany m_readLawMany m_law m_readLaw m_stack m_known m_step m_steps m_now m_trial m_before m_kept m_works m_refusedSteps m_images m_spot m_begun m_doneSteps m_mixed m_fewest m_leastFees m_lots m_tars) H → va_S (zF g 64 580 s.heap.size) s.heap H locs → decode cX10_thrown pc = .ok (.ireturn, 1) → W p l e R s m args below meth c H locs cells slots Q (F0 m pc ls [.int r0])) : pM_thrown N9 m_thrown = some res → ∀ (H : Heap) (locs : List Loc) (ls : Array Slot), va_P g.1 zcl (zM g m_thrown m_tape m_size m_place m_at m_fault m_faultAt m_clauses m_open m_fed m_refused m_readTold m_told m_readBeast m_beast m_readGate m_gate m_readList m_list m_lawMany m_readLawMany m_law m_readLaw m_stack m_known m_step m_steps m_now m_trial m_before m_kept m_works m_refusedSteps m_images m_spot m_begun m_doneSteps m_mixed m_fewest m_leastFees m_lots m_tars) H → va_S (zF g 64 580 s.heap.size) s.heap H locs → lv_has ls 1 [(0, .ref (g.2.1 64))] → W p l e R s m args below meth c H locs cells slots Q (F0 m 0 ls []) := by
  obtain ⟨hx, hb, hr, hml, hown, hts, hK, hlk, hST⟩ := id hC
  have hB : ∀ q, (zF g 64 580 s.heap.size) q → zB g q := zF.base hI (Nat.le_of_ble_eq_true rfl) hST.1
  intro  hf H locs ls hP hS hl
  unfold pM_thrown at hf
  refine lv_aload_n hx hb dX10_thrown_0 rfl (lv_at hl 0 rfl) ?_
  refine zg_m_thrown hC hP (hC.fl mw_1389) dX10_thrown_1 ?_
  exact hfin _ H locs _ ls (Option.some.inj hf) hP hS dX10_thrown_4
set_option maxHeartbeats 4000000 in
set_option maxRecDepth 100000 in
theorem cpM_thrown (l : Launch) {g : zG} (hI : zI g 581) (sz : Nat) (m_thrown : Int32) (m_tape : Int32) (m_size : Int32) (m_place : Int32) (m_at : Int32) (m_fault : Int32) (m_faultAt : Int32) (m_clauses : Int32) (m_open : Int32) (m_fed : Nat → Int32) (m_refused : Nat → Int32) (m_readTold : Nat → Int32) (m_told : Nat → Int32) (m_readBeast : Nat → Nat → Int32) (m_beast : Nat → Nat → Int32) (m_readGate : Nat → Nat → Int32) (m_gate : Nat → Nat → Int32) (m_readList : Nat → Nat → Int32) (m_list : Nat → Nat → Int32) (m_lawMany : Int32) (m_readLawMany : Int32) (m_law : Nat → Nat → Int32) (m_readLaw : Nat → Nat → Int32) (m_stack : Nat → Int32) (m_known : Nat → Int32) (m_step : Nat → Nat → Int32) (m_steps : Int32) (m_now : Nat → Int32) (m_trial : Nat → Int32) (m_before : Nat → Nat → Int32) (m_kept : Nat → Nat → Int32) (m_works : Int32) (m_refusedSteps : Int32) (m_images : Int32) (m_spot : Int32) (m_begun : Int32) (m_doneSteps : Int32) (m_mixed : Nat → Int32) (m_fewest : Nat → Int32) (m_leastFees : Nat → Int32) (m_lots : Int32) (m_tars : Int32) (N9 : Nat) {r0 : Int32} (hf : pM_thrown N9  m_thrown = some r0) : zMi l yX10_thrown cX10_thrown 1 (some .int) 1 g (zM g m_thrown m_tape m_size m_place m_at m_fault m_faultAt m_clauses m_open m_fed m_refused m_readTold m_told m_readBeast m_beast m_readGate m_gate m_readList m_list m_lawMany m_readLawMany m_law m_readLaw m_stack m_known m_step m_steps m_now m_trial m_before m_kept m_works m_refusedSteps m_images m_spot m_begun m_doneSteps m_mixed m_fewest m_leastFees m_lots m_tars) (zM g m_thrown m_tape m_size m_place m_at m_fault m_faultAt m_clauses m_open m_fed m_refused m_readTold m_told m_readBeast m_beast m_readGate m_gate m_readList m_list m_lawMany m_readLawMany m_law m_readLaw m_stack m_known m_step m_steps m_now m_trial m_before m_kept m_works m_refusedSteps m_images m_spot m_begun m_doneSteps m_mixed m_fewest m_leastFees m_lots m_tars) sz (zF g 64 580 sz) [.ref (g.2.1 64)] r0 := by
  refine Met.ofW (cc := cX10_thrown) (maxL := 1) (ret := (some .int)) (by decide +kernel) rfl ?_
  intro p e s m args below meth c s₁ B hml hv
  obtain ⟨rfl, hsz, hP, hK, hST⟩ := hv
  subst hsz
  have hC := zstart (own := RX10) rfl B hml hK hST
  have hl := lv_entry ([.ref (g.2.1 64)]) (n := 1) (Nat.le_of_ble_eq_true rfl)
  rw [lg_entry_eq]
  generalize (lg_sl ([.ref (g.2.1 64)]) ++ List.replicate (1 - (lg_sl ([.ref (g.2.1 64)])).length) Slot.unset).toArray = ls at hl ⊢
  have hl : lv_has ls 1 [(0, .ref (g.2.1 64))] := hl
  obtain ⟨hx, hb, hr, hml, hown, hts, hK, hlk, hST⟩ := id hC
  refine mpM_thrown hI hC ⟨Nat.le_refl _, Nat.le_refl _, Nat.le_refl _, Nat.le_refl _⟩ m_thrown m_tape m_size m_place m_at m_fault m_faultAt m_clauses m_open m_fed m_refused m_readTold m_told m_readBeast m_beast m_readGate m_gate m_readList m_list m_lawMany m_readLawMany m_law m_readLaw m_stack m_known m_step m_steps m_now m_trial m_before m_kept m_works m_refusedSteps m_images m_spot m_begun m_doneSteps m_mixed m_fewest m_leastFees m_lots m_tars N9 r0 ?_ hf _ _ ls hP va_S.rf hl
  intro r1 H locs pc ls he hP hS hd
  cases he
  exact W.iret hx hb hr (fun t ht hW => ⟨⟨_, (), rfl, rfl, by rw [← ht] at hP; exact hP⟩, hS.F ht⟩) hS.2.2 hd hlk
/-! StripeTradeModel.bad (ZII)Z [('obj', 'm')] -/
set_option maxHeartbeats 4000000 in
set_option maxRecDepth 100000 in
theorem mpM_bad_38 {p : Program} {l : Launch} {e : Env} {R : Room} {s : State} {m : MethodId} {args : Array Value} {below : List Frame} {meth : Method} {c : Code} {cells slots : Nat} {Q : State → Prop} {g : zG} (hI : zI g 581) (hC : zC g RX10 cX10_bad 4 (some .boolean) p s m meth c args) (hR : 1 ≤ R.frames ∧ 60 * 1 ≤ R.locals ∧ cells ≤ R.cells ∧ slots ≤ R.slots) (m_thrown : Int32) (m_tape : Int32) (m_size : Int32) (m_place : Int32) (m_at : Int32) (m_fault : Int32) (m_faultAt : Int32) (m_clauses : Int32) (m_open : Int32) (m_fed : Nat → Int32) (m_refused : Nat → Int32) (m_readTold : Nat → Int32) (m_told : Nat → Int32) (m_readBeast : Nat → Nat → Int32) (m_beast : Nat → Nat → Int32) (m_readGate : Nat → Nat → Int32) (m_gate : Nat → Nat → Int32) (m_readList : Nat → Nat → Int32) (m_list : Nat → Nat → Int32) (m_lawMany : Int32) (m_readLawMany : Int32) (m_law : Nat → Nat → Int32) (m_readLaw : Nat → Nat → Int32) (m_stack : Nat → Int32) (m_known : Nat → Int32) (m_step : Nat → Nat → Int32) (m_steps : Int32) (m_now : Nat → Int32) (m_trial : Nat → Int32) (m_before : Nat → Nat → Int32) (m_kept : Nat → Nat → Int32) (m_works : Int32) (m_refusedSteps : Int32) (m_images : Int32) (m_spot : Int32) (m_begun : Int32) (m_doneSteps : Int32) (m_mixed : Nat → Int32) (m_fewest : Nat → Int32) (m_leastFees : Nat → Int32) (m_lots : Int32) (m_tars : Int32)  (N9 : Nat)   (res : Int32 × Int32 × (Nat → Int32)) (hfin : ∀ (r0 : Int32) (m_thrown : Int32) (m_refused : Nat → Int32) (H : Heap) (locs : List Loc) (pc : Nat) (ls : Array Slot), (r0, m_thrown, m_refused) = res → r0 &&& 1 = r0 → va_P g.1 zcl (zM g m_thrown m_tape m_size m_place m_at m_fault m_faultAt m_clauses m_open m_fed m_refused m_readTold m_told m_readBeast m_beast m_readGate m_gate m_readList m_list m_lawMany m_readLawMany m_law m_readLaw m_stack m_known m_step m_steps m_now m_trial m_before m_kept m_works m_refusedSteps m_images m_spot m_begun m_doneSteps m_mixed m_fewest m_leastFees m_lots m_tars) H → va_S (zF g 64 580 s.heap.size) s.heap H locs → decode cX10_bad pc = .ok (.ireturn, 1) → W p l e R s m args below meth c H locs cells slots Q (F0 m pc ls [.int r0])) : ∀ (s0 : Int32), pM_bad_38 N9 m_thrown m_refused s0 = some res → ∀ (H : Heap) (locs : List Loc) (ls : Array Slot), va_P g.1 zcl (zM g m_thrown m_tape m_size m_place m_at m_fault m_faultAt m_clauses m_open m_fed m_refused m_readTold m_told m_readBeast m_beast m_readGate m_gate m_readList m_list m_lawMany m_readLawMany m_law m_readLaw m_stack m_known m_step m_steps m_now m_trial m_before m_kept m_works m_refusedSteps m_images m_spot m_begun m_doneSteps m_mixed m_fewest m_leastFees m_lots m_tars) H → va_S (zF g 64 580 s.heap.size) s.heap H locs → lv_has ls 4 [] → W p l e R s m args below meth c H locs cells slots Q (F0 m 38 ls [.int s0]) := by
  obtain ⟨hx, hb, hr, hml, hown, hts, hK, hlk, hST⟩ := id hC
  have hB : ∀ q, (zF g 64 580 s.heap.size) q → zB g q := zF.base hI (Nat.le_of_ble_eq_true rfl) hST.1
  intro s0 hf H locs ls hP hS hl
  unfold pM_bad_38 at hf
  obtain ⟨hz9, hf⟩ := zite hf
  exact hfin _ _ _ H locs _ ls (Option.some.inj hf) hz9 hP hS dX10_bad_38
set_option maxHeartbeats 4000000 in
set_option maxRecDepth 100000 in
theorem mpM_bad_26 {p : Program} {l : Launch} {e : Env} {R : Room} {s : State} {m : MethodId} {args : Array Value} {below : List Frame} {meth : Method} {c : Code} {cells slots : Nat} {Q : State → Prop} {g : zG} (hI : zI g 581) (hC : zC g RX10 cX10_bad 4 (some .boolean) p s m meth c args) (hR : 1 ≤ R.frames ∧ 60 * 1 ≤ R.locals ∧ cells ≤ R.cells ∧ slots ≤ R.slots) (m_tape : Int32) (m_size : Int32) (m_place : Int32) (m_at : Int32) (m_fault : Int32) (m_faultAt : Int32) (m_clauses : Int32) (m_open : Int32) (m_fed : Nat → Int32) (m_readTold : Nat → Int32) (m_told : Nat → Int32) (m_readBeast : Nat → Nat → Int32) (m_beast : Nat → Nat → Int32) (m_readGate : Nat → Nat → Int32) (m_gate : Nat → Nat → Int32) (m_readList : Nat → Nat → Int32) (m_list : Nat → Nat → Int32) (m_lawMany : Int32) (m_readLawMany : Int32) (m_law : Nat → Nat → Int32) (m_readLaw : Nat → Nat → Int32) (m_stack : Nat → Int32) (m_known : Nat → Int32) (m_step : Nat → Nat → Int32) (m_steps : Int32) (m_now : Nat → Int32) (m_trial : Nat → Int32) (m_before : Nat → Nat → Int32) (m_kept : Nat → Nat → Int32) (m_works : Int32) (m_refusedSteps : Int32) (m_images : Int32) (m_spot : Int32) (m_begun : Int32) (m_doneSteps : Int32) (m_mixed : Nat → Int32) (m_fewest : Nat → Int32) (m_leastFees : Nat → Int32) (m_lots : Int32) (m_tars : Int32)  (N9 : Nat)   (res : Int32 × Int32 × (Nat → Int32)) (hfin : ∀ (r0 : Int32) (m_thrown : Int32) (m_refused : Nat → Int32) (H : Heap) (locs : List Loc) (pc : Nat) (ls : Array Slot), (r0, m_thrown, m_refused) = res → r0 &&& 1 = r0 → va_P g.1 zcl (zM g m_thrown m_tape m_size m_place m_at m_fault m_faultAt m_clauses m_open m_fed m_refused m_readTold m_told m_readBeast m_beast m_readGate m_gate m_readList m_list m_lawMany m_readLawMany m_law m_readLaw m_stack m_known m_step m_steps m_now m_trial m_before m_kept m_works m_refusedSteps m_images m_spot m_begun m_doneSteps m_mixed m_fewest m_leastFees m_lots m_tars) H → va_S (zF g 64 580 s.heap.size) s.heap H locs → decode cX10_bad pc = .ok (.ireturn, 1) → W p l e R s m args below meth c H locs cells slots Q (F0 m pc ls [.int r0])) : ∀ (m_thrown : Int32) (m_refused : Nat → Int32), pM_bad_26 N9 m_thrown m_refused = some res → ∀ (H : Heap) (locs : List Loc) (ls : Array Slot), va_P g.1 zcl (zM g m_thrown m_tape m_size m_place m_at m_fault m_faultAt m_clauses m_open m_fed m_refused m_readTold m_told m_readBeast m_beast m_readGate m_gate m_readList m_list m_lawMany m_readLawMany m_law m_readLaw m_stack m_known m_step m_steps m_now m_trial m_before m_kept m_works m_refusedSteps m_images m_spot m_begun m_doneSteps m_mixed m_fewest m_leastFees m_lots m_tars) H → va_S (zF g 64 580 s.heap.size) s.heap H locs → lv_has ls 4 [(0, .ref (g.2.1 64))] → W p l e R s m args below meth c H locs cells slots Q (F0 m 26 ls []) := by
  obtain ⟨hx, hb, hr, hml, hown, hts, hK, hlk, hST⟩ := id hC
  have hB : ∀ q, (zF g 64 580 s.heap.size) q → zB g q := zF.base hI (Nat.le_of_ble_eq_true rfl) hST.1
  intro m_thrown m_refused hf H locs ls hP hS hl
  have hk38 := mpM_bad_38 (l := l) (e := e) (R := R) (below := below) (cells := cells) (slots := slots) (Q := Q) hI hC hR m_thrown m_tape m_size m_place m_at m_fault m_faultAt m_clauses m_open m_fed m_refused m_readTold m_told m_readBeast m_beast m_readGate m_gate m_readList m_list m_lawMany m_readLawMany m_law m_readLaw m_stack m_known m_step m_steps m_now m_trial m_before m_kept m_works m_refusedSteps m_images m_spot m_begun m_doneSteps m_mixed m_fewest m_leastFees m_lots m_tars N9 res hfin
  unfold pM_bad_26 at hf
  refine lv_aload_n hx hb dX10_bad_26 rfl (lv_at hl 0 rfl) ?_
  refine zg_m_thrown hC hP (hC.fl mw_1389) dX10_bad_27 ?_
  refine lv_if_eq (tgt := 37) hx hb dX10_bad_30 (by decide) (fun hc_1 => ?_) (fun hc_1 => ?_)
  · have hf := zifp hc_1 hf
    refine lv_iconst (v := 0) hx hb dX10_bad_37 (by decide) ?_
    exact hk38 0 hf H locs ls hP hS (lv_sub hl [] rfl)
  · have hf := zifn hc_1 hf
    refine lv_iconst (v := 1) hx hb dX10_bad_33 (by decide) ?_
    refine lv_goto (tgt := 38) hx hb dX10_bad_34 (by decide) ?_
    exact hk38 1 hf H locs ls hP hS (lv_sub hl [] rfl)
set_option maxHeartbeats 4000000 in
set_option maxRecDepth 100000 in
theorem mpM_bad {p : Program} {l : Launch} {e : Env} {R : Room} {s : State} {m : MethodId} {args : Array Value} {below : List Frame} {meth : Method} {c : Code} {cells slots : Nat} {Q : State → Prop} {g : zG} (hI : zI g 581) (hC : zC g RX10 cX10_bad 4 (some .boolean) p s m meth c args) (hR : 1 ≤ R.frames ∧ 60 * 1 ≤ R.locals ∧ cells ≤ R.cells ∧ slots ≤ R.slots) (m_thrown : Int32) (m_tape : Int32) (m_size : Int32) (m_place : Int32) (m_at : Int32) (m_fault : Int32) (m_faultAt : Int32) (m_clauses : Int32) (m_open : Int32) (m_fed : Nat → Int32) (m_refused : Nat → Int32) (m_readTold : Nat → Int32) (m_told : Nat → Int32) (m_readBeast : Nat → Nat → Int32) (m_beast : Nat → Nat → Int32) (m_readGate : Nat → Nat → Int32) (m_gate : Nat → Nat → Int32) (m_readList : Nat → Nat → Int32) (m_list : Nat → Nat → Int32) (m_lawMany : Int32) (m_readLawMany : Int32) (m_law : Nat → Nat → Int32) (m_readLaw : Nat → Nat → Int32) (m_stack : Nat → Int32) (m_known : Nat → Int32) (m_step : Nat → Nat → Int32) (m_steps : Int32) (m_now : Nat → Int32) (m_trial : Nat → Int32) (m_before : Nat → Nat → Int32) (m_kept : Nat → Nat → Int32) (m_works : Int32) (m_refusedSteps : Int32) (m_images : Int32) (m_spot : Int32) (m_begun : Int32) (m_doneSteps : Int32) (m_mixed : Nat → Int32) (m_fewest : Nat → Int32) (m_leastFees : Nat → Int32) (m_lots : Int32) (m_tars : Int32) (x1 : Int32) (x2 : Int32) (x3 : Int32) (N9 : Nat)   (res : Int32 × Int32 × (Nat → Int32)) (hfin : ∀ (r0 : Int32) (m_thrown : Int32) (m_refused : Nat → Int32) (H : Heap) (locs : List Loc) (pc : Nat) (ls : Array Slot), (r0, m_thrown, m_refused) = res → r0 &&& 1 = r0 → va_P g.1 zcl (zM g m_thrown m_tape m_size m_place m_at m_fault m_faultAt m_clauses m_open m_fed m_refused m_readTold m_told m_readBeast m_beast m_readGate m_gate m_readList m_list m_lawMany m_readLawMany m_law m_readLaw m_stack m_known m_step m_steps m_now m_trial m_before m_kept m_works m_refusedSteps m_images m_spot m_begun m_doneSteps m_mixed m_fewest m_leastFees m_lots m_tars) H → va_S (zF g 64 580 s.heap.size) s.heap H locs → decode cX10_bad pc = .ok (.ireturn, 1) → W p l e R s m args below meth c H locs cells slots Q (F0 m pc ls [.int r0])) : pM_bad N9 m_thrown m_refused x1 x2 x3 = some res → ∀ (H : Heap) (locs : List Loc) (ls : Array Slot), va_P g.1 zcl (zM g m_thrown m_tape m_size m_place m_at m_fault m_faultAt m_clauses m_open m_fed m_refused m_readTold m_told m_readBeast m_beast m_readGate m_gate m_readList m_list m_lawMany m_readLawMany m_law m_readLaw m_stack m_known m_step m_steps m_now m_trial m_before m_kept m_works m_refusedSteps m_images m_spot m_begun m_doneSteps m_mixed m_fewest m_leastFees m_lots m_tars) H → va_S (zF g 64 580 s.heap.size) s.heap H locs → lv_has ls 4 [(0, .ref (g.2.1 64)), (1, .int x1), (2, .int x2), (3, .int x3)] → W p l e R s m args below meth c H locs cells slots Q (F0 m 0 ls []) := by
  obtain ⟨hx, hb, hr, hml, hown, hts, hK, hlk, hST⟩ := id hC
  have hB : ∀ q, (zF g 64 580 s.heap.size) q → zB g q := zF.base hI (Nat.le_of_ble_eq_true rfl) hST.1
  intro  hf H locs ls hP hS hl
  have hk26 := mpM_bad_26 (l := l) (e := e) (R := R) (below := below) (cells := cells) (slots := slots) (Q := Q) hI hC hR m_tape m_size m_place m_at m_fault m_faultAt m_clauses m_open m_fed m_readTold m_told m_readBeast m_beast m_readGate m_gate m_readList m_list m_lawMany m_readLawMany m_law m_readLaw m_stack m_known m_step m_steps m_now m_trial m_before m_kept m_works m_refusedSteps m_images m_spot m_begun m_doneSteps m_mixed m_fewest m_leastFees m_lots m_tars N9 res hfin
  unfold pM_bad at hf
  refine lv_iload_n hx hb dX10_bad_0 rfl (lv_at hl 1 rfl) ?_
  refine lv_if_eq (tgt := 26) hx hb dX10_bad_1 (by decide) (fun hc_2 => ?_) (fun hc_2 => ?_)
  · have hf := zifp hc_2 hf
    exact hk26 m_thrown m_refused hf H locs ls hP hS (lv_sub hl [0] rfl)
  · have hf := zifn hc_2 hf
    refine lv_aload_n hx hb dX10_bad_4 rfl (lv_at hl 0 rfl) ?_
    refine zg_m_thrown hC hP (hC.fl mw_1389) dX10_bad_5 ?_
    refine lv_if_ne (tgt := 26) hx hb dX10_bad_8 (by decide) (fun hc_3 => ?_) (fun hc_3 => ?_)
    · have hf := zifn hc_3 hf
      exact hk26 m_thrown m_refused hf H locs ls hP hS (lv_sub hl [0] rfl)
    · have hf := zifp hc_3 hf
      refine lv_aload_n hx hb dX10_bad_11 rfl (lv_at hl 0 rfl) ?_
      refine lv_iload_n hx hb dX10_bad_12 rfl (lv_at hl 2 rfl) ?_
      refine zp_m_thrown hC hP hI (fun k h1 h2 => zF.own h1 h2) hS (hC.fl mw_1389) dX10_bad_13 (fun H locs hP hS => ?_)
      refine lv_aload_n hx hb dX10_bad_16 rfl (lv_at hl 0 rfl) ?_
      refine zr_m_refused hC hP (hC.fl mw_1399) dX10_bad_17 ?_
      refine lv_iload_n hx hb dX10_bad_20 rfl (lv_at hl 3 rfl) ?_
      refine lv_dup2_11 hx hb dX10_bad_21 rfl rfl ?_
      obtain ⟨hz_4, hf⟩ := zite hf
      refine zl_m_refused hC hP hz_4 dX10_bad_22 ?_
      refine lv_iconst (v := 1) hx hb dX10_bad_23 (by decide) ?_
      refine lv_iadd hx hb dX10_bad_24 ?_
      refine lv_topi (fun v_5 ev_5 => ?_)
      have hf := zleti ev_5 hf
      refine zs_m_refused hC hP hI (fun k h1 h2 => zF.own h1 h2) hS hz_4 dX10_bad_25 (fun H locs hP hS => ?_)
      exact hk26 x2 (upd m_refused x3.toNatClampNeg v_5) hf H locs ls hP hS (lv_sub hl [0] rfl)
set_option maxHeartbeats 4000000 in
set_option maxRecDepth 100000 in
theorem cpM_bad (l : Launch) {g : zG} (hI : zI g 581) (sz : Nat) (m_thrown : Int32) (m_tape : Int32) (m_size : Int32) (m_place : Int32) (m_at : Int32) (m_fault : Int32) (m_faultAt : Int32) (m_clauses : Int32) (m_open : Int32) (m_fed : Nat → Int32) (m_refused : Nat → Int32) (m_readTold : Nat → Int32) (m_told : Nat → Int32) (m_readBeast : Nat → Nat → Int32) (m_beast : Nat → Nat → Int32) (m_readGate : Nat → Nat → Int32) (m_gate : Nat → Nat → Int32) (m_readList : Nat → Nat → Int32) (m_list : Nat → Nat → Int32) (m_lawMany : Int32) (m_readLawMany : Int32) (m_law : Nat → Nat → Int32) (m_readLaw : Nat → Nat → Int32) (m_stack : Nat → Int32) (m_known : Nat → Int32) (m_step : Nat → Nat → Int32) (m_steps : Int32) (m_now : Nat → Int32) (m_trial : Nat → Int32) (m_before : Nat → Nat → Int32) (m_kept : Nat → Nat → Int32) (m_works : Int32) (m_refusedSteps : Int32) (m_images : Int32) (m_spot : Int32) (m_begun : Int32) (m_doneSteps : Int32) (m_mixed : Nat → Int32) (m_fewest : Nat → Int32) (m_leastFees : Nat → Int32) (m_lots : Int32) (m_tars : Int32) (x1 : Int32)  (x2 : Int32)  (x3 : Int32) (N9 : Nat) {r0 : Int32} {m_thrown' : Int32} {m_refused' : Nat → Int32} (hf : pM_bad N9  m_thrown m_refused x1 x2 x3 = some (r0, m_thrown', m_refused')) : zMi l yX10_bad cX10_bad 4 (some .boolean) 1 g (zM g m_thrown m_tape m_size m_place m_at m_fault m_faultAt m_clauses m_open m_fed m_refused m_readTold m_told m_readBeast m_beast m_readGate m_gate m_readList m_list m_lawMany m_readLawMany m_law m_readLaw m_stack m_known m_step m_steps m_now m_trial m_before m_kept m_works m_refusedSteps m_images m_spot m_begun m_doneSteps m_mixed m_fewest m_leastFees m_lots m_tars) (zM g m_thrown' m_tape m_size m_place m_at m_fault m_faultAt m_clauses m_open m_fed m_refused' m_readTold m_told m_readBeast m_beast m_readGate m_gate m_readList m_list m_lawMany m_readLawMany m_law m_readLaw m_stack m_known m_step m_steps m_now m_trial m_before m_kept m_works m_refusedSteps m_images m_spot m_begun m_doneSteps m_mixed m_fewest m_leastFees m_lots m_tars) sz (zF g 64 580 sz) [.ref (g.2.1 64), .int x1, .int x2, .int x3] r0 := by
  refine Met.ofW (cc := cX10_bad) (maxL := 4) (ret := (some .boolean)) (by decide +kernel) rfl ?_
  intro p e s m args below meth c s₁ B hml hv
  obtain ⟨rfl, hsz, hP, hK, hST⟩ := hv
  subst hsz
  have hC := zstart (own := RX10) rfl B hml hK hST
  have hl := lv_entry ([.ref (g.2.1 64), .int x1, .int x2, .int x3]) (n := 4) (Nat.le_of_ble_eq_true rfl)
  rw [lg_entry_eq]
  generalize (lg_sl ([.ref (g.2.1 64), .int x1, .int x2, .int x3]) ++ List.replicate (4 - (lg_sl ([.ref (g.2.1 64), .int x1, .int x2, .int x3])).length) Slot.unset).toArray = ls at hl ⊢
  have hl : lv_has ls 4 [(0, .ref (g.2.1 64)), (1, .int x1), (2, .int x2), (3, .int x3)] := hl
  obtain ⟨hx, hb, hr, hml, hown, hts, hK, hlk, hST⟩ := id hC
  refine mpM_bad hI hC ⟨Nat.le_refl _, Nat.le_refl _, Nat.le_refl _, Nat.le_refl _⟩ m_thrown m_tape m_size m_place m_at m_fault m_faultAt m_clauses m_open m_fed m_refused m_readTold m_told m_readBeast m_beast m_readGate m_gate m_readList m_list m_lawMany m_readLawMany m_law m_readLaw m_stack m_known m_step m_steps m_now m_trial m_before m_kept m_works m_refusedSteps m_images m_spot m_begun m_doneSteps m_mixed m_fewest m_leastFees m_lots m_tars x1 x2 x3 N9 (r0, m_thrown', m_refused') ?_ hf _ _ ls hP va_S.rf hl
  intro r1 m_thrown1 m_refused1 H locs pc ls he hz hP hS hd
  cases he
  exact W.zret hx hb hr (congrArg Value.int hz) (fun t ht hW => ⟨⟨_, (), rfl, rfl, by rw [← ht] at hP; exact hP⟩, hS.F ht⟩) hS.2.2 hd hlk
/-! StripeTradeModel.in (III)Z [] -/
set_option maxHeartbeats 4000000 in
set_option maxRecDepth 100000 in
theorem mpM_in_15 {p : Program} {l : Launch} {e : Env} {R : Room} {s : State} {m : MethodId} {args : Array Value} {below : List Frame} {meth : Method} {c : Code} {cells slots : Nat} {Q : State → Prop} {g : zG} (hI : zI g 581) (hC : zC g RX10 cX10_in 3 (some .boolean) p s m meth c args) (hR : 1 ≤ R.frames ∧ 60 * 1 ≤ R.locals ∧ cells ≤ R.cells ∧ slots ≤ R.slots)   (N9 : Nat)   (res : Int32) (hfin : ∀ (r0 : Int32) (H : Heap) (locs : List Loc) (pc : Nat) (ls : Array Slot), r0 = res → r0 &&& 1 = r0 → True → va_S (fun _ => False) s.heap H locs → decode cX10_in pc = .ok (.ireturn, 1) → W p l e R s m args below meth c H locs cells slots Q (F0 m pc ls [.int r0])) : ∀ (s0 : Int32), pM_in_15 N9 s0 = some res → ∀ (H : Heap) (locs : List Loc) (ls : Array Slot), True → va_S (fun _ => False) s.heap H locs → lv_has ls 3 [] → W p l e R s m args below meth c H locs cells slots Q (F0 m 15 ls [.int s0]) := by
  obtain ⟨hx, hb, hr, hml, hown, hts, hK, hlk, hST⟩ := id hC
  have hB : ∀ q, (fun _ => False) q → zB g q := fun q h => h.elim
  intro s0 hf H locs ls hP hS hl
  unfold pM_in_15 at hf
  obtain ⟨hz9, hf⟩ := zite hf
  exact hfin _ H locs _ ls (Option.some.inj hf) hz9 hP hS dX10_in_15
set_option maxHeartbeats 4000000 in
set_option maxRecDepth 100000 in
theorem mpM_in_14 {p : Program} {l : Launch} {e : Env} {R : Room} {s : State} {m : MethodId} {args : Array Value} {below : List Frame} {meth : Method} {c : Code} {cells slots : Nat} {Q : State → Prop} {g : zG} (hI : zI g 581) (hC : zC g RX10 cX10_in 3 (some .boolean) p s m meth c args) (hR : 1 ≤ R.frames ∧ 60 * 1 ≤ R.locals ∧ cells ≤ R.cells ∧ slots ≤ R.slots)   (N9 : Nat)  (k15 : Int32 → Option (Int32)) (res : Int32) (hfin : ∀ (r0 : Int32) (H : Heap) (locs : List Loc) (pc : Nat) (ls : Array Slot), r0 = res → r0 &&& 1 = r0 → True → va_S (fun _ => False) s.heap H locs → decode cX10_in pc = .ok (.ireturn, 1) → W p l e R s m args below meth c H locs cells slots Q (F0 m pc ls [.int r0])) (hk15 : ∀ (s0 : Int32), k15 s0 = some res → ∀ (H : Heap) (locs : List Loc) (ls : Array Slot), True → va_S (fun _ => False) s.heap H locs → lv_has ls 3 [] → W p l e R s m args below meth c H locs cells slots Q (F0 m 15 ls [.int s0])) : pM_in_14 N9 k15 = some res → ∀ (H : Heap) (locs : List Loc) (ls : Array Slot), True → va_S (fun _ => False) s.heap H locs → lv_has ls 3 [] → W p l e R s m args below meth c H locs cells slots Q (F0 m 14 ls []) := by
  obtain ⟨hx, hb, hr, hml, hown, hts, hK, hlk, hST⟩ := id hC
  have hB : ∀ q, (fun _ => False) q → zB g q := fun q h => h.elim
  intro  hf H locs ls hP hS hl
  unfold pM_in_14 at hf
  refine lv_iconst (v := 0) hx hb dX10_in_14 (by decide) ?_
  exact hk15 0 hf H locs ls hP hS (lv_sub hl [] rfl)
set_option maxHeartbeats 4000000 in
set_option maxRecDepth 100000 in
theorem mpM_in {p : Program} {l : Launch} {e : Env} {R : Room} {s : State} {m : MethodId} {args : Array Value} {below : List Frame} {meth : Method} {c : Code} {cells slots : Nat} {Q : State → Prop} {g : zG} (hI : zI g 581) (hC : zC g RX10 cX10_in 3 (some .boolean) p s m meth c args) (hR : 1 ≤ R.frames ∧ 60 * 1 ≤ R.locals ∧ cells ≤ R.cells ∧ slots ≤ R.slots)  (x0 : Int32) (x1 : Int32) (x2 : Int32) (N9 : Nat)   (res : Int32) (hfin : ∀ (r0 : Int32) (H : Heap) (locs : List Loc) (pc : Nat) (ls : Array Slot), r0 = res → r0 &&& 1 = r0 → True → va_S (fun _ => False) s.heap H locs → decode cX10_in pc = .ok (.ireturn, 1) → W p l e R s m args below meth c H locs cells slots Q (F0 m pc ls [.int r0])) : pM_in N9 x0 x1 x2 = some res → ∀ (H : Heap) (locs : List Loc) (ls : Array Slot), True → va_S (fun _ => False) s.heap H locs → lv_has ls 3 [(0, .int x0), (1, .int x1), (2, .int x2)] → W p l e R s m args below meth c H locs cells slots Q (F0 m 0 ls []) := by
  obtain ⟨hx, hb, hr, hml, hown, hts, hK, hlk, hST⟩ := id hC
  have hB : ∀ q, (fun _ => False) q → zB g q := fun q h => h.elim
  intro  hf H locs ls hP hS hl
  have hk15 := mpM_in_15 (l := l) (e := e) (R := R) (below := below) (cells := cells) (slots := slots) (Q := Q) hI hC hR N9 res hfin
  have hk14 := mpM_in_14 (l := l) (e := e) (R := R) (below := below) (cells := cells) (slots := slots) (Q := Q) hI hC hR N9 (pM_in_15 N9) res hfin hk15
  unfold pM_in at hf
  refine lv_iload_n hx hb dX10_in_0 rfl (lv_at hl 0 rfl) ?_
  refine lv_iload_n hx hb dX10_in_1 rfl (lv_at hl 1 rfl) ?_
  refine lv_icmp_lt (tgt := 14) hx hb dX10_in_2 (by decide) (fun hc_1 => ?_) (fun hc_1 => ?_)
  · have hf := zifp hc_1 hf
    exact hk14  hf H locs ls hP hS (lv_sub hl [] rfl)
  · have hf := zifn hc_1 hf
    refine lv_iload_n hx hb dX10_in_5 rfl (lv_at hl 0 rfl) ?_
    refine lv_iload_n hx hb dX10_in_6 rfl (lv_at hl 2 rfl) ?_
    refine lv_icmp_gt (tgt := 14) hx hb dX10_in_7 (by decide) (fun hc_2 => ?_) (fun hc_2 => ?_)
    · have hf := zifp hc_2 hf
      exact hk14  hf H locs ls hP hS (lv_sub hl [] rfl)
    · have hf := zifn hc_2 hf
      refine lv_iconst (v := 1) hx hb dX10_in_10 (by decide) ?_
      refine lv_goto (tgt := 15) hx hb dX10_in_11 (by decide) ?_
      exact hk15 1 hf H locs ls hP hS (lv_sub hl [] rfl)
set_option maxHeartbeats 4000000 in
set_option maxRecDepth 100000 in
theorem cpM_in (l : Launch) {g : zG} (hI : zI g 581)  (x0 : Int32)  (x1 : Int32)  (x2 : Int32) (N9 : Nat) {r0 : Int32} (hf : pM_in N9  x0 x1 x2 = some r0) : zMp l yX10_in cX10_in 3 (some .boolean) 1 g [.int x0, .int x1, .int x2] r0 := by
  refine Met.ofW (cc := cX10_in) (maxL := 3) (ret := (some .boolean)) (by decide +kernel) rfl ?_
  intro p e s m args below meth c s₁ B hml hv
  obtain ⟨rfl, hK, hST⟩ := hv
  have hP : True := trivial
  have hC := zstart (own := RX10) rfl B hml hK hST
  have hl := lv_entry ([.int x0, .int x1, .int x2]) (n := 3) (Nat.le_of_ble_eq_true rfl)
  rw [lg_entry_eq]
  generalize (lg_sl ([.int x0, .int x1, .int x2]) ++ List.replicate (3 - (lg_sl ([.int x0, .int x1, .int x2])).length) Slot.unset).toArray = ls at hl ⊢
  have hl : lv_has ls 3 [(0, .int x0), (1, .int x1), (2, .int x2)] := hl
  obtain ⟨hx, hb, hr, hml, hown, hts, hK, hlk, hST⟩ := id hC
  refine mpM_in hI hC ⟨Nat.le_refl _, Nat.le_refl _, Nat.le_refl _, Nat.le_refl _⟩ x0 x1 x2 N9 r0 ?_ hf _ _ ls hP va_S.rf hl
  intro r1 H locs pc ls he hz hP hS hd
  cases he
  exact W.zret hx hb hr (congrArg Value.int hz) (fun t ht hW => ⟨⟨_, (), rfl, rfl, trivial⟩, hS.F ht⟩) hS.2.2 hd hlk
/-! StripeTradeModel.less (II)I [] -/
set_option maxHeartbeats 4000000 in
set_option maxRecDepth 100000 in
theorem mpM_less_10 {p : Program} {l : Launch} {e : Env} {R : Room} {s : State} {m : MethodId} {args : Array Value} {below : List Frame} {meth : Method} {c : Code} {cells slots : Nat} {Q : State → Prop} {g : zG} (hI : zI g 581) (hC : zC g RX10 cX10_less 2 (some .int) p s m meth c args) (hR : 1 ≤ R.frames ∧ 60 * 1 ≤ R.locals ∧ cells ≤ R.cells ∧ slots ≤ R.slots)   (N9 : Nat)   (res : Int32) (hfin : ∀ (r0 : Int32) (H : Heap) (locs : List Loc) (pc : Nat) (ls : Array Slot), r0 = res → True → va_S (fun _ => False) s.heap H locs → decode cX10_less pc = .ok (.ireturn, 1) → W p l e R s m args below meth c H locs cells slots Q (F0 m pc ls [.int r0])) : ∀ (s0 : Int32), pM_less_10 N9 s0 = some res → ∀ (H : Heap) (locs : List Loc) (ls : Array Slot), True → va_S (fun _ => False) s.heap H locs → lv_has ls 2 [] → W p l e R s m args below meth c H locs cells slots Q (F0 m 10 ls [.int s0]) := by
  obtain ⟨hx, hb, hr, hml, hown, hts, hK, hlk, hST⟩ := id hC
  have hB : ∀ q, (fun _ => False) q → zB g q := fun q h => h.elim
  intro s0 hf H locs ls hP hS hl
  unfold pM_less_10 at hf
  exact hfin _ H locs _ ls (Option.some.inj hf) hP hS dX10_less_10
set_option maxHeartbeats 4000000 in
set_option maxRecDepth 100000 in
theorem mpM_less {p : Program} {l : Launch} {e : Env} {R : Room} {s : State} {m : MethodId} {args : Array Value} {below : List Frame} {meth : Method} {c : Code} {cells slots : Nat} {Q : State → Prop} {g : zG} (hI : zI g 581) (hC : zC g RX10 cX10_less 2 (some .int) p s m meth c args) (hR : 1 ≤ R.frames ∧ 60 * 1 ≤ R.locals ∧ cells ≤ R.cells ∧ slots ≤ R.slots)  (x0 : Int32) (x1 : Int32) (N9 : Nat)   (res : Int32) (hfin : ∀ (r0 : Int32) (H : Heap) (locs : List Loc) (pc : Nat) (ls : Array Slot), r0 = res → True → va_S (fun _ => False) s.heap H locs → decode cX10_less pc = .ok (.ireturn, 1) → W p l e R s m args below meth c H locs cells slots Q (F0 m pc ls [.int r0])) : pM_less N9 x0 x1 = some res → ∀ (H : Heap) (locs : List Loc) (ls : Array Slot), True → va_S (fun _ => False) s.heap H locs → lv_has ls 2 [(0, .int x0), (1, .int x1)] → W p l e R s m args below meth c H locs cells slots Q (F0 m 0 ls []) := by
  obtain ⟨hx, hb, hr, hml, hown, hts, hK, hlk, hST⟩ := id hC
  have hB : ∀ q, (fun _ => False) q → zB g q := fun q h => h.elim
  intro  hf H locs ls hP hS hl
  have hk10 := mpM_less_10 (l := l) (e := e) (R := R) (below := below) (cells := cells) (slots := slots) (Q := Q) hI hC hR N9 res hfin
  unfold pM_less at hf
  refine lv_iload_n hx hb dX10_less_0 rfl (lv_at hl 0 rfl) ?_
  refine lv_iload_n hx hb dX10_less_1 rfl (lv_at hl 1 rfl) ?_
  refine lv_icmp_ge (tgt := 9) hx hb dX10_less_2 (by decide) (fun hc_1 => ?_) (fun hc_1 => ?_)
  · have hf := zifp hc_1 hf
    refine lv_iload_n hx hb dX10_less_9 rfl (lv_at hl 1 rfl) ?_
    exact hk10 x1 hf H locs ls hP hS (lv_sub hl [] rfl)
  · have hf := zifn hc_1 hf
    refine lv_iload_n hx hb dX10_less_5 rfl (lv_at hl 0 rfl) ?_
    refine lv_goto (tgt := 10) hx hb dX10_less_6 (by decide) ?_
    exact hk10 x0 hf H locs ls hP hS (lv_sub hl [] rfl)
set_option maxHeartbeats 4000000 in
set_option maxRecDepth 100000 in
theorem cpM_less (l : Launch) {g : zG} (hI : zI g 581)  (x0 : Int32)  (x1 : Int32) (N9 : Nat) {r0 : Int32} (hf : pM_less N9  x0 x1 = some r0) : zMp l yX10_less cX10_less 2 (some .int) 1 g [.int x0, .int x1] r0 := by
  refine Met.ofW (cc := cX10_less) (maxL := 2) (ret := (some .int)) (by decide +kernel) rfl ?_
  intro p e s m args below meth c s₁ B hml hv
  obtain ⟨rfl, hK, hST⟩ := hv
  have hP : True := trivial
  have hC := zstart (own := RX10) rfl B hml hK hST
  have hl := lv_entry ([.int x0, .int x1]) (n := 2) (Nat.le_of_ble_eq_true rfl)
  rw [lg_entry_eq]
  generalize (lg_sl ([.int x0, .int x1]) ++ List.replicate (2 - (lg_sl ([.int x0, .int x1])).length) Slot.unset).toArray = ls at hl ⊢
  have hl : lv_has ls 2 [(0, .int x0), (1, .int x1)] := hl
  obtain ⟨hx, hb, hr, hml, hown, hts, hK, hlk, hST⟩ := id hC
  refine mpM_less hI hC ⟨Nat.le_refl _, Nat.le_refl _, Nat.le_refl _, Nat.le_refl _⟩ x0 x1 N9 r0 ?_ hf _ _ ls hP va_S.rf hl
  intro r1 H locs pc ls he hP hS hd
  cases he
  exact W.iret hx hb hr (fun t ht hW => ⟨⟨_, (), rfl, rfl, trivial⟩, hS.F ht⟩) hS.2.2 hd hlk
/-! StripeTradeModel.more (II)I [] -/
set_option maxHeartbeats 4000000 in
set_option maxRecDepth 100000 in
theorem mpM_more_10 {p : Program} {l : Launch} {e : Env} {R : Room} {s : State} {m : MethodId} {args : Array Value} {below : List Frame} {meth : Method} {c : Code} {cells slots : Nat} {Q : State → Prop} {g : zG} (hI : zI g 581) (hC : zC g RX10 cX10_more 2 (some .int) p s m meth c args) (hR : 1 ≤ R.frames ∧ 60 * 1 ≤ R.locals ∧ cells ≤ R.cells ∧ slots ≤ R.slots)   (N9 : Nat)   (res : Int32) (hfin : ∀ (r0 : Int32) (H : Heap) (locs : List Loc) (pc : Nat) (ls : Array Slot), r0 = res → True → va_S (fun _ => False) s.heap H locs → decode cX10_more pc = .ok (.ireturn, 1) → W p l e R s m args below meth c H locs cells slots Q (F0 m pc ls [.int r0])) : ∀ (s0 : Int32), pM_more_10 N9 s0 = some res → ∀ (H : Heap) (locs : List Loc) (ls : Array Slot), True → va_S (fun _ => False) s.heap H locs → lv_has ls 2 [] → W p l e R s m args below meth c H locs cells slots Q (F0 m 10 ls [.int s0]) := by
  obtain ⟨hx, hb, hr, hml, hown, hts, hK, hlk, hST⟩ := id hC
  have hB : ∀ q, (fun _ => False) q → zB g q := fun q h => h.elim
  intro s0 hf H locs ls hP hS hl
  unfold pM_more_10 at hf
  exact hfin _ H locs _ ls (Option.some.inj hf) hP hS dX10_more_10
set_option maxHeartbeats 4000000 in
set_option maxRecDepth 100000 in
theorem mpM_more {p : Program} {l : Launch} {e : Env} {R : Room} {s : State} {m : MethodId} {args : Array Value} {below : List Frame} {meth : Method} {c : Code} {cells slots : Nat} {Q : State → Prop} {g : zG} (hI : zI g 581) (hC : zC g RX10 cX10_more 2 (some .int) p s m meth c args) (hR : 1 ≤ R.frames ∧ 60 * 1 ≤ R.locals ∧ cells ≤ R.cells ∧ slots ≤ R.slots)  (x0 : Int32) (x1 : Int32) (N9 : Nat)   (res : Int32) (hfin : ∀ (r0 : Int32) (H : Heap) (locs : List Loc) (pc : Nat) (ls : Array Slot), r0 = res → True → va_S (fun _ => False) s.heap H locs → decode cX10_more pc = .ok (.ireturn, 1) → W p l e R s m args below meth c H locs cells slots Q (F0 m pc ls [.int r0])) : pM_more N9 x0 x1 = some res → ∀ (H : Heap) (locs : List Loc) (ls : Array Slot), True → va_S (fun _ => False) s.heap H locs → lv_has ls 2 [(0, .int x0), (1, .int x1)] → W p l e R s m args below meth c H locs cells slots Q (F0 m 0 ls []) := by
  obtain ⟨hx, hb, hr, hml, hown, hts, hK, hlk, hST⟩ := id hC
  have hB : ∀ q, (fun _ => False) q → zB g q := fun q h => h.elim
  intro  hf H locs ls hP hS hl
  have hk10 := mpM_more_10 (l := l) (e := e) (R := R) (below := below) (cells := cells) (slots := slots) (Q := Q) hI hC hR N9 res hfin
  unfold pM_more at hf
  refine lv_iload_n hx hb dX10_more_0 rfl (lv_at hl 0 rfl) ?_
  refine lv_iload_n hx hb dX10_more_1 rfl (lv_at hl 1 rfl) ?_
  refine lv_icmp_le (tgt := 9) hx hb dX10_more_2 (by decide) (fun hc_1 => ?_) (fun hc_1 => ?_)
  · have hf := zifp hc_1 hf
    refine lv_iload_n hx hb dX10_more_9 rfl (lv_at hl 1 rfl) ?_
    exact hk10 x1 hf H locs ls hP hS (lv_sub hl [] rfl)
  · have hf := zifn hc_1 hf
    refine lv_iload_n hx hb dX10_more_5 rfl (lv_at hl 0 rfl) ?_
    refine lv_goto (tgt := 10) hx hb dX10_more_6 (by decide) ?_
    exact hk10 x0 hf H locs ls hP hS (lv_sub hl [] rfl)
set_option maxHeartbeats 4000000 in
set_option maxRecDepth 100000 in
theorem cpM_more (l : Launch) {g : zG} (hI : zI g 581)  (x0 : Int32)  (x1 : Int32) (N9 : Nat) {r0 : Int32} (hf : pM_more N9  x0 x1 = some r0) : zMp l yX10_more cX10_more 2 (some .int) 1 g [.int x0, .int x1] r0 := by
  refine Met.ofW (cc := cX10_more) (maxL := 2) (ret := (some .int)) (by decide +kernel) rfl ?_
  intro p e s m args below meth c s₁ B hml hv
  obtain ⟨rfl, hK, hST⟩ := hv
  have hP : True := trivial
  have hC := zstart (own := RX10) rfl B hml hK hST
  have hl := lv_entry ([.int x0, .int x1]) (n := 2) (Nat.le_of_ble_eq_true rfl)
  rw [lg_entry_eq]
  generalize (lg_sl ([.int x0, .int x1]) ++ List.replicate (2 - (lg_sl ([.int x0, .int x1])).length) Slot.unset).toArray = ls at hl ⊢
  have hl : lv_has ls 2 [(0, .int x0), (1, .int x1)] := hl
  obtain ⟨hx, hb, hr, hml, hown, hts, hK, hlk, hST⟩ := id hC
  refine mpM_more hI hC ⟨Nat.le_refl _, Nat.le_refl _, Nat.le_refl _, Nat.le_refl _⟩ x0 x1 N9 r0 ?_ hf _ _ ls hP va_S.rf hl
  intro r1 H locs pc ls he hP hS hd
  cases he
  exact W.iret hx hb hr (fun t ht hW => ⟨⟨_, (), rfl, rfl, trivial⟩, hS.F ht⟩) hS.2.2 hd hlk
/-! StripeTradeModel.has (II)Z [] -/
set_option maxHeartbeats 4000000 in
set_option maxRecDepth 100000 in
theorem mpM_has_14 {p : Program} {l : Launch} {e : Env} {R : Room} {s : State} {m : MethodId} {args : Array Value} {below : List Frame} {meth : Method} {c : Code} {cells slots : Nat} {Q : State → Prop} {g : zG} (hI : zI g 581) (hC : zC g RX10 cX10_has 2 (some .boolean) p s m meth c args) (hR : 1 ≤ R.frames ∧ 60 * 1 ≤ R.locals ∧ cells ≤ R.cells ∧ slots ≤ R.slots)   (N9 : Nat)   (res : Int32) (hfin : ∀ (r0 : Int32) (H : Heap) (locs : List Loc) (pc : Nat) (ls : Array Slot), r0 = res → r0 &&& 1 = r0 → True → va_S (fun _ => False) s.heap H locs → decode cX10_has pc = .ok (.ireturn, 1) → W p l e R s m args below meth c H locs cells slots Q (F0 m pc ls [.int r0])) : ∀ (s0 : Int32), pM_has_14 N9 s0 = some res → ∀ (H : Heap) (locs : List Loc) (ls : Array Slot), True → va_S (fun _ => False) s.heap H locs → lv_has ls 2 [] → W p l e R s m args below meth c H locs cells slots Q (F0 m 14 ls [.int s0]) := by
  obtain ⟨hx, hb, hr, hml, hown, hts, hK, hlk, hST⟩ := id hC
  have hB : ∀ q, (fun _ => False) q → zB g q := fun q h => h.elim
  intro s0 hf H locs ls hP hS hl
  unfold pM_has_14 at hf
  obtain ⟨hz9, hf⟩ := zite hf
  exact hfin _ H locs _ ls (Option.some.inj hf) hz9 hP hS dX10_has_14
set_option maxHeartbeats 4000000 in
set_option maxRecDepth 100000 in
theorem mpM_has {p : Program} {l : Launch} {e : Env} {R : Room} {s : State} {m : MethodId} {args : Array Value} {below : List Frame} {meth : Method} {c : Code} {cells slots : Nat} {Q : State → Prop} {g : zG} (hI : zI g 581) (hC : zC g RX10 cX10_has 2 (some .boolean) p s m meth c args) (hR : 1 ≤ R.frames ∧ 60 * 1 ≤ R.locals ∧ cells ≤ R.cells ∧ slots ≤ R.slots)  (x0 : Int32) (x1 : Int32) (N9 : Nat)   (res : Int32) (hfin : ∀ (r0 : Int32) (H : Heap) (locs : List Loc) (pc : Nat) (ls : Array Slot), r0 = res → r0 &&& 1 = r0 → True → va_S (fun _ => False) s.heap H locs → decode cX10_has pc = .ok (.ireturn, 1) → W p l e R s m args below meth c H locs cells slots Q (F0 m pc ls [.int r0])) : pM_has N9 x0 x1 = some res → ∀ (H : Heap) (locs : List Loc) (ls : Array Slot), True → va_S (fun _ => False) s.heap H locs → lv_has ls 2 [(0, .int x0), (1, .int x1)] → W p l e R s m args below meth c H locs cells slots Q (F0 m 0 ls []) := by
  obtain ⟨hx, hb, hr, hml, hown, hts, hK, hlk, hST⟩ := id hC
  have hB : ∀ q, (fun _ => False) q → zB g q := fun q h => h.elim
  intro  hf H locs ls hP hS hl
  have hk14 := mpM_has_14 (l := l) (e := e) (R := R) (below := below) (cells := cells) (slots := slots) (Q := Q) hI hC hR N9 res hfin
  unfold pM_has at hf
  refine lv_iload_n hx hb dX10_has_0 rfl (lv_at hl 0 rfl) ?_
  refine lv_iload_n hx hb dX10_has_1 rfl (lv_at hl 1 rfl) ?_
  refine lv_ishr hx hb dX10_has_2 ?_
  refine lv_iconst (v := 1) hx hb dX10_has_3 (by decide) ?_
  refine lv_iand hx hb dX10_has_4 ?_
  refine lv_iconst (v := 1) hx hb dX10_has_5 (by decide) ?_
  refine lv_icmp_ne (tgt := 13) hx hb dX10_has_6 (by decide) (fun hc_1 => ?_) (fun hc_1 => ?_)
  · have hf := zifn hc_1 hf
    refine lv_iconst (v := 0) hx hb dX10_has_13 (by decide) ?_
    exact hk14 0 hf H locs ls hP hS (lv_sub hl [] rfl)
  · have hf := zifp hc_1 hf
    refine lv_iconst (v := 1) hx hb dX10_has_9 (by decide) ?_
    refine lv_goto (tgt := 14) hx hb dX10_has_10 (by decide) ?_
    exact hk14 1 hf H locs ls hP hS (lv_sub hl [] rfl)
set_option maxHeartbeats 4000000 in
set_option maxRecDepth 100000 in
theorem cpM_has (l : Launch) {g : zG} (hI : zI g 581)  (x0 : Int32)  (x1 : Int32) (N9 : Nat) {r0 : Int32} (hf : pM_has N9  x0 x1 = some r0) : zMp l yX10_has cX10_has 2 (some .boolean) 1 g [.int x0, .int x1] r0 := by
  refine Met.ofW (cc := cX10_has) (maxL := 2) (ret := (some .boolean)) (by decide +kernel) rfl ?_
  intro p e s m args below meth c s₁ B hml hv
  obtain ⟨rfl, hK, hST⟩ := hv
  have hP : True := trivial
  have hC := zstart (own := RX10) rfl B hml hK hST
  have hl := lv_entry ([.int x0, .int x1]) (n := 2) (Nat.le_of_ble_eq_true rfl)
  rw [lg_entry_eq]
  generalize (lg_sl ([.int x0, .int x1]) ++ List.replicate (2 - (lg_sl ([.int x0, .int x1])).length) Slot.unset).toArray = ls at hl ⊢
  have hl : lv_has ls 2 [(0, .int x0), (1, .int x1)] := hl
  obtain ⟨hx, hb, hr, hml, hown, hts, hK, hlk, hST⟩ := id hC
  refine mpM_has hI hC ⟨Nat.le_refl _, Nat.le_refl _, Nat.le_refl _, Nat.le_refl _⟩ x0 x1 N9 r0 ?_ hf _ _ ls hP va_S.rf hl
  intro r1 H locs pc ls he hz hP hS hd
  cases he
  exact W.zret hx hb hr (congrArg Value.int hz) (fun t ht hW => ⟨⟨_, (), rfl, rfl, trivial⟩, hS.F ht⟩) hS.2.2 hd hlk
/-! StripeTradeModel.feed (IIIII)I [('obj', 'm')] -/
set_option maxHeartbeats 4000000 in
set_option maxRecDepth 100000 in
theorem mpM_feed_76 {p : Program} {l : Launch} {e : Env} {R : Room} {s : State} {m : MethodId} {args : Array Value} {below : List Frame} {meth : Method} {c : Code} {cells slots : Nat} {Q : State → Prop} {g : zG} (hI : zI g 581) (hC : zC g RX10 cX10_feed 8 (some .int) p s m meth c args) (hR : 1 ≤ R.frames ∧ 60 * 1 ≤ R.locals ∧ cells ≤ R.cells ∧ slots ≤ R.slots) (m_thrown : Int32) (m_size : Int32) (m_place : Int32) (m_at : Int32) (m_fault : Int32) (m_faultAt : Int32) (m_clauses : Int32) (m_open : Int32) (m_refused : Nat → Int32) (m_readTold : Nat → Int32) (m_told : Nat → Int32) (m_readBeast : Nat → Nat → Int32) (m_beast : Nat → Nat → Int32) (m_readGate : Nat → Nat → Int32) (m_gate : Nat → Nat → Int32) (m_readList : Nat → Nat → Int32) (m_list : Nat → Nat → Int32) (m_lawMany : Int32) (m_readLawMany : Int32) (m_law : Nat → Nat → Int32) (m_readLaw : Nat → Nat → Int32) (m_stack : Nat → Int32) (m_known : Nat → Int32) (m_step : Nat → Nat → Int32) (m_steps : Int32) (m_now : Nat → Int32) (m_trial : Nat → Int32) (m_before : Nat → Nat → Int32) (m_kept : Nat → Nat → Int32) (m_works : Int32) (m_refusedSteps : Int32) (m_images : Int32) (m_spot : Int32) (m_begun : Int32) (m_doneSteps : Int32) (m_mixed : Nat → Int32) (m_fewest : Nat → Int32) (m_leastFees : Nat → Int32) (m_lots : Int32) (m_tars : Int32) (x1 : Int32) (x2 : Int32) (x3 : Int32) (x4 : Int32) (x5 : Int32) (N9 : Nat)  (k23 : Int32 → Int32 → (Nat → Int32) → Int32 → Option (Int32 × Int32 × Int32 × (Nat → Int32))) (res : Int32 × Int32 × Int32 × (Nat → Int32)) (hfin : ∀ (r0 : Int32) (m_thrown : Int32) (m_tape : Int32) (m_fed : Nat → Int32) (H : Heap) (locs : List Loc) (pc : Nat) (ls : Array Slot), (r0, m_thrown, m_tape, m_fed) = res → va_P g.1 zcl (zM g m_thrown m_tape m_size m_place m_at m_fault m_faultAt m_clauses m_open m_fed m_refused m_readTold m_told m_readBeast m_beast m_readGate m_gate m_readList m_list m_lawMany m_readLawMany m_law m_readLaw m_stack m_known m_step m_steps m_now m_trial m_before m_kept m_works m_refusedSteps m_images m_spot m_begun m_doneSteps m_mixed m_fewest m_leastFees m_lots m_tars) H → va_S (zF g 64 580 s.heap.size) s.heap H locs → decode cX10_feed pc = .ok (.ireturn, 1) → W p l e R s m args below meth c H locs cells slots Q (F0 m pc ls [.int r0])) (hk23 : ∀ (m_thrown : Int32) (m_tape : Int32) (m_fed : Nat → Int32) (x6 : Int32), k23 m_thrown m_tape m_fed x6 = some res → ∀ (H : Heap) (locs : List Loc) (ls : Array Slot), va_P g.1 zcl (zM g m_thrown m_tape m_size m_place m_at m_fault m_faultAt m_clauses m_open m_fed m_refused m_readTold m_told m_readBeast m_beast m_readGate m_gate m_readList m_list m_lawMany m_readLawMany m_law m_readLaw m_stack m_known m_step m_steps m_now m_trial m_before m_kept m_works m_refusedSteps m_images m_spot m_begun m_doneSteps m_mixed m_fewest m_leastFees m_lots m_tars) H → va_S (zF g 64 580 s.heap.size) s.heap H locs → lv_has ls 8 [(0, .ref (g.2.1 64)), (1, .int x1), (2, .int x2), (3, .int x3), (4, .int x4), (5, .int x5), (6, .int x6)] → W p l e R s m args below meth c H locs cells slots Q (F0 m 23 ls [])) : ∀ (m_tape : Int32) (m_fed : Nat → Int32) (x6 : Int32) (s0 : Int32), pM_feed_76 N9 m_thrown x1 x2 x3 x4 x5 k23 m_tape m_fed x6 s0 = some res → ∀ (H : Heap) (locs : List Loc) (ls : Array Slot), va_P g.1 zcl (zM g m_thrown m_tape m_size m_place m_at m_fault m_faultAt m_clauses m_open m_fed m_refused m_readTold m_told m_readBeast m_beast m_readGate m_gate m_readList m_list m_lawMany m_readLawMany m_law m_readLaw m_stack m_known m_step m_steps m_now m_trial m_before m_kept m_works m_refusedSteps m_images m_spot m_begun m_doneSteps m_mixed m_fewest m_leastFees m_lots m_tars) H → va_S (zF g 64 580 s.heap.size) s.heap H locs → lv_has ls 8 [(0, .ref (g.2.1 64)), (1, .int x1), (2, .int x2), (3, .int x3), (4, .int x4), (5, .int x5), (6, .int x6)] → W p l e R s m args below meth c H locs cells slots Q (F0 m 76 ls [.int s0]) := by
  obtain ⟨hx, hb, hr, hml, hown, hts, hK, hlk, hST⟩ := id hC
  have hB : ∀ q, (zF g 64 580 s.heap.size) q → zB g q := zF.base hI (Nat.le_of_ble_eq_true rfl) hST.1
  intro m_tape m_fed x6 s0 hf H locs ls hP hS hl
  unfold pM_feed_76 at hf
  refine lv_istore (lv' := [(7, .int s0), (0, .ref (g.2.1 64)), (1, .int x1), (2, .int x2), (3, .int x3), (4, .int x4), (5, .int x5), (6, .int x6)]) hx hb dX10_feed_76 hl (by decide) rfl (fun ls hl => ?_)
  refine lv_aload_n hx hb dX10_feed_78 rfl (lv_at hl 1 rfl) ?_
  refine zr_m_fed hC hP (hC.fl mw_1398) dX10_feed_79 ?_
  refine lv_aload_n hx hb dX10_feed_82 rfl (lv_at hl 1 rfl) ?_
  refine zg_m_tape hC hP (hC.fl mw_1390) dX10_feed_83 ?_
  refine lv_iload hx hb dX10_feed_86 (lv_at hl 0 rfl) ?_
  refine lv_bipush (v := 24) hx hb dX10_feed_88 (by decide) ?_
  refine lv_bipush (v := 8) hx hb dX10_feed_90 (by decide) ?_
  refine lv_iload hx hb dX10_feed_92 (lv_at hl 7 rfl) ?_
  refine lv_iconst (v := 4) hx hb dX10_feed_94 (by decide) ?_
  have hd_1 : ¬ (4 : Int32) = 0 := by decide
  refine lv_irem hx hb dX10_feed_95 hd_1 ?_
  refine lv_imul hx hb dX10_feed_96 ?_
  refine lv_isub hx hb dX10_feed_97 ?_
  refine lv_ishr hx hb dX10_feed_98 ?_
  refine lv_sipush (v := 255) hx hb dX10_feed_99 (by decide) ?_
  refine lv_iand hx hb dX10_feed_102 ?_
  refine lv_topi (fun v_2 ev_2 => ?_)
  have hf := zleti ev_2 hf
  obtain ⟨hz_3, hf⟩ := zite hf
  refine zs_m_fed hC hP hI (fun k h1 h2 => zF.own h1 h2) hS hz_3 dX10_feed_103 (fun H locs hP hS => ?_)
  refine lv_aload_n hx hb dX10_feed_104 rfl (lv_at hl 1 rfl) ?_
  refine lv_dup hx hb dX10_feed_105 rfl ?_
  refine zg_m_tape hC hP (hC.fl mw_1390) dX10_feed_106 ?_
  refine lv_iconst (v := 1) hx hb dX10_feed_109 (by decide) ?_
  refine lv_iadd hx hb dX10_feed_110 ?_
  refine zp_m_tape hC hP hI (fun k h1 h2 => zF.own h1 h2) hS (hC.fl mw_1390) dX10_feed_111 (fun H locs hP hS => ?_)
  refine lv_iinc (v := x6 + 1) (lv' := [(6, .int (x6 + 1)), (7, .int s0), (0, .ref (g.2.1 64)), (1, .int x1), (2, .int x2), (3, .int x3), (4, .int x4), (5, .int x5)]) hx hb dX10_feed_114 hl (k := 7) rfl rfl (by decide) rfl (fun ls hl => ?_)
  refine lv_goto (tgt := 23) hx hb dX10_feed_117 (by decide) ?_
  exact hk23 m_thrown (m_tape + 1) (upd m_fed m_tape.toNatClampNeg v_2) (x6 + 1) hf H locs ls hP hS (lv_sub hl [2, 3, 4, 5, 6, 7, 0] rfl)
set_option maxHeartbeats 4000000 in
set_option maxRecDepth 100000 in
theorem mpM_feed_23 {p : Program} {l : Launch} {e : Env} {R : Room} {s : State} {m : MethodId} {args : Array Value} {below : List Frame} {meth : Method} {c : Code} {cells slots : Nat} {Q : State → Prop} {g : zG} (hI : zI g 581) (hC : zC g RX10 cX10_feed 8 (some .int) p s m meth c args) (hR : 1 ≤ R.frames ∧ 60 * 1 ≤ R.locals ∧ cells ≤ R.cells ∧ slots ≤ R.slots) (m_size : Int32) (m_place : Int32) (m_at : Int32) (m_fault : Int32) (m_faultAt : Int32) (m_clauses : Int32) (m_open : Int32) (m_refused : Nat → Int32) (m_readTold : Nat → Int32) (m_told : Nat → Int32) (m_readBeast : Nat → Nat → Int32) (m_beast : Nat → Nat → Int32) (m_readGate : Nat → Nat → Int32) (m_gate : Nat → Nat → Int32) (m_readList : Nat → Nat → Int32) (m_list : Nat → Nat → Int32) (m_lawMany : Int32) (m_readLawMany : Int32) (m_law : Nat → Nat → Int32) (m_readLaw : Nat → Nat → Int32) (m_stack : Nat → Int32) (m_known : Nat → Int32) (m_step : Nat → Nat → Int32) (m_steps : Int32) (m_now : Nat → Int32) (m_trial : Nat → Int32) (m_before : Nat → Nat → Int32) (m_kept : Nat → Nat → Int32) (m_works : Int32) (m_refusedSteps : Int32) (m_images : Int32) (m_spot : Int32) (m_begun : Int32) (m_doneSteps : Int32) (m_mixed : Nat → Int32) (m_fewest : Nat → Int32) (m_leastFees : Nat → Int32) (m_lots : Int32) (m_tars : Int32) (x1 : Int32) (x2 : Int32) (x3 : Int32) (x4 : Int32) (x5 : Int32) (N9 : Nat)   (res : Int32 × Int32 × Int32 × (Nat → Int32)) (hfin : ∀ (r0 : Int32) (m_thrown : Int32) (m_tape : Int32) (m_fed : Nat → Int32) (H : Heap) (locs : List Loc) (pc : Nat) (ls : Array Slot), (r0, m_thrown, m_tape, m_fed) = res → va_P g.1 zcl (zM g m_thrown m_tape m_size m_place m_at m_fault m_faultAt m_clauses m_open m_fed m_refused m_readTold m_told m_readBeast m_beast m_readGate m_gate m_readList m_list m_lawMany m_readLawMany m_law m_readLaw m_stack m_known m_step m_steps m_now m_trial m_before m_kept m_works m_refusedSteps m_images m_spot m_begun m_doneSteps m_mixed m_fewest m_leastFees m_lots m_tars) H → va_S (zF g 64 580 s.heap.size) s.heap H locs → decode cX10_feed pc = .ok (.ireturn, 1) → W p l e R s m args below meth c H locs cells slots Q (F0 m pc ls [.int r0])) : ∀ (n9 : Nat) (m_thrown : Int32) (m_tape : Int32) (m_fed : Nat → Int32) (x6 : Int32), pM_feed_23 N9 x1 x2 x3 x4 x5 n9 m_thrown m_tape m_fed x6 = some res → ∀ (H : Heap) (locs : List Loc) (ls : Array Slot), va_P g.1 zcl (zM g m_thrown m_tape m_size m_place m_at m_fault m_faultAt m_clauses m_open m_fed m_refused m_readTold m_told m_readBeast m_beast m_readGate m_gate m_readList m_list m_lawMany m_readLawMany m_law m_readLaw m_stack m_known m_step m_steps m_now m_trial m_before m_kept m_works m_refusedSteps m_images m_spot m_begun m_doneSteps m_mixed m_fewest m_leastFees m_lots m_tars) H → va_S (zF g 64 580 s.heap.size) s.heap H locs → lv_has ls 8 [(0, .ref (g.2.1 64)), (1, .int x1), (2, .int x2), (3, .int x3), (4, .int x4), (5, .int x5), (6, .int x6)] → W p l e R s m args below meth c H locs cells slots Q (F0 m 23 ls []) := by
  obtain ⟨hx, hb, hr, hml, hown, hts, hK, hlk, hST⟩ := id hC
  have hB : ∀ q, (zF g 64 580 s.heap.size) q → zB g q := zF.base hI (Nat.le_of_ble_eq_true rfl) hST.1
  intro n9
  induction n9 with
  | zero => intro m_thrown m_tape m_fed x6 hf; cases hf
  | succ n9 ih =>
    intro m_thrown m_tape m_fed x6 hf H locs ls hP hS hl
    have hk23 := ih
    have hk76 := mpM_feed_76 (l := l) (e := e) (R := R) (below := below) (cells := cells) (slots := slots) (Q := Q) hI hC hR m_thrown m_size m_place m_at m_fault m_faultAt m_clauses m_open m_refused m_readTold m_told m_readBeast m_beast m_readGate m_gate m_readList m_list m_lawMany m_readLawMany m_law m_readLaw m_stack m_known m_step m_steps m_now m_trial m_before m_kept m_works m_refusedSteps m_images m_spot m_begun m_doneSteps m_mixed m_fewest m_leastFees m_lots m_tars x1 x2 x3 x4 x5 N9 (pM_feed_23 N9 x1 x2 x3 x4 x5 n9) res hfin hk23
    unfold pM_feed_23 at hf
    refine lv_iload hx hb dX10_feed_23 (lv_at hl 6 rfl) ?_
    refine lv_bipush (v := 20) hx hb dX10_feed_25 (by decide) ?_
    refine lv_icmp_ge (tgt := 120) hx hb dX10_feed_27 (by decide) (fun hc_4 => ?_) (fun hc_4 => ?_)
    · have hf := zifp hc_4 hf
      refine lv_aload_n hx hb dX10_feed_120 rfl (lv_at hl 0 rfl) ?_
      refine zg_m_tape hC hP (hC.fl mw_1390) dX10_feed_121 ?_
      exact hfin _ _ _ _ H locs _ ls (Option.some.inj hf) hP hS dX10_feed_124
    · have hf := zifn hc_4 hf
      refine lv_iload hx hb dX10_feed_30 (lv_at hl 6 rfl) ?_
      refine lv_iconst (v := 4) hx hb dX10_feed_32 (by decide) ?_
      refine lv_icmp_ge (tgt := 40) hx hb dX10_feed_33 (by decide) (fun hc_5 => ?_) (fun hc_5 => ?_)
      · have hf := zifp hc_5 hf
        refine lv_iload hx hb dX10_feed_40 (lv_at hl 6 rfl) ?_
        refine lv_bipush (v := 8) hx hb dX10_feed_42 (by decide) ?_
        refine lv_icmp_ge (tgt := 51) hx hb dX10_feed_44 (by decide) (fun hc_6 => ?_) (fun hc_6 => ?_)
        · have hf := zifp hc_6 hf
          refine lv_iload hx hb dX10_feed_51 (lv_at hl 6 rfl) ?_
          refine lv_bipush (v := 12) hx hb dX10_feed_53 (by decide) ?_
          refine lv_icmp_ge (tgt := 62) hx hb dX10_feed_55 (by decide) (fun hc_7 => ?_) (fun hc_7 => ?_)
          · have hf := zifp hc_7 hf
            refine lv_iload hx hb dX10_feed_62 (lv_at hl 6 rfl) ?_
            refine lv_bipush (v := 16) hx hb dX10_feed_64 (by decide) ?_
            refine lv_icmp_ge (tgt := 74) hx hb dX10_feed_66 (by decide) (fun hc_8 => ?_) (fun hc_8 => ?_)
            · have hf := zifp hc_8 hf
              refine lv_iload hx hb dX10_feed_74 (lv_at hl 5 rfl) ?_
              exact hk76 m_tape m_fed x6 x5 hf H locs ls hP hS (lv_sub hl [0, 1, 2, 3, 4, 5, 6] rfl)
            · have hf := zifn hc_8 hf
              refine lv_iload hx hb dX10_feed_69 (lv_at hl 4 rfl) ?_
              refine lv_goto (tgt := 76) hx hb dX10_feed_71 (by decide) ?_
              exact hk76 m_tape m_fed x6 x4 hf H locs ls hP hS (lv_sub hl [0, 1, 2, 3, 4, 5, 6] rfl)
          · have hf := zifn hc_7 hf
            refine lv_iload_n hx hb dX10_feed_58 rfl (lv_at hl 3 rfl) ?_
            refine lv_goto (tgt := 76) hx hb dX10_feed_59 (by decide) ?_
            exact hk76 m_tape m_fed x6 x3 hf H locs ls hP hS (lv_sub hl [0, 1, 2, 3, 4, 5, 6] rfl)
        · have hf := zifn hc_6 hf
          refine lv_iload_n hx hb dX10_feed_47 rfl (lv_at hl 2 rfl) ?_
          refine lv_goto (tgt := 76) hx hb dX10_feed_48 (by decide) ?_
          exact hk76 m_tape m_fed x6 x2 hf H locs ls hP hS (lv_sub hl [0, 1, 2, 3, 4, 5, 6] rfl)
      · have hf := zifn hc_5 hf
        refine lv_iload_n hx hb dX10_feed_36 rfl (lv_at hl 1 rfl) ?_
        refine lv_goto (tgt := 76) hx hb dX10_feed_37 (by decide) ?_
        exact hk76 m_tape m_fed x6 x1 hf H locs ls hP hS (lv_sub hl [0, 1, 2, 3, 4, 5, 6] rfl)
set_option maxHeartbeats 4000000 in
set_option maxRecDepth 100000 in
theorem mpM_feed {p : Program} {l : Launch} {e : Env} {R : Room} {s : State} {m : MethodId} {args : Array Value} {below : List Frame} {meth : Method} {c : Code} {cells slots : Nat} {Q : State → Prop} {g : zG} (hI : zI g 581) (hC : zC g RX10 cX10_feed 8 (some .int) p s m meth c args) (hR : 1 ≤ R.frames ∧ 60 * 1 ≤ R.locals ∧ cells ≤ R.cells ∧ slots ≤ R.slots) (m_thrown : Int32) (m_tape : Int32) (m_size : Int32) (m_place : Int32) (m_at : Int32) (m_fault : Int32) (m_faultAt : Int32) (m_clauses : Int32) (m_open : Int32) (m_fed : Nat → Int32) (m_refused : Nat → Int32) (m_readTold : Nat → Int32) (m_told : Nat → Int32) (m_readBeast : Nat → Nat → Int32) (m_beast : Nat → Nat → Int32) (m_readGate : Nat → Nat → Int32) (m_gate : Nat → Nat → Int32) (m_readList : Nat → Nat → Int32) (m_list : Nat → Nat → Int32) (m_lawMany : Int32) (m_readLawMany : Int32) (m_law : Nat → Nat → Int32) (m_readLaw : Nat → Nat → Int32) (m_stack : Nat → Int32) (m_known : Nat → Int32) (m_step : Nat → Nat → Int32) (m_steps : Int32) (m_now : Nat → Int32) (m_trial : Nat → Int32) (m_before : Nat → Nat → Int32) (m_kept : Nat → Nat → Int32) (m_works : Int32) (m_refusedSteps : Int32) (m_images : Int32) (m_spot : Int32) (m_begun : Int32) (m_doneSteps : Int32) (m_mixed : Nat → Int32) (m_fewest : Nat → Int32) (m_leastFees : Nat → Int32) (m_lots : Int32) (m_tars : Int32) (x1 : Int32) (x2 : Int32) (x3 : Int32) (x4 : Int32) (x5 : Int32) (N9 : Nat)   (res : Int32 × Int32 × Int32 × (Nat → Int32)) (hfin : ∀ (r0 : Int32) (m_thrown : Int32) (m_tape : Int32) (m_fed : Nat → Int32) (H : Heap) (locs : List Loc) (pc : Nat) (ls : Array Slot), (r0, m_thrown, m_tape, m_fed) = res → va_P g.1 zcl (zM g m_thrown m_tape m_size m_place m_at m_fault m_faultAt m_clauses m_open m_fed m_refused m_readTold m_told m_readBeast m_beast m_readGate m_gate m_readList m_list m_lawMany m_readLawMany m_law m_readLaw m_stack m_known m_step m_steps m_now m_trial m_before m_kept m_works m_refusedSteps m_images m_spot m_begun m_doneSteps m_mixed m_fewest m_leastFees m_lots m_tars) H → va_S (zF g 64 580 s.heap.size) s.heap H locs → decode cX10_feed pc = .ok (.ireturn, 1) → W p l e R s m args below meth c H locs cells slots Q (F0 m pc ls [.int r0])) : pM_feed N9 m_thrown m_tape m_fed x1 x2 x3 x4 x5 = some res → ∀ (H : Heap) (locs : List Loc) (ls : Array Slot), va_P g.1 zcl (zM g m_thrown m_tape m_size m_place m_at m_fault m_faultAt m_clauses m_open m_fed m_refused m_readTold m_told m_readBeast m_beast m_readGate m_gate m_readList m_list m_lawMany m_readLawMany m_law m_readLaw m_stack m_known m_step m_steps m_now m_trial m_before m_kept m_works m_refusedSteps m_images m_spot m_begun m_doneSteps m_mixed m_fewest m_leastFees m_lots m_tars) H → va_S (zF g 64 580 s.heap.size) s.heap H locs → lv_has ls 8 [(0, .ref (g.2.1 64)), (1, .int x1), (2, .int x2), (3, .int x3), (4, .int x4), (5, .int x5)] → W p l e R s m args below meth c H locs cells slots Q (F0 m 0 ls []) := by
  obtain ⟨hx, hb, hr, hml, hown, hts, hK, hlk, hST⟩ := id hC
  have hB : ∀ q, (zF g 64 580 s.heap.size) q → zB g q := zF.base hI (Nat.le_of_ble_eq_true rfl) hST.1
  intro  hf H locs ls hP hS hl
  have hk23 := mpM_feed_23 (l := l) (e := e) (R := R) (below := below) (cells := cells) (slots := slots) (Q := Q) hI hC hR m_size m_place m_at m_fault m_faultAt m_clauses m_open m_refused m_readTold m_told m_readBeast m_beast m_readGate m_gate m_readList m_list m_lawMany m_readLawMany m_law m_readLaw m_stack m_known m_step m_steps m_now m_trial m_before m_kept m_works m_refusedSteps m_images m_spot m_begun m_doneSteps m_mixed m_fewest m_leastFees m_lots m_tars x1 x2 x3 x4 x5 N9 res hfin N9
  unfold pM_feed at hf
  refine lv_aload_n hx hb dX10_feed_0 rfl (lv_at hl 0 rfl) ?_
  refine lv_iconst (v := 0) hx hb dX10_feed_1 (by decide) ?_
  refine zp_m_thrown hC hP hI (fun k h1 h2 => zF.own h1 h2) hS (hC.fl mw_1389) dX10_feed_2 (fun H locs hP hS => ?_)
  refine lv_aload_n hx hb dX10_feed_5 rfl (lv_at hl 0 rfl) ?_
  refine zg_m_tape hC hP (hC.fl mw_1390) dX10_feed_6 ?_
  refine lv_bipush (v := 20) hx hb dX10_feed_9 (by decide) ?_
  refine lv_iadd hx hb dX10_feed_11 ?_
  refine lv_sipush (v := 600) hx hb dX10_feed_12 (by decide) ?_
  refine lv_icmp_le (tgt := 20) hx hb dX10_feed_15 (by decide) (fun hc_9 => ?_) (fun hc_9 => ?_)
  · have hf := zifp hc_9 hf
    refine lv_iconst (v := 0) hx hb dX10_feed_20 (by decide) ?_
    refine lv_istore (lv' := [(6, .int 0), (0, .ref (g.2.1 64)), (1, .int x1), (2, .int x2), (3, .int x3), (4, .int x4), (5, .int x5)]) hx hb dX10_feed_21 hl (by decide) rfl (fun ls hl => ?_)
    exact hk23 0 m_tape m_fed 0 hf H locs ls hP hS (lv_sub hl [1, 2, 3, 4, 5, 6, 0] rfl)
  · have hf := zifn hc_9 hf
    refine lv_iconst (v := (-1)) hx hb dX10_feed_18 (by decide) ?_
    exact hfin _ _ _ _ H locs _ ls (Option.some.inj hf) hP hS dX10_feed_19
set_option maxHeartbeats 4000000 in
set_option maxRecDepth 100000 in
theorem cpM_feed (l : Launch) {g : zG} (hI : zI g 581) (sz : Nat) (m_thrown : Int32) (m_tape : Int32) (m_size : Int32) (m_place : Int32) (m_at : Int32) (m_fault : Int32) (m_faultAt : Int32) (m_clauses : Int32) (m_open : Int32) (m_fed : Nat → Int32) (m_refused : Nat → Int32) (m_readTold : Nat → Int32) (m_told : Nat → Int32) (m_readBeast : Nat → Nat → Int32) (m_beast : Nat → Nat → Int32) (m_readGate : Nat → Nat → Int32) (m_gate : Nat → Nat → Int32) (m_readList : Nat → Nat → Int32) (m_list : Nat → Nat → Int32) (m_lawMany : Int32) (m_readLawMany : Int32) (m_law : Nat → Nat → Int32) (m_readLaw : Nat → Nat → Int32) (m_stack : Nat → Int32) (m_known : Nat → Int32) (m_step : Nat → Nat → Int32) (m_steps : Int32) (m_now : Nat → Int32) (m_trial : Nat → Int32) (m_before : Nat → Nat → Int32) (m_kept : Nat → Nat → Int32) (m_works : Int32) (m_refusedSteps : Int32) (m_images : Int32) (m_spot : Int32) (m_begun : Int32) (m_doneSteps : Int32) (m_mixed : Nat → Int32) (m_fewest : Nat → Int32) (m_leastFees : Nat → Int32) (m_lots : Int32) (m_tars : Int32) (x1 : Int32)  (x2 : Int32)  (x3 : Int32)  (x4 : Int32)  (x5 : Int32) (N9 : Nat) {r0 : Int32} {m_thrown' : Int32} {m_tape' : Int32} {m_fed' : Nat → Int32} (hf : pM_feed N9  m_thrown m_tape m_fed x1 x2 x3 x4 x5 = some (r0, m_thrown', m_tape', m_fed')) : zMi l yX10_feed cX10_feed 8 (some .int) 1 g (zM g m_thrown m_tape m_size m_place m_at m_fault m_faultAt m_clauses m_open m_fed m_refused m_readTold m_told m_readBeast m_beast m_readGate m_gate m_readList m_list m_lawMany m_readLawMany m_law m_readLaw m_stack m_known m_step m_steps m_now m_trial m_before m_kept m_works m_refusedSteps m_images m_spot m_begun m_doneSteps m_mixed m_fewest m_leastFees m_lots m_tars) (zM g m_thrown' m_tape' m_size m_place m_at m_fault m_faultAt m_clauses m_open m_fed' m_refused m_readTold m_told m_readBeast m_beast m_readGate m_gate m_readList m_list m_lawMany m_readLawMany m_law m_readLaw m_stack m_known m_step m_steps m_now m_trial m_before m_kept m_works m_refusedSteps m_images m_spot m_begun m_doneSteps m_mixed m_fewest m_leastFees m_lots m_tars) sz (zF g 64 580 sz) [.ref (g.2.1 64), .int x1, .int x2, .int x3, .int x4, .int x5] r0 := by
  refine Met.ofW (cc := cX10_feed) (maxL := 8) (ret := (some .int)) (by decide +kernel) rfl ?_
  intro p e s m args below meth c s₁ B hml hv
  obtain ⟨rfl, hsz, hP, hK, hST⟩ := hv
  subst hsz
  have hC := zstart (own := RX10) rfl B hml hK hST
  have hl := lv_entry ([.ref (g.2.1 64), .int x1, .int x2, .int x3, .int x4, .int x5]) (n := 8) (Nat.le_of_ble_eq_true rfl)
  rw [lg_entry_eq]
  generalize (lg_sl ([.ref (g.2.1 64), .int x1, .int x2, .int x3, .int x4, .int x5]) ++ List.replicate (8 - (lg_sl ([.ref (g.2.1 64), .int x1, .int x2, .int x3, .int x4, .int x5])).length) Slot.unset).toArray = ls at hl ⊢
  have hl : lv_has ls 8 [(0, .ref (g.2.1 64)), (1, .int x1), (2, .int x2), (3, .int x3), (4, .int x4), (5, .int x5)] := hl
  obtain ⟨hx, hb, hr, hml, hown, hts, hK, hlk, hST⟩ := id hC
  refine mpM_feed hI hC ⟨Nat.le_refl _, Nat.le_refl _, Nat.le_refl _, Nat.le_refl _⟩ m_thrown m_tape m_size m_place m_at m_fault m_faultAt m_clauses m_open m_fed m_refused m_readTold m_told m_readBeast m_beast m_readGate m_gate m_readList m_list m_lawMany m_readLawMany m_law m_readLaw m_stack m_known m_step m_steps m_now m_trial m_before m_kept m_works m_refusedSteps m_images m_spot m_begun m_doneSteps m_mixed m_fewest m_leastFees m_lots m_tars x1 x2 x3 x4 x5 N9 (r0, m_thrown', m_tape', m_fed') ?_ hf _ _ ls hP va_S.rf hl
  intro r1 m_thrown1 m_tape1 m_fed1 H locs pc ls he hP hS hd
  cases he
  exact W.iret hx hb hr (fun t ht hW => ⟨⟨_, (), rfl, rfl, by rw [← ht] at hP; exact hP⟩, hS.F ht⟩) hS.2.2 hd hlk
/-! StripeTradeModel.byteAt (I)I [('obj', 'm')] -/
set_option maxHeartbeats 4000000 in
set_option maxRecDepth 100000 in
theorem mpM_byteAt_18 {p : Program} {l : Launch} {e : Env} {R : Room} {s : State} {m : MethodId} {args : Array Value} {below : List Frame} {meth : Method} {c : Code} {cells slots : Nat} {Q : State → Prop} {g : zG} (hI : zI g 581) (hC : zC g RX10 cX10_byteAt 2 (some .int) p s m meth c args) (hR : 1 ≤ R.frames ∧ 60 * 1 ≤ R.locals ∧ cells ≤ R.cells ∧ slots ≤ R.slots) (m_thrown : Int32) (m_tape : Int32) (m_size : Int32) (m_place : Int32) (m_at : Int32) (m_fault : Int32) (m_faultAt : Int32) (m_clauses : Int32) (m_open : Int32) (m_fed : Nat → Int32) (m_refused : Nat → Int32) (m_readTold : Nat → Int32) (m_told : Nat → Int32) (m_readBeast : Nat → Nat → Int32) (m_beast : Nat → Nat → Int32) (m_readGate : Nat → Nat → Int32) (m_gate : Nat → Nat → Int32) (m_readList : Nat → Nat → Int32) (m_list : Nat → Nat → Int32) (m_lawMany : Int32) (m_readLawMany : Int32) (m_law : Nat → Nat → Int32) (m_readLaw : Nat → Nat → Int32) (m_stack : Nat → Int32) (m_known : Nat → Int32) (m_step : Nat → Nat → Int32) (m_steps : Int32) (m_now : Nat → Int32) (m_trial : Nat → Int32) (m_before : Nat → Nat → Int32) (m_kept : Nat → Nat → Int32) (m_works : Int32) (m_refusedSteps : Int32) (m_images : Int32) (m_spot : Int32) (m_begun : Int32) (m_doneSteps : Int32) (m_mixed : Nat → Int32) (m_fewest : Nat → Int32) (m_leastFees : Nat → Int32) (m_lots : Int32) (m_tars : Int32)  (N9 : Nat)   (res : Int32) (hfin : ∀ (r0 : Int32) (H : Heap) (locs : List Loc) (pc : Nat) (ls : Array Slot), r0 = res → va_P g.1 zcl (zM g m_thrown m_tape m_size m_place m_at m_fault m_faultAt m_clauses m_open m_fed m_refused m_readTold m_told m_readBeast m_beast m_readGate m_gate m_readList m_list m_lawMany m_readLawMany m_law m_readLaw m_stack m_known m_step m_steps m_now m_trial m_before m_kept m_works m_refusedSteps m_images m_spot m_begun m_doneSteps m_mixed m_fewest m_leastFees m_lots m_tars) H → va_S (zF g 64 580 s.heap.size) s.heap H locs → decode cX10_byteAt pc = .ok (.ireturn, 1) → W p l e R s m args below meth c H locs cells slots Q (F0 m pc ls [.int r0])) : ∀ (s0 : Int32), pM_byteAt_18 N9 s0 = some res → ∀ (H : Heap) (locs : List Loc) (ls : Array Slot), va_P g.1 zcl (zM g m_thrown m_tape m_size m_place m_at m_fault m_faultAt m_clauses m_open m_fed m_refused m_readTold m_told m_readBeast m_beast m_readGate m_gate m_readList m_list m_lawMany m_readLawMany m_law m_readLaw m_stack m_known m_step m_steps m_now m_trial m_before m_kept m_works m_refusedSteps m_images m_spot m_begun m_doneSteps m_mixed m_fewest m_leastFees m_lots m_tars) H → va_S (zF g 64 580 s.heap.size) s.heap H locs → lv_has ls 2 [] → W p l e R s m args below meth c H locs cells slots Q (F0 m 18 ls [.int s0]) := by
  obtain ⟨hx, hb, hr, hml, hown, hts, hK, hlk, hST⟩ := id hC
  have hB : ∀ q, (zF g 64 580 s.heap.size) q → zB g q := zF.base hI (Nat.le_of_ble_eq_true rfl) hST.1
  intro s0 hf H locs ls hP hS hl
  unfold pM_byteAt_18 at hf
  exact hfin _ H locs _ ls (Option.some.inj hf) hP hS dX10_byteAt_18
set_option maxHeartbeats 4000000 in
set_option maxRecDepth 100000 in
theorem mpM_byteAt {p : Program} {l : Launch} {e : Env} {R : Room} {s : State} {m : MethodId} {args : Array Value} {below : List Frame} {meth : Method} {c : Code} {cells slots : Nat} {Q : State → Prop} {g : zG} (hI : zI g 581) (hC : zC g RX10 cX10_byteAt 2 (some .int) p s m meth c args) (hR : 1 ≤ R.frames ∧ 60 * 1 ≤ R.locals ∧ cells ≤ R.cells ∧ slots ≤ R.slots) (m_thrown : Int32) (m_tape : Int32) (m_size : Int32) (m_place : Int32) (m_at : Int32) (m_fault : Int32) (m_faultAt : Int32) (m_clauses : Int32) (m_open : Int32) (m_fed : Nat → Int32) (m_refused : Nat → Int32) (m_readTold : Nat → Int32) (m_told : Nat → Int32) (m_readBeast : Nat → Nat → Int32) (m_beast : Nat → Nat → Int32) (m_readGate : Nat → Nat → Int32) (m_gate : Nat → Nat → Int32) (m_readList : Nat → Nat → Int32) (m_list : Nat → Nat → Int32) (m_lawMany : Int32) (m_readLawMany : Int32) (m_law : Nat → Nat → Int32) (m_readLaw : Nat → Nat → Int32) (m_stack : Nat → Int32) (m_known : Nat → Int32) (m_step : Nat → Nat → Int32) (m_steps : Int32) (m_now : Nat → Int32) (m_trial : Nat → Int32) (m_before : Nat → Nat → Int32) (m_kept : Nat → Nat → Int32) (m_works : Int32) (m_refusedSteps : Int32) (m_images : Int32) (m_spot : Int32) (m_begun : Int32) (m_doneSteps : Int32) (m_mixed : Nat → Int32) (m_fewest : Nat → Int32) (m_leastFees : Nat → Int32) (m_lots : Int32) (m_tars : Int32) (x1 : Int32) (N9 : Nat)   (res : Int32) (hfin : ∀ (r0 : Int32) (H : Heap) (locs : List Loc) (pc : Nat) (ls : Array Slot), r0 = res → va_P g.1 zcl (zM g m_thrown m_tape m_size m_place m_at m_fault m_faultAt m_clauses m_open m_fed m_refused m_readTold m_told m_readBeast m_beast m_readGate m_gate m_readList m_list m_lawMany m_readLawMany m_law m_readLaw m_stack m_known m_step m_steps m_now m_trial m_before m_kept m_works m_refusedSteps m_images m_spot m_begun m_doneSteps m_mixed m_fewest m_leastFees m_lots m_tars) H → va_S (zF g 64 580 s.heap.size) s.heap H locs → decode cX10_byteAt pc = .ok (.ireturn, 1) → W p l e R s m args below meth c H locs cells slots Q (F0 m pc ls [.int r0])) : pM_byteAt N9 m_size m_fed x1 = some res → ∀ (H : Heap) (locs : List Loc) (ls : Array Slot), va_P g.1 zcl (zM g m_thrown m_tape m_size m_place m_at m_fault m_faultAt m_clauses m_open m_fed m_refused m_readTold m_told m_readBeast m_beast m_readGate m_gate m_readList m_list m_lawMany m_readLawMany m_law m_readLaw m_stack m_known m_step m_steps m_now m_trial m_before m_kept m_works m_refusedSteps m_images m_spot m_begun m_doneSteps m_mixed m_fewest m_leastFees m_lots m_tars) H → va_S (zF g 64 580 s.heap.size) s.heap H locs → lv_has ls 2 [(0, .ref (g.2.1 64)), (1, .int x1)] → W p l e R s m args below meth c H locs cells slots Q (F0 m 0 ls []) := by
  obtain ⟨hx, hb, hr, hml, hown, hts, hK, hlk, hST⟩ := id hC
  have hB : ∀ q, (zF g 64 580 s.heap.size) q → zB g q := zF.base hI (Nat.le_of_ble_eq_true rfl) hST.1
  intro  hf H locs ls hP hS hl
  have hk18 := mpM_byteAt_18 (l := l) (e := e) (R := R) (below := below) (cells := cells) (slots := slots) (Q := Q) hI hC hR m_thrown m_tape m_size m_place m_at m_fault m_faultAt m_clauses m_open m_fed m_refused m_readTold m_told m_readBeast m_beast m_readGate m_gate m_readList m_list m_lawMany m_readLawMany m_law m_readLaw m_stack m_known m_step m_steps m_now m_trial m_before m_kept m_works m_refusedSteps m_images m_spot m_begun m_doneSteps m_mixed m_fewest m_leastFees m_lots m_tars N9 res hfin
  unfold pM_byteAt at hf
  refine lv_iload_n hx hb dX10_byteAt_0 rfl (lv_at hl 1 rfl) ?_
  refine lv_aload_n hx hb dX10_byteAt_1 rfl (lv_at hl 0 rfl) ?_
  refine zg_m_size hC hP (hC.fl mw_1391) dX10_byteAt_2 ?_
  refine lv_icmp_lt (tgt := 12) hx hb dX10_byteAt_5 (by decide) (fun hc_1 => ?_) (fun hc_1 => ?_)
  · have hf := zifp hc_1 hf
    refine lv_aload_n hx hb dX10_byteAt_12 rfl (lv_at hl 0 rfl) ?_
    refine zr_m_fed hC hP (hC.fl mw_1398) dX10_byteAt_13 ?_
    refine lv_iload_n hx hb dX10_byteAt_16 rfl (lv_at hl 1 rfl) ?_
    obtain ⟨hz_2, hf⟩ := zite hf
    refine zl_m_fed hC hP hz_2 dX10_byteAt_17 ?_
    exact hk18 (m_fed x1.toNatClampNeg) hf H locs ls hP hS (lv_sub hl [] rfl)
  · have hf := zifn hc_1 hf
    refine lv_iconst (v := (-1)) hx hb dX10_byteAt_8 (by decide) ?_
    refine lv_goto (tgt := 18) hx hb dX10_byteAt_9 (by decide) ?_
    exact hk18 (-1) hf H locs ls hP hS (lv_sub hl [] rfl)
set_option maxHeartbeats 4000000 in
set_option maxRecDepth 100000 in
theorem cpM_byteAt (l : Launch) {g : zG} (hI : zI g 581) (sz : Nat) (m_thrown : Int32) (m_tape : Int32) (m_size : Int32) (m_place : Int32) (m_at : Int32) (m_fault : Int32) (m_faultAt : Int32) (m_clauses : Int32) (m_open : Int32) (m_fed : Nat → Int32) (m_refused : Nat → Int32) (m_readTold : Nat → Int32) (m_told : Nat → Int32) (m_readBeast : Nat → Nat → Int32) (m_beast : Nat → Nat → Int32) (m_readGate : Nat → Nat → Int32) (m_gate : Nat → Nat → Int32) (m_readList : Nat → Nat → Int32) (m_list : Nat → Nat → Int32) (m_lawMany : Int32) (m_readLawMany : Int32) (m_law : Nat → Nat → Int32) (m_readLaw : Nat → Nat → Int32) (m_stack : Nat → Int32) (m_known : Nat → Int32) (m_step : Nat → Nat → Int32) (m_steps : Int32) (m_now : Nat → Int32) (m_trial : Nat → Int32) (m_before : Nat → Nat → Int32) (m_kept : Nat → Nat → Int32) (m_works : Int32) (m_refusedSteps : Int32) (m_images : Int32) (m_spot : Int32) (m_begun : Int32) (m_doneSteps : Int32) (m_mixed : Nat → Int32) (m_fewest : Nat → Int32) (m_leastFees : Nat → Int32) (m_lots : Int32) (m_tars : Int32) (x1 : Int32) (N9 : Nat) {r0 : Int32} (hf : pM_byteAt N9  m_size m_fed x1 = some r0) : zMi l yX10_byteAt cX10_byteAt 2 (some .int) 1 g (zM g m_thrown m_tape m_size m_place m_at m_fault m_faultAt m_clauses m_open m_fed m_refused m_readTold m_told m_readBeast m_beast m_readGate m_gate m_readList m_list m_lawMany m_readLawMany m_law m_readLaw m_stack m_known m_step m_steps m_now m_trial m_before m_kept m_works m_refusedSteps m_images m_spot m_begun m_doneSteps m_mixed m_fewest m_leastFees m_lots m_tars) (zM g m_thrown m_tape m_size m_place m_at m_fault m_faultAt m_clauses m_open m_fed m_refused m_readTold m_told m_readBeast m_beast m_readGate m_gate m_readList m_list m_lawMany m_readLawMany m_law m_readLaw m_stack m_known m_step m_steps m_now m_trial m_before m_kept m_works m_refusedSteps m_images m_spot m_begun m_doneSteps m_mixed m_fewest m_leastFees m_lots m_tars) sz (zF g 64 580 sz) [.ref (g.2.1 64), .int x1] r0 := by
  refine Met.ofW (cc := cX10_byteAt) (maxL := 2) (ret := (some .int)) (by decide +kernel) rfl ?_
  intro p e s m args below meth c s₁ B hml hv
  obtain ⟨rfl, hsz, hP, hK, hST⟩ := hv
  subst hsz
  have hC := zstart (own := RX10) rfl B hml hK hST
  have hl := lv_entry ([.ref (g.2.1 64), .int x1]) (n := 2) (Nat.le_of_ble_eq_true rfl)
  rw [lg_entry_eq]
  generalize (lg_sl ([.ref (g.2.1 64), .int x1]) ++ List.replicate (2 - (lg_sl ([.ref (g.2.1 64), .int x1])).length) Slot.unset).toArray = ls at hl ⊢
  have hl : lv_has ls 2 [(0, .ref (g.2.1 64)), (1, .int x1)] := hl
  obtain ⟨hx, hb, hr, hml, hown, hts, hK, hlk, hST⟩ := id hC
  refine mpM_byteAt hI hC ⟨Nat.le_refl _, Nat.le_refl _, Nat.le_refl _, Nat.le_refl _⟩ m_thrown m_tape m_size m_place m_at m_fault m_faultAt m_clauses m_open m_fed m_refused m_readTold m_told m_readBeast m_beast m_readGate m_gate m_readList m_list m_lawMany m_readLawMany m_law m_readLaw m_stack m_known m_step m_steps m_now m_trial m_before m_kept m_works m_refusedSteps m_images m_spot m_begun m_doneSteps m_mixed m_fewest m_leastFees m_lots m_tars x1 N9 r0 ?_ hf _ _ ls hP va_S.rf hl
  intro r1 H locs pc ls he hP hS hd
  cases he
  exact W.iret hx hb hr (fun t ht hW => ⟨⟨_, (), rfl, rfl, by rw [← ht] at hP; exact hP⟩, hS.F ht⟩) hS.2.2 hd hlk
/-! StripeTradeModel.blanks ()V [('obj', 'm')] -/
set_option maxHeartbeats 4000000 in
set_option maxRecDepth 100000 in
theorem mpM_blanks_0 {p : Program} {l : Launch} {e : Env} {R : Room} {s : State} {m : MethodId} {args : Array Value} {below : List Frame} {meth : Method} {c : Code} {cells slots : Nat} {Q : State → Prop} {g : zG} (hI : zI g 581) (hC : zC g RX10 cX10_blanks 1 none p s m meth c args) (hR : 2 ≤ R.frames ∧ 60 * 2 ≤ R.locals ∧ cells ≤ R.cells ∧ slots ≤ R.slots) (m_thrown : Int32) (m_tape : Int32) (m_size : Int32) (m_place : Int32) (m_fault : Int32) (m_faultAt : Int32) (m_clauses : Int32) (m_open : Int32) (m_fed : Nat → Int32) (m_refused : Nat → Int32) (m_readTold : Nat → Int32) (m_told : Nat → Int32) (m_readBeast : Nat → Nat → Int32) (m_beast : Nat → Nat → Int32) (m_readGate : Nat → Nat → Int32) (m_gate : Nat → Nat → Int32) (m_readList : Nat → Nat → Int32) (m_list : Nat → Nat → Int32) (m_lawMany : Int32) (m_readLawMany : Int32) (m_law : Nat → Nat → Int32) (m_readLaw : Nat → Nat → Int32) (m_stack : Nat → Int32) (m_known : Nat → Int32) (m_step : Nat → Nat → Int32) (m_steps : Int32) (m_now : Nat → Int32) (m_trial : Nat → Int32) (m_before : Nat → Nat → Int32) (m_kept : Nat → Nat → Int32) (m_works : Int32) (m_refusedSteps : Int32) (m_images : Int32) (m_spot : Int32) (m_begun : Int32) (m_doneSteps : Int32) (m_mixed : Nat → Int32) (m_fewest : Nat → Int32) (m_leastFees : Nat → Int32) (m_lots : Int32) (m_tars : Int32)  (N9 : Nat)   (res : Int32) (hfin : ∀ (m_at : Int32) (H : Heap) (locs : List Loc) (pc : Nat) (ls : Array Slot), m_at = res → va_P g.1 zcl (zM g m_thrown m_tape m_size m_place m_at m_fault m_faultAt m_clauses m_open m_fed m_refused m_readTold m_told m_readBeast m_beast m_readGate m_gate m_readList m_list m_lawMany m_readLawMany m_law m_readLaw m_stack m_known m_step m_steps m_now m_trial m_before m_kept m_works m_refusedSteps m_images m_spot m_begun m_doneSteps m_mixed m_fewest m_leastFees m_lots m_tars) H → va_S (zF g 64 580 s.heap.size) s.heap H locs → decode cX10_blanks pc = .ok (.return_, 1) → W p l e R s m args below meth c H locs cells slots Q (F0 m pc ls [])) : ∀ (n9 : Nat) (m_at : Int32), pM_blanks_0 N9 m_size m_fed n9 m_at = some res → ∀ (H : Heap) (locs : List Loc) (ls : Array Slot), va_P g.1 zcl (zM g m_thrown m_tape m_size m_place m_at m_fault m_faultAt m_clauses m_open m_fed m_refused m_readTold m_told m_readBeast m_beast m_readGate m_gate m_readList m_list m_lawMany m_readLawMany m_law m_readLaw m_stack m_known m_step m_steps m_now m_trial m_before m_kept m_works m_refusedSteps m_images m_spot m_begun m_doneSteps m_mixed m_fewest m_leastFees m_lots m_tars) H → va_S (zF g 64 580 s.heap.size) s.heap H locs → lv_has ls 1 [(0, .ref (g.2.1 64))] → W p l e R s m args below meth c H locs cells slots Q (F0 m 0 ls []) := by
  obtain ⟨hx, hb, hr, hml, hown, hts, hK, hlk, hST⟩ := id hC
  have hB : ∀ q, (zF g 64 580 s.heap.size) q → zB g q := zF.base hI (Nat.le_of_ble_eq_true rfl) hST.1
  intro n9
  induction n9 with
  | zero => intro m_at hf; cases hf
  | succ n9 ih =>
    intro m_at hf H locs ls hP hS hl
    have hk0 := ih
    unfold pM_blanks_0 at hf
    refine lv_aload_n hx hb dX10_blanks_0 rfl (lv_at hl 0 rfl) ?_
    refine lv_aload_n hx hb dX10_blanks_1 rfl (lv_at hl 0 rfl) ?_
    refine zg_m_at hC hP (hC.fl mw_1393) dX10_blanks_2 ?_
    obtain ⟨r_1, hf_1, hf⟩ := zb1i hf
    refine zcallVi (As := [.int m_at]) (rest := []) hC hP hS hB (fun q h => zF.mono hS.1 h) (cpM_byteAt l hI H.size m_thrown m_tape m_size m_place m_at m_fault m_faultAt m_clauses m_open m_fed m_refused m_readTold m_told m_readBeast m_beast m_readGate m_gate m_readList m_list m_lawMany m_readLawMany m_law m_readLaw m_stack m_known m_step m_steps m_now m_trial m_before m_kept m_works m_refusedSteps m_images m_spot m_begun m_doneSteps m_mixed m_fewest m_leastFees m_lots m_tars m_at N9 hf_1) (hC.ml mw_1543) yo_X10_byteAt 0 (zfM rfl) rfl rfl rfl hl.1 rfl (Nat.le_of_ble_eq_true rfl) ⟨by omega, by omega⟩ hR.2.2 dX10_blanks_5 (fun H locs hP hS _ _ => ?_)
    refine lv_bipush (v := 32) hx hb dX10_blanks_8 (by decide) ?_
    refine lv_icmp_ne (tgt := 26) hx hb dX10_blanks_10 (by decide) (fun hc_2 => ?_) (fun hc_2 => ?_)
    · have hf := zifn hc_2 hf
      exact hfin _ H locs _ ls (Option.some.inj hf) hP hS dX10_blanks_26
    · have hf := zifp hc_2 hf
      refine lv_aload_n hx hb dX10_blanks_13 rfl (lv_at hl 0 rfl) ?_
      refine lv_dup hx hb dX10_blanks_14 rfl ?_
      refine zg_m_at hC hP (hC.fl mw_1393) dX10_blanks_15 ?_
      refine lv_iconst (v := 1) hx hb dX10_blanks_18 (by decide) ?_
      refine lv_iadd hx hb dX10_blanks_19 ?_
      refine zp_m_at hC hP hI (fun k h1 h2 => zF.own h1 h2) hS (hC.fl mw_1393) dX10_blanks_20 (fun H locs hP hS => ?_)
      refine lv_goto (tgt := 0) hx hb dX10_blanks_23 (by decide) ?_
      exact hk0 (m_at + 1) hf H locs ls hP hS (lv_sub hl [0] rfl)
set_option maxHeartbeats 4000000 in
set_option maxRecDepth 100000 in
theorem mpM_blanks {p : Program} {l : Launch} {e : Env} {R : Room} {s : State} {m : MethodId} {args : Array Value} {below : List Frame} {meth : Method} {c : Code} {cells slots : Nat} {Q : State → Prop} {g : zG} (hI : zI g 581) (hC : zC g RX10 cX10_blanks 1 none p s m meth c args) (hR : 2 ≤ R.frames ∧ 60 * 2 ≤ R.locals ∧ cells ≤ R.cells ∧ slots ≤ R.slots) (m_thrown : Int32) (m_tape : Int32) (m_size : Int32) (m_place : Int32) (m_at : Int32) (m_fault : Int32) (m_faultAt : Int32) (m_clauses : Int32) (m_open : Int32) (m_fed : Nat → Int32) (m_refused : Nat → Int32) (m_readTold : Nat → Int32) (m_told : Nat → Int32) (m_readBeast : Nat → Nat → Int32) (m_beast : Nat → Nat → Int32) (m_readGate : Nat → Nat → Int32) (m_gate : Nat → Nat → Int32) (m_readList : Nat → Nat → Int32) (m_list : Nat → Nat → Int32) (m_lawMany : Int32) (m_readLawMany : Int32) (m_law : Nat → Nat → Int32) (m_readLaw : Nat → Nat → Int32) (m_stack : Nat → Int32) (m_known : Nat → Int32) (m_step : Nat → Nat → Int32) (m_steps : Int32) (m_now : Nat → Int32) (m_trial : Nat → Int32) (m_before : Nat → Nat → Int32) (m_kept : Nat → Nat → Int32) (m_works : Int32) (m_refusedSteps : Int32) (m_images : Int32) (m_spot : Int32) (m_begun : Int32) (m_doneSteps : Int32) (m_mixed : Nat → Int32) (m_fewest : Nat → Int32) (m_leastFees : Nat → Int32) (m_lots : Int32) (m_tars : Int32)  (N9 : Nat)   (res : Int32) (hfin : ∀ (m_at : Int32) (H : Heap) (locs : List Loc) (pc : Nat) (ls : Array Slot), m_at = res → va_P g.1 zcl (zM g m_thrown m_tape m_size m_place m_at m_fault m_faultAt m_clauses m_open m_fed m_refused m_readTold m_told m_readBeast m_beast m_readGate m_gate m_readList m_list m_lawMany m_readLawMany m_law m_readLaw m_stack m_known m_step m_steps m_now m_trial m_before m_kept m_works m_refusedSteps m_images m_spot m_begun m_doneSteps m_mixed m_fewest m_leastFees m_lots m_tars) H → va_S (zF g 64 580 s.heap.size) s.heap H locs → decode cX10_blanks pc = .ok (.return_, 1) → W p l e R s m args below meth c H locs cells slots Q (F0 m pc ls [])) : pM_blanks N9 m_size m_at m_fed = some res → ∀ (H : Heap) (locs : List Loc) (ls : Array Slot), va_P g.1 zcl (zM g m_thrown m_tape m_size m_place m_at m_fault m_faultAt m_clauses m_open m_fed m_refused m_readTold m_told m_readBeast m_beast m_readGate m_gate m_readList m_list m_lawMany m_readLawMany m_law m_readLaw m_stack m_known m_step m_steps m_now m_trial m_before m_kept m_works m_refusedSteps m_images m_spot m_begun m_doneSteps m_mixed m_fewest m_leastFees m_lots m_tars) H → va_S (zF g 64 580 s.heap.size) s.heap H locs → lv_has ls 1 [(0, .ref (g.2.1 64))] → W p l e R s m args below meth c H locs cells slots Q (F0 m 0 ls []) := by
  obtain ⟨hx, hb, hr, hml, hown, hts, hK, hlk, hST⟩ := id hC
  have hB : ∀ q, (zF g 64 580 s.heap.size) q → zB g q := zF.base hI (Nat.le_of_ble_eq_true rfl) hST.1
  intro  hf H locs ls hP hS hl
  have hk0 := mpM_blanks_0 (l := l) (e := e) (R := R) (below := below) (cells := cells) (slots := slots) (Q := Q) hI hC hR m_thrown m_tape m_size m_place m_fault m_faultAt m_clauses m_open m_fed m_refused m_readTold m_told m_readBeast m_beast m_readGate m_gate m_readList m_list m_lawMany m_readLawMany m_law m_readLaw m_stack m_known m_step m_steps m_now m_trial m_before m_kept m_works m_refusedSteps m_images m_spot m_begun m_doneSteps m_mixed m_fewest m_leastFees m_lots m_tars N9 res hfin N9
  unfold pM_blanks at hf
  exact hk0 m_at hf H locs ls hP hS (lv_sub hl [0] rfl)
set_option maxHeartbeats 4000000 in
set_option maxRecDepth 100000 in
theorem cpM_blanks (l : Launch) {g : zG} (hI : zI g 581) (sz : Nat) (m_thrown : Int32) (m_tape : Int32) (m_size : Int32) (m_place : Int32) (m_at : Int32) (m_fault : Int32) (m_faultAt : Int32) (m_clauses : Int32) (m_open : Int32) (m_fed : Nat → Int32) (m_refused : Nat → Int32) (m_readTold : Nat → Int32) (m_told : Nat → Int32) (m_readBeast : Nat → Nat → Int32) (m_beast : Nat → Nat → Int32) (m_readGate : Nat → Nat → Int32) (m_gate : Nat → Nat → Int32) (m_readList : Nat → Nat → Int32) (m_list : Nat → Nat → Int32) (m_lawMany : Int32) (m_readLawMany : Int32) (m_law : Nat → Nat → Int32) (m_readLaw : Nat → Nat → Int32) (m_stack : Nat → Int32) (m_known : Nat → Int32) (m_step : Nat → Nat → Int32) (m_steps : Int32) (m_now : Nat → Int32) (m_trial : Nat → Int32) (m_before : Nat → Nat → Int32) (m_kept : Nat → Nat → Int32) (m_works : Int32) (m_refusedSteps : Int32) (m_images : Int32) (m_spot : Int32) (m_begun : Int32) (m_doneSteps : Int32) (m_mixed : Nat → Int32) (m_fewest : Nat → Int32) (m_leastFees : Nat → Int32) (m_lots : Int32) (m_tars : Int32) (N9 : Nat) {m_at' : Int32} (hf : pM_blanks N9  m_size m_at m_fed = some m_at') : zMv l yX10_blanks cX10_blanks 1 none 2 g (zM g m_thrown m_tape m_size m_place m_at m_fault m_faultAt m_clauses m_open m_fed m_refused m_readTold m_told m_readBeast m_beast m_readGate m_gate m_readList m_list m_lawMany m_readLawMany m_law m_readLaw m_stack m_known m_step m_steps m_now m_trial m_before m_kept m_works m_refusedSteps m_images m_spot m_begun m_doneSteps m_mixed m_fewest m_leastFees m_lots m_tars) (zM g m_thrown m_tape m_size m_place m_at' m_fault m_faultAt m_clauses m_open m_fed m_refused m_readTold m_told m_readBeast m_beast m_readGate m_gate m_readList m_list m_lawMany m_readLawMany m_law m_readLaw m_stack m_known m_step m_steps m_now m_trial m_before m_kept m_works m_refusedSteps m_images m_spot m_begun m_doneSteps m_mixed m_fewest m_leastFees m_lots m_tars) sz (zF g 64 580 sz) [.ref (g.2.1 64)] := by
  refine Met.ofW (cc := cX10_blanks) (maxL := 1) (ret := none) (by decide +kernel) rfl ?_
  intro p e s m args below meth c s₁ B hml hv
  obtain ⟨rfl, hsz, hP, hK, hST⟩ := hv
  subst hsz
  have hC := zstart (own := RX10) rfl B hml hK hST
  have hl := lv_entry ([.ref (g.2.1 64)]) (n := 1) (Nat.le_of_ble_eq_true rfl)
  rw [lg_entry_eq]
  generalize (lg_sl ([.ref (g.2.1 64)]) ++ List.replicate (1 - (lg_sl ([.ref (g.2.1 64)])).length) Slot.unset).toArray = ls at hl ⊢
  have hl : lv_has ls 1 [(0, .ref (g.2.1 64))] := hl
  obtain ⟨hx, hb, hr, hml, hown, hts, hK, hlk, hST⟩ := id hC
  refine mpM_blanks hI hC ⟨Nat.le_refl _, Nat.le_refl _, Nat.le_refl _, Nat.le_refl _⟩ m_thrown m_tape m_size m_place m_at m_fault m_faultAt m_clauses m_open m_fed m_refused m_readTold m_told m_readBeast m_beast m_readGate m_gate m_readList m_list m_lawMany m_readLawMany m_law m_readLaw m_stack m_known m_step m_steps m_now m_trial m_before m_kept m_works m_refusedSteps m_images m_spot m_begun m_doneSteps m_mixed m_fewest m_leastFees m_lots m_tars N9 m_at' ?_ hf _ _ ls hP va_S.rf hl
  intro m_at1 H locs pc ls he hP hS hd
  cases he
  exact W.vret hx hb hr (fun t ht hW => ⟨⟨(), rfl, trivial, by rw [← ht] at hP; exact hP⟩, hS.F ht⟩) hS.2.2 hd hlk
/-! StripeTradeModel.wrong (II)V [('obj', 'm')] -/
set_option maxHeartbeats 4000000 in
set_option maxRecDepth 100000 in
theorem mpM_wrong_17 {p : Program} {l : Launch} {e : Env} {R : Room} {s : State} {m : MethodId} {args : Array Value} {below : List Frame} {meth : Method} {c : Code} {cells slots : Nat} {Q : State → Prop} {g : zG} (hI : zI g 581) (hC : zC g RX10 cX10_wrong 3 none p s m meth c args) (hR : 1 ≤ R.frames ∧ 60 * 1 ≤ R.locals ∧ cells ≤ R.cells ∧ slots ≤ R.slots) (m_thrown : Int32) (m_tape : Int32) (m_size : Int32) (m_place : Int32) (m_at : Int32) (m_clauses : Int32) (m_open : Int32) (m_fed : Nat → Int32) (m_refused : Nat → Int32) (m_readTold : Nat → Int32) (m_told : Nat → Int32) (m_readBeast : Nat → Nat → Int32) (m_beast : Nat → Nat → Int32) (m_readGate : Nat → Nat → Int32) (m_gate : Nat → Nat → Int32) (m_readList : Nat → Nat → Int32) (m_list : Nat → Nat → Int32) (m_lawMany : Int32) (m_readLawMany : Int32) (m_law : Nat → Nat → Int32) (m_readLaw : Nat → Nat → Int32) (m_stack : Nat → Int32) (m_known : Nat → Int32) (m_step : Nat → Nat → Int32) (m_steps : Int32) (m_now : Nat → Int32) (m_trial : Nat → Int32) (m_before : Nat → Nat → Int32) (m_kept : Nat → Nat → Int32) (m_works : Int32) (m_refusedSteps : Int32) (m_images : Int32) (m_spot : Int32) (m_begun : Int32) (m_doneSteps : Int32) (m_mixed : Nat → Int32) (m_fewest : Nat → Int32) (m_leastFees : Nat → Int32) (m_lots : Int32) (m_tars : Int32)  (N9 : Nat)   (res : Int32 × Int32) (hfin : ∀ (m_fault : Int32) (m_faultAt : Int32) (H : Heap) (locs : List Loc) (pc : Nat) (ls : Array Slot), (m_fault, m_faultAt) = res → va_P g.1 zcl (zM g m_thrown m_tape m_size m_place m_at m_fault m_faultAt m_clauses m_open m_fed m_refused m_readTold m_told m_readBeast m_beast m_readGate m_gate m_readList m_list m_lawMany m_readLawMany m_law m_readLaw m_stack m_known m_step m_steps m_now m_trial m_before m_kept m_works m_refusedSteps m_images m_spot m_begun m_doneSteps m_mixed m_fewest m_leastFees m_lots m_tars) H → va_S (zF g 64 580 s.heap.size) s.heap H locs → decode cX10_wrong pc = .ok (.return_, 1) → W p l e R s m args below meth c H locs cells slots Q (F0 m pc ls [])) : ∀ (m_fault : Int32) (m_faultAt : Int32), pM_wrong_17 N9 m_fault m_faultAt = some res → ∀ (H : Heap) (locs : List Loc) (ls : Array Slot), va_P g.1 zcl (zM g m_thrown m_tape m_size m_place m_at m_fault m_faultAt m_clauses m_open m_fed m_refused m_readTold m_told m_readBeast m_beast m_readGate m_gate m_readList m_list m_lawMany m_readLawMany m_law m_readLaw m_stack m_known m_step m_steps m_now m_trial m_before m_kept m_works m_refusedSteps m_images m_spot m_begun m_doneSteps m_mixed m_fewest m_leastFees m_lots m_tars) H → va_S (zF g 64 580 s.heap.size) s.heap H locs → lv_has ls 3 [] → W p l e R s m args below meth c H locs cells slots Q (F0 m 17 ls []) := by
  obtain ⟨hx, hb, hr, hml, hown, hts, hK, hlk, hST⟩ := id hC
  have hB : ∀ q, (zF g 64 580 s.heap.size) q → zB g q := zF.base hI (Nat.le_of_ble_eq_true rfl) hST.1
  intro m_fault m_faultAt hf H locs ls hP hS hl
  unfold pM_wrong_17 at hf
  exact hfin _ _ H locs _ ls (Option.some.inj hf) hP hS dX10_wrong_17
set_option maxHeartbeats 4000000 in
set_option maxRecDepth 100000 in
theorem mpM_wrong {p : Program} {l : Launch} {e : Env} {R : Room} {s : State} {m : MethodId} {args : Array Value} {below : List Frame} {meth : Method} {c : Code} {cells slots : Nat} {Q : State → Prop} {g : zG} (hI : zI g 581) (hC : zC g RX10 cX10_wrong 3 none p s m meth c args) (hR : 1 ≤ R.frames ∧ 60 * 1 ≤ R.locals ∧ cells ≤ R.cells ∧ slots ≤ R.slots) (m_thrown : Int32) (m_tape : Int32) (m_size : Int32) (m_place : Int32) (m_at : Int32) (m_fault : Int32) (m_faultAt : Int32) (m_clauses : Int32) (m_open : Int32) (m_fed : Nat → Int32) (m_refused : Nat → Int32) (m_readTold : Nat → Int32) (m_told : Nat → Int32) (m_readBeast : Nat → Nat → Int32) (m_beast : Nat → Nat → Int32) (m_readGate : Nat → Nat → Int32) (m_gate : Nat → Nat → Int32) (m_readList : Nat → Nat → Int32) (m_list : Nat → Nat → Int32) (m_lawMany : Int32) (m_readLawMany : Int32) (m_law : Nat → Nat → Int32) (m_readLaw : Nat → Nat → Int32) (m_stack : Nat → Int32) (m_known : Nat → Int32) (m_step : Nat → Nat → Int32) (m_steps : Int32) (m_now : Nat → Int32) (m_trial : Nat → Int32) (m_before : Nat → Nat → Int32) (m_kept : Nat → Nat → Int32) (m_works : Int32) (m_refusedSteps : Int32) (m_images : Int32) (m_spot : Int32) (m_begun : Int32) (m_doneSteps : Int32) (m_mixed : Nat → Int32) (m_fewest : Nat → Int32) (m_leastFees : Nat → Int32) (m_lots : Int32) (m_tars : Int32) (x1 : Int32) (x2 : Int32) (N9 : Nat)   (res : Int32 × Int32) (hfin : ∀ (m_fault : Int32) (m_faultAt : Int32) (H : Heap) (locs : List Loc) (pc : Nat) (ls : Array Slot), (m_fault, m_faultAt) = res → va_P g.1 zcl (zM g m_thrown m_tape m_size m_place m_at m_fault m_faultAt m_clauses m_open m_fed m_refused m_readTold m_told m_readBeast m_beast m_readGate m_gate m_readList m_list m_lawMany m_readLawMany m_law m_readLaw m_stack m_known m_step m_steps m_now m_trial m_before m_kept m_works m_refusedSteps m_images m_spot m_begun m_doneSteps m_mixed m_fewest m_leastFees m_lots m_tars) H → va_S (zF g 64 580 s.heap.size) s.heap H locs → decode cX10_wrong pc = .ok (.return_, 1) → W p l e R s m args below meth c H locs cells slots Q (F0 m pc ls [])) : pM_wrong N9 m_fault m_faultAt x1 x2 = some res → ∀ (H : Heap) (locs : List Loc) (ls : Array Slot), va_P g.1 zcl (zM g m_thrown m_tape m_size m_place m_at m_fault m_faultAt m_clauses m_open m_fed m_refused m_readTold m_told m_readBeast m_beast m_readGate m_gate m_readList m_list m_lawMany m_readLawMany m_law m_readLaw m_stack m_known m_step m_steps m_now m_trial m_before m_kept m_works m_refusedSteps m_images m_spot m_begun m_doneSteps m_mixed m_fewest m_leastFees m_lots m_tars) H → va_S (zF g 64 580 s.heap.size) s.heap H locs → lv_has ls 3 [(0, .ref (g.2.1 64)), (1, .int x1), (2, .int x2)] → W p l e R s m args below meth c H locs cells slots Q (F0 m 0 ls []) := by
  obtain ⟨hx, hb, hr, hml, hown, hts, hK, hlk, hST⟩ := id hC
  have hB : ∀ q, (zF g 64 580 s.heap.size) q → zB g q := zF.base hI (Nat.le_of_ble_eq_true rfl) hST.1
  intro  hf H locs ls hP hS hl
  have hk17 := mpM_wrong_17 (l := l) (e := e) (R := R) (below := below) (cells := cells) (slots := slots) (Q := Q) hI hC hR m_thrown m_tape m_size m_place m_at m_clauses m_open m_fed m_refused m_readTold m_told m_readBeast m_beast m_readGate m_gate m_readList m_list m_lawMany m_readLawMany m_law m_readLaw m_stack m_known m_step m_steps m_now m_trial m_before m_kept m_works m_refusedSteps m_images m_spot m_begun m_doneSteps m_mixed m_fewest m_leastFees m_lots m_tars N9 res hfin
  unfold pM_wrong at hf
  refine lv_aload_n hx hb dX10_wrong_0 rfl (lv_at hl 0 rfl) ?_
  refine zg_m_fault hC hP (hC.fl mw_1394) dX10_wrong_1 ?_
  refine lv_if_ne (tgt := 17) hx hb dX10_wrong_4 (by decide) (fun hc_1 => ?_) (fun hc_1 => ?_)
  · have hf := zifn hc_1 hf
    exact hk17 m_fault m_faultAt hf H locs ls hP hS (lv_sub hl [] rfl)
  · have hf := zifp hc_1 hf
    refine lv_aload_n hx hb dX10_wrong_7 rfl (lv_at hl 0 rfl) ?_
    refine lv_iload_n hx hb dX10_wrong_8 rfl (lv_at hl 1 rfl) ?_
    refine zp_m_fault hC hP hI (fun k h1 h2 => zF.own h1 h2) hS (hC.fl mw_1394) dX10_wrong_9 (fun H locs hP hS => ?_)
    refine lv_aload_n hx hb dX10_wrong_12 rfl (lv_at hl 0 rfl) ?_
    refine lv_iload_n hx hb dX10_wrong_13 rfl (lv_at hl 2 rfl) ?_
    refine zp_m_faultAt hC hP hI (fun k h1 h2 => zF.own h1 h2) hS (hC.fl mw_1395) dX10_wrong_14 (fun H locs hP hS => ?_)
    exact hk17 x1 x2 hf H locs ls hP hS (lv_sub hl [] rfl)
set_option maxHeartbeats 4000000 in
set_option maxRecDepth 100000 in
theorem cpM_wrong (l : Launch) {g : zG} (hI : zI g 581) (sz : Nat) (m_thrown : Int32) (m_tape : Int32) (m_size : Int32) (m_place : Int32) (m_at : Int32) (m_fault : Int32) (m_faultAt : Int32) (m_clauses : Int32) (m_open : Int32) (m_fed : Nat → Int32) (m_refused : Nat → Int32) (m_readTold : Nat → Int32) (m_told : Nat → Int32) (m_readBeast : Nat → Nat → Int32) (m_beast : Nat → Nat → Int32) (m_readGate : Nat → Nat → Int32) (m_gate : Nat → Nat → Int32) (m_readList : Nat → Nat → Int32) (m_list : Nat → Nat → Int32) (m_lawMany : Int32) (m_readLawMany : Int32) (m_law : Nat → Nat → Int32) (m_readLaw : Nat → Nat → Int32) (m_stack : Nat → Int32) (m_known : Nat → Int32) (m_step : Nat → Nat → Int32) (m_steps : Int32) (m_now : Nat → Int32) (m_trial : Nat → Int32) (m_before : Nat → Nat → Int32) (m_kept : Nat → Nat → Int32) (m_works : Int32) (m_refusedSteps : Int32) (m_images : Int32) (m_spot : Int32) (m_begun : Int32) (m_doneSteps : Int32) (m_mixed : Nat → Int32) (m_fewest : Nat → Int32) (m_leastFees : Nat → Int32) (m_lots : Int32) (m_tars : Int32) (x1 : Int32)  (x2 : Int32) (N9 : Nat) {m_fault' : Int32} {m_faultAt' : Int32} (hf : pM_wrong N9  m_fault m_faultAt x1 x2 = some (m_fault', m_faultAt')) : zMv l yX10_wrong cX10_wrong 3 none 1 g (zM g m_thrown m_tape m_size m_place m_at m_fault m_faultAt m_clauses m_open m_fed m_refused m_readTold m_told m_readBeast m_beast m_readGate m_gate m_readList m_list m_lawMany m_readLawMany m_law m_readLaw m_stack m_known m_step m_steps m_now m_trial m_before m_kept m_works m_refusedSteps m_images m_spot m_begun m_doneSteps m_mixed m_fewest m_leastFees m_lots m_tars) (zM g m_thrown m_tape m_size m_place m_at m_fault' m_faultAt' m_clauses m_open m_fed m_refused m_readTold m_told m_readBeast m_beast m_readGate m_gate m_readList m_list m_lawMany m_readLawMany m_law m_readLaw m_stack m_known m_step m_steps m_now m_trial m_before m_kept m_works m_refusedSteps m_images m_spot m_begun m_doneSteps m_mixed m_fewest m_leastFees m_lots m_tars) sz (zF g 64 580 sz) [.ref (g.2.1 64), .int x1, .int x2] := by
  refine Met.ofW (cc := cX10_wrong) (maxL := 3) (ret := none) (by decide +kernel) rfl ?_
  intro p e s m args below meth c s₁ B hml hv
  obtain ⟨rfl, hsz, hP, hK, hST⟩ := hv
  subst hsz
  have hC := zstart (own := RX10) rfl B hml hK hST
  have hl := lv_entry ([.ref (g.2.1 64), .int x1, .int x2]) (n := 3) (Nat.le_of_ble_eq_true rfl)
  rw [lg_entry_eq]
  generalize (lg_sl ([.ref (g.2.1 64), .int x1, .int x2]) ++ List.replicate (3 - (lg_sl ([.ref (g.2.1 64), .int x1, .int x2])).length) Slot.unset).toArray = ls at hl ⊢
  have hl : lv_has ls 3 [(0, .ref (g.2.1 64)), (1, .int x1), (2, .int x2)] := hl
  obtain ⟨hx, hb, hr, hml, hown, hts, hK, hlk, hST⟩ := id hC
  refine mpM_wrong hI hC ⟨Nat.le_refl _, Nat.le_refl _, Nat.le_refl _, Nat.le_refl _⟩ m_thrown m_tape m_size m_place m_at m_fault m_faultAt m_clauses m_open m_fed m_refused m_readTold m_told m_readBeast m_beast m_readGate m_gate m_readList m_list m_lawMany m_readLawMany m_law m_readLaw m_stack m_known m_step m_steps m_now m_trial m_before m_kept m_works m_refusedSteps m_images m_spot m_begun m_doneSteps m_mixed m_fewest m_leastFees m_lots m_tars x1 x2 N9 (m_fault', m_faultAt') ?_ hf _ _ ls hP va_S.rf hl
  intro m_fault1 m_faultAt1 H locs pc ls he hP hS hd
  cases he
  exact W.vret hx hb hr (fun t ht hW => ⟨⟨(), rfl, trivial, by rw [← ht] at hP; exact hP⟩, hS.F ht⟩) hS.2.2 hd hlk
/-! StripeTradeModel.isDigit (I)Z [] -/
set_option maxHeartbeats 4000000 in
set_option maxRecDepth 100000 in
theorem mpM_isDigit_17 {p : Program} {l : Launch} {e : Env} {R : Room} {s : State} {m : MethodId} {args : Array Value} {below : List Frame} {meth : Method} {c : Code} {cells slots : Nat} {Q : State → Prop} {g : zG} (hI : zI g 581) (hC : zC g RX10 cX10_isDigit 1 (some .boolean) p s m meth c args) (hR : 1 ≤ R.frames ∧ 60 * 1 ≤ R.locals ∧ cells ≤ R.cells ∧ slots ≤ R.slots)   (N9 : Nat)   (res : Int32) (hfin : ∀ (r0 : Int32) (H : Heap) (locs : List Loc) (pc : Nat) (ls : Array Slot), r0 = res → r0 &&& 1 = r0 → True → va_S (fun _ => False) s.heap H locs → decode cX10_isDigit pc = .ok (.ireturn, 1) → W p l e R s m args below meth c H locs cells slots Q (F0 m pc ls [.int r0])) : ∀ (s0 : Int32), pM_isDigit_17 N9 s0 = some res → ∀ (H : Heap) (locs : List Loc) (ls : Array Slot), True → va_S (fun _ => False) s.heap H locs → lv_has ls 1 [] → W p l e R s m args below meth c H locs cells slots Q (F0 m 17 ls [.int s0]) := by
  obtain ⟨hx, hb, hr, hml, hown, hts, hK, hlk, hST⟩ := id hC
  have hB : ∀ q, (fun _ => False) q → zB g q := fun q h => h.elim
  intro s0 hf H locs ls hP hS hl
  unfold pM_isDigit_17 at hf
  obtain ⟨hz9, hf⟩ := zite hf
  exact hfin _ H locs _ ls (Option.some.inj hf) hz9 hP hS dX10_isDigit_17
set_option maxHeartbeats 4000000 in
set_option maxRecDepth 100000 in
theorem mpM_isDigit_16 {p : Program} {l : Launch} {e : Env} {R : Room} {s : State} {m : MethodId} {args : Array Value} {below : List Frame} {meth : Method} {c : Code} {cells slots : Nat} {Q : State → Prop} {g : zG} (hI : zI g 581) (hC : zC g RX10 cX10_isDigit 1 (some .boolean) p s m meth c args) (hR : 1 ≤ R.frames ∧ 60 * 1 ≤ R.locals ∧ cells ≤ R.cells ∧ slots ≤ R.slots)   (N9 : Nat)  (k17 : Int32 → Option (Int32)) (res : Int32) (hfin : ∀ (r0 : Int32) (H : Heap) (locs : List Loc) (pc : Nat) (ls : Array Slot), r0 = res → r0 &&& 1 = r0 → True → va_S (fun _ => False) s.heap H locs → decode cX10_isDigit pc = .ok (.ireturn, 1) → W p l e R s m args below meth c H locs cells slots Q (F0 m pc ls [.int r0])) (hk17 : ∀ (s0 : Int32), k17 s0 = some res → ∀ (H : Heap) (locs : List Loc) (ls : Array Slot), True → va_S (fun _ => False) s.heap H locs → lv_has ls 1 [] → W p l e R s m args below meth c H locs cells slots Q (F0 m 17 ls [.int s0])) : pM_isDigit_16 N9 k17 = some res → ∀ (H : Heap) (locs : List Loc) (ls : Array Slot), True → va_S (fun _ => False) s.heap H locs → lv_has ls 1 [] → W p l e R s m args below meth c H locs cells slots Q (F0 m 16 ls []) := by
  obtain ⟨hx, hb, hr, hml, hown, hts, hK, hlk, hST⟩ := id hC
  have hB : ∀ q, (fun _ => False) q → zB g q := fun q h => h.elim
  intro  hf H locs ls hP hS hl
  unfold pM_isDigit_16 at hf
  refine lv_iconst (v := 0) hx hb dX10_isDigit_16 (by decide) ?_
  exact hk17 0 hf H locs ls hP hS (lv_sub hl [] rfl)
set_option maxHeartbeats 4000000 in
set_option maxRecDepth 100000 in
theorem mpM_isDigit {p : Program} {l : Launch} {e : Env} {R : Room} {s : State} {m : MethodId} {args : Array Value} {below : List Frame} {meth : Method} {c : Code} {cells slots : Nat} {Q : State → Prop} {g : zG} (hI : zI g 581) (hC : zC g RX10 cX10_isDigit 1 (some .boolean) p s m meth c args) (hR : 1 ≤ R.frames ∧ 60 * 1 ≤ R.locals ∧ cells ≤ R.cells ∧ slots ≤ R.slots)  (x0 : Int32) (N9 : Nat)   (res : Int32) (hfin : ∀ (r0 : Int32) (H : Heap) (locs : List Loc) (pc : Nat) (ls : Array Slot), r0 = res → r0 &&& 1 = r0 → True → va_S (fun _ => False) s.heap H locs → decode cX10_isDigit pc = .ok (.ireturn, 1) → W p l e R s m args below meth c H locs cells slots Q (F0 m pc ls [.int r0])) : pM_isDigit N9 x0 = some res → ∀ (H : Heap) (locs : List Loc) (ls : Array Slot), True → va_S (fun _ => False) s.heap H locs → lv_has ls 1 [(0, .int x0)] → W p l e R s m args below meth c H locs cells slots Q (F0 m 0 ls []) := by
  obtain ⟨hx, hb, hr, hml, hown, hts, hK, hlk, hST⟩ := id hC
  have hB : ∀ q, (fun _ => False) q → zB g q := fun q h => h.elim
  intro  hf H locs ls hP hS hl
  have hk17 := mpM_isDigit_17 (l := l) (e := e) (R := R) (below := below) (cells := cells) (slots := slots) (Q := Q) hI hC hR N9 res hfin
  have hk16 := mpM_isDigit_16 (l := l) (e := e) (R := R) (below := below) (cells := cells) (slots := slots) (Q := Q) hI hC hR N9 (pM_isDigit_17 N9) res hfin hk17
  unfold pM_isDigit at hf
  refine lv_iload_n hx hb dX10_isDigit_0 rfl (lv_at hl 0 rfl) ?_
  refine lv_bipush (v := 48) hx hb dX10_isDigit_1 (by decide) ?_
  refine lv_icmp_lt (tgt := 16) hx hb dX10_isDigit_3 (by decide) (fun hc_1 => ?_) (fun hc_1 => ?_)
  · have hf := zifp hc_1 hf
    exact hk16  hf H locs ls hP hS (lv_sub hl [] rfl)
  · have hf := zifn hc_1 hf
    refine lv_iload_n hx hb dX10_isDigit_6 rfl (lv_at hl 0 rfl) ?_
    refine lv_bipush (v := 57) hx hb dX10_isDigit_7 (by decide) ?_
    refine lv_icmp_gt (tgt := 16) hx hb dX10_isDigit_9 (by decide) (fun hc_2 => ?_) (fun hc_2 => ?_)
    · have hf := zifp hc_2 hf
      exact hk16  hf H locs ls hP hS (lv_sub hl [] rfl)
    · have hf := zifn hc_2 hf
      refine lv_iconst (v := 1) hx hb dX10_isDigit_12 (by decide) ?_
      refine lv_goto (tgt := 17) hx hb dX10_isDigit_13 (by decide) ?_
      exact hk17 1 hf H locs ls hP hS (lv_sub hl [] rfl)
set_option maxHeartbeats 4000000 in
set_option maxRecDepth 100000 in
theorem cpM_isDigit (l : Launch) {g : zG} (hI : zI g 581)  (x0 : Int32) (N9 : Nat) {r0 : Int32} (hf : pM_isDigit N9  x0 = some r0) : zMp l yX10_isDigit cX10_isDigit 1 (some .boolean) 1 g [.int x0] r0 := by
  refine Met.ofW (cc := cX10_isDigit) (maxL := 1) (ret := (some .boolean)) (by decide +kernel) rfl ?_
  intro p e s m args below meth c s₁ B hml hv
  obtain ⟨rfl, hK, hST⟩ := hv
  have hP : True := trivial
  have hC := zstart (own := RX10) rfl B hml hK hST
  have hl := lv_entry ([.int x0]) (n := 1) (Nat.le_of_ble_eq_true rfl)
  rw [lg_entry_eq]
  generalize (lg_sl ([.int x0]) ++ List.replicate (1 - (lg_sl ([.int x0])).length) Slot.unset).toArray = ls at hl ⊢
  have hl : lv_has ls 1 [(0, .int x0)] := hl
  obtain ⟨hx, hb, hr, hml, hown, hts, hK, hlk, hST⟩ := id hC
  refine mpM_isDigit hI hC ⟨Nat.le_refl _, Nat.le_refl _, Nat.le_refl _, Nat.le_refl _⟩ x0 N9 r0 ?_ hf _ _ ls hP va_S.rf hl
  intro r1 H locs pc ls he hz hP hS hd
  cases he
  exact W.zret hx hb hr (congrArg Value.int hz) (fun t ht hW => ⟨⟨_, (), rfl, rfl, trivial⟩, hS.F ht⟩) hS.2.2 hd hlk
/-! StripeTradeModel.isSmall (I)Z [] -/
set_option maxHeartbeats 4000000 in
set_option maxRecDepth 100000 in
theorem mpM_isSmall_17 {p : Program} {l : Launch} {e : Env} {R : Room} {s : State} {m : MethodId} {args : Array Value} {below : List Frame} {meth : Method} {c : Code} {cells slots : Nat} {Q : State → Prop} {g : zG} (hI : zI g 581) (hC : zC g RX10 cX10_isSmall 1 (some .boolean) p s m meth c args) (hR : 1 ≤ R.frames ∧ 60 * 1 ≤ R.locals ∧ cells ≤ R.cells ∧ slots ≤ R.slots)   (N9 : Nat)   (res : Int32) (hfin : ∀ (r0 : Int32) (H : Heap) (locs : List Loc) (pc : Nat) (ls : Array Slot), r0 = res → r0 &&& 1 = r0 → True → va_S (fun _ => False) s.heap H locs → decode cX10_isSmall pc = .ok (.ireturn, 1) → W p l e R s m args below meth c H locs cells slots Q (F0 m pc ls [.int r0])) : ∀ (s0 : Int32), pM_isSmall_17 N9 s0 = some res → ∀ (H : Heap) (locs : List Loc) (ls : Array Slot), True → va_S (fun _ => False) s.heap H locs → lv_has ls 1 [] → W p l e R s m args below meth c H locs cells slots Q (F0 m 17 ls [.int s0]) := by
  obtain ⟨hx, hb, hr, hml, hown, hts, hK, hlk, hST⟩ := id hC
  have hB : ∀ q, (fun _ => False) q → zB g q := fun q h => h.elim
  intro s0 hf H locs ls hP hS hl
  unfold pM_isSmall_17 at hf
  obtain ⟨hz9, hf⟩ := zite hf
  exact hfin _ H locs _ ls (Option.some.inj hf) hz9 hP hS dX10_isSmall_17
set_option maxHeartbeats 4000000 in
set_option maxRecDepth 100000 in
theorem mpM_isSmall_16 {p : Program} {l : Launch} {e : Env} {R : Room} {s : State} {m : MethodId} {args : Array Value} {below : List Frame} {meth : Method} {c : Code} {cells slots : Nat} {Q : State → Prop} {g : zG} (hI : zI g 581) (hC : zC g RX10 cX10_isSmall 1 (some .boolean) p s m meth c args) (hR : 1 ≤ R.frames ∧ 60 * 1 ≤ R.locals ∧ cells ≤ R.cells ∧ slots ≤ R.slots)   (N9 : Nat)  (k17 : Int32 → Option (Int32)) (res : Int32) (hfin : ∀ (r0 : Int32) (H : Heap) (locs : List Loc) (pc : Nat) (ls : Array Slot), r0 = res → r0 &&& 1 = r0 → True → va_S (fun _ => False) s.heap H locs → decode cX10_isSmall pc = .ok (.ireturn, 1) → W p l e R s m args below meth c H locs cells slots Q (F0 m pc ls [.int r0])) (hk17 : ∀ (s0 : Int32), k17 s0 = some res → ∀ (H : Heap) (locs : List Loc) (ls : Array Slot), True → va_S (fun _ => False) s.heap H locs → lv_has ls 1 [] → W p l e R s m args below meth c H locs cells slots Q (F0 m 17 ls [.int s0])) : pM_isSmall_16 N9 k17 = some res → ∀ (H : Heap) (locs : List Loc) (ls : Array Slot), True → va_S (fun _ => False) s.heap H locs → lv_has ls 1 [] → W p l e R s m args below meth c H locs cells slots Q (F0 m 16 ls []) := by
  obtain ⟨hx, hb, hr, hml, hown, hts, hK, hlk, hST⟩ := id hC
  have hB : ∀ q, (fun _ => False) q → zB g q := fun q h => h.elim
  intro  hf H locs ls hP hS hl
  unfold pM_isSmall_16 at hf
  refine lv_iconst (v := 0) hx hb dX10_isSmall_16 (by decide) ?_
  exact hk17 0 hf H locs ls hP hS (lv_sub hl [] rfl)
set_option maxHeartbeats 4000000 in
set_option maxRecDepth 100000 in
theorem mpM_isSmall {p : Program} {l : Launch} {e : Env} {R : Room} {s : State} {m : MethodId} {args : Array Value} {below : List Frame} {meth : Method} {c : Code} {cells slots : Nat} {Q : State → Prop} {g : zG} (hI : zI g 581) (hC : zC g RX10 cX10_isSmall 1 (some .boolean) p s m meth c args) (hR : 1 ≤ R.frames ∧ 60 * 1 ≤ R.locals ∧ cells ≤ R.cells ∧ slots ≤ R.slots)  (x0 : Int32) (N9 : Nat)   (res : Int32) (hfin : ∀ (r0 : Int32) (H : Heap) (locs : List Loc) (pc : Nat) (ls : Array Slot), r0 = res → r0 &&& 1 = r0 → True → va_S (fun _ => False) s.heap H locs → decode cX10_isSmall pc = .ok (.ireturn, 1) → W p l e R s m args below meth c H locs cells slots Q (F0 m pc ls [.int r0])) : pM_isSmall N9 x0 = some res → ∀ (H : Heap) (locs : List Loc) (ls : Array Slot), True → va_S (fun _ => False) s.heap H locs → lv_has ls 1 [(0, .int x0)] → W p l e R s m args below meth c H locs cells slots Q (F0 m 0 ls []) := by
  obtain ⟨hx, hb, hr, hml, hown, hts, hK, hlk, hST⟩ := id hC
  have hB : ∀ q, (fun _ => False) q → zB g q := fun q h => h.elim
  intro  hf H locs ls hP hS hl
  have hk17 := mpM_isSmall_17 (l := l) (e := e) (R := R) (below := below) (cells := cells) (slots := slots) (Q := Q) hI hC hR N9 res hfin
  have hk16 := mpM_isSmall_16 (l := l) (e := e) (R := R) (below := below) (cells := cells) (slots := slots) (Q := Q) hI hC hR N9 (pM_isSmall_17 N9) res hfin hk17
  unfold pM_isSmall at hf
  refine lv_iload_n hx hb dX10_isSmall_0 rfl (lv_at hl 0 rfl) ?_
  refine lv_bipush (v := 97) hx hb dX10_isSmall_1 (by decide) ?_
  refine lv_icmp_lt (tgt := 16) hx hb dX10_isSmall_3 (by decide) (fun hc_1 => ?_) (fun hc_1 => ?_)
  · have hf := zifp hc_1 hf
    exact hk16  hf H locs ls hP hS (lv_sub hl [] rfl)
  · have hf := zifn hc_1 hf
    refine lv_iload_n hx hb dX10_isSmall_6 rfl (lv_at hl 0 rfl) ?_
    refine lv_bipush (v := 122) hx hb dX10_isSmall_7 (by decide) ?_
    refine lv_icmp_gt (tgt := 16) hx hb dX10_isSmall_9 (by decide) (fun hc_2 => ?_) (fun hc_2 => ?_)
    · have hf := zifp hc_2 hf
      exact hk16  hf H locs ls hP hS (lv_sub hl [] rfl)
    · have hf := zifn hc_2 hf
      refine lv_iconst (v := 1) hx hb dX10_isSmall_12 (by decide) ?_
      refine lv_goto (tgt := 17) hx hb dX10_isSmall_13 (by decide) ?_
      exact hk17 1 hf H locs ls hP hS (lv_sub hl [] rfl)
set_option maxHeartbeats 4000000 in
set_option maxRecDepth 100000 in
theorem cpM_isSmall (l : Launch) {g : zG} (hI : zI g 581)  (x0 : Int32) (N9 : Nat) {r0 : Int32} (hf : pM_isSmall N9  x0 = some r0) : zMp l yX10_isSmall cX10_isSmall 1 (some .boolean) 1 g [.int x0] r0 := by
  refine Met.ofW (cc := cX10_isSmall) (maxL := 1) (ret := (some .boolean)) (by decide +kernel) rfl ?_
  intro p e s m args below meth c s₁ B hml hv
  obtain ⟨rfl, hK, hST⟩ := hv
  have hP : True := trivial
  have hC := zstart (own := RX10) rfl B hml hK hST
  have hl := lv_entry ([.int x0]) (n := 1) (Nat.le_of_ble_eq_true rfl)
  rw [lg_entry_eq]
  generalize (lg_sl ([.int x0]) ++ List.replicate (1 - (lg_sl ([.int x0])).length) Slot.unset).toArray = ls at hl ⊢
  have hl : lv_has ls 1 [(0, .int x0)] := hl
  obtain ⟨hx, hb, hr, hml, hown, hts, hK, hlk, hST⟩ := id hC
  refine mpM_isSmall hI hC ⟨Nat.le_refl _, Nat.le_refl _, Nat.le_refl _, Nat.le_refl _⟩ x0 N9 r0 ?_ hf _ _ ls hP va_S.rf hl
  intro r1 H locs pc ls he hz hP hS hd
  cases he
  exact W.zret hx hb hr (congrArg Value.int hz) (fun t ht hW => ⟨⟨_, (), rfl, rfl, trivial⟩, hS.F ht⟩) hS.2.2 hd hlk
/-! StripeTradeModel.number (II)I [('obj', 'm')] -/
set_option maxHeartbeats 4000000 in
set_option maxRecDepth 100000 in
theorem mpM_number_91 {p : Program} {l : Launch} {e : Env} {R : Room} {s : State} {m : MethodId} {args : Array Value} {below : List Frame} {meth : Method} {c : Code} {cells slots : Nat} {Q : State → Prop} {g : zG} (hI : zI g 581) (hC : zC g RX10 cX10_number 5 (some .int) p s m meth c args) (hR : 3 ≤ R.frames ∧ 60 * 3 ≤ R.locals ∧ cells ≤ R.cells ∧ slots ≤ R.slots) (m_thrown : Int32) (m_tape : Int32) (m_size : Int32) (m_place : Int32) (m_fault : Int32) (m_faultAt : Int32) (m_clauses : Int32) (m_open : Int32) (m_fed : Nat → Int32) (m_refused : Nat → Int32) (m_readTold : Nat → Int32) (m_told : Nat → Int32) (m_readBeast : Nat → Nat → Int32) (m_beast : Nat → Nat → Int32) (m_readGate : Nat → Nat → Int32) (m_gate : Nat → Nat → Int32) (m_readList : Nat → Nat → Int32) (m_list : Nat → Nat → Int32) (m_lawMany : Int32) (m_readLawMany : Int32) (m_law : Nat → Nat → Int32) (m_readLaw : Nat → Nat → Int32) (m_stack : Nat → Int32) (m_known : Nat → Int32) (m_step : Nat → Nat → Int32) (m_steps : Int32) (m_now : Nat → Int32) (m_trial : Nat → Int32) (m_before : Nat → Nat → Int32) (m_kept : Nat → Nat → Int32) (m_works : Int32) (m_refusedSteps : Int32) (m_images : Int32) (m_spot : Int32) (m_begun : Int32) (m_doneSteps : Int32) (m_mixed : Nat → Int32) (m_fewest : Nat → Int32) (m_leastFees : Nat → Int32) (m_lots : Int32) (m_tars : Int32) (x1 : Int32) (x2 : Int32) (x3 : Int32) (N9 : Nat)  (k44 : Int32 → Int32 → Int32 → Int32 → Int32 → Option (Int32 × Int32 × Int32 × Int32)) (res : Int32 × Int32 × Int32 × Int32) (hfin : ∀ (r0 : Int32) (m_at : Int32) (m_fault : Int32) (m_faultAt : Int32) (H : Heap) (locs : List Loc) (pc : Nat) (ls : Array Slot), (r0, m_at, m_fault, m_faultAt) = res → va_P g.1 zcl (zM g m_thrown m_tape m_size m_place m_at m_fault m_faultAt m_clauses m_open m_fed m_refused m_readTold m_told m_readBeast m_beast m_readGate m_gate m_readList m_list m_lawMany m_readLawMany m_law m_readLaw m_stack m_known m_step m_steps m_now m_trial m_before m_kept m_works m_refusedSteps m_images m_spot m_begun m_doneSteps m_mixed m_fewest m_leastFees m_lots m_tars) H → va_S (zF g 64 580 s.heap.size) s.heap H locs → decode cX10_number pc = .ok (.ireturn, 1) → W p l e R s m args below meth c H locs cells slots Q (F0 m pc ls [.int r0])) (hk44 : ∀ (m_at : Int32) (m_fault : Int32) (m_faultAt : Int32) (x3 : Int32) (x4 : Int32), k44 m_at m_fault m_faultAt x3 x4 = some res → ∀ (H : Heap) (locs : List Loc) (ls : Array Slot), va_P g.1 zcl (zM g m_thrown m_tape m_size m_place m_at m_fault m_faultAt m_clauses m_open m_fed m_refused m_readTold m_told m_readBeast m_beast m_readGate m_gate m_readList m_list m_lawMany m_readLawMany m_law m_readLaw m_stack m_known m_step m_steps m_now m_trial m_before m_kept m_works m_refusedSteps m_images m_spot m_begun m_doneSteps m_mixed m_fewest m_leastFees m_lots m_tars) H → va_S (zF g 64 580 s.heap.size) s.heap H locs → lv_has ls 5 [(0, .ref (g.2.1 64)), (1, .int x1), (2, .int x2), (3, .int x3), (4, .int x4)] → W p l e R s m args below meth c H locs cells slots Q (F0 m 44 ls [])) : ∀ (m_at : Int32) (s0 : Int32), pM_number_91 N9 m_fault m_faultAt x1 x2 x3 k44 m_at s0 = some res → ∀ (H : Heap) (locs : List Loc) (ls : Array Slot), va_P g.1 zcl (zM g m_thrown m_tape m_size m_place m_at m_fault m_faultAt m_clauses m_open m_fed m_refused m_readTold m_told m_readBeast m_beast m_readGate m_gate m_readList m_list m_lawMany m_readLawMany m_law m_readLaw m_stack m_known m_step m_steps m_now m_trial m_before m_kept m_works m_refusedSteps m_images m_spot m_begun m_doneSteps m_mixed m_fewest m_leastFees m_lots m_tars) H → va_S (zF g 64 580 s.heap.size) s.heap H locs → lv_has ls 5 [(0, .ref (g.2.1 64)), (1, .int x1), (2, .int x2), (3, .int x3)] → W p l e R s m args below meth c H locs cells slots Q (F0 m 91 ls [.int s0]) := by
  obtain ⟨hx, hb, hr, hml, hown, hts, hK, hlk, hST⟩ := id hC
  have hB : ∀ q, (zF g 64 580 s.heap.size) q → zB g q := zF.base hI (Nat.le_of_ble_eq_true rfl) hST.1
  intro m_at s0 hf H locs ls hP hS hl
  unfold pM_number_91 at hf
  refine lv_istore (lv' := [(4, .int s0), (0, .ref (g.2.1 64)), (1, .int x1), (2, .int x2), (3, .int x3)]) hx hb dX10_number_91 hl (by decide) rfl (fun ls hl => ?_)
  refine lv_aload_n hx hb dX10_number_93 rfl (lv_at hl 1 rfl) ?_
  refine lv_dup hx hb dX10_number_94 rfl ?_
  refine zg_m_at hC hP (hC.fl mw_1393) dX10_number_95 ?_
  refine lv_iconst (v := 1) hx hb dX10_number_98 (by decide) ?_
  refine lv_iadd hx hb dX10_number_99 ?_
  refine zp_m_at hC hP hI (fun k h1 h2 => zF.own h1 h2) hS (hC.fl mw_1393) dX10_number_100 (fun H locs hP hS => ?_)
  refine lv_goto (tgt := 44) hx hb dX10_number_103 (by decide) ?_
  exact hk44 (m_at + 1) m_fault m_faultAt x3 s0 hf H locs ls hP hS (lv_sub hl [1, 2, 3, 4, 0] rfl)
set_option maxHeartbeats 4000000 in
set_option maxRecDepth 100000 in
theorem mpM_number_135 {p : Program} {l : Launch} {e : Env} {R : Room} {s : State} {m : MethodId} {args : Array Value} {below : List Frame} {meth : Method} {c : Code} {cells slots : Nat} {Q : State → Prop} {g : zG} (hI : zI g 581) (hC : zC g RX10 cX10_number 5 (some .int) p s m meth c args) (hR : 3 ≤ R.frames ∧ 60 * 3 ≤ R.locals ∧ cells ≤ R.cells ∧ slots ≤ R.slots) (m_thrown : Int32) (m_tape : Int32) (m_size : Int32) (m_place : Int32) (m_at : Int32) (m_fault : Int32) (m_faultAt : Int32) (m_clauses : Int32) (m_open : Int32) (m_fed : Nat → Int32) (m_refused : Nat → Int32) (m_readTold : Nat → Int32) (m_told : Nat → Int32) (m_readBeast : Nat → Nat → Int32) (m_beast : Nat → Nat → Int32) (m_readGate : Nat → Nat → Int32) (m_gate : Nat → Nat → Int32) (m_readList : Nat → Nat → Int32) (m_list : Nat → Nat → Int32) (m_lawMany : Int32) (m_readLawMany : Int32) (m_law : Nat → Nat → Int32) (m_readLaw : Nat → Nat → Int32) (m_stack : Nat → Int32) (m_known : Nat → Int32) (m_step : Nat → Nat → Int32) (m_steps : Int32) (m_now : Nat → Int32) (m_trial : Nat → Int32) (m_before : Nat → Nat → Int32) (m_kept : Nat → Nat → Int32) (m_works : Int32) (m_refusedSteps : Int32) (m_images : Int32) (m_spot : Int32) (m_begun : Int32) (m_doneSteps : Int32) (m_mixed : Nat → Int32) (m_fewest : Nat → Int32) (m_leastFees : Nat → Int32) (m_lots : Int32) (m_tars : Int32)  (N9 : Nat)   (res : Int32 × Int32 × Int32 × Int32) (hfin : ∀ (r0 : Int32) (m_at : Int32) (m_fault : Int32) (m_faultAt : Int32) (H : Heap) (locs : List Loc) (pc : Nat) (ls : Array Slot), (r0, m_at, m_fault, m_faultAt) = res → va_P g.1 zcl (zM g m_thrown m_tape m_size m_place m_at m_fault m_faultAt m_clauses m_open m_fed m_refused m_readTold m_told m_readBeast m_beast m_readGate m_gate m_readList m_list m_lawMany m_readLawMany m_law m_readLaw m_stack m_known m_step m_steps m_now m_trial m_before m_kept m_works m_refusedSteps m_images m_spot m_begun m_doneSteps m_mixed m_fewest m_leastFees m_lots m_tars) H → va_S (zF g 64 580 s.heap.size) s.heap H locs → decode cX10_number pc = .ok (.ireturn, 1) → W p l e R s m args below meth c H locs cells slots Q (F0 m pc ls [.int r0])) : ∀ (s0 : Int32), pM_number_135 N9 m_at m_fault m_faultAt s0 = some res → ∀ (H : Heap) (locs : List Loc) (ls : Array Slot), va_P g.1 zcl (zM g m_thrown m_tape m_size m_place m_at m_fault m_faultAt m_clauses m_open m_fed m_refused m_readTold m_told m_readBeast m_beast m_readGate m_gate m_readList m_list m_lawMany m_readLawMany m_law m_readLaw m_stack m_known m_step m_steps m_now m_trial m_before m_kept m_works m_refusedSteps m_images m_spot m_begun m_doneSteps m_mixed m_fewest m_leastFees m_lots m_tars) H → va_S (zF g 64 580 s.heap.size) s.heap H locs → lv_has ls 5 [] → W p l e R s m args below meth c H locs cells slots Q (F0 m 135 ls [.int s0]) := by
  obtain ⟨hx, hb, hr, hml, hown, hts, hK, hlk, hST⟩ := id hC
  have hB : ∀ q, (zF g 64 580 s.heap.size) q → zB g q := zF.base hI (Nat.le_of_ble_eq_true rfl) hST.1
  intro s0 hf H locs ls hP hS hl
  unfold pM_number_135 at hf
  exact hfin _ _ _ _ H locs _ ls (Option.some.inj hf) hP hS dX10_number_135
set_option maxHeartbeats 4000000 in
set_option maxRecDepth 100000 in
theorem mpM_number_122 {p : Program} {l : Launch} {e : Env} {R : Room} {s : State} {m : MethodId} {args : Array Value} {below : List Frame} {meth : Method} {c : Code} {cells slots : Nat} {Q : State → Prop} {g : zG} (hI : zI g 581) (hC : zC g RX10 cX10_number 5 (some .int) p s m meth c args) (hR : 3 ≤ R.frames ∧ 60 * 3 ≤ R.locals ∧ cells ≤ R.cells ∧ slots ≤ R.slots) (m_thrown : Int32) (m_tape : Int32) (m_size : Int32) (m_place : Int32) (m_clauses : Int32) (m_open : Int32) (m_fed : Nat → Int32) (m_refused : Nat → Int32) (m_readTold : Nat → Int32) (m_told : Nat → Int32) (m_readBeast : Nat → Nat → Int32) (m_beast : Nat → Nat → Int32) (m_readGate : Nat → Nat → Int32) (m_gate : Nat → Nat → Int32) (m_readList : Nat → Nat → Int32) (m_list : Nat → Nat → Int32) (m_lawMany : Int32) (m_readLawMany : Int32) (m_law : Nat → Nat → Int32) (m_readLaw : Nat → Nat → Int32) (m_stack : Nat → Int32) (m_known : Nat → Int32) (m_step : Nat → Nat → Int32) (m_steps : Int32) (m_now : Nat → Int32) (m_trial : Nat → Int32) (m_before : Nat → Nat → Int32) (m_kept : Nat → Nat → Int32) (m_works : Int32) (m_refusedSteps : Int32) (m_images : Int32) (m_spot : Int32) (m_begun : Int32) (m_doneSteps : Int32) (m_mixed : Nat → Int32) (m_fewest : Nat → Int32) (m_leastFees : Nat → Int32) (m_lots : Int32) (m_tars : Int32)  (N9 : Nat)   (res : Int32 × Int32 × Int32 × Int32) (hfin : ∀ (r0 : Int32) (m_at : Int32) (m_fault : Int32) (m_faultAt : Int32) (H : Heap) (locs : List Loc) (pc : Nat) (ls : Array Slot), (r0, m_at, m_fault, m_faultAt) = res → va_P g.1 zcl (zM g m_thrown m_tape m_size m_place m_at m_fault m_faultAt m_clauses m_open m_fed m_refused m_readTold m_told m_readBeast m_beast m_readGate m_gate m_readList m_list m_lawMany m_readLawMany m_law m_readLaw m_stack m_known m_step m_steps m_now m_trial m_before m_kept m_works m_refusedSteps m_images m_spot m_begun m_doneSteps m_mixed m_fewest m_leastFees m_lots m_tars) H → va_S (zF g 64 580 s.heap.size) s.heap H locs → decode cX10_number pc = .ok (.ireturn, 1) → W p l e R s m args below meth c H locs cells slots Q (F0 m pc ls [.int r0])) : ∀ (m_at : Int32) (m_fault : Int32) (m_faultAt : Int32) (x4 : Int32), pM_number_122 N9 m_at m_fault m_faultAt x4 = some res → ∀ (H : Heap) (locs : List Loc) (ls : Array Slot), va_P g.1 zcl (zM g m_thrown m_tape m_size m_place m_at m_fault m_faultAt m_clauses m_open m_fed m_refused m_readTold m_told m_readBeast m_beast m_readGate m_gate m_readList m_list m_lawMany m_readLawMany m_law m_readLaw m_stack m_known m_step m_steps m_now m_trial m_before m_kept m_works m_refusedSteps m_images m_spot m_begun m_doneSteps m_mixed m_fewest m_leastFees m_lots m_tars) H → va_S (zF g 64 580 s.heap.size) s.heap H locs → lv_has ls 5 [(0, .ref (g.2.1 64)), (4, .int x4)] → W p l e R s m args below meth c H locs cells slots Q (F0 m 122 ls []) := by
  obtain ⟨hx, hb, hr, hml, hown, hts, hK, hlk, hST⟩ := id hC
  have hB : ∀ q, (zF g 64 580 s.heap.size) q → zB g q := zF.base hI (Nat.le_of_ble_eq_true rfl) hST.1
  intro m_at m_fault m_faultAt x4 hf H locs ls hP hS hl
  have hk135 := mpM_number_135 (l := l) (e := e) (R := R) (below := below) (cells := cells) (slots := slots) (Q := Q) hI hC hR m_thrown m_tape m_size m_place m_at m_fault m_faultAt m_clauses m_open m_fed m_refused m_readTold m_told m_readBeast m_beast m_readGate m_gate m_readList m_list m_lawMany m_readLawMany m_law m_readLaw m_stack m_known m_step m_steps m_now m_trial m_before m_kept m_works m_refusedSteps m_images m_spot m_begun m_doneSteps m_mixed m_fewest m_leastFees m_lots m_tars N9 res hfin
  unfold pM_number_122 at hf
  refine lv_aload_n hx hb dX10_number_122 rfl (lv_at hl 0 rfl) ?_
  refine zg_m_fault hC hP (hC.fl mw_1394) dX10_number_123 ?_
  refine lv_if_ne (tgt := 134) hx hb dX10_number_126 (by decide) (fun hc_1 => ?_) (fun hc_1 => ?_)
  · have hf := zifn hc_1 hf
    refine lv_iconst (v := 0) hx hb dX10_number_134 (by decide) ?_
    exact hk135 0 hf H locs ls hP hS (lv_sub hl [] rfl)
  · have hf := zifp hc_1 hf
    refine lv_iload hx hb dX10_number_129 (lv_at hl 1 rfl) ?_
    refine lv_goto (tgt := 135) hx hb dX10_number_131 (by decide) ?_
    exact hk135 x4 hf H locs ls hP hS (lv_sub hl [] rfl)
set_option maxHeartbeats 4000000 in
set_option maxRecDepth 100000 in
theorem mpM_number_44 {p : Program} {l : Launch} {e : Env} {R : Room} {s : State} {m : MethodId} {args : Array Value} {below : List Frame} {meth : Method} {c : Code} {cells slots : Nat} {Q : State → Prop} {g : zG} (hI : zI g 581) (hC : zC g RX10 cX10_number 5 (some .int) p s m meth c args) (hR : 3 ≤ R.frames ∧ 60 * 3 ≤ R.locals ∧ cells ≤ R.cells ∧ slots ≤ R.slots) (m_thrown : Int32) (m_tape : Int32) (m_size : Int32) (m_place : Int32) (m_clauses : Int32) (m_open : Int32) (m_fed : Nat → Int32) (m_refused : Nat → Int32) (m_readTold : Nat → Int32) (m_told : Nat → Int32) (m_readBeast : Nat → Nat → Int32) (m_beast : Nat → Nat → Int32) (m_readGate : Nat → Nat → Int32) (m_gate : Nat → Nat → Int32) (m_readList : Nat → Nat → Int32) (m_list : Nat → Nat → Int32) (m_lawMany : Int32) (m_readLawMany : Int32) (m_law : Nat → Nat → Int32) (m_readLaw : Nat → Nat → Int32) (m_stack : Nat → Int32) (m_known : Nat → Int32) (m_step : Nat → Nat → Int32) (m_steps : Int32) (m_now : Nat → Int32) (m_trial : Nat → Int32) (m_before : Nat → Nat → Int32) (m_kept : Nat → Nat → Int32) (m_works : Int32) (m_refusedSteps : Int32) (m_images : Int32) (m_spot : Int32) (m_begun : Int32) (m_doneSteps : Int32) (m_mixed : Nat → Int32) (m_fewest : Nat → Int32) (m_leastFees : Nat → Int32) (m_lots : Int32) (m_tars : Int32) (x1 : Int32) (x2 : Int32) (N9 : Nat)   (res : Int32 × Int32 × Int32 × Int32) (hfin : ∀ (r0 : Int32) (m_at : Int32) (m_fault : Int32) (m_faultAt : Int32) (H : Heap) (locs : List Loc) (pc : Nat) (ls : Array Slot), (r0, m_at, m_fault, m_faultAt) = res → va_P g.1 zcl (zM g m_thrown m_tape m_size m_place m_at m_fault m_faultAt m_clauses m_open m_fed m_refused m_readTold m_told m_readBeast m_beast m_readGate m_gate m_readList m_list m_lawMany m_readLawMany m_law m_readLaw m_stack m_known m_step m_steps m_now m_trial m_before m_kept m_works m_refusedSteps m_images m_spot m_begun m_doneSteps m_mixed m_fewest m_leastFees m_lots m_tars) H → va_S (zF g 64 580 s.heap.size) s.heap H locs → decode cX10_number pc = .ok (.ireturn, 1) → W p l e R s m args below meth c H locs cells slots Q (F0 m pc ls [.int r0])) : ∀ (n9 : Nat) (m_at : Int32) (m_fault : Int32) (m_faultAt : Int32) (x3 : Int32) (x4 : Int32), pM_number_44 N9 m_size m_fed x1 x2 n9 m_at m_fault m_faultAt x3 x4 = some res → ∀ (H : Heap) (locs : List Loc) (ls : Array Slot), va_P g.1 zcl (zM g m_thrown m_tape m_size m_place m_at m_fault m_faultAt m_clauses m_open m_fed m_refused m_readTold m_told m_readBeast m_beast m_readGate m_gate m_readList m_list m_lawMany m_readLawMany m_law m_readLaw m_stack m_known m_step m_steps m_now m_trial m_before m_kept m_works m_refusedSteps m_images m_spot m_begun m_doneSteps m_mixed m_fewest m_leastFees m_lots m_tars) H → va_S (zF g 64 580 s.heap.size) s.heap H locs → lv_has ls 5 [(0, .ref (g.2.1 64)), (1, .int x1), (2, .int x2), (3, .int x3), (4, .int x4)] → W p l e R s m args below meth c H locs cells slots Q (F0 m 44 ls []) := by
  obtain ⟨hx, hb, hr, hml, hown, hts, hK, hlk, hST⟩ := id hC
  have hB : ∀ q, (zF g 64 580 s.heap.size) q → zB g q := zF.base hI (Nat.le_of_ble_eq_true rfl) hST.1
  intro n9
  induction n9 with
  | zero => intro m_at m_fault m_faultAt x3 x4 hf; cases hf
  | succ n9 ih =>
    intro m_at m_fault m_faultAt x3 x4 hf H locs ls hP hS hl
    have hk44 := ih
    have hk91 := mpM_number_91 (l := l) (e := e) (R := R) (below := below) (cells := cells) (slots := slots) (Q := Q) hI hC hR m_thrown m_tape m_size m_place m_fault m_faultAt m_clauses m_open m_fed m_refused m_readTold m_told m_readBeast m_beast m_readGate m_gate m_readList m_list m_lawMany m_readLawMany m_law m_readLaw m_stack m_known m_step m_steps m_now m_trial m_before m_kept m_works m_refusedSteps m_images m_spot m_begun m_doneSteps m_mixed m_fewest m_leastFees m_lots m_tars x1 x2 x3 N9 (pM_number_44 N9 m_size m_fed x1 x2 n9) res hfin hk44
    have hk122 := mpM_number_122 (l := l) (e := e) (R := R) (below := below) (cells := cells) (slots := slots) (Q := Q) hI hC hR m_thrown m_tape m_size m_place m_clauses m_open m_fed m_refused m_readTold m_told m_readBeast m_beast m_readGate m_gate m_readList m_list m_lawMany m_readLawMany m_law m_readLaw m_stack m_known m_step m_steps m_now m_trial m_before m_kept m_works m_refusedSteps m_images m_spot m_begun m_doneSteps m_mixed m_fewest m_leastFees m_lots m_tars N9 res hfin
    unfold pM_number_44 at hf
    refine lv_aload_n hx hb dX10_number_44 rfl (lv_at hl 0 rfl) ?_
    refine lv_aload_n hx hb dX10_number_45 rfl (lv_at hl 0 rfl) ?_
    refine zg_m_at hC hP (hC.fl mw_1393) dX10_number_46 ?_
    obtain ⟨r_2, hf_2, hf⟩ := zb1i hf
    refine zcallVi (As := [.int m_at]) (rest := []) hC hP hS hB (fun q h => zF.mono hS.1 h) (cpM_byteAt l hI H.size m_thrown m_tape m_size m_place m_at m_fault m_faultAt m_clauses m_open m_fed m_refused m_readTold m_told m_readBeast m_beast m_readGate m_gate m_readList m_list m_lawMany m_readLawMany m_law m_readLaw m_stack m_known m_step m_steps m_now m_trial m_before m_kept m_works m_refusedSteps m_images m_spot m_begun m_doneSteps m_mixed m_fewest m_leastFees m_lots m_tars m_at N9 hf_2) (hC.ml mw_1543) yo_X10_byteAt 0 (zfM rfl) rfl rfl rfl hl.1 rfl (Nat.le_of_ble_eq_true rfl) ⟨by omega, by omega⟩ hR.2.2 dX10_number_49 (fun H locs hP hS _ _ => ?_)
    obtain ⟨r_3, hf_3, hf⟩ := zb1i hf
    refine zcallP (As := [.int r_2]) (rest := []) hC hS hB (cpM_isDigit l hI r_2 N9 hf_3) (hC.ml mw_1584) yo_X10_isDigit rfl hl.1 rfl (Nat.le_of_ble_eq_true rfl) ⟨by omega, by omega⟩ hR.2.2 dX10_number_52 (fun H locs hPk hS _ => ?_)
    have hP := hPk _ _ _ hP
    refine lv_if_eq (tgt := 106) hx hb dX10_number_55 (by decide) (fun hc_4 => ?_) (fun hc_4 => ?_)
    · have hf := zifp hc_4 hf
      refine lv_iload hx hb dX10_number_106 (lv_at hl 4 rfl) ?_
      refine lv_iload_n hx hb dX10_number_108 rfl (lv_at hl 1 rfl) ?_
      refine lv_iload_n hx hb dX10_number_109 rfl (lv_at hl 2 rfl) ?_
      obtain ⟨r_5, hf_5, hf⟩ := zb1i hf
      refine zcallP (As := [.int x4, .int x1, .int x2]) (rest := []) hC hS hB (cpM_in l hI x4 x1 x2 N9 hf_5) (hC.ml mw_1528) yo_X10_in rfl hl.1 rfl (Nat.le_of_ble_eq_true rfl) ⟨by omega, by omega⟩ hR.2.2 dX10_number_110 (fun H locs hPk hS _ => ?_)
      have hP := hPk _ _ _ hP
      refine lv_if_ne (tgt := 122) hx hb dX10_number_113 (by decide) (fun hc_6 => ?_) (fun hc_6 => ?_)
      · have hf := zifn hc_6 hf
        exact hk122 m_at m_fault m_faultAt x4 hf H locs ls hP hS (lv_sub hl [0, 4] rfl)
      · have hf := zifp hc_6 hf
        refine lv_aload_n hx hb dX10_number_116 rfl (lv_at hl 0 rfl) ?_
        refine lv_iconst (v := 2) hx hb dX10_number_117 (by decide) ?_
        refine lv_iload_n hx hb dX10_number_118 rfl (lv_at hl 3 rfl) ?_
        obtain ⟨m_fault_7, m_faultAt_7, hf_7, hf⟩ := zb2i hf
        refine zcallVv (As := [.int 2, .int x3]) (rest := []) hC hP hS hB (fun q h => zF.mono hS.1 h) (cpM_wrong l hI H.size m_thrown m_tape m_size m_place m_at m_fault m_faultAt m_clauses m_open m_fed m_refused m_readTold m_told m_readBeast m_beast m_readGate m_gate m_readList m_list m_lawMany m_readLawMany m_law m_readLaw m_stack m_known m_step m_steps m_now m_trial m_before m_kept m_works m_refusedSteps m_images m_spot m_begun m_doneSteps m_mixed m_fewest m_leastFees m_lots m_tars (2 : Int32) x3 N9 hf_7) (hC.ml mw_1569) yo_X10_wrong 0 (zfM rfl) rfl rfl rfl hl.1 rfl (Nat.le_of_ble_eq_true rfl) ⟨by omega, by omega⟩ hR.2.2 dX10_number_119 (fun H locs hP hS _ _ => ?_)
        exact hk122 m_at m_fault_7 m_faultAt_7 x4 hf H locs ls hP hS (lv_sub hl [0, 4] rfl)
    · have hf := zifn hc_4 hf
      refine lv_bipush (v := 10) hx hb dX10_number_58 (by decide) ?_
      refine lv_iload hx hb dX10_number_60 (lv_at hl 4 rfl) ?_
      refine lv_imul hx hb dX10_number_62 ?_
      refine lv_aload_n hx hb dX10_number_63 rfl (lv_at hl 0 rfl) ?_
      refine lv_aload_n hx hb dX10_number_64 rfl (lv_at hl 0 rfl) ?_
      refine zg_m_at hC hP (hC.fl mw_1393) dX10_number_65 ?_
      obtain ⟨r_8, hf_8, hf⟩ := zb1i hf
      refine zcallVi (As := [.int m_at]) (rest := [.int (10 * x4)]) hC hP hS hB (fun q h => zF.mono hS.1 h) (cpM_byteAt l hI H.size m_thrown m_tape m_size m_place m_at m_fault m_faultAt m_clauses m_open m_fed m_refused m_readTold m_told m_readBeast m_beast m_readGate m_gate m_readList m_list m_lawMany m_readLawMany m_law m_readLaw m_stack m_known m_step m_steps m_now m_trial m_before m_kept m_works m_refusedSteps m_images m_spot m_begun m_doneSteps m_mixed m_fewest m_leastFees m_lots m_tars m_at N9 hf_8) (hC.ml mw_1543) yo_X10_byteAt 0 (zfM rfl) rfl rfl rfl hl.1 rfl (Nat.le_of_ble_eq_true rfl) ⟨by omega, by omega⟩ hR.2.2 dX10_number_68 (fun H locs hP hS _ _ => ?_)
      refine lv_iadd hx hb dX10_number_71 ?_
      refine lv_bipush (v := 48) hx hb dX10_number_72 (by decide) ?_
      refine lv_isub hx hb dX10_number_74 ?_
      refine lv_istore (lv' := [(4, .int (((10 * x4) + r_8) - 48)), (0, .ref (g.2.1 64)), (1, .int x1), (2, .int x2), (3, .int x3)]) hx hb dX10_number_75 hl (by decide) rfl (fun ls hl => ?_)
      refine lv_iload hx hb dX10_number_77 (lv_at hl 0 rfl) ?_
      refine lv_ldc (v := 100000) hx hb hown (hts _ mw_1587) dX10_number_79 ?_
      refine lv_icmp_le (tgt := 89) hx hb dX10_number_81 (by decide) (fun hc_9 => ?_) (fun hc_9 => ?_)
      · have hf := zifp hc_9 hf
        refine lv_iload hx hb dX10_number_89 (lv_at hl 0 rfl) ?_
        exact hk91 m_at (((10 * x4) + r_8) - 48) hf H locs ls hP hS (lv_sub hl [1, 2, 3, 4] rfl)
      · have hf := zifn hc_9 hf
        refine lv_ldc (v := 100000) hx hb hown (hts _ mw_1587) dX10_number_84 ?_
        refine lv_goto (tgt := 91) hx hb dX10_number_86 (by decide) ?_
        exact hk91 m_at 100000 hf H locs ls hP hS (lv_sub hl [1, 2, 3, 4] rfl)
set_option maxHeartbeats 4000000 in
set_option maxRecDepth 100000 in
theorem mpM_number {p : Program} {l : Launch} {e : Env} {R : Room} {s : State} {m : MethodId} {args : Array Value} {below : List Frame} {meth : Method} {c : Code} {cells slots : Nat} {Q : State → Prop} {g : zG} (hI : zI g 581) (hC : zC g RX10 cX10_number 5 (some .int) p s m meth c args) (hR : 3 ≤ R.frames ∧ 60 * 3 ≤ R.locals ∧ cells ≤ R.cells ∧ slots ≤ R.slots) (m_thrown : Int32) (m_tape : Int32) (m_size : Int32) (m_place : Int32) (m_at : Int32) (m_fault : Int32) (m_faultAt : Int32) (m_clauses : Int32) (m_open : Int32) (m_fed : Nat → Int32) (m_refused : Nat → Int32) (m_readTold : Nat → Int32) (m_told : Nat → Int32) (m_readBeast : Nat → Nat → Int32) (m_beast : Nat → Nat → Int32) (m_readGate : Nat → Nat → Int32) (m_gate : Nat → Nat → Int32) (m_readList : Nat → Nat → Int32) (m_list : Nat → Nat → Int32) (m_lawMany : Int32) (m_readLawMany : Int32) (m_law : Nat → Nat → Int32) (m_readLaw : Nat → Nat → Int32) (m_stack : Nat → Int32) (m_known : Nat → Int32) (m_step : Nat → Nat → Int32) (m_steps : Int32) (m_now : Nat → Int32) (m_trial : Nat → Int32) (m_before : Nat → Nat → Int32) (m_kept : Nat → Nat → Int32) (m_works : Int32) (m_refusedSteps : Int32) (m_images : Int32) (m_spot : Int32) (m_begun : Int32) (m_doneSteps : Int32) (m_mixed : Nat → Int32) (m_fewest : Nat → Int32) (m_leastFees : Nat → Int32) (m_lots : Int32) (m_tars : Int32) (x1 : Int32) (x2 : Int32) (N9 : Nat)   (res : Int32 × Int32 × Int32 × Int32) (hfin : ∀ (r0 : Int32) (m_at : Int32) (m_fault : Int32) (m_faultAt : Int32) (H : Heap) (locs : List Loc) (pc : Nat) (ls : Array Slot), (r0, m_at, m_fault, m_faultAt) = res → va_P g.1 zcl (zM g m_thrown m_tape m_size m_place m_at m_fault m_faultAt m_clauses m_open m_fed m_refused m_readTold m_told m_readBeast m_beast m_readGate m_gate m_readList m_list m_lawMany m_readLawMany m_law m_readLaw m_stack m_known m_step m_steps m_now m_trial m_before m_kept m_works m_refusedSteps m_images m_spot m_begun m_doneSteps m_mixed m_fewest m_leastFees m_lots m_tars) H → va_S (zF g 64 580 s.heap.size) s.heap H locs → decode cX10_number pc = .ok (.ireturn, 1) → W p l e R s m args below meth c H locs cells slots Q (F0 m pc ls [.int r0])) : pM_number N9 m_size m_at m_fault m_faultAt m_fed x1 x2 = some res → ∀ (H : Heap) (locs : List Loc) (ls : Array Slot), va_P g.1 zcl (zM g m_thrown m_tape m_size m_place m_at m_fault m_faultAt m_clauses m_open m_fed m_refused m_readTold m_told m_readBeast m_beast m_readGate m_gate m_readList m_list m_lawMany m_readLawMany m_law m_readLaw m_stack m_known m_step m_steps m_now m_trial m_before m_kept m_works m_refusedSteps m_images m_spot m_begun m_doneSteps m_mixed m_fewest m_leastFees m_lots m_tars) H → va_S (zF g 64 580 s.heap.size) s.heap H locs → lv_has ls 5 [(0, .ref (g.2.1 64)), (1, .int x1), (2, .int x2)] → W p l e R s m args below meth c H locs cells slots Q (F0 m 0 ls []) := by
  obtain ⟨hx, hb, hr, hml, hown, hts, hK, hlk, hST⟩ := id hC
  have hB : ∀ q, (zF g 64 580 s.heap.size) q → zB g q := zF.base hI (Nat.le_of_ble_eq_true rfl) hST.1
  intro  hf H locs ls hP hS hl
  have hk44 := mpM_number_44 (l := l) (e := e) (R := R) (below := below) (cells := cells) (slots := slots) (Q := Q) hI hC hR m_thrown m_tape m_size m_place m_clauses m_open m_fed m_refused m_readTold m_told m_readBeast m_beast m_readGate m_gate m_readList m_list m_lawMany m_readLawMany m_law m_readLaw m_stack m_known m_step m_steps m_now m_trial m_before m_kept m_works m_refusedSteps m_images m_spot m_begun m_doneSteps m_mixed m_fewest m_leastFees m_lots m_tars x1 x2 N9 res hfin N9
  unfold pM_number at hf
  refine lv_aload_n hx hb dX10_number_0 rfl (lv_at hl 0 rfl) ?_
  refine zg_m_fault hC hP (hC.fl mw_1394) dX10_number_1 ?_
  refine lv_if_eq (tgt := 9) hx hb dX10_number_4 (by decide) (fun hc_10 => ?_) (fun hc_10 => ?_)
  · have hf := zifp hc_10 hf
    refine lv_aload_n hx hb dX10_number_9 rfl (lv_at hl 0 rfl) ?_
    obtain ⟨m_at_11, hf_11, hf⟩ := zb1i hf
    refine zcallVv (As := []) (rest := []) hC hP hS hB (fun q h => zF.mono hS.1 h) (cpM_blanks l hI H.size m_thrown m_tape m_size m_place m_at m_fault m_faultAt m_clauses m_open m_fed m_refused m_readTold m_told m_readBeast m_beast m_readGate m_gate m_readList m_list m_lawMany m_readLawMany m_law m_readLaw m_stack m_known m_step m_steps m_now m_trial m_before m_kept m_works m_refusedSteps m_images m_spot m_begun m_doneSteps m_mixed m_fewest m_leastFees m_lots m_tars  N9 hf_11) (hC.ml mw_1539) yo_X10_blanks 0 (zfM rfl) rfl rfl rfl hl.1 rfl (Nat.le_of_ble_eq_true rfl) ⟨by omega, by omega⟩ hR.2.2 dX10_number_10 (fun H locs hP hS _ _ => ?_)
    refine lv_aload_n hx hb dX10_number_13 rfl (lv_at hl 0 rfl) ?_
    refine zg_m_at hC hP (hC.fl mw_1393) dX10_number_14 ?_
    refine lv_istore_n (lv' := [(3, .int m_at_11), (0, .ref (g.2.1 64)), (1, .int x1), (2, .int x2)]) hx hb dX10_number_17 rfl hl (by decide) rfl (fun ls hl => ?_)
    refine lv_iconst (v := 0) hx hb dX10_number_18 (by decide) ?_
    refine lv_istore (lv' := [(4, .int 0), (3, .int m_at_11), (0, .ref (g.2.1 64)), (1, .int x1), (2, .int x2)]) hx hb dX10_number_19 hl (by decide) rfl (fun ls hl => ?_)
    refine lv_aload_n hx hb dX10_number_21 rfl (lv_at hl 2 rfl) ?_
    refine lv_aload_n hx hb dX10_number_22 rfl (lv_at hl 2 rfl) ?_
    refine zg_m_at hC hP (hC.fl mw_1393) dX10_number_23 ?_
    obtain ⟨r_12, hf_12, hf⟩ := zb1i hf
    refine zcallVi (As := [.int m_at_11]) (rest := []) hC hP hS hB (fun q h => zF.mono hS.1 h) (cpM_byteAt l hI H.size m_thrown m_tape m_size m_place m_at_11 m_fault m_faultAt m_clauses m_open m_fed m_refused m_readTold m_told m_readBeast m_beast m_readGate m_gate m_readList m_list m_lawMany m_readLawMany m_law m_readLaw m_stack m_known m_step m_steps m_now m_trial m_before m_kept m_works m_refusedSteps m_images m_spot m_begun m_doneSteps m_mixed m_fewest m_leastFees m_lots m_tars m_at_11 N9 hf_12) (hC.ml mw_1543) yo_X10_byteAt 0 (zfM rfl) rfl rfl rfl hl.1 rfl (Nat.le_of_ble_eq_true rfl) ⟨by omega, by omega⟩ hR.2.2 dX10_number_26 (fun H locs hP hS _ _ => ?_)
    obtain ⟨r_13, hf_13, hf⟩ := zb1i hf
    refine zcallP (As := [.int r_12]) (rest := []) hC hS hB (cpM_isDigit l hI r_12 N9 hf_13) (hC.ml mw_1584) yo_X10_isDigit rfl hl.1 rfl (Nat.le_of_ble_eq_true rfl) ⟨by omega, by omega⟩ hR.2.2 dX10_number_29 (fun H locs hPk hS _ => ?_)
    have hP := hPk _ _ _ hP
    refine lv_if_ne (tgt := 44) hx hb dX10_number_32 (by decide) (fun hc_14 => ?_) (fun hc_14 => ?_)
    · have hf := zifn hc_14 hf
      exact hk44 m_at_11 m_fault m_faultAt m_at_11 0 hf H locs ls hP hS (lv_sub hl [2, 3, 4, 1, 0] rfl)
    · have hf := zifp hc_14 hf
      refine lv_aload_n hx hb dX10_number_35 rfl (lv_at hl 2 rfl) ?_
      refine lv_iconst (v := 1) hx hb dX10_number_36 (by decide) ?_
      refine lv_aload_n hx hb dX10_number_37 rfl (lv_at hl 2 rfl) ?_
      refine zg_m_at hC hP (hC.fl mw_1393) dX10_number_38 ?_
      obtain ⟨m_fault_15, m_faultAt_15, hf_15, hf⟩ := zb2i hf
      refine zcallVv (As := [.int 1, .int m_at_11]) (rest := []) hC hP hS hB (fun q h => zF.mono hS.1 h) (cpM_wrong l hI H.size m_thrown m_tape m_size m_place m_at_11 m_fault m_faultAt m_clauses m_open m_fed m_refused m_readTold m_told m_readBeast m_beast m_readGate m_gate m_readList m_list m_lawMany m_readLawMany m_law m_readLaw m_stack m_known m_step m_steps m_now m_trial m_before m_kept m_works m_refusedSteps m_images m_spot m_begun m_doneSteps m_mixed m_fewest m_leastFees m_lots m_tars (1 : Int32) m_at_11 N9 hf_15) (hC.ml mw_1569) yo_X10_wrong 0 (zfM rfl) rfl rfl rfl hl.1 rfl (Nat.le_of_ble_eq_true rfl) ⟨by omega, by omega⟩ hR.2.2 dX10_number_41 (fun H locs hP hS _ _ => ?_)
      exact hk44 m_at_11 m_fault_15 m_faultAt_15 m_at_11 0 hf H locs ls hP hS (lv_sub hl [2, 3, 4, 1, 0] rfl)
  · have hf := zifn hc_10 hf
    refine lv_iconst (v := 0) hx hb dX10_number_7 (by decide) ?_
    exact hfin _ _ _ _ H locs _ ls (Option.some.inj hf) hP hS dX10_number_8
set_option maxHeartbeats 4000000 in
set_option maxRecDepth 100000 in
theorem cpM_number (l : Launch) {g : zG} (hI : zI g 581) (sz : Nat) (m_thrown : Int32) (m_tape : Int32) (m_size : Int32) (m_place : Int32) (m_at : Int32) (m_fault : Int32) (m_faultAt : Int32) (m_clauses : Int32) (m_open : Int32) (m_fed : Nat → Int32) (m_refused : Nat → Int32) (m_readTold : Nat → Int32) (m_told : Nat → Int32) (m_readBeast : Nat → Nat → Int32) (m_beast : Nat → Nat → Int32) (m_readGate : Nat → Nat → Int32) (m_gate : Nat → Nat → Int32) (m_readList : Nat → Nat → Int32) (m_list : Nat → Nat → Int32) (m_lawMany : Int32) (m_readLawMany : Int32) (m_law : Nat → Nat → Int32) (m_readLaw : Nat → Nat → Int32) (m_stack : Nat → Int32) (m_known : Nat → Int32) (m_step : Nat → Nat → Int32) (m_steps : Int32) (m_now : Nat → Int32) (m_trial : Nat → Int32) (m_before : Nat → Nat → Int32) (m_kept : Nat → Nat → Int32) (m_works : Int32) (m_refusedSteps : Int32) (m_images : Int32) (m_spot : Int32) (m_begun : Int32) (m_doneSteps : Int32) (m_mixed : Nat → Int32) (m_fewest : Nat → Int32) (m_leastFees : Nat → Int32) (m_lots : Int32) (m_tars : Int32) (x1 : Int32)  (x2 : Int32) (N9 : Nat) {r0 : Int32} {m_at' : Int32} {m_fault' : Int32} {m_faultAt' : Int32} (hf : pM_number N9  m_size m_at m_fault m_faultAt m_fed x1 x2 = some (r0, m_at', m_fault', m_faultAt')) : zMi l yX10_number cX10_number 5 (some .int) 3 g (zM g m_thrown m_tape m_size m_place m_at m_fault m_faultAt m_clauses m_open m_fed m_refused m_readTold m_told m_readBeast m_beast m_readGate m_gate m_readList m_list m_lawMany m_readLawMany m_law m_readLaw m_stack m_known m_step m_steps m_now m_trial m_before m_kept m_works m_refusedSteps m_images m_spot m_begun m_doneSteps m_mixed m_fewest m_leastFees m_lots m_tars) (zM g m_thrown m_tape m_size m_place m_at' m_fault' m_faultAt' m_clauses m_open m_fed m_refused m_readTold m_told m_readBeast m_beast m_readGate m_gate m_readList m_list m_lawMany m_readLawMany m_law m_readLaw m_stack m_known m_step m_steps m_now m_trial m_before m_kept m_works m_refusedSteps m_images m_spot m_begun m_doneSteps m_mixed m_fewest m_leastFees m_lots m_tars) sz (zF g 64 580 sz) [.ref (g.2.1 64), .int x1, .int x2] r0 := by
  refine Met.ofW (cc := cX10_number) (maxL := 5) (ret := (some .int)) (by decide +kernel) rfl ?_
  intro p e s m args below meth c s₁ B hml hv
  obtain ⟨rfl, hsz, hP, hK, hST⟩ := hv
  subst hsz
  have hC := zstart (own := RX10) rfl B hml hK hST
  have hl := lv_entry ([.ref (g.2.1 64), .int x1, .int x2]) (n := 5) (Nat.le_of_ble_eq_true rfl)
  rw [lg_entry_eq]
  generalize (lg_sl ([.ref (g.2.1 64), .int x1, .int x2]) ++ List.replicate (5 - (lg_sl ([.ref (g.2.1 64), .int x1, .int x2])).length) Slot.unset).toArray = ls at hl ⊢
  have hl : lv_has ls 5 [(0, .ref (g.2.1 64)), (1, .int x1), (2, .int x2)] := hl
  obtain ⟨hx, hb, hr, hml, hown, hts, hK, hlk, hST⟩ := id hC
  refine mpM_number hI hC ⟨Nat.le_refl _, Nat.le_refl _, Nat.le_refl _, Nat.le_refl _⟩ m_thrown m_tape m_size m_place m_at m_fault m_faultAt m_clauses m_open m_fed m_refused m_readTold m_told m_readBeast m_beast m_readGate m_gate m_readList m_list m_lawMany m_readLawMany m_law m_readLaw m_stack m_known m_step m_steps m_now m_trial m_before m_kept m_works m_refusedSteps m_images m_spot m_begun m_doneSteps m_mixed m_fewest m_leastFees m_lots m_tars x1 x2 N9 (r0, m_at', m_fault', m_faultAt') ?_ hf _ _ ls hP va_S.rf hl
  intro r1 m_at1 m_fault1 m_faultAt1 H locs pc ls he hP hS hd
  cases he
  exact W.iret hx hb hr (fun t ht hW => ⟨⟨_, (), rfl, rfl, by rw [← ht] at hP; exact hP⟩, hS.F ht⟩) hS.2.2 hd hlk
/-! StripeTradeModel.wordHere ()I [('obj', 'm')] -/
set_option maxHeartbeats 4000000 in
set_option maxRecDepth 100000 in
theorem mpM_wordHere_54 {p : Program} {l : Launch} {e : Env} {R : Room} {s : State} {m : MethodId} {args : Array Value} {below : List Frame} {meth : Method} {c : Code} {cells slots : Nat} {Q : State → Prop} {g : zG} (hI : zI g 581) (hC : zC g RX10 cX10_wordHere 3 (some .int) p s m meth c args) (hR : 3 ≤ R.frames ∧ 60 * 3 ≤ R.locals ∧ cells ≤ R.cells ∧ slots ≤ R.slots) (m_thrown : Int32) (m_tape : Int32) (m_size : Int32) (m_place : Int32) (m_at : Int32) (m_fault : Int32) (m_faultAt : Int32) (m_clauses : Int32) (m_open : Int32) (m_fed : Nat → Int32) (m_refused : Nat → Int32) (m_readTold : Nat → Int32) (m_told : Nat → Int32) (m_readBeast : Nat → Nat → Int32) (m_beast : Nat → Nat → Int32) (m_readGate : Nat → Nat → Int32) (m_gate : Nat → Nat → Int32) (m_readList : Nat → Nat → Int32) (m_list : Nat → Nat → Int32) (m_lawMany : Int32) (m_readLawMany : Int32) (m_law : Nat → Nat → Int32) (m_readLaw : Nat → Nat → Int32) (m_stack : Nat → Int32) (m_known : Nat → Int32) (m_step : Nat → Nat → Int32) (m_steps : Int32) (m_now : Nat → Int32) (m_trial : Nat → Int32) (m_before : Nat → Nat → Int32) (m_kept : Nat → Nat → Int32) (m_works : Int32) (m_refusedSteps : Int32) (m_images : Int32) (m_spot : Int32) (m_begun : Int32) (m_doneSteps : Int32) (m_mixed : Nat → Int32) (m_fewest : Nat → Int32) (m_leastFees : Nat → Int32) (m_lots : Int32) (m_tars : Int32)  (N9 : Nat)  (k8 : Int32 → Int32 → Int32 → Option (Int32 × Int32)) (res : Int32 × Int32) (hfin : ∀ (r0 : Int32) (m_at : Int32) (H : Heap) (locs : List Loc) (pc : Nat) (ls : Array Slot), (r0, m_at) = res → va_P g.1 zcl (zM g m_thrown m_tape m_size m_place m_at m_fault m_faultAt m_clauses m_open m_fed m_refused m_readTold m_told m_readBeast m_beast m_readGate m_gate m_readList m_list m_lawMany m_readLawMany m_law m_readLaw m_stack m_known m_step m_steps m_now m_trial m_before m_kept m_works m_refusedSteps m_images m_spot m_begun m_doneSteps m_mixed m_fewest m_leastFees m_lots m_tars) H → va_S (zF g 64 580 s.heap.size) s.heap H locs → decode cX10_wordHere pc = .ok (.ireturn, 1) → W p l e R s m args below meth c H locs cells slots Q (F0 m pc ls [.int r0])) (hk8 : ∀ (m_at : Int32) (x1 : Int32) (x2 : Int32), k8 m_at x1 x2 = some res → ∀ (H : Heap) (locs : List Loc) (ls : Array Slot), va_P g.1 zcl (zM g m_thrown m_tape m_size m_place m_at m_fault m_faultAt m_clauses m_open m_fed m_refused m_readTold m_told m_readBeast m_beast m_readGate m_gate m_readList m_list m_lawMany m_readLawMany m_law m_readLaw m_stack m_known m_step m_steps m_now m_trial m_before m_kept m_works m_refusedSteps m_images m_spot m_begun m_doneSteps m_mixed m_fewest m_leastFees m_lots m_tars) H → va_S (zF g 64 580 s.heap.size) s.heap H locs → lv_has ls 3 [(0, .ref (g.2.1 64)), (1, .int x1), (2, .int x2)] → W p l e R s m args below meth c H locs cells slots Q (F0 m 8 ls [])) : ∀ (x2 : Int32) (s0 : Int32), pM_wordHere_54 N9 m_at k8 x2 s0 = some res → ∀ (H : Heap) (locs : List Loc) (ls : Array Slot), va_P g.1 zcl (zM g m_thrown m_tape m_size m_place m_at m_fault m_faultAt m_clauses m_open m_fed m_refused m_readTold m_told m_readBeast m_beast m_readGate m_gate m_readList m_list m_lawMany m_readLawMany m_law m_readLaw m_stack m_known m_step m_steps m_now m_trial m_before m_kept m_works m_refusedSteps m_images m_spot m_begun m_doneSteps m_mixed m_fewest m_leastFees m_lots m_tars) H → va_S (zF g 64 580 s.heap.size) s.heap H locs → lv_has ls 3 [(0, .ref (g.2.1 64)), (2, .int x2)] → W p l e R s m args below meth c H locs cells slots Q (F0 m 54 ls [.int s0]) := by
  obtain ⟨hx, hb, hr, hml, hown, hts, hK, hlk, hST⟩ := id hC
  have hB : ∀ q, (zF g 64 580 s.heap.size) q → zB g q := zF.base hI (Nat.le_of_ble_eq_true rfl) hST.1
  intro x2 s0 hf H locs ls hP hS hl
  unfold pM_wordHere_54 at hf
  refine lv_istore_n (lv' := [(1, .int s0), (0, .ref (g.2.1 64)), (2, .int x2)]) hx hb dX10_wordHere_54 rfl hl (by decide) rfl (fun ls hl => ?_)
  refine lv_iinc (v := x2 + 1) (lv' := [(2, .int (x2 + 1)), (1, .int s0), (0, .ref (g.2.1 64))]) hx hb dX10_wordHere_55 hl (k := 2) rfl rfl (by decide) rfl (fun ls hl => ?_)
  refine lv_goto (tgt := 8) hx hb dX10_wordHere_58 (by decide) ?_
  exact hk8 m_at s0 (x2 + 1) hf H locs ls hP hS (lv_sub hl [2, 1, 0] rfl)
set_option maxHeartbeats 4000000 in
set_option maxRecDepth 100000 in
theorem mpM_wordHere_72 {p : Program} {l : Launch} {e : Env} {R : Room} {s : State} {m : MethodId} {args : Array Value} {below : List Frame} {meth : Method} {c : Code} {cells slots : Nat} {Q : State → Prop} {g : zG} (hI : zI g 581) (hC : zC g RX10 cX10_wordHere 3 (some .int) p s m meth c args) (hR : 3 ≤ R.frames ∧ 60 * 3 ≤ R.locals ∧ cells ≤ R.cells ∧ slots ≤ R.slots) (m_thrown : Int32) (m_tape : Int32) (m_size : Int32) (m_place : Int32) (m_at : Int32) (m_fault : Int32) (m_faultAt : Int32) (m_clauses : Int32) (m_open : Int32) (m_fed : Nat → Int32) (m_refused : Nat → Int32) (m_readTold : Nat → Int32) (m_told : Nat → Int32) (m_readBeast : Nat → Nat → Int32) (m_beast : Nat → Nat → Int32) (m_readGate : Nat → Nat → Int32) (m_gate : Nat → Nat → Int32) (m_readList : Nat → Nat → Int32) (m_list : Nat → Nat → Int32) (m_lawMany : Int32) (m_readLawMany : Int32) (m_law : Nat → Nat → Int32) (m_readLaw : Nat → Nat → Int32) (m_stack : Nat → Int32) (m_known : Nat → Int32) (m_step : Nat → Nat → Int32) (m_steps : Int32) (m_now : Nat → Int32) (m_trial : Nat → Int32) (m_before : Nat → Nat → Int32) (m_kept : Nat → Nat → Int32) (m_works : Int32) (m_refusedSteps : Int32) (m_images : Int32) (m_spot : Int32) (m_begun : Int32) (m_doneSteps : Int32) (m_mixed : Nat → Int32) (m_fewest : Nat → Int32) (m_leastFees : Nat → Int32) (m_lots : Int32) (m_tars : Int32)  (N9 : Nat)   (res : Int32 × Int32) (hfin : ∀ (r0 : Int32) (m_at : Int32) (H : Heap) (locs : List Loc) (pc : Nat) (ls : Array Slot), (r0, m_at) = res → va_P g.1 zcl (zM g m_thrown m_tape m_size m_place m_at m_fault m_faultAt m_clauses m_open m_fed m_refused m_readTold m_told m_readBeast m_beast m_readGate m_gate m_readList m_list m_lawMany m_readLawMany m_law m_readLaw m_stack m_known m_step m_steps m_now m_trial m_before m_kept m_works m_refusedSteps m_images m_spot m_begun m_doneSteps m_mixed m_fewest m_leastFees m_lots m_tars) H → va_S (zF g 64 580 s.heap.size) s.heap H locs → decode cX10_wordHere pc = .ok (.ireturn, 1) → W p l e R s m args below meth c H locs cells slots Q (F0 m pc ls [.int r0])) : ∀ (s0 : Int32), pM_wordHere_72 N9 m_at s0 = some res → ∀ (H : Heap) (locs : List Loc) (ls : Array Slot), va_P g.1 zcl (zM g m_thrown m_tape m_size m_place m_at m_fault m_faultAt m_clauses m_open m_fed m_refused m_readTold m_told m_readBeast m_beast m_readGate m_gate m_readList m_list m_lawMany m_readLawMany m_law m_readLaw m_stack m_known m_step m_steps m_now m_trial m_before m_kept m_works m_refusedSteps m_images m_spot m_begun m_doneSteps m_mixed m_fewest m_leastFees m_lots m_tars) H → va_S (zF g 64 580 s.heap.size) s.heap H locs → lv_has ls 3 [] → W p l e R s m args below meth c H locs cells slots Q (F0 m 72 ls [.int s0]) := by
  obtain ⟨hx, hb, hr, hml, hown, hts, hK, hlk, hST⟩ := id hC
  have hB : ∀ q, (zF g 64 580 s.heap.size) q → zB g q := zF.base hI (Nat.le_of_ble_eq_true rfl) hST.1
  intro s0 hf H locs ls hP hS hl
  unfold pM_wordHere_72 at hf
  exact hfin _ _ H locs _ ls (Option.some.inj hf) hP hS dX10_wordHere_72
set_option maxHeartbeats 4000000 in
set_option maxRecDepth 100000 in
theorem mpM_wordHere_8 {p : Program} {l : Launch} {e : Env} {R : Room} {s : State} {m : MethodId} {args : Array Value} {below : List Frame} {meth : Method} {c : Code} {cells slots : Nat} {Q : State → Prop} {g : zG} (hI : zI g 581) (hC : zC g RX10 cX10_wordHere 3 (some .int) p s m meth c args) (hR : 3 ≤ R.frames ∧ 60 * 3 ≤ R.locals ∧ cells ≤ R.cells ∧ slots ≤ R.slots) (m_thrown : Int32) (m_tape : Int32) (m_size : Int32) (m_place : Int32) (m_fault : Int32) (m_faultAt : Int32) (m_clauses : Int32) (m_open : Int32) (m_fed : Nat → Int32) (m_refused : Nat → Int32) (m_readTold : Nat → Int32) (m_told : Nat → Int32) (m_readBeast : Nat → Nat → Int32) (m_beast : Nat → Nat → Int32) (m_readGate : Nat → Nat → Int32) (m_gate : Nat → Nat → Int32) (m_readList : Nat → Nat → Int32) (m_list : Nat → Nat → Int32) (m_lawMany : Int32) (m_readLawMany : Int32) (m_law : Nat → Nat → Int32) (m_readLaw : Nat → Nat → Int32) (m_stack : Nat → Int32) (m_known : Nat → Int32) (m_step : Nat → Nat → Int32) (m_steps : Int32) (m_now : Nat → Int32) (m_trial : Nat → Int32) (m_before : Nat → Nat → Int32) (m_kept : Nat → Nat → Int32) (m_works : Int32) (m_refusedSteps : Int32) (m_images : Int32) (m_spot : Int32) (m_begun : Int32) (m_doneSteps : Int32) (m_mixed : Nat → Int32) (m_fewest : Nat → Int32) (m_leastFees : Nat → Int32) (m_lots : Int32) (m_tars : Int32)  (N9 : Nat)   (res : Int32 × Int32) (hfin : ∀ (r0 : Int32) (m_at : Int32) (H : Heap) (locs : List Loc) (pc : Nat) (ls : Array Slot), (r0, m_at) = res → va_P g.1 zcl (zM g m_thrown m_tape m_size m_place m_at m_fault m_faultAt m_clauses m_open m_fed m_refused m_readTold m_told m_readBeast m_beast m_readGate m_gate m_readList m_list m_lawMany m_readLawMany m_law m_readLaw m_stack m_known m_step m_steps m_now m_trial m_before m_kept m_works m_refusedSteps m_images m_spot m_begun m_doneSteps m_mixed m_fewest m_leastFees m_lots m_tars) H → va_S (zF g 64 580 s.heap.size) s.heap H locs → decode cX10_wordHere pc = .ok (.ireturn, 1) → W p l e R s m args below meth c H locs cells slots Q (F0 m pc ls [.int r0])) : ∀ (n9 : Nat) (m_at : Int32) (x1 : Int32) (x2 : Int32), pM_wordHere_8 N9 m_size m_fed n9 m_at x1 x2 = some res → ∀ (H : Heap) (locs : List Loc) (ls : Array Slot), va_P g.1 zcl (zM g m_thrown m_tape m_size m_place m_at m_fault m_faultAt m_clauses m_open m_fed m_refused m_readTold m_told m_readBeast m_beast m_readGate m_gate m_readList m_list m_lawMany m_readLawMany m_law m_readLaw m_stack m_known m_step m_steps m_now m_trial m_before m_kept m_works m_refusedSteps m_images m_spot m_begun m_doneSteps m_mixed m_fewest m_leastFees m_lots m_tars) H → va_S (zF g 64 580 s.heap.size) s.heap H locs → lv_has ls 3 [(0, .ref (g.2.1 64)), (1, .int x1), (2, .int x2)] → W p l e R s m args below meth c H locs cells slots Q (F0 m 8 ls []) := by
  obtain ⟨hx, hb, hr, hml, hown, hts, hK, hlk, hST⟩ := id hC
  have hB : ∀ q, (zF g 64 580 s.heap.size) q → zB g q := zF.base hI (Nat.le_of_ble_eq_true rfl) hST.1
  intro n9
  induction n9 with
  | zero => intro m_at x1 x2 hf; cases hf
  | succ n9 ih =>
    intro m_at x1 x2 hf H locs ls hP hS hl
    have hk8 := ih
    have hk54 := mpM_wordHere_54 (l := l) (e := e) (R := R) (below := below) (cells := cells) (slots := slots) (Q := Q) hI hC hR m_thrown m_tape m_size m_place m_at m_fault m_faultAt m_clauses m_open m_fed m_refused m_readTold m_told m_readBeast m_beast m_readGate m_gate m_readList m_list m_lawMany m_readLawMany m_law m_readLaw m_stack m_known m_step m_steps m_now m_trial m_before m_kept m_works m_refusedSteps m_images m_spot m_begun m_doneSteps m_mixed m_fewest m_leastFees m_lots m_tars N9 (pM_wordHere_8 N9 m_size m_fed n9) res hfin hk8
    have hk72 := mpM_wordHere_72 (l := l) (e := e) (R := R) (below := below) (cells := cells) (slots := slots) (Q := Q) hI hC hR m_thrown m_tape m_size m_place m_at m_fault m_faultAt m_clauses m_open m_fed m_refused m_readTold m_told m_readBeast m_beast m_readGate m_gate m_readList m_list m_lawMany m_readLawMany m_law m_readLaw m_stack m_known m_step m_steps m_now m_trial m_before m_kept m_works m_refusedSteps m_images m_spot m_begun m_doneSteps m_mixed m_fewest m_leastFees m_lots m_tars N9 res hfin
    unfold pM_wordHere_8 at hf
    refine lv_aload_n hx hb dX10_wordHere_8 rfl (lv_at hl 0 rfl) ?_
    refine lv_aload_n hx hb dX10_wordHere_9 rfl (lv_at hl 0 rfl) ?_
    refine zg_m_at hC hP (hC.fl mw_1393) dX10_wordHere_10 ?_
    refine lv_iload_n hx hb dX10_wordHere_13 rfl (lv_at hl 2 rfl) ?_
    refine lv_iadd hx hb dX10_wordHere_14 ?_
    obtain ⟨r_1, hf_1, hf⟩ := zb1i hf
    refine zcallVi (As := [.int (m_at + x2)]) (rest := []) hC hP hS hB (fun q h => zF.mono hS.1 h) (cpM_byteAt l hI H.size m_thrown m_tape m_size m_place m_at m_fault m_faultAt m_clauses m_open m_fed m_refused m_readTold m_told m_readBeast m_beast m_readGate m_gate m_readList m_list m_lawMany m_readLawMany m_law m_readLaw m_stack m_known m_step m_steps m_now m_trial m_before m_kept m_works m_refusedSteps m_images m_spot m_begun m_doneSteps m_mixed m_fewest m_leastFees m_lots m_tars (m_at + x2) N9 hf_1) (hC.ml mw_1543) yo_X10_byteAt 0 (zfM rfl) rfl rfl rfl hl.1 rfl (Nat.le_of_ble_eq_true rfl) ⟨by omega, by omega⟩ hR.2.2 dX10_wordHere_15 (fun H locs hP hS _ _ => ?_)
    obtain ⟨r_2, hf_2, hf⟩ := zb1i hf
    refine zcallP (As := [.int r_1]) (rest := []) hC hS hB (cpM_isSmall l hI r_1 N9 hf_2) (hC.ml mw_1563) yo_X10_isSmall rfl hl.1 rfl (Nat.le_of_ble_eq_true rfl) ⟨by omega, by omega⟩ hR.2.2 dX10_wordHere_18 (fun H locs hPk hS _ => ?_)
    have hP := hPk _ _ _ hP
    refine lv_if_eq (tgt := 61) hx hb dX10_wordHere_21 (by decide) (fun hc_3 => ?_) (fun hc_3 => ?_)
    · have hf := zifp hc_3 hf
      refine lv_iload_n hx hb dX10_wordHere_61 rfl (lv_at hl 2 rfl) ?_
      refine lv_bipush (v := 6) hx hb dX10_wordHere_62 (by decide) ?_
      refine lv_icmp_le (tgt := 71) hx hb dX10_wordHere_64 (by decide) (fun hc_4 => ?_) (fun hc_4 => ?_)
      · have hf := zifp hc_4 hf
        refine lv_iload_n hx hb dX10_wordHere_71 rfl (lv_at hl 1 rfl) ?_
        exact hk72 x1 hf H locs ls hP hS (lv_sub hl [] rfl)
      · have hf := zifn hc_4 hf
        refine lv_iconst (v := (-1)) hx hb dX10_wordHere_67 (by decide) ?_
        refine lv_goto (tgt := 72) hx hb dX10_wordHere_68 (by decide) ?_
        exact hk72 (-1) hf H locs ls hP hS (lv_sub hl [] rfl)
    · have hf := zifn hc_3 hf
      refine lv_iload_n hx hb dX10_wordHere_24 rfl (lv_at hl 2 rfl) ?_
      refine lv_bipush (v := 6) hx hb dX10_wordHere_25 (by decide) ?_
      refine lv_icmp_ge (tgt := 53) hx hb dX10_wordHere_27 (by decide) (fun hc_5 => ?_) (fun hc_5 => ?_)
      · have hf := zifp hc_5 hf
        refine lv_iload_n hx hb dX10_wordHere_53 rfl (lv_at hl 1 rfl) ?_
        exact hk54 x2 x1 hf H locs ls hP hS (lv_sub hl [0, 2] rfl)
      · have hf := zifn hc_5 hf
        refine lv_bipush (v := 27) hx hb dX10_wordHere_30 (by decide) ?_
        refine lv_iload_n hx hb dX10_wordHere_32 rfl (lv_at hl 1 rfl) ?_
        refine lv_imul hx hb dX10_wordHere_33 ?_
        refine lv_aload_n hx hb dX10_wordHere_34 rfl (lv_at hl 0 rfl) ?_
        refine lv_aload_n hx hb dX10_wordHere_35 rfl (lv_at hl 0 rfl) ?_
        refine zg_m_at hC hP (hC.fl mw_1393) dX10_wordHere_36 ?_
        refine lv_iload_n hx hb dX10_wordHere_39 rfl (lv_at hl 2 rfl) ?_
        refine lv_iadd hx hb dX10_wordHere_40 ?_
        obtain ⟨r_6, hf_6, hf⟩ := zb1i hf
        refine zcallVi (As := [.int (m_at + x2)]) (rest := [.int (27 * x1)]) hC hP hS hB (fun q h => zF.mono hS.1 h) (cpM_byteAt l hI H.size m_thrown m_tape m_size m_place m_at m_fault m_faultAt m_clauses m_open m_fed m_refused m_readTold m_told m_readBeast m_beast m_readGate m_gate m_readList m_list m_lawMany m_readLawMany m_law m_readLaw m_stack m_known m_step m_steps m_now m_trial m_before m_kept m_works m_refusedSteps m_images m_spot m_begun m_doneSteps m_mixed m_fewest m_leastFees m_lots m_tars (m_at + x2) N9 hf_6) (hC.ml mw_1543) yo_X10_byteAt 0 (zfM rfl) rfl rfl rfl hl.1 rfl (Nat.le_of_ble_eq_true rfl) ⟨by omega, by omega⟩ hR.2.2 dX10_wordHere_41 (fun H locs hP hS _ _ => ?_)
        refine lv_iadd hx hb dX10_wordHere_44 ?_
        refine lv_bipush (v := 97) hx hb dX10_wordHere_45 (by decide) ?_
        refine lv_isub hx hb dX10_wordHere_47 ?_
        refine lv_iconst (v := 1) hx hb dX10_wordHere_48 (by decide) ?_
        refine lv_iadd hx hb dX10_wordHere_49 ?_
        refine lv_goto (tgt := 54) hx hb dX10_wordHere_50 (by decide) ?_
        exact hk54 x2 ((((27 * x1) + r_6) - 97) + 1) hf H locs ls hP hS (lv_sub hl [0, 2] rfl)
set_option maxHeartbeats 4000000 in
set_option maxRecDepth 100000 in
theorem mpM_wordHere {p : Program} {l : Launch} {e : Env} {R : Room} {s : State} {m : MethodId} {args : Array Value} {below : List Frame} {meth : Method} {c : Code} {cells slots : Nat} {Q : State → Prop} {g : zG} (hI : zI g 581) (hC : zC g RX10 cX10_wordHere 3 (some .int) p s m meth c args) (hR : 3 ≤ R.frames ∧ 60 * 3 ≤ R.locals ∧ cells ≤ R.cells ∧ slots ≤ R.slots) (m_thrown : Int32) (m_tape : Int32) (m_size : Int32) (m_place : Int32) (m_at : Int32) (m_fault : Int32) (m_faultAt : Int32) (m_clauses : Int32) (m_open : Int32) (m_fed : Nat → Int32) (m_refused : Nat → Int32) (m_readTold : Nat → Int32) (m_told : Nat → Int32) (m_readBeast : Nat → Nat → Int32) (m_beast : Nat → Nat → Int32) (m_readGate : Nat → Nat → Int32) (m_gate : Nat → Nat → Int32) (m_readList : Nat → Nat → Int32) (m_list : Nat → Nat → Int32) (m_lawMany : Int32) (m_readLawMany : Int32) (m_law : Nat → Nat → Int32) (m_readLaw : Nat → Nat → Int32) (m_stack : Nat → Int32) (m_known : Nat → Int32) (m_step : Nat → Nat → Int32) (m_steps : Int32) (m_now : Nat → Int32) (m_trial : Nat → Int32) (m_before : Nat → Nat → Int32) (m_kept : Nat → Nat → Int32) (m_works : Int32) (m_refusedSteps : Int32) (m_images : Int32) (m_spot : Int32) (m_begun : Int32) (m_doneSteps : Int32) (m_mixed : Nat → Int32) (m_fewest : Nat → Int32) (m_leastFees : Nat → Int32) (m_lots : Int32) (m_tars : Int32)  (N9 : Nat)   (res : Int32 × Int32) (hfin : ∀ (r0 : Int32) (m_at : Int32) (H : Heap) (locs : List Loc) (pc : Nat) (ls : Array Slot), (r0, m_at) = res → va_P g.1 zcl (zM g m_thrown m_tape m_size m_place m_at m_fault m_faultAt m_clauses m_open m_fed m_refused m_readTold m_told m_readBeast m_beast m_readGate m_gate m_readList m_list m_lawMany m_readLawMany m_law m_readLaw m_stack m_known m_step m_steps m_now m_trial m_before m_kept m_works m_refusedSteps m_images m_spot m_begun m_doneSteps m_mixed m_fewest m_leastFees m_lots m_tars) H → va_S (zF g 64 580 s.heap.size) s.heap H locs → decode cX10_wordHere pc = .ok (.ireturn, 1) → W p l e R s m args below meth c H locs cells slots Q (F0 m pc ls [.int r0])) : pM_wordHere N9 m_size m_at m_fed = some res → ∀ (H : Heap) (locs : List Loc) (ls : Array Slot), va_P g.1 zcl (zM g m_thrown m_tape m_size m_place m_at m_fault m_faultAt m_clauses m_open m_fed m_refused m_readTold m_told m_readBeast m_beast m_readGate m_gate m_readList m_list m_lawMany m_readLawMany m_law m_readLaw m_stack m_known m_step m_steps m_now m_trial m_before m_kept m_works m_refusedSteps m_images m_spot m_begun m_doneSteps m_mixed m_fewest m_leastFees m_lots m_tars) H → va_S (zF g 64 580 s.heap.size) s.heap H locs → lv_has ls 3 [(0, .ref (g.2.1 64))] → W p l e R s m args below meth c H locs cells slots Q (F0 m 0 ls []) := by
  obtain ⟨hx, hb, hr, hml, hown, hts, hK, hlk, hST⟩ := id hC
  have hB : ∀ q, (zF g 64 580 s.heap.size) q → zB g q := zF.base hI (Nat.le_of_ble_eq_true rfl) hST.1
  intro  hf H locs ls hP hS hl
  have hk8 := mpM_wordHere_8 (l := l) (e := e) (R := R) (below := below) (cells := cells) (slots := slots) (Q := Q) hI hC hR m_thrown m_tape m_size m_place m_fault m_faultAt m_clauses m_open m_fed m_refused m_readTold m_told m_readBeast m_beast m_readGate m_gate m_readList m_list m_lawMany m_readLawMany m_law m_readLaw m_stack m_known m_step m_steps m_now m_trial m_before m_kept m_works m_refusedSteps m_images m_spot m_begun m_doneSteps m_mixed m_fewest m_leastFees m_lots m_tars N9 res hfin N9
  unfold pM_wordHere at hf
  refine lv_aload_n hx hb dX10_wordHere_0 rfl (lv_at hl 0 rfl) ?_
  obtain ⟨m_at_7, hf_7, hf⟩ := zb1i hf
  refine zcallVv (As := []) (rest := []) hC hP hS hB (fun q h => zF.mono hS.1 h) (cpM_blanks l hI H.size m_thrown m_tape m_size m_place m_at m_fault m_faultAt m_clauses m_open m_fed m_refused m_readTold m_told m_readBeast m_beast m_readGate m_gate m_readList m_list m_lawMany m_readLawMany m_law m_readLaw m_stack m_known m_step m_steps m_now m_trial m_before m_kept m_works m_refusedSteps m_images m_spot m_begun m_doneSteps m_mixed m_fewest m_leastFees m_lots m_tars  N9 hf_7) (hC.ml mw_1539) yo_X10_blanks 0 (zfM rfl) rfl rfl rfl hl.1 rfl (Nat.le_of_ble_eq_true rfl) ⟨by omega, by omega⟩ hR.2.2 dX10_wordHere_1 (fun H locs hP hS _ _ => ?_)
  refine lv_iconst (v := 0) hx hb dX10_wordHere_4 (by decide) ?_
  refine lv_istore_n (lv' := [(1, .int 0), (0, .ref (g.2.1 64))]) hx hb dX10_wordHere_5 rfl hl (by decide) rfl (fun ls hl => ?_)
  refine lv_iconst (v := 0) hx hb dX10_wordHere_6 (by decide) ?_
  refine lv_istore_n (lv' := [(2, .int 0), (1, .int 0), (0, .ref (g.2.1 64))]) hx hb dX10_wordHere_7 rfl hl (by decide) rfl (fun ls hl => ?_)
  exact hk8 m_at_7 0 0 hf H locs ls hP hS (lv_sub hl [2, 1, 0] rfl)
set_option maxHeartbeats 4000000 in
set_option maxRecDepth 100000 in
theorem cpM_wordHere (l : Launch) {g : zG} (hI : zI g 581) (sz : Nat) (m_thrown : Int32) (m_tape : Int32) (m_size : Int32) (m_place : Int32) (m_at : Int32) (m_fault : Int32) (m_faultAt : Int32) (m_clauses : Int32) (m_open : Int32) (m_fed : Nat → Int32) (m_refused : Nat → Int32) (m_readTold : Nat → Int32) (m_told : Nat → Int32) (m_readBeast : Nat → Nat → Int32) (m_beast : Nat → Nat → Int32) (m_readGate : Nat → Nat → Int32) (m_gate : Nat → Nat → Int32) (m_readList : Nat → Nat → Int32) (m_list : Nat → Nat → Int32) (m_lawMany : Int32) (m_readLawMany : Int32) (m_law : Nat → Nat → Int32) (m_readLaw : Nat → Nat → Int32) (m_stack : Nat → Int32) (m_known : Nat → Int32) (m_step : Nat → Nat → Int32) (m_steps : Int32) (m_now : Nat → Int32) (m_trial : Nat → Int32) (m_before : Nat → Nat → Int32) (m_kept : Nat → Nat → Int32) (m_works : Int32) (m_refusedSteps : Int32) (m_images : Int32) (m_spot : Int32) (m_begun : Int32) (m_doneSteps : Int32) (m_mixed : Nat → Int32) (m_fewest : Nat → Int32) (m_leastFees : Nat → Int32) (m_lots : Int32) (m_tars : Int32) (N9 : Nat) {r0 : Int32} {m_at' : Int32} (hf : pM_wordHere N9  m_size m_at m_fed = some (r0, m_at')) : zMi l yX10_wordHere cX10_wordHere 3 (some .int) 3 g (zM g m_thrown m_tape m_size m_place m_at m_fault m_faultAt m_clauses m_open m_fed m_refused m_readTold m_told m_readBeast m_beast m_readGate m_gate m_readList m_list m_lawMany m_readLawMany m_law m_readLaw m_stack m_known m_step m_steps m_now m_trial m_before m_kept m_works m_refusedSteps m_images m_spot m_begun m_doneSteps m_mixed m_fewest m_leastFees m_lots m_tars) (zM g m_thrown m_tape m_size m_place m_at' m_fault m_faultAt m_clauses m_open m_fed m_refused m_readTold m_told m_readBeast m_beast m_readGate m_gate m_readList m_list m_lawMany m_readLawMany m_law m_readLaw m_stack m_known m_step m_steps m_now m_trial m_before m_kept m_works m_refusedSteps m_images m_spot m_begun m_doneSteps m_mixed m_fewest m_leastFees m_lots m_tars) sz (zF g 64 580 sz) [.ref (g.2.1 64)] r0 := by
  refine Met.ofW (cc := cX10_wordHere) (maxL := 3) (ret := (some .int)) (by decide +kernel) rfl ?_
  intro p e s m args below meth c s₁ B hml hv
  obtain ⟨rfl, hsz, hP, hK, hST⟩ := hv
  subst hsz
  have hC := zstart (own := RX10) rfl B hml hK hST
  have hl := lv_entry ([.ref (g.2.1 64)]) (n := 3) (Nat.le_of_ble_eq_true rfl)
  rw [lg_entry_eq]
  generalize (lg_sl ([.ref (g.2.1 64)]) ++ List.replicate (3 - (lg_sl ([.ref (g.2.1 64)])).length) Slot.unset).toArray = ls at hl ⊢
  have hl : lv_has ls 3 [(0, .ref (g.2.1 64))] := hl
  obtain ⟨hx, hb, hr, hml, hown, hts, hK, hlk, hST⟩ := id hC
  refine mpM_wordHere hI hC ⟨Nat.le_refl _, Nat.le_refl _, Nat.le_refl _, Nat.le_refl _⟩ m_thrown m_tape m_size m_place m_at m_fault m_faultAt m_clauses m_open m_fed m_refused m_readTold m_told m_readBeast m_beast m_readGate m_gate m_readList m_list m_lawMany m_readLawMany m_law m_readLaw m_stack m_known m_step m_steps m_now m_trial m_before m_kept m_works m_refusedSteps m_images m_spot m_begun m_doneSteps m_mixed m_fewest m_leastFees m_lots m_tars N9 (r0, m_at') ?_ hf _ _ ls hP va_S.rf hl
  intro r1 m_at1 H locs pc ls he hP hS hd
  cases he
  exact W.iret hx hb hr (fun t ht hW => ⟨⟨_, (), rfl, rfl, by rw [← ht] at hP; exact hP⟩, hS.F ht⟩) hS.2.2 hd hlk
/-! StripeTradeModel.six (IIIIII)I [] -/
set_option maxHeartbeats 4000000 in
set_option maxRecDepth 100000 in
theorem mpM_six_69 {p : Program} {l : Launch} {e : Env} {R : Room} {s : State} {m : MethodId} {args : Array Value} {below : List Frame} {meth : Method} {c : Code} {cells slots : Nat} {Q : State → Prop} {g : zG} (hI : zI g 581) (hC : zC g RX10 cX10_six 7 (some .int) p s m meth c args) (hR : 1 ≤ R.frames ∧ 60 * 1 ≤ R.locals ∧ cells ≤ R.cells ∧ slots ≤ R.slots)   (N9 : Nat)   (res : Int32) (hfin : ∀ (r0 : Int32) (H : Heap) (locs : List Loc) (pc : Nat) (ls : Array Slot), r0 = res → True → va_S (fun _ => False) s.heap H locs → decode cX10_six pc = .ok (.ireturn, 1) → W p l e R s m args below meth c H locs cells slots Q (F0 m pc ls [.int r0])) : ∀ (s0 : Int32), pM_six_69 N9 s0 = some res → ∀ (H : Heap) (locs : List Loc) (ls : Array Slot), True → va_S (fun _ => False) s.heap H locs → lv_has ls 7 [] → W p l e R s m args below meth c H locs cells slots Q (F0 m 69 ls [.int s0]) := by
  obtain ⟨hx, hb, hr, hml, hown, hts, hK, hlk, hST⟩ := id hC
  have hB : ∀ q, (fun _ => False) q → zB g q := fun q h => h.elim
  intro s0 hf H locs ls hP hS hl
  unfold pM_six_69 at hf
  exact hfin _ H locs _ ls (Option.some.inj hf) hP hS dX10_six_69
set_option maxHeartbeats 4000000 in
set_option maxRecDepth 100000 in
theorem mpM_six_49 {p : Program} {l : Launch} {e : Env} {R : Room} {s : State} {m : MethodId} {args : Array Value} {below : List Frame} {meth : Method} {c : Code} {cells slots : Nat} {Q : State → Prop} {g : zG} (hI : zI g 581) (hC : zC g RX10 cX10_six 7 (some .int) p s m meth c args) (hR : 1 ≤ R.frames ∧ 60 * 1 ≤ R.locals ∧ cells ≤ R.cells ∧ slots ≤ R.slots)  (x5 : Int32) (N9 : Nat)   (res : Int32) (hfin : ∀ (r0 : Int32) (H : Heap) (locs : List Loc) (pc : Nat) (ls : Array Slot), r0 = res → True → va_S (fun _ => False) s.heap H locs → decode cX10_six pc = .ok (.ireturn, 1) → W p l e R s m args below meth c H locs cells slots Q (F0 m pc ls [.int r0])) : ∀ (s0 : Int32), pM_six_49 N9 x5 s0 = some res → ∀ (H : Heap) (locs : List Loc) (ls : Array Slot), True → va_S (fun _ => False) s.heap H locs → lv_has ls 7 [(5, .int x5)] → W p l e R s m args below meth c H locs cells slots Q (F0 m 49 ls [.int s0]) := by
  obtain ⟨hx, hb, hr, hml, hown, hts, hK, hlk, hST⟩ := id hC
  have hB : ∀ q, (fun _ => False) q → zB g q := fun q h => h.elim
  intro s0 hf H locs ls hP hS hl
  have hk69 := mpM_six_69 (l := l) (e := e) (R := R) (below := below) (cells := cells) (slots := slots) (Q := Q) hI hC hR N9 res hfin
  unfold pM_six_49 at hf
  refine lv_istore (lv' := [(6, .int s0), (5, .int x5)]) hx hb dX10_six_49 hl (by decide) rfl (fun ls hl => ?_)
  refine lv_iload hx hb dX10_six_51 (lv_at hl 1 rfl) ?_
  refine lv_if_ne (tgt := 61) hx hb dX10_six_53 (by decide) (fun hc_1 => ?_) (fun hc_1 => ?_)
  · have hf := zifn hc_1 hf
    refine lv_bipush (v := 27) hx hb dX10_six_61 (by decide) ?_
    refine lv_iload hx hb dX10_six_63 (lv_at hl 0 rfl) ?_
    refine lv_imul hx hb dX10_six_65 ?_
    refine lv_iload hx hb dX10_six_66 (lv_at hl 1 rfl) ?_
    refine lv_iadd hx hb dX10_six_68 ?_
    exact hk69 ((27 * s0) + x5) hf H locs ls hP hS (lv_sub hl [] rfl)
  · have hf := zifp hc_1 hf
    refine lv_iload hx hb dX10_six_56 (lv_at hl 0 rfl) ?_
    refine lv_goto (tgt := 69) hx hb dX10_six_58 (by decide) ?_
    exact hk69 s0 hf H locs ls hP hS (lv_sub hl [] rfl)
set_option maxHeartbeats 4000000 in
set_option maxRecDepth 100000 in
theorem mpM_six_29 {p : Program} {l : Launch} {e : Env} {R : Room} {s : State} {m : MethodId} {args : Array Value} {below : List Frame} {meth : Method} {c : Code} {cells slots : Nat} {Q : State → Prop} {g : zG} (hI : zI g 581) (hC : zC g RX10 cX10_six 7 (some .int) p s m meth c args) (hR : 1 ≤ R.frames ∧ 60 * 1 ≤ R.locals ∧ cells ≤ R.cells ∧ slots ≤ R.slots)  (x4 : Int32) (x5 : Int32) (N9 : Nat)   (res : Int32) (hfin : ∀ (r0 : Int32) (H : Heap) (locs : List Loc) (pc : Nat) (ls : Array Slot), r0 = res → True → va_S (fun _ => False) s.heap H locs → decode cX10_six pc = .ok (.ireturn, 1) → W p l e R s m args below meth c H locs cells slots Q (F0 m pc ls [.int r0])) : ∀ (s0 : Int32), pM_six_29 N9 x4 x5 s0 = some res → ∀ (H : Heap) (locs : List Loc) (ls : Array Slot), True → va_S (fun _ => False) s.heap H locs → lv_has ls 7 [(4, .int x4), (5, .int x5)] → W p l e R s m args below meth c H locs cells slots Q (F0 m 29 ls [.int s0]) := by
  obtain ⟨hx, hb, hr, hml, hown, hts, hK, hlk, hST⟩ := id hC
  have hB : ∀ q, (fun _ => False) q → zB g q := fun q h => h.elim
  intro s0 hf H locs ls hP hS hl
  have hk49 := mpM_six_49 (l := l) (e := e) (R := R) (below := below) (cells := cells) (slots := slots) (Q := Q) hI hC hR x5 N9 res hfin
  unfold pM_six_29 at hf
  refine lv_istore (lv' := [(6, .int s0), (4, .int x4), (5, .int x5)]) hx hb dX10_six_29 hl (by decide) rfl (fun ls hl => ?_)
  refine lv_iload hx hb dX10_six_31 (lv_at hl 1 rfl) ?_
  refine lv_if_ne (tgt := 41) hx hb dX10_six_33 (by decide) (fun hc_2 => ?_) (fun hc_2 => ?_)
  · have hf := zifn hc_2 hf
    refine lv_bipush (v := 27) hx hb dX10_six_41 (by decide) ?_
    refine lv_iload hx hb dX10_six_43 (lv_at hl 0 rfl) ?_
    refine lv_imul hx hb dX10_six_45 ?_
    refine lv_iload hx hb dX10_six_46 (lv_at hl 1 rfl) ?_
    refine lv_iadd hx hb dX10_six_48 ?_
    exact hk49 ((27 * s0) + x4) hf H locs ls hP hS (lv_sub hl [2] rfl)
  · have hf := zifp hc_2 hf
    refine lv_iload hx hb dX10_six_36 (lv_at hl 0 rfl) ?_
    refine lv_goto (tgt := 49) hx hb dX10_six_38 (by decide) ?_
    exact hk49 s0 hf H locs ls hP hS (lv_sub hl [2] rfl)
set_option maxHeartbeats 4000000 in
set_option maxRecDepth 100000 in
theorem mpM_six {p : Program} {l : Launch} {e : Env} {R : Room} {s : State} {m : MethodId} {args : Array Value} {below : List Frame} {meth : Method} {c : Code} {cells slots : Nat} {Q : State → Prop} {g : zG} (hI : zI g 581) (hC : zC g RX10 cX10_six 7 (some .int) p s m meth c args) (hR : 1 ≤ R.frames ∧ 60 * 1 ≤ R.locals ∧ cells ≤ R.cells ∧ slots ≤ R.slots)  (x0 : Int32) (x1 : Int32) (x2 : Int32) (x3 : Int32) (x4 : Int32) (x5 : Int32) (N9 : Nat)   (res : Int32) (hfin : ∀ (r0 : Int32) (H : Heap) (locs : List Loc) (pc : Nat) (ls : Array Slot), r0 = res → True → va_S (fun _ => False) s.heap H locs → decode cX10_six pc = .ok (.ireturn, 1) → W p l e R s m args below meth c H locs cells slots Q (F0 m pc ls [.int r0])) : pM_six N9 x0 x1 x2 x3 x4 x5 = some res → ∀ (H : Heap) (locs : List Loc) (ls : Array Slot), True → va_S (fun _ => False) s.heap H locs → lv_has ls 7 [(0, .int x0), (1, .int x1), (2, .int x2), (3, .int x3), (4, .int x4), (5, .int x5)] → W p l e R s m args below meth c H locs cells slots Q (F0 m 0 ls []) := by
  obtain ⟨hx, hb, hr, hml, hown, hts, hK, hlk, hST⟩ := id hC
  have hB : ∀ q, (fun _ => False) q → zB g q := fun q h => h.elim
  intro  hf H locs ls hP hS hl
  have hk29 := mpM_six_29 (l := l) (e := e) (R := R) (below := below) (cells := cells) (slots := slots) (Q := Q) hI hC hR x4 x5 N9 res hfin
  unfold pM_six at hf
  refine lv_bipush (v := 27) hx hb dX10_six_0 (by decide) ?_
  refine lv_bipush (v := 27) hx hb dX10_six_2 (by decide) ?_
  refine lv_iload_n hx hb dX10_six_4 rfl (lv_at hl 0 rfl) ?_
  refine lv_imul hx hb dX10_six_5 ?_
  refine lv_iload_n hx hb dX10_six_6 rfl (lv_at hl 1 rfl) ?_
  refine lv_iadd hx hb dX10_six_7 ?_
  refine lv_imul hx hb dX10_six_8 ?_
  refine lv_iload_n hx hb dX10_six_9 rfl (lv_at hl 2 rfl) ?_
  refine lv_iadd hx hb dX10_six_10 ?_
  refine lv_topi (fun v_3 ev_3 => ?_)
  have hf := zleti ev_3 hf
  refine lv_istore (lv' := [(6, .int v_3), (0, .int x0), (1, .int x1), (2, .int x2), (3, .int x3), (4, .int x4), (5, .int x5)]) hx hb dX10_six_11 hl (by decide) rfl (fun ls hl => ?_)
  refine lv_iload_n hx hb dX10_six_13 rfl (lv_at hl 4 rfl) ?_
  refine lv_if_ne (tgt := 22) hx hb dX10_six_14 (by decide) (fun hc_4 => ?_) (fun hc_4 => ?_)
  · have hf := zifn hc_4 hf
    refine lv_bipush (v := 27) hx hb dX10_six_22 (by decide) ?_
    refine lv_iload hx hb dX10_six_24 (lv_at hl 0 rfl) ?_
    refine lv_imul hx hb dX10_six_26 ?_
    refine lv_iload_n hx hb dX10_six_27 rfl (lv_at hl 4 rfl) ?_
    refine lv_iadd hx hb dX10_six_28 ?_
    exact hk29 ((27 * v_3) + x3) hf H locs ls hP hS (lv_sub hl [5, 6] rfl)
  · have hf := zifp hc_4 hf
    refine lv_iload hx hb dX10_six_17 (lv_at hl 0 rfl) ?_
    refine lv_goto (tgt := 29) hx hb dX10_six_19 (by decide) ?_
    exact hk29 v_3 hf H locs ls hP hS (lv_sub hl [5, 6] rfl)
set_option maxHeartbeats 4000000 in
set_option maxRecDepth 100000 in
theorem cpM_six (l : Launch) {g : zG} (hI : zI g 581)  (x0 : Int32)  (x1 : Int32)  (x2 : Int32)  (x3 : Int32)  (x4 : Int32)  (x5 : Int32) (N9 : Nat) {r0 : Int32} (hf : pM_six N9  x0 x1 x2 x3 x4 x5 = some r0) : zMp l yX10_six cX10_six 7 (some .int) 1 g [.int x0, .int x1, .int x2, .int x3, .int x4, .int x5] r0 := by
  refine Met.ofW (cc := cX10_six) (maxL := 7) (ret := (some .int)) (by decide +kernel) rfl ?_
  intro p e s m args below meth c s₁ B hml hv
  obtain ⟨rfl, hK, hST⟩ := hv
  have hP : True := trivial
  have hC := zstart (own := RX10) rfl B hml hK hST
  have hl := lv_entry ([.int x0, .int x1, .int x2, .int x3, .int x4, .int x5]) (n := 7) (Nat.le_of_ble_eq_true rfl)
  rw [lg_entry_eq]
  generalize (lg_sl ([.int x0, .int x1, .int x2, .int x3, .int x4, .int x5]) ++ List.replicate (7 - (lg_sl ([.int x0, .int x1, .int x2, .int x3, .int x4, .int x5])).length) Slot.unset).toArray = ls at hl ⊢
  have hl : lv_has ls 7 [(0, .int x0), (1, .int x1), (2, .int x2), (3, .int x3), (4, .int x4), (5, .int x5)] := hl
  obtain ⟨hx, hb, hr, hml, hown, hts, hK, hlk, hST⟩ := id hC
  refine mpM_six hI hC ⟨Nat.le_refl _, Nat.le_refl _, Nat.le_refl _, Nat.le_refl _⟩ x0 x1 x2 x3 x4 x5 N9 r0 ?_ hf _ _ ls hP va_S.rf hl
  intro r1 H locs pc ls he hP hS hd
  cases he
  exact W.iret hx hb hr (fun t ht hW => ⟨⟨_, (), rfl, rfl, trivial⟩, hS.F ht⟩) hS.2.2 hd hlk
/-! StripeTradeModel.isWord (IIIIII)Z [('obj', 'm')] -/
set_option maxHeartbeats 4000000 in
set_option maxRecDepth 100000 in
theorem mpM_isWord_31 {p : Program} {l : Launch} {e : Env} {R : Room} {s : State} {m : MethodId} {args : Array Value} {below : List Frame} {meth : Method} {c : Code} {cells slots : Nat} {Q : State → Prop} {g : zG} (hI : zI g 581) (hC : zC g RX10 cX10_isWord 7 (some .boolean) p s m meth c args) (hR : 5 ≤ R.frames ∧ 60 * 5 ≤ R.locals ∧ cells ≤ R.cells ∧ slots ≤ R.slots) (m_thrown : Int32) (m_tape : Int32) (m_size : Int32) (m_place : Int32) (m_fault : Int32) (m_faultAt : Int32) (m_clauses : Int32) (m_open : Int32) (m_fed : Nat → Int32) (m_refused : Nat → Int32) (m_readTold : Nat → Int32) (m_told : Nat → Int32) (m_readBeast : Nat → Nat → Int32) (m_beast : Nat → Nat → Int32) (m_readGate : Nat → Nat → Int32) (m_gate : Nat → Nat → Int32) (m_readList : Nat → Nat → Int32) (m_list : Nat → Nat → Int32) (m_lawMany : Int32) (m_readLawMany : Int32) (m_law : Nat → Nat → Int32) (m_readLaw : Nat → Nat → Int32) (m_stack : Nat → Int32) (m_known : Nat → Int32) (m_step : Nat → Nat → Int32) (m_steps : Int32) (m_now : Nat → Int32) (m_trial : Nat → Int32) (m_before : Nat → Nat → Int32) (m_kept : Nat → Nat → Int32) (m_works : Int32) (m_refusedSteps : Int32) (m_images : Int32) (m_spot : Int32) (m_begun : Int32) (m_doneSteps : Int32) (m_mixed : Nat → Int32) (m_fewest : Nat → Int32) (m_leastFees : Nat → Int32) (m_lots : Int32) (m_tars : Int32)  (N9 : Nat)   (res : Int32 × Int32) (hfin : ∀ (r0 : Int32) (m_at : Int32) (H : Heap) (locs : List Loc) (pc : Nat) (ls : Array Slot), (r0, m_at) = res → r0 &&& 1 = r0 → va_P g.1 zcl (zM g m_thrown m_tape m_size m_place m_at m_fault m_faultAt m_clauses m_open m_fed m_refused m_readTold m_told m_readBeast m_beast m_readGate m_gate m_readList m_list m_lawMany m_readLawMany m_law m_readLaw m_stack m_known m_step m_steps m_now m_trial m_before m_kept m_works m_refusedSteps m_images m_spot m_begun m_doneSteps m_mixed m_fewest m_leastFees m_lots m_tars) H → va_S (zF g 64 580 s.heap.size) s.heap H locs → decode cX10_isWord pc = .ok (.ireturn, 1) → W p l e R s m args below meth c H locs cells slots Q (F0 m pc ls [.int r0])) : ∀ (m_at : Int32) (s0 : Int32), pM_isWord_31 N9 m_at s0 = some res → ∀ (H : Heap) (locs : List Loc) (ls : Array Slot), va_P g.1 zcl (zM g m_thrown m_tape m_size m_place m_at m_fault m_faultAt m_clauses m_open m_fed m_refused m_readTold m_told m_readBeast m_beast m_readGate m_gate m_readList m_list m_lawMany m_readLawMany m_law m_readLaw m_stack m_known m_step m_steps m_now m_trial m_before m_kept m_works m_refusedSteps m_images m_spot m_begun m_doneSteps m_mixed m_fewest m_leastFees m_lots m_tars) H → va_S (zF g 64 580 s.heap.size) s.heap H locs → lv_has ls 7 [] → W p l e R s m args below meth c H locs cells slots Q (F0 m 31 ls [.int s0]) := by
  obtain ⟨hx, hb, hr, hml, hown, hts, hK, hlk, hST⟩ := id hC
  have hB : ∀ q, (zF g 64 580 s.heap.size) q → zB g q := zF.base hI (Nat.le_of_ble_eq_true rfl) hST.1
  intro m_at s0 hf H locs ls hP hS hl
  unfold pM_isWord_31 at hf
  obtain ⟨hz9, hf⟩ := zite hf
  exact hfin _ _ H locs _ ls (Option.some.inj hf) hz9 hP hS dX10_isWord_31
set_option maxHeartbeats 4000000 in
set_option maxRecDepth 100000 in
theorem mpM_isWord_30 {p : Program} {l : Launch} {e : Env} {R : Room} {s : State} {m : MethodId} {args : Array Value} {below : List Frame} {meth : Method} {c : Code} {cells slots : Nat} {Q : State → Prop} {g : zG} (hI : zI g 581) (hC : zC g RX10 cX10_isWord 7 (some .boolean) p s m meth c args) (hR : 5 ≤ R.frames ∧ 60 * 5 ≤ R.locals ∧ cells ≤ R.cells ∧ slots ≤ R.slots) (m_thrown : Int32) (m_tape : Int32) (m_size : Int32) (m_place : Int32) (m_fault : Int32) (m_faultAt : Int32) (m_clauses : Int32) (m_open : Int32) (m_fed : Nat → Int32) (m_refused : Nat → Int32) (m_readTold : Nat → Int32) (m_told : Nat → Int32) (m_readBeast : Nat → Nat → Int32) (m_beast : Nat → Nat → Int32) (m_readGate : Nat → Nat → Int32) (m_gate : Nat → Nat → Int32) (m_readList : Nat → Nat → Int32) (m_list : Nat → Nat → Int32) (m_lawMany : Int32) (m_readLawMany : Int32) (m_law : Nat → Nat → Int32) (m_readLaw : Nat → Nat → Int32) (m_stack : Nat → Int32) (m_known : Nat → Int32) (m_step : Nat → Nat → Int32) (m_steps : Int32) (m_now : Nat → Int32) (m_trial : Nat → Int32) (m_before : Nat → Nat → Int32) (m_kept : Nat → Nat → Int32) (m_works : Int32) (m_refusedSteps : Int32) (m_images : Int32) (m_spot : Int32) (m_begun : Int32) (m_doneSteps : Int32) (m_mixed : Nat → Int32) (m_fewest : Nat → Int32) (m_leastFees : Nat → Int32) (m_lots : Int32) (m_tars : Int32)  (N9 : Nat)  (k31 : Int32 → Int32 → Option (Int32 × Int32)) (res : Int32 × Int32) (hfin : ∀ (r0 : Int32) (m_at : Int32) (H : Heap) (locs : List Loc) (pc : Nat) (ls : Array Slot), (r0, m_at) = res → r0 &&& 1 = r0 → va_P g.1 zcl (zM g m_thrown m_tape m_size m_place m_at m_fault m_faultAt m_clauses m_open m_fed m_refused m_readTold m_told m_readBeast m_beast m_readGate m_gate m_readList m_list m_lawMany m_readLawMany m_law m_readLaw m_stack m_known m_step m_steps m_now m_trial m_before m_kept m_works m_refusedSteps m_images m_spot m_begun m_doneSteps m_mixed m_fewest m_leastFees m_lots m_tars) H → va_S (zF g 64 580 s.heap.size) s.heap H locs → decode cX10_isWord pc = .ok (.ireturn, 1) → W p l e R s m args below meth c H locs cells slots Q (F0 m pc ls [.int r0])) (hk31 : ∀ (m_at : Int32) (s0 : Int32), k31 m_at s0 = some res → ∀ (H : Heap) (locs : List Loc) (ls : Array Slot), va_P g.1 zcl (zM g m_thrown m_tape m_size m_place m_at m_fault m_faultAt m_clauses m_open m_fed m_refused m_readTold m_told m_readBeast m_beast m_readGate m_gate m_readList m_list m_lawMany m_readLawMany m_law m_readLaw m_stack m_known m_step m_steps m_now m_trial m_before m_kept m_works m_refusedSteps m_images m_spot m_begun m_doneSteps m_mixed m_fewest m_leastFees m_lots m_tars) H → va_S (zF g 64 580 s.heap.size) s.heap H locs → lv_has ls 7 [] → W p l e R s m args below meth c H locs cells slots Q (F0 m 31 ls [.int s0])) : ∀ (m_at : Int32), pM_isWord_30 N9 k31 m_at = some res → ∀ (H : Heap) (locs : List Loc) (ls : Array Slot), va_P g.1 zcl (zM g m_thrown m_tape m_size m_place m_at m_fault m_faultAt m_clauses m_open m_fed m_refused m_readTold m_told m_readBeast m_beast m_readGate m_gate m_readList m_list m_lawMany m_readLawMany m_law m_readLaw m_stack m_known m_step m_steps m_now m_trial m_before m_kept m_works m_refusedSteps m_images m_spot m_begun m_doneSteps m_mixed m_fewest m_leastFees m_lots m_tars) H → va_S (zF g 64 580 s.heap.size) s.heap H locs → lv_has ls 7 [] → W p l e R s m args below meth c H locs cells slots Q (F0 m 30 ls []) := by
  obtain ⟨hx, hb, hr, hml, hown, hts, hK, hlk, hST⟩ := id hC
  have hB : ∀ q, (zF g 64 580 s.heap.size) q → zB g q := zF.base hI (Nat.le_of_ble_eq_true rfl) hST.1
  intro m_at hf H locs ls hP hS hl
  unfold pM_isWord_30 at hf
  refine lv_iconst (v := 0) hx hb dX10_isWord_30 (by decide) ?_
  exact hk31 m_at 0 hf H locs ls hP hS (lv_sub hl [] rfl)
set_option maxHeartbeats 4000000 in
set_option maxRecDepth 100000 in
theorem mpM_isWord {p : Program} {l : Launch} {e : Env} {R : Room} {s : State} {m : MethodId} {args : Array Value} {below : List Frame} {meth : Method} {c : Code} {cells slots : Nat} {Q : State → Prop} {g : zG} (hI : zI g 581) (hC : zC g RX10 cX10_isWord 7 (some .boolean) p s m meth c args) (hR : 5 ≤ R.frames ∧ 60 * 5 ≤ R.locals ∧ cells ≤ R.cells ∧ slots ≤ R.slots) (m_thrown : Int32) (m_tape : Int32) (m_size : Int32) (m_place : Int32) (m_at : Int32) (m_fault : Int32) (m_faultAt : Int32) (m_clauses : Int32) (m_open : Int32) (m_fed : Nat → Int32) (m_refused : Nat → Int32) (m_readTold : Nat → Int32) (m_told : Nat → Int32) (m_readBeast : Nat → Nat → Int32) (m_beast : Nat → Nat → Int32) (m_readGate : Nat → Nat → Int32) (m_gate : Nat → Nat → Int32) (m_readList : Nat → Nat → Int32) (m_list : Nat → Nat → Int32) (m_lawMany : Int32) (m_readLawMany : Int32) (m_law : Nat → Nat → Int32) (m_readLaw : Nat → Nat → Int32) (m_stack : Nat → Int32) (m_known : Nat → Int32) (m_step : Nat → Nat → Int32) (m_steps : Int32) (m_now : Nat → Int32) (m_trial : Nat → Int32) (m_before : Nat → Nat → Int32) (m_kept : Nat → Nat → Int32) (m_works : Int32) (m_refusedSteps : Int32) (m_images : Int32) (m_spot : Int32) (m_begun : Int32) (m_doneSteps : Int32) (m_mixed : Nat → Int32) (m_fewest : Nat → Int32) (m_leastFees : Nat → Int32) (m_lots : Int32) (m_tars : Int32) (x1 : Int32) (x2 : Int32) (x3 : Int32) (x4 : Int32) (x5 : Int32) (x6 : Int32) (N9 : Nat)   (res : Int32 × Int32) (hfin : ∀ (r0 : Int32) (m_at : Int32) (H : Heap) (locs : List Loc) (pc : Nat) (ls : Array Slot), (r0, m_at) = res → r0 &&& 1 = r0 → va_P g.1 zcl (zM g m_thrown m_tape m_size m_place m_at m_fault m_faultAt m_clauses m_open m_fed m_refused m_readTold m_told m_readBeast m_beast m_readGate m_gate m_readList m_list m_lawMany m_readLawMany m_law m_readLaw m_stack m_known m_step m_steps m_now m_trial m_before m_kept m_works m_refusedSteps m_images m_spot m_begun m_doneSteps m_mixed m_fewest m_leastFees m_lots m_tars) H → va_S (zF g 64 580 s.heap.size) s.heap H locs → decode cX10_isWord pc = .ok (.ireturn, 1) → W p l e R s m args below meth c H locs cells slots Q (F0 m pc ls [.int r0])) : pM_isWord N9 m_size m_at m_fault m_fed x1 x2 x3 x4 x5 x6 = some res → ∀ (H : Heap) (locs : List Loc) (ls : Array Slot), va_P g.1 zcl (zM g m_thrown m_tape m_size m_place m_at m_fault m_faultAt m_clauses m_open m_fed m_refused m_readTold m_told m_readBeast m_beast m_readGate m_gate m_readList m_list m_lawMany m_readLawMany m_law m_readLaw m_stack m_known m_step m_steps m_now m_trial m_before m_kept m_works m_refusedSteps m_images m_spot m_begun m_doneSteps m_mixed m_fewest m_leastFees m_lots m_tars) H → va_S (zF g 64 580 s.heap.size) s.heap H locs → lv_has ls 7 [(0, .ref (g.2.1 64)), (1, .int x1), (2, .int x2), (3, .int x3), (4, .int x4), (5, .int x5), (6, .int x6)] → W p l e R s m args below meth c H locs cells slots Q (F0 m 0 ls []) := by
  obtain ⟨hx, hb, hr, hml, hown, hts, hK, hlk, hST⟩ := id hC
  have hB : ∀ q, (zF g 64 580 s.heap.size) q → zB g q := zF.base hI (Nat.le_of_ble_eq_true rfl) hST.1
  intro  hf H locs ls hP hS hl
  have hk31 := mpM_isWord_31 (l := l) (e := e) (R := R) (below := below) (cells := cells) (slots := slots) (Q := Q) hI hC hR m_thrown m_tape m_size m_place m_fault m_faultAt m_clauses m_open m_fed m_refused m_readTold m_told m_readBeast m_beast m_readGate m_gate m_readList m_list m_lawMany m_readLawMany m_law m_readLaw m_stack m_known m_step m_steps m_now m_trial m_before m_kept m_works m_refusedSteps m_images m_spot m_begun m_doneSteps m_mixed m_fewest m_leastFees m_lots m_tars N9 res hfin
  have hk30 := mpM_isWord_30 (l := l) (e := e) (R := R) (below := below) (cells := cells) (slots := slots) (Q := Q) hI hC hR m_thrown m_tape m_size m_place m_fault m_faultAt m_clauses m_open m_fed m_refused m_readTold m_told m_readBeast m_beast m_readGate m_gate m_readList m_list m_lawMany m_readLawMany m_law m_readLaw m_stack m_known m_step m_steps m_now m_trial m_before m_kept m_works m_refusedSteps m_images m_spot m_begun m_doneSteps m_mixed m_fewest m_leastFees m_lots m_tars N9 (pM_isWord_31 N9) res hfin hk31
  unfold pM_isWord at hf
  refine lv_aload_n hx hb dX10_isWord_0 rfl (lv_at hl 0 rfl) ?_
  refine zg_m_fault hC hP (hC.fl mw_1394) dX10_isWord_1 ?_
  refine lv_if_ne (tgt := 30) hx hb dX10_isWord_4 (by decide) (fun hc_1 => ?_) (fun hc_1 => ?_)
  · have hf := zifn hc_1 hf
    exact hk30 m_at hf H locs ls hP hS (lv_sub hl [] rfl)
  · have hf := zifp hc_1 hf
    refine lv_aload_n hx hb dX10_isWord_7 rfl (lv_at hl 0 rfl) ?_
    obtain ⟨r_2, m_at_2, hf_2, hf⟩ := zb2i hf
    refine zcallVi (As := []) (rest := []) hC hP hS hB (fun q h => zF.mono hS.1 h) (cpM_wordHere l hI H.size m_thrown m_tape m_size m_place m_at m_fault m_faultAt m_clauses m_open m_fed m_refused m_readTold m_told m_readBeast m_beast m_readGate m_gate m_readList m_list m_lawMany m_readLawMany m_law m_readLaw m_stack m_known m_step m_steps m_now m_trial m_before m_kept m_works m_refusedSteps m_images m_spot m_begun m_doneSteps m_mixed m_fewest m_leastFees m_lots m_tars  N9 hf_2) (hC.ml mw_1559) yo_X10_wordHere 0 (zfM rfl) rfl rfl rfl hl.1 rfl (Nat.le_of_ble_eq_true rfl) ⟨by omega, by omega⟩ hR.2.2 dX10_isWord_8 (fun H locs hP hS _ _ => ?_)
    refine lv_iload_n hx hb dX10_isWord_11 rfl (lv_at hl 1 rfl) ?_
    refine lv_iload_n hx hb dX10_isWord_12 rfl (lv_at hl 2 rfl) ?_
    refine lv_iload_n hx hb dX10_isWord_13 rfl (lv_at hl 3 rfl) ?_
    refine lv_iload hx hb dX10_isWord_14 (lv_at hl 4 rfl) ?_
    refine lv_iload hx hb dX10_isWord_16 (lv_at hl 5 rfl) ?_
    refine lv_iload hx hb dX10_isWord_18 (lv_at hl 6 rfl) ?_
    obtain ⟨r_3, hf_3, hf⟩ := zb1i hf
    refine zcallP (As := [.int x1, .int x2, .int x3, .int x4, .int x5, .int x6]) (rest := [.int r_2]) hC hS hB (cpM_six l hI x1 x2 x3 x4 x5 x6 N9 hf_3) (hC.ml mw_1566) yo_X10_six rfl hl.1 rfl (Nat.le_of_ble_eq_true rfl) ⟨by omega, by omega⟩ hR.2.2 dX10_isWord_20 (fun H locs hPk hS _ => ?_)
    have hP := hPk _ _ _ hP
    refine lv_icmp_ne (tgt := 30) hx hb dX10_isWord_23 (by decide) (fun hc_4 => ?_) (fun hc_4 => ?_)
    · have hf := zifn hc_4 hf
      exact hk30 m_at_2 hf H locs ls hP hS (lv_sub hl [] rfl)
    · have hf := zifp hc_4 hf
      refine lv_iconst (v := 1) hx hb dX10_isWord_26 (by decide) ?_
      refine lv_goto (tgt := 31) hx hb dX10_isWord_27 (by decide) ?_
      exact hk31 m_at_2 1 hf H locs ls hP hS (lv_sub hl [] rfl)
set_option maxHeartbeats 4000000 in
set_option maxRecDepth 100000 in
theorem cpM_isWord (l : Launch) {g : zG} (hI : zI g 581) (sz : Nat) (m_thrown : Int32) (m_tape : Int32) (m_size : Int32) (m_place : Int32) (m_at : Int32) (m_fault : Int32) (m_faultAt : Int32) (m_clauses : Int32) (m_open : Int32) (m_fed : Nat → Int32) (m_refused : Nat → Int32) (m_readTold : Nat → Int32) (m_told : Nat → Int32) (m_readBeast : Nat → Nat → Int32) (m_beast : Nat → Nat → Int32) (m_readGate : Nat → Nat → Int32) (m_gate : Nat → Nat → Int32) (m_readList : Nat → Nat → Int32) (m_list : Nat → Nat → Int32) (m_lawMany : Int32) (m_readLawMany : Int32) (m_law : Nat → Nat → Int32) (m_readLaw : Nat → Nat → Int32) (m_stack : Nat → Int32) (m_known : Nat → Int32) (m_step : Nat → Nat → Int32) (m_steps : Int32) (m_now : Nat → Int32) (m_trial : Nat → Int32) (m_before : Nat → Nat → Int32) (m_kept : Nat → Nat → Int32) (m_works : Int32) (m_refusedSteps : Int32) (m_images : Int32) (m_spot : Int32) (m_begun : Int32) (m_doneSteps : Int32) (m_mixed : Nat → Int32) (m_fewest : Nat → Int32) (m_leastFees : Nat → Int32) (m_lots : Int32) (m_tars : Int32) (x1 : Int32)  (x2 : Int32)  (x3 : Int32)  (x4 : Int32)  (x5 : Int32)  (x6 : Int32) (N9 : Nat) {r0 : Int32} {m_at' : Int32} (hf : pM_isWord N9  m_size m_at m_fault m_fed x1 x2 x3 x4 x5 x6 = some (r0, m_at')) : zMi l yX10_isWord cX10_isWord 7 (some .boolean) 5 g (zM g m_thrown m_tape m_size m_place m_at m_fault m_faultAt m_clauses m_open m_fed m_refused m_readTold m_told m_readBeast m_beast m_readGate m_gate m_readList m_list m_lawMany m_readLawMany m_law m_readLaw m_stack m_known m_step m_steps m_now m_trial m_before m_kept m_works m_refusedSteps m_images m_spot m_begun m_doneSteps m_mixed m_fewest m_leastFees m_lots m_tars) (zM g m_thrown m_tape m_size m_place m_at' m_fault m_faultAt m_clauses m_open m_fed m_refused m_readTold m_told m_readBeast m_beast m_readGate m_gate m_readList m_list m_lawMany m_readLawMany m_law m_readLaw m_stack m_known m_step m_steps m_now m_trial m_before m_kept m_works m_refusedSteps m_images m_spot m_begun m_doneSteps m_mixed m_fewest m_leastFees m_lots m_tars) sz (zF g 64 580 sz) [.ref (g.2.1 64), .int x1, .int x2, .int x3, .int x4, .int x5, .int x6] r0 := by
  refine Met.ofW (cc := cX10_isWord) (maxL := 7) (ret := (some .boolean)) (by decide +kernel) rfl ?_
  intro p e s m args below meth c s₁ B hml hv
  obtain ⟨rfl, hsz, hP, hK, hST⟩ := hv
  subst hsz
  have hC := zstart (own := RX10) rfl B hml hK hST
  have hl := lv_entry ([.ref (g.2.1 64), .int x1, .int x2, .int x3, .int x4, .int x5, .int x6]) (n := 7) (Nat.le_of_ble_eq_true rfl)
  rw [lg_entry_eq]
  generalize (lg_sl ([.ref (g.2.1 64), .int x1, .int x2, .int x3, .int x4, .int x5, .int x6]) ++ List.replicate (7 - (lg_sl ([.ref (g.2.1 64), .int x1, .int x2, .int x3, .int x4, .int x5, .int x6])).length) Slot.unset).toArray = ls at hl ⊢
  have hl : lv_has ls 7 [(0, .ref (g.2.1 64)), (1, .int x1), (2, .int x2), (3, .int x3), (4, .int x4), (5, .int x5), (6, .int x6)] := hl
  obtain ⟨hx, hb, hr, hml, hown, hts, hK, hlk, hST⟩ := id hC
  refine mpM_isWord hI hC ⟨Nat.le_refl _, Nat.le_refl _, Nat.le_refl _, Nat.le_refl _⟩ m_thrown m_tape m_size m_place m_at m_fault m_faultAt m_clauses m_open m_fed m_refused m_readTold m_told m_readBeast m_beast m_readGate m_gate m_readList m_list m_lawMany m_readLawMany m_law m_readLaw m_stack m_known m_step m_steps m_now m_trial m_before m_kept m_works m_refusedSteps m_images m_spot m_begun m_doneSteps m_mixed m_fewest m_leastFees m_lots m_tars x1 x2 x3 x4 x5 x6 N9 (r0, m_at') ?_ hf _ _ ls hP va_S.rf hl
  intro r1 m_at1 H locs pc ls he hz hP hS hd
  cases he
  exact W.zret hx hb hr (congrArg Value.int hz) (fun t ht hW => ⟨⟨_, (), rfl, rfl, by rw [← ht] at hP; exact hP⟩, hS.F ht⟩) hS.2.2 hd hlk
/-! StripeTradeModel.skipWord ()V [('obj', 'm')] -/
set_option maxHeartbeats 4000000 in
set_option maxRecDepth 100000 in
theorem mpM_skipWord_0 {p : Program} {l : Launch} {e : Env} {R : Room} {s : State} {m : MethodId} {args : Array Value} {below : List Frame} {meth : Method} {c : Code} {cells slots : Nat} {Q : State → Prop} {g : zG} (hI : zI g 581) (hC : zC g RX10 cX10_skipWord 1 none p s m meth c args) (hR : 2 ≤ R.frames ∧ 60 * 2 ≤ R.locals ∧ cells ≤ R.cells ∧ slots ≤ R.slots) (m_thrown : Int32) (m_tape : Int32) (m_size : Int32) (m_place : Int32) (m_fault : Int32) (m_faultAt : Int32) (m_clauses : Int32) (m_open : Int32) (m_fed : Nat → Int32) (m_refused : Nat → Int32) (m_readTold : Nat → Int32) (m_told : Nat → Int32) (m_readBeast : Nat → Nat → Int32) (m_beast : Nat → Nat → Int32) (m_readGate : Nat → Nat → Int32) (m_gate : Nat → Nat → Int32) (m_readList : Nat → Nat → Int32) (m_list : Nat → Nat → Int32) (m_lawMany : Int32) (m_readLawMany : Int32) (m_law : Nat → Nat → Int32) (m_readLaw : Nat → Nat → Int32) (m_stack : Nat → Int32) (m_known : Nat → Int32) (m_step : Nat → Nat → Int32) (m_steps : Int32) (m_now : Nat → Int32) (m_trial : Nat → Int32) (m_before : Nat → Nat → Int32) (m_kept : Nat → Nat → Int32) (m_works : Int32) (m_refusedSteps : Int32) (m_images : Int32) (m_spot : Int32) (m_begun : Int32) (m_doneSteps : Int32) (m_mixed : Nat → Int32) (m_fewest : Nat → Int32) (m_leastFees : Nat → Int32) (m_lots : Int32) (m_tars : Int32)  (N9 : Nat)   (res : Int32) (hfin : ∀ (m_at : Int32) (H : Heap) (locs : List Loc) (pc : Nat) (ls : Array Slot), m_at = res → va_P g.1 zcl (zM g m_thrown m_tape m_size m_place m_at m_fault m_faultAt m_clauses m_open m_fed m_refused m_readTold m_told m_readBeast m_beast m_readGate m_gate m_readList m_list m_lawMany m_readLawMany m_law m_readLaw m_stack m_known m_step m_steps m_now m_trial m_before m_kept m_works m_refusedSteps m_images m_spot m_begun m_doneSteps m_mixed m_fewest m_leastFees m_lots m_tars) H → va_S (zF g 64 580 s.heap.size) s.heap H locs → decode cX10_skipWord pc = .ok (.return_, 1) → W p l e R s m args below meth c H locs cells slots Q (F0 m pc ls [])) : ∀ (n9 : Nat) (m_at : Int32), pM_skipWord_0 N9 m_size m_fed n9 m_at = some res → ∀ (H : Heap) (locs : List Loc) (ls : Array Slot), va_P g.1 zcl (zM g m_thrown m_tape m_size m_place m_at m_fault m_faultAt m_clauses m_open m_fed m_refused m_readTold m_told m_readBeast m_beast m_readGate m_gate m_readList m_list m_lawMany m_readLawMany m_law m_readLaw m_stack m_known m_step m_steps m_now m_trial m_before m_kept m_works m_refusedSteps m_images m_spot m_begun m_doneSteps m_mixed m_fewest m_leastFees m_lots m_tars) H → va_S (zF g 64 580 s.heap.size) s.heap H locs → lv_has ls 1 [(0, .ref (g.2.1 64))] → W p l e R s m args below meth c H locs cells slots Q (F0 m 0 ls []) := by
  obtain ⟨hx, hb, hr, hml, hown, hts, hK, hlk, hST⟩ := id hC
  have hB : ∀ q, (zF g 64 580 s.heap.size) q → zB g q := zF.base hI (Nat.le_of_ble_eq_true rfl) hST.1
  intro n9
  induction n9 with
  | zero => intro m_at hf; cases hf
  | succ n9 ih =>
    intro m_at hf H locs ls hP hS hl
    have hk0 := ih
    unfold pM_skipWord_0 at hf
    refine lv_aload_n hx hb dX10_skipWord_0 rfl (lv_at hl 0 rfl) ?_
    refine lv_aload_n hx hb dX10_skipWord_1 rfl (lv_at hl 0 rfl) ?_
    refine zg_m_at hC hP (hC.fl mw_1393) dX10_skipWord_2 ?_
    obtain ⟨r_1, hf_1, hf⟩ := zb1i hf
    refine zcallVi (As := [.int m_at]) (rest := []) hC hP hS hB (fun q h => zF.mono hS.1 h) (cpM_byteAt l hI H.size m_thrown m_tape m_size m_place m_at m_fault m_faultAt m_clauses m_open m_fed m_refused m_readTold m_told m_readBeast m_beast m_readGate m_gate m_readList m_list m_lawMany m_readLawMany m_law m_readLaw m_stack m_known m_step m_steps m_now m_trial m_before m_kept m_works m_refusedSteps m_images m_spot m_begun m_doneSteps m_mixed m_fewest m_leastFees m_lots m_tars m_at N9 hf_1) (hC.ml mw_1543) yo_X10_byteAt 0 (zfM rfl) rfl rfl rfl hl.1 rfl (Nat.le_of_ble_eq_true rfl) ⟨by omega, by omega⟩ hR.2.2 dX10_skipWord_5 (fun H locs hP hS _ _ => ?_)
    obtain ⟨r_2, hf_2, hf⟩ := zb1i hf
    refine zcallP (As := [.int r_1]) (rest := []) hC hS hB (cpM_isSmall l hI r_1 N9 hf_2) (hC.ml mw_1563) yo_X10_isSmall rfl hl.1 rfl (Nat.le_of_ble_eq_true rfl) ⟨by omega, by omega⟩ hR.2.2 dX10_skipWord_8 (fun H locs hPk hS _ => ?_)
    have hP := hPk _ _ _ hP
    refine lv_if_eq (tgt := 27) hx hb dX10_skipWord_11 (by decide) (fun hc_3 => ?_) (fun hc_3 => ?_)
    · have hf := zifp hc_3 hf
      exact hfin _ H locs _ ls (Option.some.inj hf) hP hS dX10_skipWord_27
    · have hf := zifn hc_3 hf
      refine lv_aload_n hx hb dX10_skipWord_14 rfl (lv_at hl 0 rfl) ?_
      refine lv_dup hx hb dX10_skipWord_15 rfl ?_
      refine zg_m_at hC hP (hC.fl mw_1393) dX10_skipWord_16 ?_
      refine lv_iconst (v := 1) hx hb dX10_skipWord_19 (by decide) ?_
      refine lv_iadd hx hb dX10_skipWord_20 ?_
      refine zp_m_at hC hP hI (fun k h1 h2 => zF.own h1 h2) hS (hC.fl mw_1393) dX10_skipWord_21 (fun H locs hP hS => ?_)
      refine lv_goto (tgt := 0) hx hb dX10_skipWord_24 (by decide) ?_
      exact hk0 (m_at + 1) hf H locs ls hP hS (lv_sub hl [0] rfl)
set_option maxHeartbeats 4000000 in
set_option maxRecDepth 100000 in
theorem mpM_skipWord {p : Program} {l : Launch} {e : Env} {R : Room} {s : State} {m : MethodId} {args : Array Value} {below : List Frame} {meth : Method} {c : Code} {cells slots : Nat} {Q : State → Prop} {g : zG} (hI : zI g 581) (hC : zC g RX10 cX10_skipWord 1 none p s m meth c args) (hR : 2 ≤ R.frames ∧ 60 * 2 ≤ R.locals ∧ cells ≤ R.cells ∧ slots ≤ R.slots) (m_thrown : Int32) (m_tape : Int32) (m_size : Int32) (m_place : Int32) (m_at : Int32) (m_fault : Int32) (m_faultAt : Int32) (m_clauses : Int32) (m_open : Int32) (m_fed : Nat → Int32) (m_refused : Nat → Int32) (m_readTold : Nat → Int32) (m_told : Nat → Int32) (m_readBeast : Nat → Nat → Int32) (m_beast : Nat → Nat → Int32) (m_readGate : Nat → Nat → Int32) (m_gate : Nat → Nat → Int32) (m_readList : Nat → Nat → Int32) (m_list : Nat → Nat → Int32) (m_lawMany : Int32) (m_readLawMany : Int32) (m_law : Nat → Nat → Int32) (m_readLaw : Nat → Nat → Int32) (m_stack : Nat → Int32) (m_known : Nat → Int32) (m_step : Nat → Nat → Int32) (m_steps : Int32) (m_now : Nat → Int32) (m_trial : Nat → Int32) (m_before : Nat → Nat → Int32) (m_kept : Nat → Nat → Int32) (m_works : Int32) (m_refusedSteps : Int32) (m_images : Int32) (m_spot : Int32) (m_begun : Int32) (m_doneSteps : Int32) (m_mixed : Nat → Int32) (m_fewest : Nat → Int32) (m_leastFees : Nat → Int32) (m_lots : Int32) (m_tars : Int32)  (N9 : Nat)   (res : Int32) (hfin : ∀ (m_at : Int32) (H : Heap) (locs : List Loc) (pc : Nat) (ls : Array Slot), m_at = res → va_P g.1 zcl (zM g m_thrown m_tape m_size m_place m_at m_fault m_faultAt m_clauses m_open m_fed m_refused m_readTold m_told m_readBeast m_beast m_readGate m_gate m_readList m_list m_lawMany m_readLawMany m_law m_readLaw m_stack m_known m_step m_steps m_now m_trial m_before m_kept m_works m_refusedSteps m_images m_spot m_begun m_doneSteps m_mixed m_fewest m_leastFees m_lots m_tars) H → va_S (zF g 64 580 s.heap.size) s.heap H locs → decode cX10_skipWord pc = .ok (.return_, 1) → W p l e R s m args below meth c H locs cells slots Q (F0 m pc ls [])) : pM_skipWord N9 m_size m_at m_fed = some res → ∀ (H : Heap) (locs : List Loc) (ls : Array Slot), va_P g.1 zcl (zM g m_thrown m_tape m_size m_place m_at m_fault m_faultAt m_clauses m_open m_fed m_refused m_readTold m_told m_readBeast m_beast m_readGate m_gate m_readList m_list m_lawMany m_readLawMany m_law m_readLaw m_stack m_known m_step m_steps m_now m_trial m_before m_kept m_works m_refusedSteps m_images m_spot m_begun m_doneSteps m_mixed m_fewest m_leastFees m_lots m_tars) H → va_S (zF g 64 580 s.heap.size) s.heap H locs → lv_has ls 1 [(0, .ref (g.2.1 64))] → W p l e R s m args below meth c H locs cells slots Q (F0 m 0 ls []) := by
  obtain ⟨hx, hb, hr, hml, hown, hts, hK, hlk, hST⟩ := id hC
  have hB : ∀ q, (zF g 64 580 s.heap.size) q → zB g q := zF.base hI (Nat.le_of_ble_eq_true rfl) hST.1
  intro  hf H locs ls hP hS hl
  have hk0 := mpM_skipWord_0 (l := l) (e := e) (R := R) (below := below) (cells := cells) (slots := slots) (Q := Q) hI hC hR m_thrown m_tape m_size m_place m_fault m_faultAt m_clauses m_open m_fed m_refused m_readTold m_told m_readBeast m_beast m_readGate m_gate m_readList m_list m_lawMany m_readLawMany m_law m_readLaw m_stack m_known m_step m_steps m_now m_trial m_before m_kept m_works m_refusedSteps m_images m_spot m_begun m_doneSteps m_mixed m_fewest m_leastFees m_lots m_tars N9 res hfin N9
  unfold pM_skipWord at hf
  exact hk0 m_at hf H locs ls hP hS (lv_sub hl [0] rfl)
set_option maxHeartbeats 4000000 in
set_option maxRecDepth 100000 in
theorem cpM_skipWord (l : Launch) {g : zG} (hI : zI g 581) (sz : Nat) (m_thrown : Int32) (m_tape : Int32) (m_size : Int32) (m_place : Int32) (m_at : Int32) (m_fault : Int32) (m_faultAt : Int32) (m_clauses : Int32) (m_open : Int32) (m_fed : Nat → Int32) (m_refused : Nat → Int32) (m_readTold : Nat → Int32) (m_told : Nat → Int32) (m_readBeast : Nat → Nat → Int32) (m_beast : Nat → Nat → Int32) (m_readGate : Nat → Nat → Int32) (m_gate : Nat → Nat → Int32) (m_readList : Nat → Nat → Int32) (m_list : Nat → Nat → Int32) (m_lawMany : Int32) (m_readLawMany : Int32) (m_law : Nat → Nat → Int32) (m_readLaw : Nat → Nat → Int32) (m_stack : Nat → Int32) (m_known : Nat → Int32) (m_step : Nat → Nat → Int32) (m_steps : Int32) (m_now : Nat → Int32) (m_trial : Nat → Int32) (m_before : Nat → Nat → Int32) (m_kept : Nat → Nat → Int32) (m_works : Int32) (m_refusedSteps : Int32) (m_images : Int32) (m_spot : Int32) (m_begun : Int32) (m_doneSteps : Int32) (m_mixed : Nat → Int32) (m_fewest : Nat → Int32) (m_leastFees : Nat → Int32) (m_lots : Int32) (m_tars : Int32) (N9 : Nat) {m_at' : Int32} (hf : pM_skipWord N9  m_size m_at m_fed = some m_at') : zMv l yX10_skipWord cX10_skipWord 1 none 2 g (zM g m_thrown m_tape m_size m_place m_at m_fault m_faultAt m_clauses m_open m_fed m_refused m_readTold m_told m_readBeast m_beast m_readGate m_gate m_readList m_list m_lawMany m_readLawMany m_law m_readLaw m_stack m_known m_step m_steps m_now m_trial m_before m_kept m_works m_refusedSteps m_images m_spot m_begun m_doneSteps m_mixed m_fewest m_leastFees m_lots m_tars) (zM g m_thrown m_tape m_size m_place m_at' m_fault m_faultAt m_clauses m_open m_fed m_refused m_readTold m_told m_readBeast m_beast m_readGate m_gate m_readList m_list m_lawMany m_readLawMany m_law m_readLaw m_stack m_known m_step m_steps m_now m_trial m_before m_kept m_works m_refusedSteps m_images m_spot m_begun m_doneSteps m_mixed m_fewest m_leastFees m_lots m_tars) sz (zF g 64 580 sz) [.ref (g.2.1 64)] := by
  refine Met.ofW (cc := cX10_skipWord) (maxL := 1) (ret := none) (by decide +kernel) rfl ?_
  intro p e s m args below meth c s₁ B hml hv
  obtain ⟨rfl, hsz, hP, hK, hST⟩ := hv
  subst hsz
  have hC := zstart (own := RX10) rfl B hml hK hST
  have hl := lv_entry ([.ref (g.2.1 64)]) (n := 1) (Nat.le_of_ble_eq_true rfl)
  rw [lg_entry_eq]
  generalize (lg_sl ([.ref (g.2.1 64)]) ++ List.replicate (1 - (lg_sl ([.ref (g.2.1 64)])).length) Slot.unset).toArray = ls at hl ⊢
  have hl : lv_has ls 1 [(0, .ref (g.2.1 64))] := hl
  obtain ⟨hx, hb, hr, hml, hown, hts, hK, hlk, hST⟩ := id hC
  refine mpM_skipWord hI hC ⟨Nat.le_refl _, Nat.le_refl _, Nat.le_refl _, Nat.le_refl _⟩ m_thrown m_tape m_size m_place m_at m_fault m_faultAt m_clauses m_open m_fed m_refused m_readTold m_told m_readBeast m_beast m_readGate m_gate m_readList m_list m_lawMany m_readLawMany m_law m_readLaw m_stack m_known m_step m_steps m_now m_trial m_before m_kept m_works m_refusedSteps m_images m_spot m_begun m_doneSteps m_mixed m_fewest m_leastFees m_lots m_tars N9 m_at' ?_ hf _ _ ls hP va_S.rf hl
  intro m_at1 H locs pc ls he hP hS hd
  cases he
  exact W.vret hx hb hr (fun t ht hW => ⟨⟨(), rfl, trivial, by rw [← ht] at hP; exact hP⟩, hS.F ht⟩) hS.2.2 hd hlk
/-! StripeTradeModel.takes (IIIIII)Z [('obj', 'm')] -/
set_option maxHeartbeats 4000000 in
set_option maxRecDepth 100000 in
theorem mpM_takes_24 {p : Program} {l : Launch} {e : Env} {R : Room} {s : State} {m : MethodId} {args : Array Value} {below : List Frame} {meth : Method} {c : Code} {cells slots : Nat} {Q : State → Prop} {g : zG} (hI : zI g 581) (hC : zC g RX10 cX10_takes 8 (some .boolean) p s m meth c args) (hR : 6 ≤ R.frames ∧ 60 * 6 ≤ R.locals ∧ cells ≤ R.cells ∧ slots ≤ R.slots) (m_thrown : Int32) (m_tape : Int32) (m_size : Int32) (m_place : Int32) (m_fault : Int32) (m_faultAt : Int32) (m_clauses : Int32) (m_open : Int32) (m_fed : Nat → Int32) (m_refused : Nat → Int32) (m_readTold : Nat → Int32) (m_told : Nat → Int32) (m_readBeast : Nat → Nat → Int32) (m_beast : Nat → Nat → Int32) (m_readGate : Nat → Nat → Int32) (m_gate : Nat → Nat → Int32) (m_readList : Nat → Nat → Int32) (m_list : Nat → Nat → Int32) (m_lawMany : Int32) (m_readLawMany : Int32) (m_law : Nat → Nat → Int32) (m_readLaw : Nat → Nat → Int32) (m_stack : Nat → Int32) (m_known : Nat → Int32) (m_step : Nat → Nat → Int32) (m_steps : Int32) (m_now : Nat → Int32) (m_trial : Nat → Int32) (m_before : Nat → Nat → Int32) (m_kept : Nat → Nat → Int32) (m_works : Int32) (m_refusedSteps : Int32) (m_images : Int32) (m_spot : Int32) (m_begun : Int32) (m_doneSteps : Int32) (m_mixed : Nat → Int32) (m_fewest : Nat → Int32) (m_leastFees : Nat → Int32) (m_lots : Int32) (m_tars : Int32)  (N9 : Nat)   (res : Int32 × Int32) (hfin : ∀ (r0 : Int32) (m_at : Int32) (H : Heap) (locs : List Loc) (pc : Nat) (ls : Array Slot), (r0, m_at) = res → r0 &&& 1 = r0 → va_P g.1 zcl (zM g m_thrown m_tape m_size m_place m_at m_fault m_faultAt m_clauses m_open m_fed m_refused m_readTold m_told m_readBeast m_beast m_readGate m_gate m_readList m_list m_lawMany m_readLawMany m_law m_readLaw m_stack m_known m_step m_steps m_now m_trial m_before m_kept m_works m_refusedSteps m_images m_spot m_begun m_doneSteps m_mixed m_fewest m_leastFees m_lots m_tars) H → va_S (zF g 64 580 s.heap.size) s.heap H locs → decode cX10_takes pc = .ok (.ireturn, 1) → W p l e R s m args below meth c H locs cells slots Q (F0 m pc ls [.int r0])) : ∀ (m_at : Int32) (x7 : Int32), pM_takes_24 N9 m_at x7 = some res → ∀ (H : Heap) (locs : List Loc) (ls : Array Slot), va_P g.1 zcl (zM g m_thrown m_tape m_size m_place m_at m_fault m_faultAt m_clauses m_open m_fed m_refused m_readTold m_told m_readBeast m_beast m_readGate m_gate m_readList m_list m_lawMany m_readLawMany m_law m_readLaw m_stack m_known m_step m_steps m_now m_trial m_before m_kept m_works m_refusedSteps m_images m_spot m_begun m_doneSteps m_mixed m_fewest m_leastFees m_lots m_tars) H → va_S (zF g 64 580 s.heap.size) s.heap H locs → lv_has ls 8 [(7, .int x7)] → W p l e R s m args below meth c H locs cells slots Q (F0 m 24 ls []) := by
  obtain ⟨hx, hb, hr, hml, hown, hts, hK, hlk, hST⟩ := id hC
  have hB : ∀ q, (zF g 64 580 s.heap.size) q → zB g q := zF.base hI (Nat.le_of_ble_eq_true rfl) hST.1
  intro m_at x7 hf H locs ls hP hS hl
  unfold pM_takes_24 at hf
  refine lv_iload hx hb dX10_takes_24 (lv_at hl 0 rfl) ?_
  obtain ⟨hz9, hf⟩ := zite hf
  exact hfin _ _ H locs _ ls (Option.some.inj hf) hz9 hP hS dX10_takes_26
set_option maxHeartbeats 4000000 in
set_option maxRecDepth 100000 in
theorem mpM_takes {p : Program} {l : Launch} {e : Env} {R : Room} {s : State} {m : MethodId} {args : Array Value} {below : List Frame} {meth : Method} {c : Code} {cells slots : Nat} {Q : State → Prop} {g : zG} (hI : zI g 581) (hC : zC g RX10 cX10_takes 8 (some .boolean) p s m meth c args) (hR : 6 ≤ R.frames ∧ 60 * 6 ≤ R.locals ∧ cells ≤ R.cells ∧ slots ≤ R.slots) (m_thrown : Int32) (m_tape : Int32) (m_size : Int32) (m_place : Int32) (m_at : Int32) (m_fault : Int32) (m_faultAt : Int32) (m_clauses : Int32) (m_open : Int32) (m_fed : Nat → Int32) (m_refused : Nat → Int32) (m_readTold : Nat → Int32) (m_told : Nat → Int32) (m_readBeast : Nat → Nat → Int32) (m_beast : Nat → Nat → Int32) (m_readGate : Nat → Nat → Int32) (m_gate : Nat → Nat → Int32) (m_readList : Nat → Nat → Int32) (m_list : Nat → Nat → Int32) (m_lawMany : Int32) (m_readLawMany : Int32) (m_law : Nat → Nat → Int32) (m_readLaw : Nat → Nat → Int32) (m_stack : Nat → Int32) (m_known : Nat → Int32) (m_step : Nat → Nat → Int32) (m_steps : Int32) (m_now : Nat → Int32) (m_trial : Nat → Int32) (m_before : Nat → Nat → Int32) (m_kept : Nat → Nat → Int32) (m_works : Int32) (m_refusedSteps : Int32) (m_images : Int32) (m_spot : Int32) (m_begun : Int32) (m_doneSteps : Int32) (m_mixed : Nat → Int32) (m_fewest : Nat → Int32) (m_leastFees : Nat → Int32) (m_lots : Int32) (m_tars : Int32) (x1 : Int32) (x2 : Int32) (x3 : Int32) (x4 : Int32) (x5 : Int32) (x6 : Int32) (N9 : Nat)   (res : Int32 × Int32) (hfin : ∀ (r0 : Int32) (m_at : Int32) (H : Heap) (locs : List Loc) (pc : Nat) (ls : Array Slot), (r0, m_at) = res → r0 &&& 1 = r0 → va_P g.1 zcl (zM g m_thrown m_tape m_size m_place m_at m_fault m_faultAt m_clauses m_open m_fed m_refused m_readTold m_told m_readBeast m_beast m_readGate m_gate m_readList m_list m_lawMany m_readLawMany m_law m_readLaw m_stack m_known m_step m_steps m_now m_trial m_before m_kept m_works m_refusedSteps m_images m_spot m_begun m_doneSteps m_mixed m_fewest m_leastFees m_lots m_tars) H → va_S (zF g 64 580 s.heap.size) s.heap H locs → decode cX10_takes pc = .ok (.ireturn, 1) → W p l e R s m args below meth c H locs cells slots Q (F0 m pc ls [.int r0])) : pM_takes N9 m_size m_at m_fault m_fed x1 x2 x3 x4 x5 x6 = some res → ∀ (H : Heap) (locs : List Loc) (ls : Array Slot), va_P g.1 zcl (zM g m_thrown m_tape m_size m_place m_at m_fault m_faultAt m_clauses m_open m_fed m_refused m_readTold m_told m_readBeast m_beast m_readGate m_gate m_readList m_list m_lawMany m_readLawMany m_law m_readLaw m_stack m_known m_step m_steps m_now m_trial m_before m_kept m_works m_refusedSteps m_images m_spot m_begun m_doneSteps m_mixed m_fewest m_leastFees m_lots m_tars) H → va_S (zF g 64 580 s.heap.size) s.heap H locs → lv_has ls 8 [(0, .ref (g.2.1 64)), (1, .int x1), (2, .int x2), (3, .int x3), (4, .int x4), (5, .int x5), (6, .int x6)] → W p l e R s m args below meth c H locs cells slots Q (F0 m 0 ls []) := by
  obtain ⟨hx, hb, hr, hml, hown, hts, hK, hlk, hST⟩ := id hC
  have hB : ∀ q, (zF g 64 580 s.heap.size) q → zB g q := zF.base hI (Nat.le_of_ble_eq_true rfl) hST.1
  intro  hf H locs ls hP hS hl
  have hk24 := mpM_takes_24 (l := l) (e := e) (R := R) (below := below) (cells := cells) (slots := slots) (Q := Q) hI hC hR m_thrown m_tape m_size m_place m_fault m_faultAt m_clauses m_open m_fed m_refused m_readTold m_told m_readBeast m_beast m_readGate m_gate m_readList m_list m_lawMany m_readLawMany m_law m_readLaw m_stack m_known m_step m_steps m_now m_trial m_before m_kept m_works m_refusedSteps m_images m_spot m_begun m_doneSteps m_mixed m_fewest m_leastFees m_lots m_tars N9 res hfin
  unfold pM_takes at hf
  refine lv_aload_n hx hb dX10_takes_0 rfl (lv_at hl 0 rfl) ?_
  refine lv_iload_n hx hb dX10_takes_1 rfl (lv_at hl 1 rfl) ?_
  refine lv_iload_n hx hb dX10_takes_2 rfl (lv_at hl 2 rfl) ?_
  refine lv_iload_n hx hb dX10_takes_3 rfl (lv_at hl 3 rfl) ?_
  refine lv_iload hx hb dX10_takes_4 (lv_at hl 4 rfl) ?_
  refine lv_iload hx hb dX10_takes_6 (lv_at hl 5 rfl) ?_
  refine lv_iload hx hb dX10_takes_8 (lv_at hl 6 rfl) ?_
  obtain ⟨r_1, m_at_1, hf_1, hf⟩ := zb2i hf
  refine zcallVi (As := [.int x1, .int x2, .int x3, .int x4, .int x5, .int x6]) (rest := []) hC hP hS hB (fun q h => zF.mono hS.1 h) (cpM_isWord l hI H.size m_thrown m_tape m_size m_place m_at m_fault m_faultAt m_clauses m_open m_fed m_refused m_readTold m_told m_readBeast m_beast m_readGate m_gate m_readList m_list m_lawMany m_readLawMany m_law m_readLaw m_stack m_known m_step m_steps m_now m_trial m_before m_kept m_works m_refusedSteps m_images m_spot m_begun m_doneSteps m_mixed m_fewest m_leastFees m_lots m_tars x1 x2 x3 x4 x5 x6 N9 hf_1) (hC.ml mw_1555) yo_X10_isWord 0 (zfM rfl) rfl rfl rfl hl.1 rfl (Nat.le_of_ble_eq_true rfl) ⟨by omega, by omega⟩ hR.2.2 dX10_takes_10 (fun H locs hP hS _ _ => ?_)
  refine lv_istore (lv' := [(7, .int r_1), (0, .ref (g.2.1 64)), (1, .int x1), (2, .int x2), (3, .int x3), (4, .int x4), (5, .int x5), (6, .int x6)]) hx hb dX10_takes_13 hl (by decide) rfl (fun ls hl => ?_)
  refine lv_iload hx hb dX10_takes_15 (lv_at hl 0 rfl) ?_
  refine lv_if_eq (tgt := 24) hx hb dX10_takes_17 (by decide) (fun hc_2 => ?_) (fun hc_2 => ?_)
  · have hf := zifp hc_2 hf
    exact hk24 m_at_1 r_1 hf H locs ls hP hS (lv_sub hl [0] rfl)
  · have hf := zifn hc_2 hf
    refine lv_aload_n hx hb dX10_takes_20 rfl (lv_at hl 1 rfl) ?_
    obtain ⟨m_at_3, hf_3, hf⟩ := zb1i hf
    refine zcallVv (As := []) (rest := []) hC hP hS hB (fun q h => zF.mono hS.1 h) (cpM_skipWord l hI H.size m_thrown m_tape m_size m_place m_at_1 m_fault m_faultAt m_clauses m_open m_fed m_refused m_readTold m_told m_readBeast m_beast m_readGate m_gate m_readList m_list m_lawMany m_readLawMany m_law m_readLaw m_stack m_known m_step m_steps m_now m_trial m_before m_kept m_works m_refusedSteps m_images m_spot m_begun m_doneSteps m_mixed m_fewest m_leastFees m_lots m_tars  N9 hf_3) (hC.ml mw_1576) yo_X10_skipWord 0 (zfM rfl) rfl rfl rfl hl.1 rfl (Nat.le_of_ble_eq_true rfl) ⟨by omega, by omega⟩ hR.2.2 dX10_takes_21 (fun H locs hP hS _ _ => ?_)
    exact hk24 m_at_3 r_1 hf H locs ls hP hS (lv_sub hl [0] rfl)
set_option maxHeartbeats 4000000 in
set_option maxRecDepth 100000 in
theorem cpM_takes (l : Launch) {g : zG} (hI : zI g 581) (sz : Nat) (m_thrown : Int32) (m_tape : Int32) (m_size : Int32) (m_place : Int32) (m_at : Int32) (m_fault : Int32) (m_faultAt : Int32) (m_clauses : Int32) (m_open : Int32) (m_fed : Nat → Int32) (m_refused : Nat → Int32) (m_readTold : Nat → Int32) (m_told : Nat → Int32) (m_readBeast : Nat → Nat → Int32) (m_beast : Nat → Nat → Int32) (m_readGate : Nat → Nat → Int32) (m_gate : Nat → Nat → Int32) (m_readList : Nat → Nat → Int32) (m_list : Nat → Nat → Int32) (m_lawMany : Int32) (m_readLawMany : Int32) (m_law : Nat → Nat → Int32) (m_readLaw : Nat → Nat → Int32) (m_stack : Nat → Int32) (m_known : Nat → Int32) (m_step : Nat → Nat → Int32) (m_steps : Int32) (m_now : Nat → Int32) (m_trial : Nat → Int32) (m_before : Nat → Nat → Int32) (m_kept : Nat → Nat → Int32) (m_works : Int32) (m_refusedSteps : Int32) (m_images : Int32) (m_spot : Int32) (m_begun : Int32) (m_doneSteps : Int32) (m_mixed : Nat → Int32) (m_fewest : Nat → Int32) (m_leastFees : Nat → Int32) (m_lots : Int32) (m_tars : Int32) (x1 : Int32)  (x2 : Int32)  (x3 : Int32)  (x4 : Int32)  (x5 : Int32)  (x6 : Int32) (N9 : Nat) {r0 : Int32} {m_at' : Int32} (hf : pM_takes N9  m_size m_at m_fault m_fed x1 x2 x3 x4 x5 x6 = some (r0, m_at')) : zMi l yX10_takes cX10_takes 8 (some .boolean) 6 g (zM g m_thrown m_tape m_size m_place m_at m_fault m_faultAt m_clauses m_open m_fed m_refused m_readTold m_told m_readBeast m_beast m_readGate m_gate m_readList m_list m_lawMany m_readLawMany m_law m_readLaw m_stack m_known m_step m_steps m_now m_trial m_before m_kept m_works m_refusedSteps m_images m_spot m_begun m_doneSteps m_mixed m_fewest m_leastFees m_lots m_tars) (zM g m_thrown m_tape m_size m_place m_at' m_fault m_faultAt m_clauses m_open m_fed m_refused m_readTold m_told m_readBeast m_beast m_readGate m_gate m_readList m_list m_lawMany m_readLawMany m_law m_readLaw m_stack m_known m_step m_steps m_now m_trial m_before m_kept m_works m_refusedSteps m_images m_spot m_begun m_doneSteps m_mixed m_fewest m_leastFees m_lots m_tars) sz (zF g 64 580 sz) [.ref (g.2.1 64), .int x1, .int x2, .int x3, .int x4, .int x5, .int x6] r0 := by
  refine Met.ofW (cc := cX10_takes) (maxL := 8) (ret := (some .boolean)) (by decide +kernel) rfl ?_
  intro p e s m args below meth c s₁ B hml hv
  obtain ⟨rfl, hsz, hP, hK, hST⟩ := hv
  subst hsz
  have hC := zstart (own := RX10) rfl B hml hK hST
  have hl := lv_entry ([.ref (g.2.1 64), .int x1, .int x2, .int x3, .int x4, .int x5, .int x6]) (n := 8) (Nat.le_of_ble_eq_true rfl)
  rw [lg_entry_eq]
  generalize (lg_sl ([.ref (g.2.1 64), .int x1, .int x2, .int x3, .int x4, .int x5, .int x6]) ++ List.replicate (8 - (lg_sl ([.ref (g.2.1 64), .int x1, .int x2, .int x3, .int x4, .int x5, .int x6])).length) Slot.unset).toArray = ls at hl ⊢
  have hl : lv_has ls 8 [(0, .ref (g.2.1 64)), (1, .int x1), (2, .int x2), (3, .int x3), (4, .int x4), (5, .int x5), (6, .int x6)] := hl
  obtain ⟨hx, hb, hr, hml, hown, hts, hK, hlk, hST⟩ := id hC
  refine mpM_takes hI hC ⟨Nat.le_refl _, Nat.le_refl _, Nat.le_refl _, Nat.le_refl _⟩ m_thrown m_tape m_size m_place m_at m_fault m_faultAt m_clauses m_open m_fed m_refused m_readTold m_told m_readBeast m_beast m_readGate m_gate m_readList m_list m_lawMany m_readLawMany m_law m_readLaw m_stack m_known m_step m_steps m_now m_trial m_before m_kept m_works m_refusedSteps m_images m_spot m_begun m_doneSteps m_mixed m_fewest m_leastFees m_lots m_tars x1 x2 x3 x4 x5 x6 N9 (r0, m_at') ?_ hf _ _ ls hP va_S.rf hl
  intro r1 m_at1 H locs pc ls he hz hP hS hd
  cases he
  exact W.zret hx hb hr (congrArg Value.int hz) (fun t ht hW => ⟨⟨_, (), rfl, rfl, by rw [← ht] at hP; exact hP⟩, hS.F ht⟩) hS.2.2 hd hlk
/-! StripeTradeModel.sign (I)V [('obj', 'm')] -/
set_option maxHeartbeats 4000000 in
set_option maxRecDepth 100000 in
theorem mpM_sign_46 {p : Program} {l : Launch} {e : Env} {R : Room} {s : State} {m : MethodId} {args : Array Value} {below : List Frame} {meth : Method} {c : Code} {cells slots : Nat} {Q : State → Prop} {g : zG} (hI : zI g 581) (hC : zC g RX10 cX10_sign 2 none p s m meth c args) (hR : 3 ≤ R.frames ∧ 60 * 3 ≤ R.locals ∧ cells ≤ R.cells ∧ slots ≤ R.slots) (m_thrown : Int32) (m_tape : Int32) (m_size : Int32) (m_place : Int32) (m_clauses : Int32) (m_open : Int32) (m_fed : Nat → Int32) (m_refused : Nat → Int32) (m_readTold : Nat → Int32) (m_told : Nat → Int32) (m_readBeast : Nat → Nat → Int32) (m_beast : Nat → Nat → Int32) (m_readGate : Nat → Nat → Int32) (m_gate : Nat → Nat → Int32) (m_readList : Nat → Nat → Int32) (m_list : Nat → Nat → Int32) (m_lawMany : Int32) (m_readLawMany : Int32) (m_law : Nat → Nat → Int32) (m_readLaw : Nat → Nat → Int32) (m_stack : Nat → Int32) (m_known : Nat → Int32) (m_step : Nat → Nat → Int32) (m_steps : Int32) (m_now : Nat → Int32) (m_trial : Nat → Int32) (m_before : Nat → Nat → Int32) (m_kept : Nat → Nat → Int32) (m_works : Int32) (m_refusedSteps : Int32) (m_images : Int32) (m_spot : Int32) (m_begun : Int32) (m_doneSteps : Int32) (m_mixed : Nat → Int32) (m_fewest : Nat → Int32) (m_leastFees : Nat → Int32) (m_lots : Int32) (m_tars : Int32)  (N9 : Nat)   (res : Int32 × Int32 × Int32) (hfin : ∀ (m_at : Int32) (m_fault : Int32) (m_faultAt : Int32) (H : Heap) (locs : List Loc) (pc : Nat) (ls : Array Slot), (m_at, m_fault, m_faultAt) = res → va_P g.1 zcl (zM g m_thrown m_tape m_size m_place m_at m_fault m_faultAt m_clauses m_open m_fed m_refused m_readTold m_told m_readBeast m_beast m_readGate m_gate m_readList m_list m_lawMany m_readLawMany m_law m_readLaw m_stack m_known m_step m_steps m_now m_trial m_before m_kept m_works m_refusedSteps m_images m_spot m_begun m_doneSteps m_mixed m_fewest m_leastFees m_lots m_tars) H → va_S (zF g 64 580 s.heap.size) s.heap H locs → decode cX10_sign pc = .ok (.return_, 1) → W p l e R s m args below meth c H locs cells slots Q (F0 m pc ls [])) : ∀ (m_at : Int32) (m_fault : Int32) (m_faultAt : Int32), pM_sign_46 N9 m_at m_fault m_faultAt = some res → ∀ (H : Heap) (locs : List Loc) (ls : Array Slot), va_P g.1 zcl (zM g m_thrown m_tape m_size m_place m_at m_fault m_faultAt m_clauses m_open m_fed m_refused m_readTold m_told m_readBeast m_beast m_readGate m_gate m_readList m_list m_lawMany m_readLawMany m_law m_readLaw m_stack m_known m_step m_steps m_now m_trial m_before m_kept m_works m_refusedSteps m_images m_spot m_begun m_doneSteps m_mixed m_fewest m_leastFees m_lots m_tars) H → va_S (zF g 64 580 s.heap.size) s.heap H locs → lv_has ls 2 [] → W p l e R s m args below meth c H locs cells slots Q (F0 m 46 ls []) := by
  obtain ⟨hx, hb, hr, hml, hown, hts, hK, hlk, hST⟩ := id hC
  have hB : ∀ q, (zF g 64 580 s.heap.size) q → zB g q := zF.base hI (Nat.le_of_ble_eq_true rfl) hST.1
  intro m_at m_fault m_faultAt hf H locs ls hP hS hl
  unfold pM_sign_46 at hf
  exact hfin _ _ _ H locs _ ls (Option.some.inj hf) hP hS dX10_sign_46
set_option maxHeartbeats 4000000 in
set_option maxRecDepth 100000 in
theorem mpM_sign {p : Program} {l : Launch} {e : Env} {R : Room} {s : State} {m : MethodId} {args : Array Value} {below : List Frame} {meth : Method} {c : Code} {cells slots : Nat} {Q : State → Prop} {g : zG} (hI : zI g 581) (hC : zC g RX10 cX10_sign 2 none p s m meth c args) (hR : 3 ≤ R.frames ∧ 60 * 3 ≤ R.locals ∧ cells ≤ R.cells ∧ slots ≤ R.slots) (m_thrown : Int32) (m_tape : Int32) (m_size : Int32) (m_place : Int32) (m_at : Int32) (m_fault : Int32) (m_faultAt : Int32) (m_clauses : Int32) (m_open : Int32) (m_fed : Nat → Int32) (m_refused : Nat → Int32) (m_readTold : Nat → Int32) (m_told : Nat → Int32) (m_readBeast : Nat → Nat → Int32) (m_beast : Nat → Nat → Int32) (m_readGate : Nat → Nat → Int32) (m_gate : Nat → Nat → Int32) (m_readList : Nat → Nat → Int32) (m_list : Nat → Nat → Int32) (m_lawMany : Int32) (m_readLawMany : Int32) (m_law : Nat → Nat → Int32) (m_readLaw : Nat → Nat → Int32) (m_stack : Nat → Int32) (m_known : Nat → Int32) (m_step : Nat → Nat → Int32) (m_steps : Int32) (m_now : Nat → Int32) (m_trial : Nat → Int32) (m_before : Nat → Nat → Int32) (m_kept : Nat → Nat → Int32) (m_works : Int32) (m_refusedSteps : Int32) (m_images : Int32) (m_spot : Int32) (m_begun : Int32) (m_doneSteps : Int32) (m_mixed : Nat → Int32) (m_fewest : Nat → Int32) (m_leastFees : Nat → Int32) (m_lots : Int32) (m_tars : Int32) (x1 : Int32) (N9 : Nat)   (res : Int32 × Int32 × Int32) (hfin : ∀ (m_at : Int32) (m_fault : Int32) (m_faultAt : Int32) (H : Heap) (locs : List Loc) (pc : Nat) (ls : Array Slot), (m_at, m_fault, m_faultAt) = res → va_P g.1 zcl (zM g m_thrown m_tape m_size m_place m_at m_fault m_faultAt m_clauses m_open m_fed m_refused m_readTold m_told m_readBeast m_beast m_readGate m_gate m_readList m_list m_lawMany m_readLawMany m_law m_readLaw m_stack m_known m_step m_steps m_now m_trial m_before m_kept m_works m_refusedSteps m_images m_spot m_begun m_doneSteps m_mixed m_fewest m_leastFees m_lots m_tars) H → va_S (zF g 64 580 s.heap.size) s.heap H locs → decode cX10_sign pc = .ok (.return_, 1) → W p l e R s m args below meth c H locs cells slots Q (F0 m pc ls [])) : pM_sign N9 m_size m_at m_fault m_faultAt m_fed x1 = some res → ∀ (H : Heap) (locs : List Loc) (ls : Array Slot), va_P g.1 zcl (zM g m_thrown m_tape m_size m_place m_at m_fault m_faultAt m_clauses m_open m_fed m_refused m_readTold m_told m_readBeast m_beast m_readGate m_gate m_readList m_list m_lawMany m_readLawMany m_law m_readLaw m_stack m_known m_step m_steps m_now m_trial m_before m_kept m_works m_refusedSteps m_images m_spot m_begun m_doneSteps m_mixed m_fewest m_leastFees m_lots m_tars) H → va_S (zF g 64 580 s.heap.size) s.heap H locs → lv_has ls 2 [(0, .ref (g.2.1 64)), (1, .int x1)] → W p l e R s m args below meth c H locs cells slots Q (F0 m 0 ls []) := by
  obtain ⟨hx, hb, hr, hml, hown, hts, hK, hlk, hST⟩ := id hC
  have hB : ∀ q, (zF g 64 580 s.heap.size) q → zB g q := zF.base hI (Nat.le_of_ble_eq_true rfl) hST.1
  intro  hf H locs ls hP hS hl
  have hk46 := mpM_sign_46 (l := l) (e := e) (R := R) (below := below) (cells := cells) (slots := slots) (Q := Q) hI hC hR m_thrown m_tape m_size m_place m_clauses m_open m_fed m_refused m_readTold m_told m_readBeast m_beast m_readGate m_gate m_readList m_list m_lawMany m_readLawMany m_law m_readLaw m_stack m_known m_step m_steps m_now m_trial m_before m_kept m_works m_refusedSteps m_images m_spot m_begun m_doneSteps m_mixed m_fewest m_leastFees m_lots m_tars N9 res hfin
  unfold pM_sign at hf
  refine lv_aload_n hx hb dX10_sign_0 rfl (lv_at hl 0 rfl) ?_
  refine zg_m_fault hC hP (hC.fl mw_1394) dX10_sign_1 ?_
  refine lv_if_eq (tgt := 8) hx hb dX10_sign_4 (by decide) (fun hc_1 => ?_) (fun hc_1 => ?_)
  · have hf := zifp hc_1 hf
    refine lv_aload_n hx hb dX10_sign_8 rfl (lv_at hl 0 rfl) ?_
    obtain ⟨m_at_2, hf_2, hf⟩ := zb1i hf
    refine zcallVv (As := []) (rest := []) hC hP hS hB (fun q h => zF.mono hS.1 h) (cpM_blanks l hI H.size m_thrown m_tape m_size m_place m_at m_fault m_faultAt m_clauses m_open m_fed m_refused m_readTold m_told m_readBeast m_beast m_readGate m_gate m_readList m_list m_lawMany m_readLawMany m_law m_readLaw m_stack m_known m_step m_steps m_now m_trial m_before m_kept m_works m_refusedSteps m_images m_spot m_begun m_doneSteps m_mixed m_fewest m_leastFees m_lots m_tars  N9 hf_2) (hC.ml mw_1539) yo_X10_blanks 0 (zfM rfl) rfl rfl rfl hl.1 rfl (Nat.le_of_ble_eq_true rfl) ⟨by omega, by omega⟩ hR.2.2 dX10_sign_9 (fun H locs hP hS _ _ => ?_)
    refine lv_aload_n hx hb dX10_sign_12 rfl (lv_at hl 0 rfl) ?_
    refine lv_aload_n hx hb dX10_sign_13 rfl (lv_at hl 0 rfl) ?_
    refine zg_m_at hC hP (hC.fl mw_1393) dX10_sign_14 ?_
    obtain ⟨r_3, hf_3, hf⟩ := zb1i hf
    refine zcallVi (As := [.int m_at_2]) (rest := []) hC hP hS hB (fun q h => zF.mono hS.1 h) (cpM_byteAt l hI H.size m_thrown m_tape m_size m_place m_at_2 m_fault m_faultAt m_clauses m_open m_fed m_refused m_readTold m_told m_readBeast m_beast m_readGate m_gate m_readList m_list m_lawMany m_readLawMany m_law m_readLaw m_stack m_known m_step m_steps m_now m_trial m_before m_kept m_works m_refusedSteps m_images m_spot m_begun m_doneSteps m_mixed m_fewest m_leastFees m_lots m_tars m_at_2 N9 hf_3) (hC.ml mw_1543) yo_X10_byteAt 0 (zfM rfl) rfl rfl rfl hl.1 rfl (Nat.le_of_ble_eq_true rfl) ⟨by omega, by omega⟩ hR.2.2 dX10_sign_17 (fun H locs hP hS _ _ => ?_)
    refine lv_iload_n hx hb dX10_sign_20 rfl (lv_at hl 1 rfl) ?_
    refine lv_icmp_ne (tgt := 37) hx hb dX10_sign_21 (by decide) (fun hc_4 => ?_) (fun hc_4 => ?_)
    · have hf := zifn hc_4 hf
      refine lv_aload_n hx hb dX10_sign_37 rfl (lv_at hl 0 rfl) ?_
      refine lv_iconst (v := 1) hx hb dX10_sign_38 (by decide) ?_
      refine lv_aload_n hx hb dX10_sign_39 rfl (lv_at hl 0 rfl) ?_
      refine zg_m_at hC hP (hC.fl mw_1393) dX10_sign_40 ?_
      obtain ⟨m_fault_5, m_faultAt_5, hf_5, hf⟩ := zb2i hf
      refine zcallVv (As := [.int 1, .int m_at_2]) (rest := []) hC hP hS hB (fun q h => zF.mono hS.1 h) (cpM_wrong l hI H.size m_thrown m_tape m_size m_place m_at_2 m_fault m_faultAt m_clauses m_open m_fed m_refused m_readTold m_told m_readBeast m_beast m_readGate m_gate m_readList m_list m_lawMany m_readLawMany m_law m_readLaw m_stack m_known m_step m_steps m_now m_trial m_before m_kept m_works m_refusedSteps m_images m_spot m_begun m_doneSteps m_mixed m_fewest m_leastFees m_lots m_tars (1 : Int32) m_at_2 N9 hf_5) (hC.ml mw_1569) yo_X10_wrong 0 (zfM rfl) rfl rfl rfl hl.1 rfl (Nat.le_of_ble_eq_true rfl) ⟨by omega, by omega⟩ hR.2.2 dX10_sign_43 (fun H locs hP hS _ _ => ?_)
      exact hk46 m_at_2 m_fault_5 m_faultAt_5 hf H locs ls hP hS (lv_sub hl [] rfl)
    · have hf := zifp hc_4 hf
      refine lv_aload_n hx hb dX10_sign_24 rfl (lv_at hl 0 rfl) ?_
      refine lv_dup hx hb dX10_sign_25 rfl ?_
      refine zg_m_at hC hP (hC.fl mw_1393) dX10_sign_26 ?_
      refine lv_iconst (v := 1) hx hb dX10_sign_29 (by decide) ?_
      refine lv_iadd hx hb dX10_sign_30 ?_
      refine zp_m_at hC hP hI (fun k h1 h2 => zF.own h1 h2) hS (hC.fl mw_1393) dX10_sign_31 (fun H locs hP hS => ?_)
      refine lv_goto (tgt := 46) hx hb dX10_sign_34 (by decide) ?_
      exact hk46 (m_at_2 + 1) m_fault m_faultAt hf H locs ls hP hS (lv_sub hl [] rfl)
  · have hf := zifn hc_1 hf
    exact hfin _ _ _ H locs _ ls (Option.some.inj hf) hP hS dX10_sign_7
set_option maxHeartbeats 4000000 in
set_option maxRecDepth 100000 in
theorem cpM_sign (l : Launch) {g : zG} (hI : zI g 581) (sz : Nat) (m_thrown : Int32) (m_tape : Int32) (m_size : Int32) (m_place : Int32) (m_at : Int32) (m_fault : Int32) (m_faultAt : Int32) (m_clauses : Int32) (m_open : Int32) (m_fed : Nat → Int32) (m_refused : Nat → Int32) (m_readTold : Nat → Int32) (m_told : Nat → Int32) (m_readBeast : Nat → Nat → Int32) (m_beast : Nat → Nat → Int32) (m_readGate : Nat → Nat → Int32) (m_gate : Nat → Nat → Int32) (m_readList : Nat → Nat → Int32) (m_list : Nat → Nat → Int32) (m_lawMany : Int32) (m_readLawMany : Int32) (m_law : Nat → Nat → Int32) (m_readLaw : Nat → Nat → Int32) (m_stack : Nat → Int32) (m_known : Nat → Int32) (m_step : Nat → Nat → Int32) (m_steps : Int32) (m_now : Nat → Int32) (m_trial : Nat → Int32) (m_before : Nat → Nat → Int32) (m_kept : Nat → Nat → Int32) (m_works : Int32) (m_refusedSteps : Int32) (m_images : Int32) (m_spot : Int32) (m_begun : Int32) (m_doneSteps : Int32) (m_mixed : Nat → Int32) (m_fewest : Nat → Int32) (m_leastFees : Nat → Int32) (m_lots : Int32) (m_tars : Int32) (x1 : Int32) (N9 : Nat) {m_at' : Int32} {m_fault' : Int32} {m_faultAt' : Int32} (hf : pM_sign N9  m_size m_at m_fault m_faultAt m_fed x1 = some (m_at', m_fault', m_faultAt')) : zMv l yX10_sign cX10_sign 2 none 3 g (zM g m_thrown m_tape m_size m_place m_at m_fault m_faultAt m_clauses m_open m_fed m_refused m_readTold m_told m_readBeast m_beast m_readGate m_gate m_readList m_list m_lawMany m_readLawMany m_law m_readLaw m_stack m_known m_step m_steps m_now m_trial m_before m_kept m_works m_refusedSteps m_images m_spot m_begun m_doneSteps m_mixed m_fewest m_leastFees m_lots m_tars) (zM g m_thrown m_tape m_size m_place m_at' m_fault' m_faultAt' m_clauses m_open m_fed m_refused m_readTold m_told m_readBeast m_beast m_readGate m_gate m_readList m_list m_lawMany m_readLawMany m_law m_readLaw m_stack m_known m_step m_steps m_now m_trial m_before m_kept m_works m_refusedSteps m_images m_spot m_begun m_doneSteps m_mixed m_fewest m_leastFees m_lots m_tars) sz (zF g 64 580 sz) [.ref (g.2.1 64), .int x1] := by
  refine Met.ofW (cc := cX10_sign) (maxL := 2) (ret := none) (by decide +kernel) rfl ?_
  intro p e s m args below meth c s₁ B hml hv
  obtain ⟨rfl, hsz, hP, hK, hST⟩ := hv
  subst hsz
  have hC := zstart (own := RX10) rfl B hml hK hST
  have hl := lv_entry ([.ref (g.2.1 64), .int x1]) (n := 2) (Nat.le_of_ble_eq_true rfl)
  rw [lg_entry_eq]
  generalize (lg_sl ([.ref (g.2.1 64), .int x1]) ++ List.replicate (2 - (lg_sl ([.ref (g.2.1 64), .int x1])).length) Slot.unset).toArray = ls at hl ⊢
  have hl : lv_has ls 2 [(0, .ref (g.2.1 64)), (1, .int x1)] := hl
  obtain ⟨hx, hb, hr, hml, hown, hts, hK, hlk, hST⟩ := id hC
  refine mpM_sign hI hC ⟨Nat.le_refl _, Nat.le_refl _, Nat.le_refl _, Nat.le_refl _⟩ m_thrown m_tape m_size m_place m_at m_fault m_faultAt m_clauses m_open m_fed m_refused m_readTold m_told m_readBeast m_beast m_readGate m_gate m_readList m_list m_lawMany m_readLawMany m_law m_readLaw m_stack m_known m_step m_steps m_now m_trial m_before m_kept m_works m_refusedSteps m_images m_spot m_begun m_doneSteps m_mixed m_fewest m_leastFees m_lots m_tars x1 N9 (m_at', m_fault', m_faultAt') ?_ hf _ _ ls hP va_S.rf hl
  intro m_at1 m_fault1 m_faultAt1 H locs pc ls he hP hS hd
  cases he
  exact W.vret hx hb hr (fun t ht hW => ⟨⟨(), rfl, trivial, by rw [← ht] at hP; exact hP⟩, hS.F ht⟩) hS.2.2 hd hlk
/-! StripeTradeModel.takesSign (I)Z [('obj', 'm')] -/
set_option maxHeartbeats 4000000 in
set_option maxRecDepth 100000 in
theorem mpM_takesSign_45 {p : Program} {l : Launch} {e : Env} {R : Room} {s : State} {m : MethodId} {args : Array Value} {below : List Frame} {meth : Method} {c : Code} {cells slots : Nat} {Q : State → Prop} {g : zG} (hI : zI g 581) (hC : zC g RX10 cX10_takesSign 3 (some .boolean) p s m meth c args) (hR : 3 ≤ R.frames ∧ 60 * 3 ≤ R.locals ∧ cells ≤ R.cells ∧ slots ≤ R.slots) (m_thrown : Int32) (m_tape : Int32) (m_size : Int32) (m_place : Int32) (m_fault : Int32) (m_faultAt : Int32) (m_clauses : Int32) (m_open : Int32) (m_fed : Nat → Int32) (m_refused : Nat → Int32) (m_readTold : Nat → Int32) (m_told : Nat → Int32) (m_readBeast : Nat → Nat → Int32) (m_beast : Nat → Nat → Int32) (m_readGate : Nat → Nat → Int32) (m_gate : Nat → Nat → Int32) (m_readList : Nat → Nat → Int32) (m_list : Nat → Nat → Int32) (m_lawMany : Int32) (m_readLawMany : Int32) (m_law : Nat → Nat → Int32) (m_readLaw : Nat → Nat → Int32) (m_stack : Nat → Int32) (m_known : Nat → Int32) (m_step : Nat → Nat → Int32) (m_steps : Int32) (m_now : Nat → Int32) (m_trial : Nat → Int32) (m_before : Nat → Nat → Int32) (m_kept : Nat → Nat → Int32) (m_works : Int32) (m_refusedSteps : Int32) (m_images : Int32) (m_spot : Int32) (m_begun : Int32) (m_doneSteps : Int32) (m_mixed : Nat → Int32) (m_fewest : Nat → Int32) (m_leastFees : Nat → Int32) (m_lots : Int32) (m_tars : Int32)  (N9 : Nat)   (res : Int32 × Int32) (hfin : ∀ (r0 : Int32) (m_at : Int32) (H : Heap) (locs : List Loc) (pc : Nat) (ls : Array Slot), (r0, m_at) = res → r0 &&& 1 = r0 → va_P g.1 zcl (zM g m_thrown m_tape m_size m_place m_at m_fault m_faultAt m_clauses m_open m_fed m_refused m_readTold m_told m_readBeast m_beast m_readGate m_gate m_readList m_list m_lawMany m_readLawMany m_law m_readLaw m_stack m_known m_step m_steps m_now m_trial m_before m_kept m_works m_refusedSteps m_images m_spot m_begun m_doneSteps m_mixed m_fewest m_leastFees m_lots m_tars) H → va_S (zF g 64 580 s.heap.size) s.heap H locs → decode cX10_takesSign pc = .ok (.ireturn, 1) → W p l e R s m args below meth c H locs cells slots Q (F0 m pc ls [.int r0])) : ∀ (m_at : Int32) (x2 : Int32), pM_takesSign_45 N9 m_at x2 = some res → ∀ (H : Heap) (locs : List Loc) (ls : Array Slot), va_P g.1 zcl (zM g m_thrown m_tape m_size m_place m_at m_fault m_faultAt m_clauses m_open m_fed m_refused m_readTold m_told m_readBeast m_beast m_readGate m_gate m_readList m_list m_lawMany m_readLawMany m_law m_readLaw m_stack m_known m_step m_steps m_now m_trial m_before m_kept m_works m_refusedSteps m_images m_spot m_begun m_doneSteps m_mixed m_fewest m_leastFees m_lots m_tars) H → va_S (zF g 64 580 s.heap.size) s.heap H locs → lv_has ls 3 [(2, .int x2)] → W p l e R s m args below meth c H locs cells slots Q (F0 m 45 ls []) := by
  obtain ⟨hx, hb, hr, hml, hown, hts, hK, hlk, hST⟩ := id hC
  have hB : ∀ q, (zF g 64 580 s.heap.size) q → zB g q := zF.base hI (Nat.le_of_ble_eq_true rfl) hST.1
  intro m_at x2 hf H locs ls hP hS hl
  unfold pM_takesSign_45 at hf
  refine lv_iload_n hx hb dX10_takesSign_45 rfl (lv_at hl 0 rfl) ?_
  obtain ⟨hz9, hf⟩ := zite hf
  exact hfin _ _ H locs _ ls (Option.some.inj hf) hz9 hP hS dX10_takesSign_46
set_option maxHeartbeats 4000000 in
set_option maxRecDepth 100000 in
theorem mpM_takesSign_30 {p : Program} {l : Launch} {e : Env} {R : Room} {s : State} {m : MethodId} {args : Array Value} {below : List Frame} {meth : Method} {c : Code} {cells slots : Nat} {Q : State → Prop} {g : zG} (hI : zI g 581) (hC : zC g RX10 cX10_takesSign 3 (some .boolean) p s m meth c args) (hR : 3 ≤ R.frames ∧ 60 * 3 ≤ R.locals ∧ cells ≤ R.cells ∧ slots ≤ R.slots) (m_thrown : Int32) (m_tape : Int32) (m_size : Int32) (m_place : Int32) (m_fault : Int32) (m_faultAt : Int32) (m_clauses : Int32) (m_open : Int32) (m_fed : Nat → Int32) (m_refused : Nat → Int32) (m_readTold : Nat → Int32) (m_told : Nat → Int32) (m_readBeast : Nat → Nat → Int32) (m_beast : Nat → Nat → Int32) (m_readGate : Nat → Nat → Int32) (m_gate : Nat → Nat → Int32) (m_readList : Nat → Nat → Int32) (m_list : Nat → Nat → Int32) (m_lawMany : Int32) (m_readLawMany : Int32) (m_law : Nat → Nat → Int32) (m_readLaw : Nat → Nat → Int32) (m_stack : Nat → Int32) (m_known : Nat → Int32) (m_step : Nat → Nat → Int32) (m_steps : Int32) (m_now : Nat → Int32) (m_trial : Nat → Int32) (m_before : Nat → Nat → Int32) (m_kept : Nat → Nat → Int32) (m_works : Int32) (m_refusedSteps : Int32) (m_images : Int32) (m_spot : Int32) (m_begun : Int32) (m_doneSteps : Int32) (m_mixed : Nat → Int32) (m_fewest : Nat → Int32) (m_leastFees : Nat → Int32) (m_lots : Int32) (m_tars : Int32)  (N9 : Nat)   (res : Int32 × Int32) (hfin : ∀ (r0 : Int32) (m_at : Int32) (H : Heap) (locs : List Loc) (pc : Nat) (ls : Array Slot), (r0, m_at) = res → r0 &&& 1 = r0 → va_P g.1 zcl (zM g m_thrown m_tape m_size m_place m_at m_fault m_faultAt m_clauses m_open m_fed m_refused m_readTold m_told m_readBeast m_beast m_readGate m_gate m_readList m_list m_lawMany m_readLawMany m_law m_readLaw m_stack m_known m_step m_steps m_now m_trial m_before m_kept m_works m_refusedSteps m_images m_spot m_begun m_doneSteps m_mixed m_fewest m_leastFees m_lots m_tars) H → va_S (zF g 64 580 s.heap.size) s.heap H locs → decode cX10_takesSign pc = .ok (.ireturn, 1) → W p l e R s m args below meth c H locs cells slots Q (F0 m pc ls [.int r0])) : ∀ (m_at : Int32) (s0 : Int32), pM_takesSign_30 N9 m_at s0 = some res → ∀ (H : Heap) (locs : List Loc) (ls : Array Slot), va_P g.1 zcl (zM g m_thrown m_tape m_size m_place m_at m_fault m_faultAt m_clauses m_open m_fed m_refused m_readTold m_told m_readBeast m_beast m_readGate m_gate m_readList m_list m_lawMany m_readLawMany m_law m_readLaw m_stack m_known m_step m_steps m_now m_trial m_before m_kept m_works m_refusedSteps m_images m_spot m_begun m_doneSteps m_mixed m_fewest m_leastFees m_lots m_tars) H → va_S (zF g 64 580 s.heap.size) s.heap H locs → lv_has ls 3 [(0, .ref (g.2.1 64))] → W p l e R s m args below meth c H locs cells slots Q (F0 m 30 ls [.int s0]) := by
  obtain ⟨hx, hb, hr, hml, hown, hts, hK, hlk, hST⟩ := id hC
  have hB : ∀ q, (zF g 64 580 s.heap.size) q → zB g q := zF.base hI (Nat.le_of_ble_eq_true rfl) hST.1
  intro m_at s0 hf H locs ls hP hS hl
  have hk45 := mpM_takesSign_45 (l := l) (e := e) (R := R) (below := below) (cells := cells) (slots := slots) (Q := Q) hI hC hR m_thrown m_tape m_size m_place m_fault m_faultAt m_clauses m_open m_fed m_refused m_readTold m_told m_readBeast m_beast m_readGate m_gate m_readList m_list m_lawMany m_readLawMany m_law m_readLaw m_stack m_known m_step m_steps m_now m_trial m_before m_kept m_works m_refusedSteps m_images m_spot m_begun m_doneSteps m_mixed m_fewest m_leastFees m_lots m_tars N9 res hfin
  unfold pM_takesSign_30 at hf
  refine lv_istore_n (lv' := [(2, .int s0), (0, .ref (g.2.1 64))]) hx hb dX10_takesSign_30 rfl hl (by decide) rfl (fun ls hl => ?_)
  refine lv_iload_n hx hb dX10_takesSign_31 rfl (lv_at hl 0 rfl) ?_
  refine lv_if_eq (tgt := 45) hx hb dX10_takesSign_32 (by decide) (fun hc_1 => ?_) (fun hc_1 => ?_)
  · have hf := zifp hc_1 hf
    exact hk45 m_at s0 hf H locs ls hP hS (lv_sub hl [0] rfl)
  · have hf := zifn hc_1 hf
    refine lv_aload_n hx hb dX10_takesSign_35 rfl (lv_at hl 1 rfl) ?_
    refine lv_dup hx hb dX10_takesSign_36 rfl ?_
    refine zg_m_at hC hP (hC.fl mw_1393) dX10_takesSign_37 ?_
    refine lv_iconst (v := 1) hx hb dX10_takesSign_40 (by decide) ?_
    refine lv_iadd hx hb dX10_takesSign_41 ?_
    refine zp_m_at hC hP hI (fun k h1 h2 => zF.own h1 h2) hS (hC.fl mw_1393) dX10_takesSign_42 (fun H locs hP hS => ?_)
    exact hk45 (m_at + 1) s0 hf H locs ls hP hS (lv_sub hl [0] rfl)
set_option maxHeartbeats 4000000 in
set_option maxRecDepth 100000 in
theorem mpM_takesSign {p : Program} {l : Launch} {e : Env} {R : Room} {s : State} {m : MethodId} {args : Array Value} {below : List Frame} {meth : Method} {c : Code} {cells slots : Nat} {Q : State → Prop} {g : zG} (hI : zI g 581) (hC : zC g RX10 cX10_takesSign 3 (some .boolean) p s m meth c args) (hR : 3 ≤ R.frames ∧ 60 * 3 ≤ R.locals ∧ cells ≤ R.cells ∧ slots ≤ R.slots) (m_thrown : Int32) (m_tape : Int32) (m_size : Int32) (m_place : Int32) (m_at : Int32) (m_fault : Int32) (m_faultAt : Int32) (m_clauses : Int32) (m_open : Int32) (m_fed : Nat → Int32) (m_refused : Nat → Int32) (m_readTold : Nat → Int32) (m_told : Nat → Int32) (m_readBeast : Nat → Nat → Int32) (m_beast : Nat → Nat → Int32) (m_readGate : Nat → Nat → Int32) (m_gate : Nat → Nat → Int32) (m_readList : Nat → Nat → Int32) (m_list : Nat → Nat → Int32) (m_lawMany : Int32) (m_readLawMany : Int32) (m_law : Nat → Nat → Int32) (m_readLaw : Nat → Nat → Int32) (m_stack : Nat → Int32) (m_known : Nat → Int32) (m_step : Nat → Nat → Int32) (m_steps : Int32) (m_now : Nat → Int32) (m_trial : Nat → Int32) (m_before : Nat → Nat → Int32) (m_kept : Nat → Nat → Int32) (m_works : Int32) (m_refusedSteps : Int32) (m_images : Int32) (m_spot : Int32) (m_begun : Int32) (m_doneSteps : Int32) (m_mixed : Nat → Int32) (m_fewest : Nat → Int32) (m_leastFees : Nat → Int32) (m_lots : Int32) (m_tars : Int32) (x1 : Int32) (N9 : Nat)   (res : Int32 × Int32) (hfin : ∀ (r0 : Int32) (m_at : Int32) (H : Heap) (locs : List Loc) (pc : Nat) (ls : Array Slot), (r0, m_at) = res → r0 &&& 1 = r0 → va_P g.1 zcl (zM g m_thrown m_tape m_size m_place m_at m_fault m_faultAt m_clauses m_open m_fed m_refused m_readTold m_told m_readBeast m_beast m_readGate m_gate m_readList m_list m_lawMany m_readLawMany m_law m_readLaw m_stack m_known m_step m_steps m_now m_trial m_before m_kept m_works m_refusedSteps m_images m_spot m_begun m_doneSteps m_mixed m_fewest m_leastFees m_lots m_tars) H → va_S (zF g 64 580 s.heap.size) s.heap H locs → decode cX10_takesSign pc = .ok (.ireturn, 1) → W p l e R s m args below meth c H locs cells slots Q (F0 m pc ls [.int r0])) : pM_takesSign N9 m_size m_at m_fault m_fed x1 = some res → ∀ (H : Heap) (locs : List Loc) (ls : Array Slot), va_P g.1 zcl (zM g m_thrown m_tape m_size m_place m_at m_fault m_faultAt m_clauses m_open m_fed m_refused m_readTold m_told m_readBeast m_beast m_readGate m_gate m_readList m_list m_lawMany m_readLawMany m_law m_readLaw m_stack m_known m_step m_steps m_now m_trial m_before m_kept m_works m_refusedSteps m_images m_spot m_begun m_doneSteps m_mixed m_fewest m_leastFees m_lots m_tars) H → va_S (zF g 64 580 s.heap.size) s.heap H locs → lv_has ls 3 [(0, .ref (g.2.1 64)), (1, .int x1)] → W p l e R s m args below meth c H locs cells slots Q (F0 m 0 ls []) := by
  obtain ⟨hx, hb, hr, hml, hown, hts, hK, hlk, hST⟩ := id hC
  have hB : ∀ q, (zF g 64 580 s.heap.size) q → zB g q := zF.base hI (Nat.le_of_ble_eq_true rfl) hST.1
  intro  hf H locs ls hP hS hl
  have hk30 := mpM_takesSign_30 (l := l) (e := e) (R := R) (below := below) (cells := cells) (slots := slots) (Q := Q) hI hC hR m_thrown m_tape m_size m_place m_fault m_faultAt m_clauses m_open m_fed m_refused m_readTold m_told m_readBeast m_beast m_readGate m_gate m_readList m_list m_lawMany m_readLawMany m_law m_readLaw m_stack m_known m_step m_steps m_now m_trial m_before m_kept m_works m_refusedSteps m_images m_spot m_begun m_doneSteps m_mixed m_fewest m_leastFees m_lots m_tars N9 res hfin
  unfold pM_takesSign at hf
  refine lv_aload_n hx hb dX10_takesSign_0 rfl (lv_at hl 0 rfl) ?_
  refine zg_m_fault hC hP (hC.fl mw_1394) dX10_takesSign_1 ?_
  refine lv_if_eq (tgt := 9) hx hb dX10_takesSign_4 (by decide) (fun hc_2 => ?_) (fun hc_2 => ?_)
  · have hf := zifp hc_2 hf
    refine lv_aload_n hx hb dX10_takesSign_9 rfl (lv_at hl 0 rfl) ?_
    obtain ⟨m_at_3, hf_3, hf⟩ := zb1i hf
    refine zcallVv (As := []) (rest := []) hC hP hS hB (fun q h => zF.mono hS.1 h) (cpM_blanks l hI H.size m_thrown m_tape m_size m_place m_at m_fault m_faultAt m_clauses m_open m_fed m_refused m_readTold m_told m_readBeast m_beast m_readGate m_gate m_readList m_list m_lawMany m_readLawMany m_law m_readLaw m_stack m_known m_step m_steps m_now m_trial m_before m_kept m_works m_refusedSteps m_images m_spot m_begun m_doneSteps m_mixed m_fewest m_leastFees m_lots m_tars  N9 hf_3) (hC.ml mw_1539) yo_X10_blanks 0 (zfM rfl) rfl rfl rfl hl.1 rfl (Nat.le_of_ble_eq_true rfl) ⟨by omega, by omega⟩ hR.2.2 dX10_takesSign_10 (fun H locs hP hS _ _ => ?_)
    refine lv_aload_n hx hb dX10_takesSign_13 rfl (lv_at hl 0 rfl) ?_
    refine lv_aload_n hx hb dX10_takesSign_14 rfl (lv_at hl 0 rfl) ?_
    refine zg_m_at hC hP (hC.fl mw_1393) dX10_takesSign_15 ?_
    obtain ⟨r_4, hf_4, hf⟩ := zb1i hf
    refine zcallVi (As := [.int m_at_3]) (rest := []) hC hP hS hB (fun q h => zF.mono hS.1 h) (cpM_byteAt l hI H.size m_thrown m_tape m_size m_place m_at_3 m_fault m_faultAt m_clauses m_open m_fed m_refused m_readTold m_told m_readBeast m_beast m_readGate m_gate m_readList m_list m_lawMany m_readLawMany m_law m_readLaw m_stack m_known m_step m_steps m_now m_trial m_before m_kept m_works m_refusedSteps m_images m_spot m_begun m_doneSteps m_mixed m_fewest m_leastFees m_lots m_tars m_at_3 N9 hf_4) (hC.ml mw_1543) yo_X10_byteAt 0 (zfM rfl) rfl rfl rfl hl.1 rfl (Nat.le_of_ble_eq_true rfl) ⟨by omega, by omega⟩ hR.2.2 dX10_takesSign_18 (fun H locs hP hS _ _ => ?_)
    refine lv_iload_n hx hb dX10_takesSign_21 rfl (lv_at hl 1 rfl) ?_
    refine lv_icmp_ne (tgt := 29) hx hb dX10_takesSign_22 (by decide) (fun hc_5 => ?_) (fun hc_5 => ?_)
    · have hf := zifn hc_5 hf
      refine lv_iconst (v := 0) hx hb dX10_takesSign_29 (by decide) ?_
      exact hk30 m_at_3 0 hf H locs ls hP hS (lv_sub hl [0] rfl)
    · have hf := zifp hc_5 hf
      refine lv_iconst (v := 1) hx hb dX10_takesSign_25 (by decide) ?_
      refine lv_goto (tgt := 30) hx hb dX10_takesSign_26 (by decide) ?_
      exact hk30 m_at_3 1 hf H locs ls hP hS (lv_sub hl [0] rfl)
  · have hf := zifn hc_2 hf
    refine lv_iconst (v := 0) hx hb dX10_takesSign_7 (by decide) ?_
    exact hfin _ _ H locs _ ls (Option.some.inj hf) (by decide) hP hS dX10_takesSign_8
set_option maxHeartbeats 4000000 in
set_option maxRecDepth 100000 in
theorem cpM_takesSign (l : Launch) {g : zG} (hI : zI g 581) (sz : Nat) (m_thrown : Int32) (m_tape : Int32) (m_size : Int32) (m_place : Int32) (m_at : Int32) (m_fault : Int32) (m_faultAt : Int32) (m_clauses : Int32) (m_open : Int32) (m_fed : Nat → Int32) (m_refused : Nat → Int32) (m_readTold : Nat → Int32) (m_told : Nat → Int32) (m_readBeast : Nat → Nat → Int32) (m_beast : Nat → Nat → Int32) (m_readGate : Nat → Nat → Int32) (m_gate : Nat → Nat → Int32) (m_readList : Nat → Nat → Int32) (m_list : Nat → Nat → Int32) (m_lawMany : Int32) (m_readLawMany : Int32) (m_law : Nat → Nat → Int32) (m_readLaw : Nat → Nat → Int32) (m_stack : Nat → Int32) (m_known : Nat → Int32) (m_step : Nat → Nat → Int32) (m_steps : Int32) (m_now : Nat → Int32) (m_trial : Nat → Int32) (m_before : Nat → Nat → Int32) (m_kept : Nat → Nat → Int32) (m_works : Int32) (m_refusedSteps : Int32) (m_images : Int32) (m_spot : Int32) (m_begun : Int32) (m_doneSteps : Int32) (m_mixed : Nat → Int32) (m_fewest : Nat → Int32) (m_leastFees : Nat → Int32) (m_lots : Int32) (m_tars : Int32) (x1 : Int32) (N9 : Nat) {r0 : Int32} {m_at' : Int32} (hf : pM_takesSign N9  m_size m_at m_fault m_fed x1 = some (r0, m_at')) : zMi l yX10_takesSign cX10_takesSign 3 (some .boolean) 3 g (zM g m_thrown m_tape m_size m_place m_at m_fault m_faultAt m_clauses m_open m_fed m_refused m_readTold m_told m_readBeast m_beast m_readGate m_gate m_readList m_list m_lawMany m_readLawMany m_law m_readLaw m_stack m_known m_step m_steps m_now m_trial m_before m_kept m_works m_refusedSteps m_images m_spot m_begun m_doneSteps m_mixed m_fewest m_leastFees m_lots m_tars) (zM g m_thrown m_tape m_size m_place m_at' m_fault m_faultAt m_clauses m_open m_fed m_refused m_readTold m_told m_readBeast m_beast m_readGate m_gate m_readList m_list m_lawMany m_readLawMany m_law m_readLaw m_stack m_known m_step m_steps m_now m_trial m_before m_kept m_works m_refusedSteps m_images m_spot m_begun m_doneSteps m_mixed m_fewest m_leastFees m_lots m_tars) sz (zF g 64 580 sz) [.ref (g.2.1 64), .int x1] r0 := by
  refine Met.ofW (cc := cX10_takesSign) (maxL := 3) (ret := (some .boolean)) (by decide +kernel) rfl ?_
  intro p e s m args below meth c s₁ B hml hv
  obtain ⟨rfl, hsz, hP, hK, hST⟩ := hv
  subst hsz
  have hC := zstart (own := RX10) rfl B hml hK hST
  have hl := lv_entry ([.ref (g.2.1 64), .int x1]) (n := 3) (Nat.le_of_ble_eq_true rfl)
  rw [lg_entry_eq]
  generalize (lg_sl ([.ref (g.2.1 64), .int x1]) ++ List.replicate (3 - (lg_sl ([.ref (g.2.1 64), .int x1])).length) Slot.unset).toArray = ls at hl ⊢
  have hl : lv_has ls 3 [(0, .ref (g.2.1 64)), (1, .int x1)] := hl
  obtain ⟨hx, hb, hr, hml, hown, hts, hK, hlk, hST⟩ := id hC
  refine mpM_takesSign hI hC ⟨Nat.le_refl _, Nat.le_refl _, Nat.le_refl _, Nat.le_refl _⟩ m_thrown m_tape m_size m_place m_at m_fault m_faultAt m_clauses m_open m_fed m_refused m_readTold m_told m_readBeast m_beast m_readGate m_gate m_readList m_list m_lawMany m_readLawMany m_law m_readLaw m_stack m_known m_step m_steps m_now m_trial m_before m_kept m_works m_refusedSteps m_images m_spot m_begun m_doneSteps m_mixed m_fewest m_leastFees m_lots m_tars x1 N9 (r0, m_at') ?_ hf _ _ ls hP va_S.rf hl
  intro r1 m_at1 H locs pc ls he hz hP hS hd
  cases he
  exact W.zret hx hb hr (congrArg Value.int hz) (fun t ht hW => ⟨⟨_, (), rfl, rfl, by rw [← ht] at hP; exact hP⟩, hS.F ht⟩) hS.2.2 hd hlk
/-! StripeTradeModel.starts (I)V [('obj', 'm')] -/
set_option maxHeartbeats 4000000 in
set_option maxRecDepth 100000 in
theorem mpM_starts {p : Program} {l : Launch} {e : Env} {R : Room} {s : State} {m : MethodId} {args : Array Value} {below : List Frame} {meth : Method} {c : Code} {cells slots : Nat} {Q : State → Prop} {g : zG} (hI : zI g 581) (hC : zC g RX10 cX10_starts 2 none p s m meth c args) (hR : 3 ≤ R.frames ∧ 60 * 3 ≤ R.locals ∧ cells ≤ R.cells ∧ slots ≤ R.slots) (m_thrown : Int32) (m_tape : Int32) (m_size : Int32) (m_place : Int32) (m_at : Int32) (m_fault : Int32) (m_faultAt : Int32) (m_clauses : Int32) (m_open : Int32) (m_fed : Nat → Int32) (m_refused : Nat → Int32) (m_readTold : Nat → Int32) (m_told : Nat → Int32) (m_readBeast : Nat → Nat → Int32) (m_beast : Nat → Nat → Int32) (m_readGate : Nat → Nat → Int32) (m_gate : Nat → Nat → Int32) (m_readList : Nat → Nat → Int32) (m_list : Nat → Nat → Int32) (m_lawMany : Int32) (m_readLawMany : Int32) (m_law : Nat → Nat → Int32) (m_readLaw : Nat → Nat → Int32) (m_stack : Nat → Int32) (m_known : Nat → Int32) (m_step : Nat → Nat → Int32) (m_steps : Int32) (m_now : Nat → Int32) (m_trial : Nat → Int32) (m_before : Nat → Nat → Int32) (m_kept : Nat → Nat → Int32) (m_works : Int32) (m_refusedSteps : Int32) (m_images : Int32) (m_spot : Int32) (m_begun : Int32) (m_doneSteps : Int32) (m_mixed : Nat → Int32) (m_fewest : Nat → Int32) (m_leastFees : Nat → Int32) (m_lots : Int32) (m_tars : Int32) (x1 : Int32) (N9 : Nat)   (res : Int32 × Int32 × Int32 × Int32 × Int32 × Int32 × Int32) (hfin : ∀ (m_tape : Int32) (m_size : Int32) (m_at : Int32) (m_fault : Int32) (m_faultAt : Int32) (m_clauses : Int32) (m_open : Int32) (H : Heap) (locs : List Loc) (pc : Nat) (ls : Array Slot), (m_tape, m_size, m_at, m_fault, m_faultAt, m_clauses, m_open) = res → va_P g.1 zcl (zM g m_thrown m_tape m_size m_place m_at m_fault m_faultAt m_clauses m_open m_fed m_refused m_readTold m_told m_readBeast m_beast m_readGate m_gate m_readList m_list m_lawMany m_readLawMany m_law m_readLaw m_stack m_known m_step m_steps m_now m_trial m_before m_kept m_works m_refusedSteps m_images m_spot m_begun m_doneSteps m_mixed m_fewest m_leastFees m_lots m_tars) H → va_S (zF g 64 580 s.heap.size) s.heap H locs → decode cX10_starts pc = .ok (.return_, 1) → W p l e R s m args below meth c H locs cells slots Q (F0 m pc ls [])) : pM_starts N9 m_tape m_size m_at m_fault m_faultAt m_clauses m_open m_fed x1 = some res → ∀ (H : Heap) (locs : List Loc) (ls : Array Slot), va_P g.1 zcl (zM g m_thrown m_tape m_size m_place m_at m_fault m_faultAt m_clauses m_open m_fed m_refused m_readTold m_told m_readBeast m_beast m_readGate m_gate m_readList m_list m_lawMany m_readLawMany m_law m_readLaw m_stack m_known m_step m_steps m_now m_trial m_before m_kept m_works m_refusedSteps m_images m_spot m_begun m_doneSteps m_mixed m_fewest m_leastFees m_lots m_tars) H → va_S (zF g 64 580 s.heap.size) s.heap H locs → lv_has ls 2 [(0, .ref (g.2.1 64)), (1, .int x1)] → W p l e R s m args below meth c H locs cells slots Q (F0 m 0 ls []) := by
  obtain ⟨hx, hb, hr, hml, hown, hts, hK, hlk, hST⟩ := id hC
  have hB : ∀ q, (zF g 64 580 s.heap.size) q → zB g q := zF.base hI (Nat.le_of_ble_eq_true rfl) hST.1
  intro  hf H locs ls hP hS hl
  unfold pM_starts at hf
  refine lv_aload_n hx hb dX10_starts_0 rfl (lv_at hl 0 rfl) ?_
  refine lv_iconst (v := 0) hx hb dX10_starts_1 (by decide) ?_
  refine zp_m_tape hC hP hI (fun k h1 h2 => zF.own h1 h2) hS (hC.fl mw_1390) dX10_starts_2 (fun H locs hP hS => ?_)
  refine lv_aload_n hx hb dX10_starts_5 rfl (lv_at hl 0 rfl) ?_
  refine lv_iload_n hx hb dX10_starts_6 rfl (lv_at hl 1 rfl) ?_
  refine zp_m_size hC hP hI (fun k h1 h2 => zF.own h1 h2) hS (hC.fl mw_1391) dX10_starts_7 (fun H locs hP hS => ?_)
  refine lv_aload_n hx hb dX10_starts_10 rfl (lv_at hl 0 rfl) ?_
  refine lv_iconst (v := 0) hx hb dX10_starts_11 (by decide) ?_
  refine zp_m_at hC hP hI (fun k h1 h2 => zF.own h1 h2) hS (hC.fl mw_1393) dX10_starts_12 (fun H locs hP hS => ?_)
  refine lv_aload_n hx hb dX10_starts_15 rfl (lv_at hl 0 rfl) ?_
  refine lv_iconst (v := 0) hx hb dX10_starts_16 (by decide) ?_
  refine zp_m_fault hC hP hI (fun k h1 h2 => zF.own h1 h2) hS (hC.fl mw_1394) dX10_starts_17 (fun H locs hP hS => ?_)
  refine lv_aload_n hx hb dX10_starts_20 rfl (lv_at hl 0 rfl) ?_
  refine lv_iconst (v := (-1)) hx hb dX10_starts_21 (by decide) ?_
  refine zp_m_faultAt hC hP hI (fun k h1 h2 => zF.own h1 h2) hS (hC.fl mw_1395) dX10_starts_22 (fun H locs hP hS => ?_)
  refine lv_aload_n hx hb dX10_starts_25 rfl (lv_at hl 0 rfl) ?_
  refine lv_iconst (v := 0) hx hb dX10_starts_26 (by decide) ?_
  refine zp_m_clauses hC hP hI (fun k h1 h2 => zF.own h1 h2) hS (hC.fl mw_1396) dX10_starts_27 (fun H locs hP hS => ?_)
  refine lv_aload_n hx hb dX10_starts_30 rfl (lv_at hl 0 rfl) ?_
  refine lv_iconst (v := 0) hx hb dX10_starts_31 (by decide) ?_
  refine zp_m_open hC hP hI (fun k h1 h2 => zF.own h1 h2) hS (hC.fl mw_1397) dX10_starts_32 (fun H locs hP hS => ?_)
  refine lv_aload_n hx hb dX10_starts_35 rfl (lv_at hl 0 rfl) ?_
  obtain ⟨m_at_1, hf_1, hf⟩ := zb1i hf
  refine zcallVv (As := []) (rest := []) hC hP hS hB (fun q h => zF.mono hS.1 h) (cpM_blanks l hI H.size m_thrown 0 x1 m_place 0 0 (-1) 0 0 m_fed m_refused m_readTold m_told m_readBeast m_beast m_readGate m_gate m_readList m_list m_lawMany m_readLawMany m_law m_readLaw m_stack m_known m_step m_steps m_now m_trial m_before m_kept m_works m_refusedSteps m_images m_spot m_begun m_doneSteps m_mixed m_fewest m_leastFees m_lots m_tars  N9 hf_1) (hC.ml mw_1539) yo_X10_blanks 0 (zfM rfl) rfl rfl rfl hl.1 rfl (Nat.le_of_ble_eq_true rfl) ⟨by omega, by omega⟩ hR.2.2 dX10_starts_36 (fun H locs hP hS _ _ => ?_)
  exact hfin _ _ _ _ _ _ _ H locs _ ls (Option.some.inj hf) hP hS dX10_starts_39
set_option maxHeartbeats 4000000 in
set_option maxRecDepth 100000 in
theorem cpM_starts (l : Launch) {g : zG} (hI : zI g 581) (sz : Nat) (m_thrown : Int32) (m_tape : Int32) (m_size : Int32) (m_place : Int32) (m_at : Int32) (m_fault : Int32) (m_faultAt : Int32) (m_clauses : Int32) (m_open : Int32) (m_fed : Nat → Int32) (m_refused : Nat → Int32) (m_readTold : Nat → Int32) (m_told : Nat → Int32) (m_readBeast : Nat → Nat → Int32) (m_beast : Nat → Nat → Int32) (m_readGate : Nat → Nat → Int32) (m_gate : Nat → Nat → Int32) (m_readList : Nat → Nat → Int32) (m_list : Nat → Nat → Int32) (m_lawMany : Int32) (m_readLawMany : Int32) (m_law : Nat → Nat → Int32) (m_readLaw : Nat → Nat → Int32) (m_stack : Nat → Int32) (m_known : Nat → Int32) (m_step : Nat → Nat → Int32) (m_steps : Int32) (m_now : Nat → Int32) (m_trial : Nat → Int32) (m_before : Nat → Nat → Int32) (m_kept : Nat → Nat → Int32) (m_works : Int32) (m_refusedSteps : Int32) (m_images : Int32) (m_spot : Int32) (m_begun : Int32) (m_doneSteps : Int32) (m_mixed : Nat → Int32) (m_fewest : Nat → Int32) (m_leastFees : Nat → Int32) (m_lots : Int32) (m_tars : Int32) (x1 : Int32) (N9 : Nat) {m_tape' : Int32} {m_size' : Int32} {m_at' : Int32} {m_fault' : Int32} {m_faultAt' : Int32} {m_clauses' : Int32} {m_open' : Int32} (hf : pM_starts N9  m_tape m_size m_at m_fault m_faultAt m_clauses m_open m_fed x1 = some (m_tape', m_size', m_at', m_fault', m_faultAt', m_clauses', m_open')) : zMv l yX10_starts cX10_starts 2 none 3 g (zM g m_thrown m_tape m_size m_place m_at m_fault m_faultAt m_clauses m_open m_fed m_refused m_readTold m_told m_readBeast m_beast m_readGate m_gate m_readList m_list m_lawMany m_readLawMany m_law m_readLaw m_stack m_known m_step m_steps m_now m_trial m_before m_kept m_works m_refusedSteps m_images m_spot m_begun m_doneSteps m_mixed m_fewest m_leastFees m_lots m_tars) (zM g m_thrown m_tape' m_size' m_place m_at' m_fault' m_faultAt' m_clauses' m_open' m_fed m_refused m_readTold m_told m_readBeast m_beast m_readGate m_gate m_readList m_list m_lawMany m_readLawMany m_law m_readLaw m_stack m_known m_step m_steps m_now m_trial m_before m_kept m_works m_refusedSteps m_images m_spot m_begun m_doneSteps m_mixed m_fewest m_leastFees m_lots m_tars) sz (zF g 64 580 sz) [.ref (g.2.1 64), .int x1] := by
  refine Met.ofW (cc := cX10_starts) (maxL := 2) (ret := none) (by decide +kernel) rfl ?_
  intro p e s m args below meth c s₁ B hml hv
  obtain ⟨rfl, hsz, hP, hK, hST⟩ := hv
  subst hsz
  have hC := zstart (own := RX10) rfl B hml hK hST
  have hl := lv_entry ([.ref (g.2.1 64), .int x1]) (n := 2) (Nat.le_of_ble_eq_true rfl)
  rw [lg_entry_eq]
  generalize (lg_sl ([.ref (g.2.1 64), .int x1]) ++ List.replicate (2 - (lg_sl ([.ref (g.2.1 64), .int x1])).length) Slot.unset).toArray = ls at hl ⊢
  have hl : lv_has ls 2 [(0, .ref (g.2.1 64)), (1, .int x1)] := hl
  obtain ⟨hx, hb, hr, hml, hown, hts, hK, hlk, hST⟩ := id hC
  refine mpM_starts hI hC ⟨Nat.le_refl _, Nat.le_refl _, Nat.le_refl _, Nat.le_refl _⟩ m_thrown m_tape m_size m_place m_at m_fault m_faultAt m_clauses m_open m_fed m_refused m_readTold m_told m_readBeast m_beast m_readGate m_gate m_readList m_list m_lawMany m_readLawMany m_law m_readLaw m_stack m_known m_step m_steps m_now m_trial m_before m_kept m_works m_refusedSteps m_images m_spot m_begun m_doneSteps m_mixed m_fewest m_leastFees m_lots m_tars x1 N9 (m_tape', m_size', m_at', m_fault', m_faultAt', m_clauses', m_open') ?_ hf _ _ ls hP va_S.rf hl
  intro m_tape1 m_size1 m_at1 m_fault1 m_faultAt1 m_clauses1 m_open1 H locs pc ls he hP hS hd
  cases he
  exact W.vret hx hb hr (fun t ht hW => ⟨⟨(), rfl, trivial, by rw [← ht] at hP; exact hP⟩, hS.F ht⟩) hS.2.2 hd hlk
/-! StripeTradeModel.faulty ()I [('obj', 'm')] -/
set_option maxHeartbeats 4000000 in
set_option maxRecDepth 100000 in
theorem mpM_faulty {p : Program} {l : Launch} {e : Env} {R : Room} {s : State} {m : MethodId} {args : Array Value} {below : List Frame} {meth : Method} {c : Code} {cells slots : Nat} {Q : State → Prop} {g : zG} (hI : zI g 581) (hC : zC g RX10 cX10_faulty 1 (some .int) p s m meth c args) (hR : 1 ≤ R.frames ∧ 60 * 1 ≤ R.locals ∧ cells ≤ R.cells ∧ slots ≤ R.slots) (m_thrown : Int32) (m_tape : Int32) (m_size : Int32) (m_place : Int32) (m_at : Int32) (m_fault : Int32) (m_faultAt : Int32) (m_clauses : Int32) (m_open : Int32) (m_fed : Nat → Int32) (m_refused : Nat → Int32) (m_readTold : Nat → Int32) (m_told : Nat → Int32) (m_readBeast : Nat → Nat → Int32) (m_beast : Nat → Nat → Int32) (m_readGate : Nat → Nat → Int32) (m_gate : Nat → Nat → Int32) (m_readList : Nat → Nat → Int32) (m_list : Nat → Nat → Int32) (m_lawMany : Int32) (m_readLawMany : Int32) (m_law : Nat → Nat → Int32) (m_readLaw : Nat → Nat → Int32) (m_stack : Nat → Int32) (m_known : Nat → Int32) (m_step : Nat → Nat → Int32) (m_steps : Int32) (m_now : Nat → Int32) (m_trial : Nat → Int32) (m_before : Nat → Nat → Int32) (m_kept : Nat → Nat → Int32) (m_works : Int32) (m_refusedSteps : Int32) (m_images : Int32) (m_spot : Int32) (m_begun : Int32) (m_doneSteps : Int32) (m_mixed : Nat → Int32) (m_fewest : Nat → Int32) (m_leastFees : Nat → Int32) (m_lots : Int32) (m_tars : Int32)  (N9 : Nat)   (res : Int32 × Int32) (hfin : ∀ (r0 : Int32) (m_place : Int32) (H : Heap) (locs : List Loc) (pc : Nat) (ls : Array Slot), (r0, m_place) = res → va_P g.1 zcl (zM g m_thrown m_tape m_size m_place m_at m_fault m_faultAt m_clauses m_open m_fed m_refused m_readTold m_told m_readBeast m_beast m_readGate m_gate m_readList m_list m_lawMany m_readLawMany m_law m_readLaw m_stack m_known m_step m_steps m_now m_trial m_before m_kept m_works m_refusedSteps m_images m_spot m_begun m_doneSteps m_mixed m_fewest m_leastFees m_lots m_tars) H → va_S (zF g 64 580 s.heap.size) s.heap H locs → decode cX10_faulty pc = .ok (.ireturn, 1) → W p l e R s m args below meth c H locs cells slots Q (F0 m pc ls [.int r0])) : pM_faulty N9 m_place m_fault m_faultAt = some res → ∀ (H : Heap) (locs : List Loc) (ls : Array Slot), va_P g.1 zcl (zM g m_thrown m_tape m_size m_place m_at m_fault m_faultAt m_clauses m_open m_fed m_refused m_readTold m_told m_readBeast m_beast m_readGate m_gate m_readList m_list m_lawMany m_readLawMany m_law m_readLaw m_stack m_known m_step m_steps m_now m_trial m_before m_kept m_works m_refusedSteps m_images m_spot m_begun m_doneSteps m_mixed m_fewest m_leastFees m_lots m_tars) H → va_S (zF g 64 580 s.heap.size) s.heap H locs → lv_has ls 1 [(0, .ref (g.2.1 64))] → W p l e R s m args below meth c H locs cells slots Q (F0 m 0 ls []) := by
  obtain ⟨hx, hb, hr, hml, hown, hts, hK, hlk, hST⟩ := id hC
  have hB : ∀ q, (zF g 64 580 s.heap.size) q → zB g q := zF.base hI (Nat.le_of_ble_eq_true rfl) hST.1
  intro  hf H locs ls hP hS hl
  unfold pM_faulty at hf
  refine lv_aload_n hx hb dX10_faulty_0 rfl (lv_at hl 0 rfl) ?_
  refine lv_aload_n hx hb dX10_faulty_1 rfl (lv_at hl 0 rfl) ?_
  refine zg_m_faultAt hC hP (hC.fl mw_1395) dX10_faulty_2 ?_
  refine zp_m_place hC hP hI (fun k h1 h2 => zF.own h1 h2) hS (hC.fl mw_1392) dX10_faulty_5 (fun H locs hP hS => ?_)
  refine lv_aload_n hx hb dX10_faulty_8 rfl (lv_at hl 0 rfl) ?_
  refine zg_m_fault hC hP (hC.fl mw_1394) dX10_faulty_9 ?_
  refine lv_bipush (v := 10) hx hb dX10_faulty_12 (by decide) ?_
  refine lv_isub hx hb dX10_faulty_14 ?_
  exact hfin _ _ H locs _ ls (Option.some.inj hf) hP hS dX10_faulty_15
set_option maxHeartbeats 4000000 in
set_option maxRecDepth 100000 in
theorem cpM_faulty (l : Launch) {g : zG} (hI : zI g 581) (sz : Nat) (m_thrown : Int32) (m_tape : Int32) (m_size : Int32) (m_place : Int32) (m_at : Int32) (m_fault : Int32) (m_faultAt : Int32) (m_clauses : Int32) (m_open : Int32) (m_fed : Nat → Int32) (m_refused : Nat → Int32) (m_readTold : Nat → Int32) (m_told : Nat → Int32) (m_readBeast : Nat → Nat → Int32) (m_beast : Nat → Nat → Int32) (m_readGate : Nat → Nat → Int32) (m_gate : Nat → Nat → Int32) (m_readList : Nat → Nat → Int32) (m_list : Nat → Nat → Int32) (m_lawMany : Int32) (m_readLawMany : Int32) (m_law : Nat → Nat → Int32) (m_readLaw : Nat → Nat → Int32) (m_stack : Nat → Int32) (m_known : Nat → Int32) (m_step : Nat → Nat → Int32) (m_steps : Int32) (m_now : Nat → Int32) (m_trial : Nat → Int32) (m_before : Nat → Nat → Int32) (m_kept : Nat → Nat → Int32) (m_works : Int32) (m_refusedSteps : Int32) (m_images : Int32) (m_spot : Int32) (m_begun : Int32) (m_doneSteps : Int32) (m_mixed : Nat → Int32) (m_fewest : Nat → Int32) (m_leastFees : Nat → Int32) (m_lots : Int32) (m_tars : Int32) (N9 : Nat) {r0 : Int32} {m_place' : Int32} (hf : pM_faulty N9  m_place m_fault m_faultAt = some (r0, m_place')) : zMi l yX10_faulty cX10_faulty 1 (some .int) 1 g (zM g m_thrown m_tape m_size m_place m_at m_fault m_faultAt m_clauses m_open m_fed m_refused m_readTold m_told m_readBeast m_beast m_readGate m_gate m_readList m_list m_lawMany m_readLawMany m_law m_readLaw m_stack m_known m_step m_steps m_now m_trial m_before m_kept m_works m_refusedSteps m_images m_spot m_begun m_doneSteps m_mixed m_fewest m_leastFees m_lots m_tars) (zM g m_thrown m_tape m_size m_place' m_at m_fault m_faultAt m_clauses m_open m_fed m_refused m_readTold m_told m_readBeast m_beast m_readGate m_gate m_readList m_list m_lawMany m_readLawMany m_law m_readLaw m_stack m_known m_step m_steps m_now m_trial m_before m_kept m_works m_refusedSteps m_images m_spot m_begun m_doneSteps m_mixed m_fewest m_leastFees m_lots m_tars) sz (zF g 64 580 sz) [.ref (g.2.1 64)] r0 := by
  refine Met.ofW (cc := cX10_faulty) (maxL := 1) (ret := (some .int)) (by decide +kernel) rfl ?_
  intro p e s m args below meth c s₁ B hml hv
  obtain ⟨rfl, hsz, hP, hK, hST⟩ := hv
  subst hsz
  have hC := zstart (own := RX10) rfl B hml hK hST
  have hl := lv_entry ([.ref (g.2.1 64)]) (n := 1) (Nat.le_of_ble_eq_true rfl)
  rw [lg_entry_eq]
  generalize (lg_sl ([.ref (g.2.1 64)]) ++ List.replicate (1 - (lg_sl ([.ref (g.2.1 64)])).length) Slot.unset).toArray = ls at hl ⊢
  have hl : lv_has ls 1 [(0, .ref (g.2.1 64))] := hl
  obtain ⟨hx, hb, hr, hml, hown, hts, hK, hlk, hST⟩ := id hC
  refine mpM_faulty hI hC ⟨Nat.le_refl _, Nat.le_refl _, Nat.le_refl _, Nat.le_refl _⟩ m_thrown m_tape m_size m_place m_at m_fault m_faultAt m_clauses m_open m_fed m_refused m_readTold m_told m_readBeast m_beast m_readGate m_gate m_readList m_list m_lawMany m_readLawMany m_law m_readLaw m_stack m_known m_step m_steps m_now m_trial m_before m_kept m_works m_refusedSteps m_images m_spot m_begun m_doneSteps m_mixed m_fewest m_leastFees m_lots m_tars N9 (r0, m_place') ?_ hf _ _ ls hP va_S.rf hl
  intro r1 m_place1 H locs pc ls he hP hS hd
  cases he
  exact W.iret hx hb hr (fun t ht hW => ⟨⟨_, (), rfl, rfl, by rw [← ht] at hP; exact hP⟩, hS.F ht⟩) hS.2.2 hd hlk
/-! StripeTradeModel.kindHere ()I [('obj', 'm')] -/
set_option maxHeartbeats 4000000 in
set_option maxRecDepth 100000 in
theorem mpM_kindHere_75 {p : Program} {l : Launch} {e : Env} {R : Room} {s : State} {m : MethodId} {args : Array Value} {below : List Frame} {meth : Method} {c : Code} {cells slots : Nat} {Q : State → Prop} {g : zG} (hI : zI g 581) (hC : zC g RX10 cX10_kindHere 1 (some .int) p s m meth c args) (hR : 6 ≤ R.frames ∧ 60 * 6 ≤ R.locals ∧ cells ≤ R.cells ∧ slots ≤ R.slots) (m_thrown : Int32) (m_tape : Int32) (m_size : Int32) (m_place : Int32) (m_fault : Int32) (m_faultAt : Int32) (m_clauses : Int32) (m_open : Int32) (m_fed : Nat → Int32) (m_refused : Nat → Int32) (m_readTold : Nat → Int32) (m_told : Nat → Int32) (m_readBeast : Nat → Nat → Int32) (m_beast : Nat → Nat → Int32) (m_readGate : Nat → Nat → Int32) (m_gate : Nat → Nat → Int32) (m_readList : Nat → Nat → Int32) (m_list : Nat → Nat → Int32) (m_lawMany : Int32) (m_readLawMany : Int32) (m_law : Nat → Nat → Int32) (m_readLaw : Nat → Nat → Int32) (m_stack : Nat → Int32) (m_known : Nat → Int32) (m_step : Nat → Nat → Int32) (m_steps : Int32) (m_now : Nat → Int32) (m_trial : Nat → Int32) (m_before : Nat → Nat → Int32) (m_kept : Nat → Nat → Int32) (m_works : Int32) (m_refusedSteps : Int32) (m_images : Int32) (m_spot : Int32) (m_begun : Int32) (m_doneSteps : Int32) (m_mixed : Nat → Int32) (m_fewest : Nat → Int32) (m_leastFees : Nat → Int32) (m_lots : Int32) (m_tars : Int32)  (N9 : Nat)   (res : Int32 × Int32) (hfin : ∀ (r0 : Int32) (m_at : Int32) (H : Heap) (locs : List Loc) (pc : Nat) (ls : Array Slot), (r0, m_at) = res → va_P g.1 zcl (zM g m_thrown m_tape m_size m_place m_at m_fault m_faultAt m_clauses m_open m_fed m_refused m_readTold m_told m_readBeast m_beast m_readGate m_gate m_readList m_list m_lawMany m_readLawMany m_law m_readLaw m_stack m_known m_step m_steps m_now m_trial m_before m_kept m_works m_refusedSteps m_images m_spot m_begun m_doneSteps m_mixed m_fewest m_leastFees m_lots m_tars) H → va_S (zF g 64 580 s.heap.size) s.heap H locs → decode cX10_kindHere pc = .ok (.ireturn, 1) → W p l e R s m args below meth c H locs cells slots Q (F0 m pc ls [.int r0])) : ∀ (m_at : Int32) (s0 : Int32), pM_kindHere_75 N9 m_at s0 = some res → ∀ (H : Heap) (locs : List Loc) (ls : Array Slot), va_P g.1 zcl (zM g m_thrown m_tape m_size m_place m_at m_fault m_faultAt m_clauses m_open m_fed m_refused m_readTold m_told m_readBeast m_beast m_readGate m_gate m_readList m_list m_lawMany m_readLawMany m_law m_readLaw m_stack m_known m_step m_steps m_now m_trial m_before m_kept m_works m_refusedSteps m_images m_spot m_begun m_doneSteps m_mixed m_fewest m_leastFees m_lots m_tars) H → va_S (zF g 64 580 s.heap.size) s.heap H locs → lv_has ls 1 [] → W p l e R s m args below meth c H locs cells slots Q (F0 m 75 ls [.int s0]) := by
  obtain ⟨hx, hb, hr, hml, hown, hts, hK, hlk, hST⟩ := id hC
  have hB : ∀ q, (zF g 64 580 s.heap.size) q → zB g q := zF.base hI (Nat.le_of_ble_eq_true rfl) hST.1
  intro m_at s0 hf H locs ls hP hS hl
  unfold pM_kindHere_75 at hf
  exact hfin _ _ H locs _ ls (Option.some.inj hf) hP hS dX10_kindHere_75
set_option maxHeartbeats 4000000 in
set_option maxRecDepth 100000 in
theorem mpM_kindHere {p : Program} {l : Launch} {e : Env} {R : Room} {s : State} {m : MethodId} {args : Array Value} {below : List Frame} {meth : Method} {c : Code} {cells slots : Nat} {Q : State → Prop} {g : zG} (hI : zI g 581) (hC : zC g RX10 cX10_kindHere 1 (some .int) p s m meth c args) (hR : 6 ≤ R.frames ∧ 60 * 6 ≤ R.locals ∧ cells ≤ R.cells ∧ slots ≤ R.slots) (m_thrown : Int32) (m_tape : Int32) (m_size : Int32) (m_place : Int32) (m_at : Int32) (m_fault : Int32) (m_faultAt : Int32) (m_clauses : Int32) (m_open : Int32) (m_fed : Nat → Int32) (m_refused : Nat → Int32) (m_readTold : Nat → Int32) (m_told : Nat → Int32) (m_readBeast : Nat → Nat → Int32) (m_beast : Nat → Nat → Int32) (m_readGate : Nat → Nat → Int32) (m_gate : Nat → Nat → Int32) (m_readList : Nat → Nat → Int32) (m_list : Nat → Nat → Int32) (m_lawMany : Int32) (m_readLawMany : Int32) (m_law : Nat → Nat → Int32) (m_readLaw : Nat → Nat → Int32) (m_stack : Nat → Int32) (m_known : Nat → Int32) (m_step : Nat → Nat → Int32) (m_steps : Int32) (m_now : Nat → Int32) (m_trial : Nat → Int32) (m_before : Nat → Nat → Int32) (m_kept : Nat → Nat → Int32) (m_works : Int32) (m_refusedSteps : Int32) (m_images : Int32) (m_spot : Int32) (m_begun : Int32) (m_doneSteps : Int32) (m_mixed : Nat → Int32) (m_fewest : Nat → Int32) (m_leastFees : Nat → Int32) (m_lots : Int32) (m_tars : Int32)  (N9 : Nat)   (res : Int32 × Int32) (hfin : ∀ (r0 : Int32) (m_at : Int32) (H : Heap) (locs : List Loc) (pc : Nat) (ls : Array Slot), (r0, m_at) = res → va_P g.1 zcl (zM g m_thrown m_tape m_size m_place m_at m_fault m_faultAt m_clauses m_open m_fed m_refused m_readTold m_told m_readBeast m_beast m_readGate m_gate m_readList m_list m_lawMany m_readLawMany m_law m_readLaw m_stack m_known m_step m_steps m_now m_trial m_before m_kept m_works m_refusedSteps m_images m_spot m_begun m_doneSteps m_mixed m_fewest m_leastFees m_lots m_tars) H → va_S (zF g 64 580 s.heap.size) s.heap H locs → decode cX10_kindHere pc = .ok (.ireturn, 1) → W p l e R s m args below meth c H locs cells slots Q (F0 m pc ls [.int r0])) : pM_kindHere N9 m_size m_at m_fault m_fed = some res → ∀ (H : Heap) (locs : List Loc) (ls : Array Slot), va_P g.1 zcl (zM g m_thrown m_tape m_size m_place m_at m_fault m_faultAt m_clauses m_open m_fed m_refused m_readTold m_told m_readBeast m_beast m_readGate m_gate m_readList m_list m_lawMany m_readLawMany m_law m_readLaw m_stack m_known m_step m_steps m_now m_trial m_before m_kept m_works m_refusedSteps m_images m_spot m_begun m_doneSteps m_mixed m_fewest m_leastFees m_lots m_tars) H → va_S (zF g 64 580 s.heap.size) s.heap H locs → lv_has ls 1 [(0, .ref (g.2.1 64))] → W p l e R s m args below meth c H locs cells slots Q (F0 m 0 ls []) := by
  obtain ⟨hx, hb, hr, hml, hown, hts, hK, hlk, hST⟩ := id hC
  have hB : ∀ q, (zF g 64 580 s.heap.size) q → zB g q := zF.base hI (Nat.le_of_ble_eq_true rfl) hST.1
  intro  hf H locs ls hP hS hl
  have hk75 := mpM_kindHere_75 (l := l) (e := e) (R := R) (below := below) (cells := cells) (slots := slots) (Q := Q) hI hC hR m_thrown m_tape m_size m_place m_fault m_faultAt m_clauses m_open m_fed m_refused m_readTold m_told m_readBeast m_beast m_readGate m_gate m_readList m_list m_lawMany m_readLawMany m_law m_readLaw m_stack m_known m_step m_steps m_now m_trial m_before m_kept m_works m_refusedSteps m_images m_spot m_begun m_doneSteps m_mixed m_fewest m_leastFees m_lots m_tars N9 res hfin
  unfold pM_kindHere at hf
  refine lv_aload_n hx hb dX10_kindHere_0 rfl (lv_at hl 0 rfl) ?_
  refine lv_iconst (v := 2) hx hb dX10_kindHere_1 (by decide) ?_
  refine lv_iconst (v := 5) hx hb dX10_kindHere_2 (by decide) ?_
  refine lv_iconst (v := 1) hx hb dX10_kindHere_3 (by decide) ?_
  refine lv_bipush (v := 19) hx hb dX10_kindHere_4 (by decide) ?_
  refine lv_bipush (v := 20) hx hb dX10_kindHere_6 (by decide) ?_
  refine lv_iconst (v := 0) hx hb dX10_kindHere_8 (by decide) ?_
  obtain ⟨r_1, m_at_1, hf_1, hf⟩ := zb2i hf
  refine zcallVi (As := [.int 2, .int 5, .int 1, .int 19, .int 20, .int 0]) (rest := []) hC hP hS hB (fun q h => zF.mono hS.1 h) (cpM_isWord l hI H.size m_thrown m_tape m_size m_place m_at m_fault m_faultAt m_clauses m_open m_fed m_refused m_readTold m_told m_readBeast m_beast m_readGate m_gate m_readList m_list m_lawMany m_readLawMany m_law m_readLaw m_stack m_known m_step m_steps m_now m_trial m_before m_kept m_works m_refusedSteps m_images m_spot m_begun m_doneSteps m_mixed m_fewest m_leastFees m_lots m_tars (2 : Int32) (5 : Int32) (1 : Int32) (19 : Int32) (20 : Int32) (0 : Int32) N9 hf_1) (hC.ml mw_1555) yo_X10_isWord 0 (zfM rfl) rfl rfl rfl hl.1 rfl (Nat.le_of_ble_eq_true rfl) ⟨by omega, by omega⟩ hR.2.2 dX10_kindHere_9 (fun H locs hP hS _ _ => ?_)
  refine lv_if_eq (tgt := 17) hx hb dX10_kindHere_12 (by decide) (fun hc_2 => ?_) (fun hc_2 => ?_)
  · have hf := zifp hc_2 hf
    refine lv_aload_n hx hb dX10_kindHere_17 rfl (lv_at hl 0 rfl) ?_
    refine lv_bipush (v := 7) hx hb dX10_kindHere_18 (by decide) ?_
    refine lv_iconst (v := 1) hx hb dX10_kindHere_20 (by decide) ?_
    refine lv_bipush (v := 20) hx hb dX10_kindHere_21 (by decide) ?_
    refine lv_iconst (v := 5) hx hb dX10_kindHere_23 (by decide) ?_
    refine lv_iconst (v := 0) hx hb dX10_kindHere_24 (by decide) ?_
    refine lv_iconst (v := 0) hx hb dX10_kindHere_25 (by decide) ?_
    obtain ⟨r_3, m_at_3, hf_3, hf⟩ := zb2i hf
    refine zcallVi (As := [.int 7, .int 1, .int 20, .int 5, .int 0, .int 0]) (rest := []) hC hP hS hB (fun q h => zF.mono hS.1 h) (cpM_isWord l hI H.size m_thrown m_tape m_size m_place m_at_1 m_fault m_faultAt m_clauses m_open m_fed m_refused m_readTold m_told m_readBeast m_beast m_readGate m_gate m_readList m_list m_lawMany m_readLawMany m_law m_readLaw m_stack m_known m_step m_steps m_now m_trial m_before m_kept m_works m_refusedSteps m_images m_spot m_begun m_doneSteps m_mixed m_fewest m_leastFees m_lots m_tars (7 : Int32) (1 : Int32) (20 : Int32) (5 : Int32) (0 : Int32) (0 : Int32) N9 hf_3) (hC.ml mw_1555) yo_X10_isWord 0 (zfM rfl) rfl rfl rfl hl.1 rfl (Nat.le_of_ble_eq_true rfl) ⟨by omega, by omega⟩ hR.2.2 dX10_kindHere_26 (fun H locs hP hS _ _ => ?_)
    refine lv_if_eq (tgt := 34) hx hb dX10_kindHere_29 (by decide) (fun hc_4 => ?_) (fun hc_4 => ?_)
    · have hf := zifp hc_4 hf
      refine lv_aload_n hx hb dX10_kindHere_34 rfl (lv_at hl 0 rfl) ?_
      refine lv_bipush (v := 12) hx hb dX10_kindHere_35 (by decide) ?_
      refine lv_bipush (v := 9) hx hb dX10_kindHere_37 (by decide) ?_
      refine lv_bipush (v := 19) hx hb dX10_kindHere_39 (by decide) ?_
      refine lv_bipush (v := 20) hx hb dX10_kindHere_41 (by decide) ?_
      refine lv_iconst (v := 0) hx hb dX10_kindHere_43 (by decide) ?_
      refine lv_iconst (v := 0) hx hb dX10_kindHere_44 (by decide) ?_
      obtain ⟨r_5, m_at_5, hf_5, hf⟩ := zb2i hf
      refine zcallVi (As := [.int 12, .int 9, .int 19, .int 20, .int 0, .int 0]) (rest := []) hC hP hS hB (fun q h => zF.mono hS.1 h) (cpM_isWord l hI H.size m_thrown m_tape m_size m_place m_at_3 m_fault m_faultAt m_clauses m_open m_fed m_refused m_readTold m_told m_readBeast m_beast m_readGate m_gate m_readList m_list m_lawMany m_readLawMany m_law m_readLaw m_stack m_known m_step m_steps m_now m_trial m_before m_kept m_works m_refusedSteps m_images m_spot m_begun m_doneSteps m_mixed m_fewest m_leastFees m_lots m_tars (12 : Int32) (9 : Int32) (19 : Int32) (20 : Int32) (0 : Int32) (0 : Int32) N9 hf_5) (hC.ml mw_1555) yo_X10_isWord 0 (zfM rfl) rfl rfl rfl hl.1 rfl (Nat.le_of_ble_eq_true rfl) ⟨by omega, by omega⟩ hR.2.2 dX10_kindHere_45 (fun H locs hP hS _ _ => ?_)
      refine lv_if_eq (tgt := 53) hx hb dX10_kindHere_48 (by decide) (fun hc_6 => ?_) (fun hc_6 => ?_)
      · have hf := zifp hc_6 hf
        refine lv_aload_n hx hb dX10_kindHere_53 rfl (lv_at hl 0 rfl) ?_
        refine lv_bipush (v := 16) hx hb dX10_kindHere_54 (by decide) ?_
        refine lv_bipush (v := 21) hx hb dX10_kindHere_56 (by decide) ?_
        refine lv_bipush (v := 18) hx hb dX10_kindHere_58 (by decide) ?_
        refine lv_bipush (v := 19) hx hb dX10_kindHere_60 (by decide) ?_
        refine lv_iconst (v := 5) hx hb dX10_kindHere_62 (by decide) ?_
        refine lv_iconst (v := 0) hx hb dX10_kindHere_63 (by decide) ?_
        obtain ⟨r_7, m_at_7, hf_7, hf⟩ := zb2i hf
        refine zcallVi (As := [.int 16, .int 21, .int 18, .int 19, .int 5, .int 0]) (rest := []) hC hP hS hB (fun q h => zF.mono hS.1 h) (cpM_isWord l hI H.size m_thrown m_tape m_size m_place m_at_5 m_fault m_faultAt m_clauses m_open m_fed m_refused m_readTold m_told m_readBeast m_beast m_readGate m_gate m_readList m_list m_lawMany m_readLawMany m_law m_readLaw m_stack m_known m_step m_steps m_now m_trial m_before m_kept m_works m_refusedSteps m_images m_spot m_begun m_doneSteps m_mixed m_fewest m_leastFees m_lots m_tars (16 : Int32) (21 : Int32) (18 : Int32) (19 : Int32) (5 : Int32) (0 : Int32) N9 hf_7) (hC.ml mw_1555) yo_X10_isWord 0 (zfM rfl) rfl rfl rfl hl.1 rfl (Nat.le_of_ble_eq_true rfl) ⟨by omega, by omega⟩ hR.2.2 dX10_kindHere_64 (fun H locs hP hS _ _ => ?_)
        refine lv_if_eq (tgt := 74) hx hb dX10_kindHere_67 (by decide) (fun hc_8 => ?_) (fun hc_8 => ?_)
        · have hf := zifp hc_8 hf
          refine lv_iconst (v := (-1)) hx hb dX10_kindHere_74 (by decide) ?_
          exact hk75 m_at_7 (-1) hf H locs ls hP hS (lv_sub hl [] rfl)
        · have hf := zifn hc_8 hf
          refine lv_iconst (v := 3) hx hb dX10_kindHere_70 (by decide) ?_
          refine lv_goto (tgt := 75) hx hb dX10_kindHere_71 (by decide) ?_
          exact hk75 m_at_7 3 hf H locs ls hP hS (lv_sub hl [] rfl)
      · have hf := zifn hc_6 hf
        refine lv_iconst (v := 2) hx hb dX10_kindHere_51 (by decide) ?_
        exact hfin _ _ H locs _ ls (Option.some.inj hf) hP hS dX10_kindHere_52
    · have hf := zifn hc_4 hf
      refine lv_iconst (v := 1) hx hb dX10_kindHere_32 (by decide) ?_
      exact hfin _ _ H locs _ ls (Option.some.inj hf) hP hS dX10_kindHere_33
  · have hf := zifn hc_2 hf
    refine lv_iconst (v := 0) hx hb dX10_kindHere_15 (by decide) ?_
    exact hfin _ _ H locs _ ls (Option.some.inj hf) hP hS dX10_kindHere_16
set_option maxHeartbeats 4000000 in
set_option maxRecDepth 100000 in
theorem cpM_kindHere (l : Launch) {g : zG} (hI : zI g 581) (sz : Nat) (m_thrown : Int32) (m_tape : Int32) (m_size : Int32) (m_place : Int32) (m_at : Int32) (m_fault : Int32) (m_faultAt : Int32) (m_clauses : Int32) (m_open : Int32) (m_fed : Nat → Int32) (m_refused : Nat → Int32) (m_readTold : Nat → Int32) (m_told : Nat → Int32) (m_readBeast : Nat → Nat → Int32) (m_beast : Nat → Nat → Int32) (m_readGate : Nat → Nat → Int32) (m_gate : Nat → Nat → Int32) (m_readList : Nat → Nat → Int32) (m_list : Nat → Nat → Int32) (m_lawMany : Int32) (m_readLawMany : Int32) (m_law : Nat → Nat → Int32) (m_readLaw : Nat → Nat → Int32) (m_stack : Nat → Int32) (m_known : Nat → Int32) (m_step : Nat → Nat → Int32) (m_steps : Int32) (m_now : Nat → Int32) (m_trial : Nat → Int32) (m_before : Nat → Nat → Int32) (m_kept : Nat → Nat → Int32) (m_works : Int32) (m_refusedSteps : Int32) (m_images : Int32) (m_spot : Int32) (m_begun : Int32) (m_doneSteps : Int32) (m_mixed : Nat → Int32) (m_fewest : Nat → Int32) (m_leastFees : Nat → Int32) (m_lots : Int32) (m_tars : Int32) (N9 : Nat) {r0 : Int32} {m_at' : Int32} (hf : pM_kindHere N9  m_size m_at m_fault m_fed = some (r0, m_at')) : zMi l yX10_kindHere cX10_kindHere 1 (some .int) 6 g (zM g m_thrown m_tape m_size m_place m_at m_fault m_faultAt m_clauses m_open m_fed m_refused m_readTold m_told m_readBeast m_beast m_readGate m_gate m_readList m_list m_lawMany m_readLawMany m_law m_readLaw m_stack m_known m_step m_steps m_now m_trial m_before m_kept m_works m_refusedSteps m_images m_spot m_begun m_doneSteps m_mixed m_fewest m_leastFees m_lots m_tars) (zM g m_thrown m_tape m_size m_place m_at' m_fault m_faultAt m_clauses m_open m_fed m_refused m_readTold m_told m_readBeast m_beast m_readGate m_gate m_readList m_list m_lawMany m_readLawMany m_law m_readLaw m_stack m_known m_step m_steps m_now m_trial m_before m_kept m_works m_refusedSteps m_images m_spot m_begun m_doneSteps m_mixed m_fewest m_leastFees m_lots m_tars) sz (zF g 64 580 sz) [.ref (g.2.1 64)] r0 := by
  refine Met.ofW (cc := cX10_kindHere) (maxL := 1) (ret := (some .int)) (by decide +kernel) rfl ?_
  intro p e s m args below meth c s₁ B hml hv
  obtain ⟨rfl, hsz, hP, hK, hST⟩ := hv
  subst hsz
  have hC := zstart (own := RX10) rfl B hml hK hST
  have hl := lv_entry ([.ref (g.2.1 64)]) (n := 1) (Nat.le_of_ble_eq_true rfl)
  rw [lg_entry_eq]
  generalize (lg_sl ([.ref (g.2.1 64)]) ++ List.replicate (1 - (lg_sl ([.ref (g.2.1 64)])).length) Slot.unset).toArray = ls at hl ⊢
  have hl : lv_has ls 1 [(0, .ref (g.2.1 64))] := hl
  obtain ⟨hx, hb, hr, hml, hown, hts, hK, hlk, hST⟩ := id hC
  refine mpM_kindHere hI hC ⟨Nat.le_refl _, Nat.le_refl _, Nat.le_refl _, Nat.le_refl _⟩ m_thrown m_tape m_size m_place m_at m_fault m_faultAt m_clauses m_open m_fed m_refused m_readTold m_told m_readBeast m_beast m_readGate m_gate m_readList m_list m_lawMany m_readLawMany m_law m_readLaw m_stack m_known m_step m_steps m_now m_trial m_before m_kept m_works m_refusedSteps m_images m_spot m_begun m_doneSteps m_mixed m_fewest m_leastFees m_lots m_tars N9 (r0, m_at') ?_ hf _ _ ls hP va_S.rf hl
  intro r1 m_at1 H locs pc ls he hP hS hd
  cases he
  exact W.iret hx hb hr (fun t ht hW => ⟨⟨_, (), rfl, rfl, by rw [← ht] at hP; exact hP⟩, hS.F ht⟩) hS.2.2 hd hlk
/-! StripeTradeModel.mostOf (I)I [] -/
set_option maxHeartbeats 4000000 in
set_option maxRecDepth 100000 in
theorem mpM_mostOf_20 {p : Program} {l : Launch} {e : Env} {R : Room} {s : State} {m : MethodId} {args : Array Value} {below : List Frame} {meth : Method} {c : Code} {cells slots : Nat} {Q : State → Prop} {g : zG} (hI : zI g 581) (hC : zC g RX10 cX10_mostOf 1 (some .int) p s m meth c args) (hR : 1 ≤ R.frames ∧ 60 * 1 ≤ R.locals ∧ cells ≤ R.cells ∧ slots ≤ R.slots)   (N9 : Nat)   (res : Int32) (hfin : ∀ (r0 : Int32) (H : Heap) (locs : List Loc) (pc : Nat) (ls : Array Slot), r0 = res → True → va_S (fun _ => False) s.heap H locs → decode cX10_mostOf pc = .ok (.ireturn, 1) → W p l e R s m args below meth c H locs cells slots Q (F0 m pc ls [.int r0])) : ∀ (s0 : Int32), pM_mostOf_20 N9 s0 = some res → ∀ (H : Heap) (locs : List Loc) (ls : Array Slot), True → va_S (fun _ => False) s.heap H locs → lv_has ls 1 [] → W p l e R s m args below meth c H locs cells slots Q (F0 m 20 ls [.int s0]) := by
  obtain ⟨hx, hb, hr, hml, hown, hts, hK, hlk, hST⟩ := id hC
  have hB : ∀ q, (fun _ => False) q → zB g q := fun q h => h.elim
  intro s0 hf H locs ls hP hS hl
  unfold pM_mostOf_20 at hf
  exact hfin _ H locs _ ls (Option.some.inj hf) hP hS dX10_mostOf_20
set_option maxHeartbeats 4000000 in
set_option maxRecDepth 100000 in
theorem mpM_mostOf {p : Program} {l : Launch} {e : Env} {R : Room} {s : State} {m : MethodId} {args : Array Value} {below : List Frame} {meth : Method} {c : Code} {cells slots : Nat} {Q : State → Prop} {g : zG} (hI : zI g 581) (hC : zC g RX10 cX10_mostOf 1 (some .int) p s m meth c args) (hR : 1 ≤ R.frames ∧ 60 * 1 ≤ R.locals ∧ cells ≤ R.cells ∧ slots ≤ R.slots)  (x0 : Int32) (N9 : Nat)   (res : Int32) (hfin : ∀ (r0 : Int32) (H : Heap) (locs : List Loc) (pc : Nat) (ls : Array Slot), r0 = res → True → va_S (fun _ => False) s.heap H locs → decode cX10_mostOf pc = .ok (.ireturn, 1) → W p l e R s m args below meth c H locs cells slots Q (F0 m pc ls [.int r0])) : pM_mostOf N9 x0 = some res → ∀ (H : Heap) (locs : List Loc) (ls : Array Slot), True → va_S (fun _ => False) s.heap H locs → lv_has ls 1 [(0, .int x0)] → W p l e R s m args below meth c H locs cells slots Q (F0 m 0 ls []) := by
  obtain ⟨hx, hb, hr, hml, hown, hts, hK, hlk, hST⟩ := id hC
  have hB : ∀ q, (fun _ => False) q → zB g q := fun q h => h.elim
  intro  hf H locs ls hP hS hl
  have hk20 := mpM_mostOf_20 (l := l) (e := e) (R := R) (below := below) (cells := cells) (slots := slots) (Q := Q) hI hC hR N9 res hfin
  unfold pM_mostOf at hf
  refine lv_iload_n hx hb dX10_mostOf_0 rfl (lv_at hl 0 rfl) ?_
  refine lv_if_ne (tgt := 9) hx hb dX10_mostOf_1 (by decide) (fun hc_1 => ?_) (fun hc_1 => ?_)
  · have hf := zifn hc_1 hf
    refine lv_iload_n hx hb dX10_mostOf_9 rfl (lv_at hl 0 rfl) ?_
    refine lv_iconst (v := 1) hx hb dX10_mostOf_10 (by decide) ?_
    refine lv_icmp_ne (tgt := 18) hx hb dX10_mostOf_11 (by decide) (fun hc_2 => ?_) (fun hc_2 => ?_)
    · have hf := zifn hc_2 hf
      refine lv_bipush (v := 24) hx hb dX10_mostOf_18 (by decide) ?_
      exact hk20 24 hf H locs ls hP hS (lv_sub hl [] rfl)
    · have hf := zifp hc_2 hf
      refine lv_iconst (v := 5) hx hb dX10_mostOf_14 (by decide) ?_
      refine lv_goto (tgt := 20) hx hb dX10_mostOf_15 (by decide) ?_
      exact hk20 5 hf H locs ls hP hS (lv_sub hl [] rfl)
  · have hf := zifp hc_1 hf
    refine lv_bipush (v := 8) hx hb dX10_mostOf_4 (by decide) ?_
    refine lv_goto (tgt := 20) hx hb dX10_mostOf_6 (by decide) ?_
    exact hk20 8 hf H locs ls hP hS (lv_sub hl [] rfl)
set_option maxHeartbeats 4000000 in
set_option maxRecDepth 100000 in
theorem cpM_mostOf (l : Launch) {g : zG} (hI : zI g 581)  (x0 : Int32) (N9 : Nat) {r0 : Int32} (hf : pM_mostOf N9  x0 = some r0) : zMp l yX10_mostOf cX10_mostOf 1 (some .int) 1 g [.int x0] r0 := by
  refine Met.ofW (cc := cX10_mostOf) (maxL := 1) (ret := (some .int)) (by decide +kernel) rfl ?_
  intro p e s m args below meth c s₁ B hml hv
  obtain ⟨rfl, hK, hST⟩ := hv
  have hP : True := trivial
  have hC := zstart (own := RX10) rfl B hml hK hST
  have hl := lv_entry ([.int x0]) (n := 1) (Nat.le_of_ble_eq_true rfl)
  rw [lg_entry_eq]
  generalize (lg_sl ([.int x0]) ++ List.replicate (1 - (lg_sl ([.int x0])).length) Slot.unset).toArray = ls at hl ⊢
  have hl : lv_has ls 1 [(0, .int x0)] := hl
  obtain ⟨hx, hb, hr, hml, hown, hts, hK, hlk, hST⟩ := id hC
  refine mpM_mostOf hI hC ⟨Nat.le_refl _, Nat.le_refl _, Nat.le_refl _, Nat.le_refl _⟩ x0 N9 r0 ?_ hf _ _ ls hP va_S.rf hl
  intro r1 H locs pc ls he hP hS hd
  cases he
  exact W.iret hx hb hr (fun t ht hW => ⟨⟨_, (), rfl, rfl, trivial⟩, hS.F ht⟩) hS.2.2 hd hlk
/-! StripeTradeModel.clause ()V [('obj', 'm')] -/
set_option maxHeartbeats 4000000 in
set_option maxRecDepth 100000 in
theorem mpM_clause_274 {p : Program} {l : Launch} {e : Env} {R : Room} {s : State} {m : MethodId} {args : Array Value} {below : List Frame} {meth : Method} {c : Code} {cells slots : Nat} {Q : State → Prop} {g : zG} (hI : zI g 581) (hC : zC g RX10 cX10_clause 4 none p s m meth c args) (hR : 7 ≤ R.frames ∧ 60 * 7 ≤ R.locals ∧ cells ≤ R.cells ∧ slots ≤ R.slots) (m_thrown : Int32) (m_tape : Int32) (m_size : Int32) (m_place : Int32) (m_at : Int32) (m_fault : Int32) (m_faultAt : Int32) (m_clauses : Int32) (m_open : Int32) (m_fed : Nat → Int32) (m_refused : Nat → Int32) (m_told : Nat → Int32) (m_readBeast : Nat → Nat → Int32) (m_beast : Nat → Nat → Int32) (m_readGate : Nat → Nat → Int32) (m_gate : Nat → Nat → Int32) (m_readList : Nat → Nat → Int32) (m_list : Nat → Nat → Int32) (m_lawMany : Int32) (m_readLawMany : Int32) (m_law : Nat → Nat → Int32) (m_readLaw : Nat → Nat → Int32) (m_stack : Nat → Int32) (m_known : Nat → Int32) (m_step : Nat → Nat → Int32) (m_steps : Int32) (m_now : Nat → Int32) (m_trial : Nat → Int32) (m_before : Nat → Nat → Int32) (m_kept : Nat → Nat → Int32) (m_works : Int32) (m_refusedSteps : Int32) (m_images : Int32) (m_spot : Int32) (m_begun : Int32) (m_doneSteps : Int32) (m_mixed : Nat → Int32) (m_fewest : Nat → Int32) (m_leastFees : Nat → Int32) (m_lots : Int32) (m_tars : Int32)  (N9 : Nat)   (res : Int32 × Int32 × Int32 × Int32 × (Nat → Int32) × (Nat → Nat → Int32) × (Nat → Nat → Int32) × (Nat → Nat → Int32)) (hfin : ∀ (m_at : Int32) (m_fault : Int32) (m_faultAt : Int32) (m_clauses : Int32) (m_readTold : Nat → Int32) (m_readBeast : Nat → Nat → Int32) (m_readGate : Nat → Nat → Int32) (m_readList : Nat → Nat → Int32) (H : Heap) (locs : List Loc) (pc : Nat) (ls : Array Slot), (m_at, m_fault, m_faultAt, m_clauses, m_readTold, m_readBeast, m_readGate, m_readList) = res → va_P g.1 zcl (zM g m_thrown m_tape m_size m_place m_at m_fault m_faultAt m_clauses m_open m_fed m_refused m_readTold m_told m_readBeast m_beast m_readGate m_gate m_readList m_list m_lawMany m_readLawMany m_law m_readLaw m_stack m_known m_step m_steps m_now m_trial m_before m_kept m_works m_refusedSteps m_images m_spot m_begun m_doneSteps m_mixed m_fewest m_leastFees m_lots m_tars) H → va_S (zF g 64 580 s.heap.size) s.heap H locs → decode cX10_clause pc = .ok (.return_, 1) → W p l e R s m args below meth c H locs cells slots Q (F0 m pc ls [])) : ∀ (m_readTold : Nat → Int32), pM_clause_274 N9 m_size m_at m_fault m_faultAt m_clauses m_fed m_readBeast m_readGate m_readList m_readTold = some res → ∀ (H : Heap) (locs : List Loc) (ls : Array Slot), va_P g.1 zcl (zM g m_thrown m_tape m_size m_place m_at m_fault m_faultAt m_clauses m_open m_fed m_refused m_readTold m_told m_readBeast m_beast m_readGate m_gate m_readList m_list m_lawMany m_readLawMany m_law m_readLaw m_stack m_known m_step m_steps m_now m_trial m_before m_kept m_works m_refusedSteps m_images m_spot m_begun m_doneSteps m_mixed m_fewest m_leastFees m_lots m_tars) H → va_S (zF g 64 580 s.heap.size) s.heap H locs → lv_has ls 4 [(0, .ref (g.2.1 64))] → W p l e R s m args below meth c H locs cells slots Q (F0 m 274 ls []) := by
  obtain ⟨hx, hb, hr, hml, hown, hts, hK, hlk, hST⟩ := id hC
  have hB : ∀ q, (zF g 64 580 s.heap.size) q → zB g q := zF.base hI (Nat.le_of_ble_eq_true rfl) hST.1
  intro m_readTold hf H locs ls hP hS hl
  unfold pM_clause_274 at hf
  refine lv_aload_n hx hb dX10_clause_274 rfl (lv_at hl 0 rfl) ?_
  refine lv_bipush (v := 59) hx hb dX10_clause_275 (by decide) ?_
  obtain ⟨m_at_1, m_fault_1, m_faultAt_1, hf_1, hf⟩ := zb3i hf
  refine zcallVv (As := [.int 59]) (rest := []) hC hP hS hB (fun q h => zF.mono hS.1 h) (cpM_sign l hI H.size m_thrown m_tape m_size m_place m_at m_fault m_faultAt m_clauses m_open m_fed m_refused m_readTold m_told m_readBeast m_beast m_readGate m_gate m_readList m_list m_lawMany m_readLawMany m_law m_readLaw m_stack m_known m_step m_steps m_now m_trial m_before m_kept m_works m_refusedSteps m_images m_spot m_begun m_doneSteps m_mixed m_fewest m_leastFees m_lots m_tars (59 : Int32) N9 hf_1) (hC.ml mw_1588) yo_X10_sign 0 (zfM rfl) rfl rfl rfl hl.1 rfl (Nat.le_of_ble_eq_true rfl) ⟨by omega, by omega⟩ hR.2.2 dX10_clause_277 (fun H locs hP hS _ _ => ?_)
  exact hfin _ _ _ _ _ _ _ _ H locs _ ls (Option.some.inj hf) hP hS dX10_clause_280
set_option maxHeartbeats 4000000 in
set_option maxRecDepth 100000 in
theorem mpM_clause_272 {p : Program} {l : Launch} {e : Env} {R : Room} {s : State} {m : MethodId} {args : Array Value} {below : List Frame} {meth : Method} {c : Code} {cells slots : Nat} {Q : State → Prop} {g : zG} (hI : zI g 581) (hC : zC g RX10 cX10_clause 4 none p s m meth c args) (hR : 7 ≤ R.frames ∧ 60 * 7 ≤ R.locals ∧ cells ≤ R.cells ∧ slots ≤ R.slots) (m_thrown : Int32) (m_tape : Int32) (m_size : Int32) (m_place : Int32) (m_at : Int32) (m_fault : Int32) (m_faultAt : Int32) (m_clauses : Int32) (m_open : Int32) (m_fed : Nat → Int32) (m_refused : Nat → Int32) (m_readTold : Nat → Int32) (m_told : Nat → Int32) (m_readBeast : Nat → Nat → Int32) (m_beast : Nat → Nat → Int32) (m_readGate : Nat → Nat → Int32) (m_gate : Nat → Nat → Int32) (m_readList : Nat → Nat → Int32) (m_list : Nat → Nat → Int32) (m_lawMany : Int32) (m_readLawMany : Int32) (m_law : Nat → Nat → Int32) (m_readLaw : Nat → Nat → Int32) (m_stack : Nat → Int32) (m_known : Nat → Int32) (m_step : Nat → Nat → Int32) (m_steps : Int32) (m_now : Nat → Int32) (m_trial : Nat → Int32) (m_before : Nat → Nat → Int32) (m_kept : Nat → Nat → Int32) (m_works : Int32) (m_refusedSteps : Int32) (m_images : Int32) (m_spot : Int32) (m_begun : Int32) (m_doneSteps : Int32) (m_mixed : Nat → Int32) (m_fewest : Nat → Int32) (m_leastFees : Nat → Int32) (m_lots : Int32) (m_tars : Int32)  (N9 : Nat)  (k274 : (Nat → Int32) → Option (Int32 × Int32 × Int32 × Int32 × (Nat → Int32) × (Nat → Nat → Int32) × (Nat → Nat → Int32) × (Nat → Nat → Int32))) (res : Int32 × Int32 × Int32 × Int32 × (Nat → Int32) × (Nat → Nat → Int32) × (Nat → Nat → Int32) × (Nat → Nat → Int32)) (hfin : ∀ (m_at : Int32) (m_fault : Int32) (m_faultAt : Int32) (m_clauses : Int32) (m_readTold : Nat → Int32) (m_readBeast : Nat → Nat → Int32) (m_readGate : Nat → Nat → Int32) (m_readList : Nat → Nat → Int32) (H : Heap) (locs : List Loc) (pc : Nat) (ls : Array Slot), (m_at, m_fault, m_faultAt, m_clauses, m_readTold, m_readBeast, m_readGate, m_readList) = res → va_P g.1 zcl (zM g m_thrown m_tape m_size m_place m_at m_fault m_faultAt m_clauses m_open m_fed m_refused m_readTold m_told m_readBeast m_beast m_readGate m_gate m_readList m_list m_lawMany m_readLawMany m_law m_readLaw m_stack m_known m_step m_steps m_now m_trial m_before m_kept m_works m_refusedSteps m_images m_spot m_begun m_doneSteps m_mixed m_fewest m_leastFees m_lots m_tars) H → va_S (zF g 64 580 s.heap.size) s.heap H locs → decode cX10_clause pc = .ok (.return_, 1) → W p l e R s m args below meth c H locs cells slots Q (F0 m pc ls [])) (hk274 : ∀ (m_readTold : Nat → Int32), k274 m_readTold = some res → ∀ (H : Heap) (locs : List Loc) (ls : Array Slot), va_P g.1 zcl (zM g m_thrown m_tape m_size m_place m_at m_fault m_faultAt m_clauses m_open m_fed m_refused m_readTold m_told m_readBeast m_beast m_readGate m_gate m_readList m_list m_lawMany m_readLawMany m_law m_readLaw m_stack m_known m_step m_steps m_now m_trial m_before m_kept m_works m_refusedSteps m_images m_spot m_begun m_doneSteps m_mixed m_fewest m_leastFees m_lots m_tars) H → va_S (zF g 64 580 s.heap.size) s.heap H locs → lv_has ls 4 [(0, .ref (g.2.1 64))] → W p l e R s m args below meth c H locs cells slots Q (F0 m 274 ls [])) : ∀ (s1 : Int32) (s2 : Int32) (s3 : Int32), pM_clause_272 N9 m_readTold k274 s1 s2 s3 = some res → ∀ (H : Heap) (locs : List Loc) (ls : Array Slot), va_P g.1 zcl (zM g m_thrown m_tape m_size m_place m_at m_fault m_faultAt m_clauses m_open m_fed m_refused m_readTold m_told m_readBeast m_beast m_readGate m_gate m_readList m_list m_lawMany m_readLawMany m_law m_readLaw m_stack m_known m_step m_steps m_now m_trial m_before m_kept m_works m_refusedSteps m_images m_spot m_begun m_doneSteps m_mixed m_fewest m_leastFees m_lots m_tars) H → va_S (zF g 64 580 s.heap.size) s.heap H locs → lv_has ls 4 [(0, .ref (g.2.1 64))] → W p l e R s m args below meth c H locs cells slots Q (F0 m 272 ls [.int s3, .int s2, .int s1, .ref (g.2.1 67)]) := by
  obtain ⟨hx, hb, hr, hml, hown, hts, hK, hlk, hST⟩ := id hC
  have hB : ∀ q, (zF g 64 580 s.heap.size) q → zB g q := zF.base hI (Nat.le_of_ble_eq_true rfl) hST.1
  intro s1 s2 s3 hf H locs ls hP hS hl
  unfold pM_clause_272 at hf
  refine lv_iadd hx hb dX10_clause_272 ?_
  obtain ⟨hz_2, hf⟩ := zite hf
  refine zs_m_readTold hC hP hI (fun k h1 h2 => zF.own h1 h2) hS hz_2 dX10_clause_273 (fun H locs hP hS => ?_)
  exact hk274 (upd m_readTold s1.toNatClampNeg (s2 + s3)) hf H locs ls hP hS (lv_sub hl [0] rfl)
set_option maxHeartbeats 4000000 in
set_option maxRecDepth 100000 in
theorem mpM_clause_248 {p : Program} {l : Launch} {e : Env} {R : Room} {s : State} {m : MethodId} {args : Array Value} {below : List Frame} {meth : Method} {c : Code} {cells slots : Nat} {Q : State → Prop} {g : zG} (hI : zI g 581) (hC : zC g RX10 cX10_clause 4 none p s m meth c args) (hR : 7 ≤ R.frames ∧ 60 * 7 ≤ R.locals ∧ cells ≤ R.cells ∧ slots ≤ R.slots) (m_thrown : Int32) (m_tape : Int32) (m_size : Int32) (m_place : Int32) (m_open : Int32) (m_fed : Nat → Int32) (m_refused : Nat → Int32) (m_told : Nat → Int32) (m_beast : Nat → Nat → Int32) (m_gate : Nat → Nat → Int32) (m_list : Nat → Nat → Int32) (m_lawMany : Int32) (m_readLawMany : Int32) (m_law : Nat → Nat → Int32) (m_readLaw : Nat → Nat → Int32) (m_stack : Nat → Int32) (m_known : Nat → Int32) (m_step : Nat → Nat → Int32) (m_steps : Int32) (m_now : Nat → Int32) (m_trial : Nat → Int32) (m_before : Nat → Nat → Int32) (m_kept : Nat → Nat → Int32) (m_works : Int32) (m_refusedSteps : Int32) (m_images : Int32) (m_spot : Int32) (m_begun : Int32) (m_doneSteps : Int32) (m_mixed : Nat → Int32) (m_fewest : Nat → Int32) (m_leastFees : Nat → Int32) (m_lots : Int32) (m_tars : Int32) (x1 : Int32) (N9 : Nat)   (res : Int32 × Int32 × Int32 × Int32 × (Nat → Int32) × (Nat → Nat → Int32) × (Nat → Nat → Int32) × (Nat → Nat → Int32)) (hfin : ∀ (m_at : Int32) (m_fault : Int32) (m_faultAt : Int32) (m_clauses : Int32) (m_readTold : Nat → Int32) (m_readBeast : Nat → Nat → Int32) (m_readGate : Nat → Nat → Int32) (m_readList : Nat → Nat → Int32) (H : Heap) (locs : List Loc) (pc : Nat) (ls : Array Slot), (m_at, m_fault, m_faultAt, m_clauses, m_readTold, m_readBeast, m_readGate, m_readList) = res → va_P g.1 zcl (zM g m_thrown m_tape m_size m_place m_at m_fault m_faultAt m_clauses m_open m_fed m_refused m_readTold m_told m_readBeast m_beast m_readGate m_gate m_readList m_list m_lawMany m_readLawMany m_law m_readLaw m_stack m_known m_step m_steps m_now m_trial m_before m_kept m_works m_refusedSteps m_images m_spot m_begun m_doneSteps m_mixed m_fewest m_leastFees m_lots m_tars) H → va_S (zF g 64 580 s.heap.size) s.heap H locs → decode cX10_clause pc = .ok (.return_, 1) → W p l e R s m args below meth c H locs cells slots Q (F0 m pc ls [])) : ∀ (m_at : Int32) (m_fault : Int32) (m_faultAt : Int32) (m_clauses : Int32) (m_readTold : Nat → Int32) (m_readBeast : Nat → Nat → Int32) (m_readGate : Nat → Nat → Int32) (m_readList : Nat → Nat → Int32), pM_clause_248 N9 m_size m_fed x1 m_at m_fault m_faultAt m_clauses m_readTold m_readBeast m_readGate m_readList = some res → ∀ (H : Heap) (locs : List Loc) (ls : Array Slot), va_P g.1 zcl (zM g m_thrown m_tape m_size m_place m_at m_fault m_faultAt m_clauses m_open m_fed m_refused m_readTold m_told m_readBeast m_beast m_readGate m_gate m_readList m_list m_lawMany m_readLawMany m_law m_readLaw m_stack m_known m_step m_steps m_now m_trial m_before m_kept m_works m_refusedSteps m_images m_spot m_begun m_doneSteps m_mixed m_fewest m_leastFees m_lots m_tars) H → va_S (zF g 64 580 s.heap.size) s.heap H locs → lv_has ls 4 [(0, .ref (g.2.1 64)), (1, .int x1)] → W p l e R s m args below meth c H locs cells slots Q (F0 m 248 ls []) := by
  obtain ⟨hx, hb, hr, hml, hown, hts, hK, hlk, hST⟩ := id hC
  have hB : ∀ q, (zF g 64 580 s.heap.size) q → zB g q := zF.base hI (Nat.le_of_ble_eq_true rfl) hST.1
  intro m_at m_fault m_faultAt m_clauses m_readTold m_readBeast m_readGate m_readList hf H locs ls hP hS hl
  have hk274 := mpM_clause_274 (l := l) (e := e) (R := R) (below := below) (cells := cells) (slots := slots) (Q := Q) hI hC hR m_thrown m_tape m_size m_place m_at m_fault m_faultAt m_clauses m_open m_fed m_refused m_told m_readBeast m_beast m_readGate m_gate m_readList m_list m_lawMany m_readLawMany m_law m_readLaw m_stack m_known m_step m_steps m_now m_trial m_before m_kept m_works m_refusedSteps m_images m_spot m_begun m_doneSteps m_mixed m_fewest m_leastFees m_lots m_tars N9 res hfin
  have hk272 := mpM_clause_272 (l := l) (e := e) (R := R) (below := below) (cells := cells) (slots := slots) (Q := Q) hI hC hR m_thrown m_tape m_size m_place m_at m_fault m_faultAt m_clauses m_open m_fed m_refused m_readTold m_told m_readBeast m_beast m_readGate m_gate m_readList m_list m_lawMany m_readLawMany m_law m_readLaw m_stack m_known m_step m_steps m_now m_trial m_before m_kept m_works m_refusedSteps m_images m_spot m_begun m_doneSteps m_mixed m_fewest m_leastFees m_lots m_tars N9 (pM_clause_274 N9 m_size m_at m_fault m_faultAt m_clauses m_fed m_readBeast m_readGate m_readList) res hfin hk274
  unfold pM_clause_248 at hf
  refine lv_iload_n hx hb dX10_clause_248 rfl (lv_at hl 1 rfl) ?_
  refine lv_iconst (v := 3) hx hb dX10_clause_249 (by decide) ?_
  refine lv_icmp_ge (tgt := 274) hx hb dX10_clause_250 (by decide) (fun hc_3 => ?_) (fun hc_3 => ?_)
  · have hf := zifp hc_3 hf
    exact hk274 m_readTold hf H locs ls hP hS (lv_sub hl [0] rfl)
  · have hf := zifn hc_3 hf
    refine lv_aload_n hx hb dX10_clause_253 rfl (lv_at hl 0 rfl) ?_
    refine zr_m_readTold hC hP (hC.fl mw_1400) dX10_clause_254 ?_
    refine lv_iload_n hx hb dX10_clause_257 rfl (lv_at hl 1 rfl) ?_
    refine lv_dup2_11 hx hb dX10_clause_258 rfl rfl ?_
    obtain ⟨hz_4, hf⟩ := zite hf
    refine zl_m_readTold hC hP hz_4 dX10_clause_259 ?_
    refine lv_aload_n hx hb dX10_clause_260 rfl (lv_at hl 0 rfl) ?_
    refine zg_m_fault hC hP (hC.fl mw_1394) dX10_clause_261 ?_
    refine lv_if_ne (tgt := 271) hx hb dX10_clause_264 (by decide) (fun hc_5 => ?_) (fun hc_5 => ?_)
    · have hf := zifn hc_5 hf
      refine lv_iconst (v := 0) hx hb dX10_clause_271 (by decide) ?_
      exact hk272 x1 (m_readTold x1.toNatClampNeg) 0 hf H locs ls hP hS (lv_sub hl [0] rfl)
    · have hf := zifp hc_5 hf
      refine lv_iconst (v := 1) hx hb dX10_clause_267 (by decide) ?_
      refine lv_goto (tgt := 272) hx hb dX10_clause_268 (by decide) ?_
      exact hk272 x1 (m_readTold x1.toNatClampNeg) 1 hf H locs ls hP hS (lv_sub hl [0] rfl)
set_option maxHeartbeats 4000000 in
set_option maxRecDepth 100000 in
theorem mpM_clause_58 {p : Program} {l : Launch} {e : Env} {R : Room} {s : State} {m : MethodId} {args : Array Value} {below : List Frame} {meth : Method} {c : Code} {cells slots : Nat} {Q : State → Prop} {g : zG} (hI : zI g 581) (hC : zC g RX10 cX10_clause 4 none p s m meth c args) (hR : 7 ≤ R.frames ∧ 60 * 7 ≤ R.locals ∧ cells ≤ R.cells ∧ slots ≤ R.slots) (m_thrown : Int32) (m_tape : Int32) (m_size : Int32) (m_place : Int32) (m_clauses : Int32) (m_open : Int32) (m_fed : Nat → Int32) (m_refused : Nat → Int32) (m_readTold : Nat → Int32) (m_told : Nat → Int32) (m_readBeast : Nat → Nat → Int32) (m_beast : Nat → Nat → Int32) (m_readGate : Nat → Nat → Int32) (m_gate : Nat → Nat → Int32) (m_readList : Nat → Nat → Int32) (m_list : Nat → Nat → Int32) (m_lawMany : Int32) (m_readLawMany : Int32) (m_law : Nat → Nat → Int32) (m_readLaw : Nat → Nat → Int32) (m_stack : Nat → Int32) (m_known : Nat → Int32) (m_step : Nat → Nat → Int32) (m_steps : Int32) (m_now : Nat → Int32) (m_trial : Nat → Int32) (m_before : Nat → Nat → Int32) (m_kept : Nat → Nat → Int32) (m_works : Int32) (m_refusedSteps : Int32) (m_images : Int32) (m_spot : Int32) (m_begun : Int32) (m_doneSteps : Int32) (m_mixed : Nat → Int32) (m_fewest : Nat → Int32) (m_leastFees : Nat → Int32) (m_lots : Int32) (m_tars : Int32)  (N9 : Nat)   (res : Int32 × Int32 × Int32 × Int32 × (Nat → Int32) × (Nat → Nat → Int32) × (Nat → Nat → Int32) × (Nat → Nat → Int32)) (hfin : ∀ (m_at : Int32) (m_fault : Int32) (m_faultAt : Int32) (m_clauses : Int32) (m_readTold : Nat → Int32) (m_readBeast : Nat → Nat → Int32) (m_readGate : Nat → Nat → Int32) (m_readList : Nat → Nat → Int32) (H : Heap) (locs : List Loc) (pc : Nat) (ls : Array Slot), (m_at, m_fault, m_faultAt, m_clauses, m_readTold, m_readBeast, m_readGate, m_readList) = res → va_P g.1 zcl (zM g m_thrown m_tape m_size m_place m_at m_fault m_faultAt m_clauses m_open m_fed m_refused m_readTold m_told m_readBeast m_beast m_readGate m_gate m_readList m_list m_lawMany m_readLawMany m_law m_readLaw m_stack m_known m_step m_steps m_now m_trial m_before m_kept m_works m_refusedSteps m_images m_spot m_begun m_doneSteps m_mixed m_fewest m_leastFees m_lots m_tars) H → va_S (zF g 64 580 s.heap.size) s.heap H locs → decode cX10_clause pc = .ok (.return_, 1) → W p l e R s m args below meth c H locs cells slots Q (F0 m pc ls [])) : ∀ (m_at : Int32) (m_fault : Int32) (m_faultAt : Int32) (x1 : Int32), pM_clause_58 N9 m_size m_clauses m_fed m_readTold m_readBeast m_readGate m_readList m_at m_fault m_faultAt x1 = some res → ∀ (H : Heap) (locs : List Loc) (ls : Array Slot), va_P g.1 zcl (zM g m_thrown m_tape m_size m_place m_at m_fault m_faultAt m_clauses m_open m_fed m_refused m_readTold m_told m_readBeast m_beast m_readGate m_gate m_readList m_list m_lawMany m_readLawMany m_law m_readLaw m_stack m_known m_step m_steps m_now m_trial m_before m_kept m_works m_refusedSteps m_images m_spot m_begun m_doneSteps m_mixed m_fewest m_leastFees m_lots m_tars) H → va_S (zF g 64 580 s.heap.size) s.heap H locs → lv_has ls 4 [(0, .ref (g.2.1 64)), (1, .int x1)] → W p l e R s m args below meth c H locs cells slots Q (F0 m 58 ls []) := by
  obtain ⟨hx, hb, hr, hml, hown, hts, hK, hlk, hST⟩ := id hC
  have hB : ∀ q, (zF g 64 580 s.heap.size) q → zB g q := zF.base hI (Nat.le_of_ble_eq_true rfl) hST.1
  intro m_at m_fault m_faultAt x1 hf H locs ls hP hS hl
  have hk248 := mpM_clause_248 (l := l) (e := e) (R := R) (below := below) (cells := cells) (slots := slots) (Q := Q) hI hC hR m_thrown m_tape m_size m_place m_open m_fed m_refused m_told m_beast m_gate m_list m_lawMany m_readLawMany m_law m_readLaw m_stack m_known m_step m_steps m_now m_trial m_before m_kept m_works m_refusedSteps m_images m_spot m_begun m_doneSteps m_mixed m_fewest m_leastFees m_lots m_tars x1 N9 res hfin
  unfold pM_clause_58 at hf
  refine lv_aload_n hx hb dX10_clause_58 rfl (lv_at hl 0 rfl) ?_
  refine zg_m_fault hC hP (hC.fl mw_1394) dX10_clause_59 ?_
  refine lv_if_eq (tgt := 66) hx hb dX10_clause_62 (by decide) (fun hc_6 => ?_) (fun hc_6 => ?_)
  · have hf := zifp hc_6 hf
    refine lv_aload_n hx hb dX10_clause_66 rfl (lv_at hl 0 rfl) ?_
    obtain ⟨m_at_7, hf_7, hf⟩ := zb1i hf
    refine zcallVv (As := []) (rest := []) hC hP hS hB (fun q h => zF.mono hS.1 h) (cpM_skipWord l hI H.size m_thrown m_tape m_size m_place m_at m_fault m_faultAt m_clauses m_open m_fed m_refused m_readTold m_told m_readBeast m_beast m_readGate m_gate m_readList m_list m_lawMany m_readLawMany m_law m_readLaw m_stack m_known m_step m_steps m_now m_trial m_before m_kept m_works m_refusedSteps m_images m_spot m_begun m_doneSteps m_mixed m_fewest m_leastFees m_lots m_tars  N9 hf_7) (hC.ml mw_1576) yo_X10_skipWord 0 (zfM rfl) rfl rfl rfl hl.1 rfl (Nat.le_of_ble_eq_true rfl) ⟨by omega, by omega⟩ hR.2.2 dX10_clause_67 (fun H locs hP hS _ _ => ?_)
    refine lv_aload_n hx hb dX10_clause_70 rfl (lv_at hl 0 rfl) ?_
    refine lv_dup hx hb dX10_clause_71 rfl ?_
    refine zg_m_clauses hC hP (hC.fl mw_1396) dX10_clause_72 ?_
    refine lv_iconst (v := 1) hx hb dX10_clause_75 (by decide) ?_
    refine lv_iadd hx hb dX10_clause_76 ?_
    refine zp_m_clauses hC hP hI (fun k h1 h2 => zF.own h1 h2) hS (hC.fl mw_1396) dX10_clause_77 (fun H locs hP hS => ?_)
    refine lv_aload_n hx hb dX10_clause_80 rfl (lv_at hl 0 rfl) ?_
    refine zr_m_readTold hC hP (hC.fl mw_1400) dX10_clause_81 ?_
    refine lv_iload_n hx hb dX10_clause_84 rfl (lv_at hl 1 rfl) ?_
    obtain ⟨hz_8, hf⟩ := zite hf
    refine zl_m_readTold hC hP hz_8 dX10_clause_85 ?_
    refine lv_topi (fun v_9 ev_9 => ?_)
    have hf := zleti ev_9 hf
    refine lv_istore_n (lv' := [(2, .int v_9), (0, .ref (g.2.1 64)), (1, .int x1)]) hx hb dX10_clause_86 rfl hl (by decide) rfl (fun ls hl => ?_)
    refine lv_iload_n hx hb dX10_clause_87 rfl (lv_at hl 2 rfl) ?_
    by_cases hc_10 : x1 = 0
    · have hf := zifp hc_10 hf
      refine lv_tableIn (off := 28) (tgt := 116) hx hb dX10_clause_88 (by rw [hc_10]; decide) (by rw [hc_10]; decide) (by rw [hc_10]; rfl) (by decide) ?_
      refine lv_aload_n hx hb dX10_clause_116 rfl (lv_at hl 1 rfl) ?_
      refine zr_m_readBeast hC hP (hC.fl mw_1402) dX10_clause_117 ?_
      refine lv_iload_n hx hb dX10_clause_120 rfl (lv_at hl 0 rfl) ?_
      obtain ⟨hz_11, hf⟩ := zite hf
      refine zq_m_readBeast hC hP hz_11 dX10_clause_121 ?_
      refine lv_iconst (v := 0) hx hb dX10_clause_122 (by decide) ?_
      refine lv_aload_n hx hb dX10_clause_123 rfl (lv_at hl 1 rfl) ?_
      refine lv_iconst (v := 0) hx hb dX10_clause_124 (by decide) ?_
      refine lv_sipush (v := 255) hx hb dX10_clause_125 (by decide) ?_
      obtain ⟨r_12, m_at_12, m_fault_12, m_faultAt_12, hf_12, hf⟩ := zb4i hf
      refine zcallVi (As := [.int 0, .int 255]) (rest := [.int 0, .ref (g.2.1 (87 + v_9.toNatClampNeg))]) hC hP hS hB (fun q h => zF.mono hS.1 h) (cpM_number l hI H.size m_thrown m_tape m_size m_place m_at_7 m_fault m_faultAt (m_clauses + 1) m_open m_fed m_refused m_readTold m_told m_readBeast m_beast m_readGate m_gate m_readList m_list m_lawMany m_readLawMany m_law m_readLaw m_stack m_known m_step m_steps m_now m_trial m_before m_kept m_works m_refusedSteps m_images m_spot m_begun m_doneSteps m_mixed m_fewest m_leastFees m_lots m_tars (0 : Int32) (255 : Int32) N9 hf_12) (hC.ml mw_1580) yo_X10_number 0 (zfM rfl) rfl rfl rfl hl.1 rfl (Nat.le_of_ble_eq_true rfl) ⟨by omega, by omega⟩ hR.2.2 dX10_clause_128 (fun H locs hP hS _ _ => ?_)
      obtain ⟨hz_13, hf⟩ := zite hf
      refine zs_m_readBeast hC hP hI (fun k h1 h2 => zF.own h1 h2) hS hz_11 hz_13 dX10_clause_131 (fun H locs hP hS => ?_)
      refine lv_aload_n hx hb dX10_clause_132 rfl (lv_at hl 1 rfl) ?_
      refine zr_m_readBeast hC hP (hC.fl mw_1402) dX10_clause_133 ?_
      refine lv_iload_n hx hb dX10_clause_136 rfl (lv_at hl 0 rfl) ?_
      refine zq_m_readBeast hC hP hz_11 dX10_clause_137 ?_
      refine lv_iconst (v := 1) hx hb dX10_clause_138 (by decide) ?_
      refine lv_aload_n hx hb dX10_clause_139 rfl (lv_at hl 1 rfl) ?_
      refine lv_iconst (v := 0) hx hb dX10_clause_140 (by decide) ?_
      refine lv_bipush (v := 40) hx hb dX10_clause_141 (by decide) ?_
      obtain ⟨r_14, m_at_14, m_fault_14, m_faultAt_14, hf_14, hf⟩ := zb4i hf
      refine zcallVi (As := [.int 0, .int 40]) (rest := [.int 1, .ref (g.2.1 (87 + v_9.toNatClampNeg))]) hC hP hS hB (fun q h => zF.mono hS.1 h) (cpM_number l hI H.size m_thrown m_tape m_size m_place m_at_12 m_fault_12 m_faultAt_12 (m_clauses + 1) m_open m_fed m_refused m_readTold m_told (va_up m_readBeast v_9.toNatClampNeg (upd (m_readBeast v_9.toNatClampNeg) (0 : Int32).toNatClampNeg r_12)) m_beast m_readGate m_gate m_readList m_list m_lawMany m_readLawMany m_law m_readLaw m_stack m_known m_step m_steps m_now m_trial m_before m_kept m_works m_refusedSteps m_images m_spot m_begun m_doneSteps m_mixed m_fewest m_leastFees m_lots m_tars (0 : Int32) (40 : Int32) N9 hf_14) (hC.ml mw_1580) yo_X10_number 0 (zfM rfl) rfl rfl rfl hl.1 rfl (Nat.le_of_ble_eq_true rfl) ⟨by omega, by omega⟩ hR.2.2 dX10_clause_143 (fun H locs hP hS _ _ => ?_)
      obtain ⟨hz_15, hf⟩ := zite hf
      refine zs_m_readBeast hC hP hI (fun k h1 h2 => zF.own h1 h2) hS hz_11 hz_15 dX10_clause_146 (fun H locs hP hS => ?_)
      obtain ⟨m_readBeast_16, em_readBeast_16⟩ : ∃ y, y = va_up (va_up m_readBeast v_9.toNatClampNeg (upd (m_readBeast v_9.toNatClampNeg) (0 : Int32).toNatClampNeg r_12)) v_9.toNatClampNeg (upd ((va_up m_readBeast v_9.toNatClampNeg (upd (m_readBeast v_9.toNatClampNeg) (0 : Int32).toNatClampNeg r_12)) v_9.toNatClampNeg) (1 : Int32).toNatClampNeg r_14) := ⟨_, rfl⟩
      rw [← em_readBeast_16] at hP
      have hf := zleti em_readBeast_16 hf
      refine lv_goto (tgt := 248) hx hb dX10_clause_147 (by decide) ?_
      exact hk248 m_at_14 m_fault_14 m_faultAt_14 (m_clauses + 1) m_readTold m_readBeast_16 m_readGate m_readList hf H locs ls hP hS (lv_sub hl [1, 2] rfl)
    have hf := zifn hc_10 hf
    by_cases hc_17 : x1 = 1
    · have hf := zifp hc_17 hf
      refine lv_tableIn (off := 62) (tgt := 150) hx hb dX10_clause_88 (by rw [hc_17]; decide) (by rw [hc_17]; decide) (by rw [hc_17]; rfl) (by decide) ?_
      refine lv_aload_n hx hb dX10_clause_150 rfl (lv_at hl 1 rfl) ?_
      refine zr_m_readGate hC hP (hC.fl mw_1404) dX10_clause_151 ?_
      refine lv_iload_n hx hb dX10_clause_154 rfl (lv_at hl 0 rfl) ?_
      obtain ⟨hz_18, hf⟩ := zite hf
      refine zq_m_readGate hC hP hz_18 dX10_clause_155 ?_
      refine lv_iconst (v := 0) hx hb dX10_clause_156 (by decide) ?_
      refine lv_aload_n hx hb dX10_clause_157 rfl (lv_at hl 1 rfl) ?_
      refine lv_iconst (v := 0) hx hb dX10_clause_158 (by decide) ?_
      refine lv_iconst (v := 3) hx hb dX10_clause_159 (by decide) ?_
      obtain ⟨r_19, m_at_19, m_fault_19, m_faultAt_19, hf_19, hf⟩ := zb4i hf
      refine zcallVi (As := [.int 0, .int 3]) (rest := [.int 0, .ref (g.2.1 (103 + v_9.toNatClampNeg))]) hC hP hS hB (fun q h => zF.mono hS.1 h) (cpM_number l hI H.size m_thrown m_tape m_size m_place m_at_7 m_fault m_faultAt (m_clauses + 1) m_open m_fed m_refused m_readTold m_told m_readBeast m_beast m_readGate m_gate m_readList m_list m_lawMany m_readLawMany m_law m_readLaw m_stack m_known m_step m_steps m_now m_trial m_before m_kept m_works m_refusedSteps m_images m_spot m_begun m_doneSteps m_mixed m_fewest m_leastFees m_lots m_tars (0 : Int32) (3 : Int32) N9 hf_19) (hC.ml mw_1580) yo_X10_number 0 (zfM rfl) rfl rfl rfl hl.1 rfl (Nat.le_of_ble_eq_true rfl) ⟨by omega, by omega⟩ hR.2.2 dX10_clause_160 (fun H locs hP hS _ _ => ?_)
      obtain ⟨hz_20, hf⟩ := zite hf
      refine zs_m_readGate hC hP hI (fun k h1 h2 => zF.own h1 h2) hS hz_18 hz_20 dX10_clause_163 (fun H locs hP hS => ?_)
      refine lv_aload_n hx hb dX10_clause_164 rfl (lv_at hl 1 rfl) ?_
      refine zr_m_readGate hC hP (hC.fl mw_1404) dX10_clause_165 ?_
      refine lv_iload_n hx hb dX10_clause_168 rfl (lv_at hl 0 rfl) ?_
      refine zq_m_readGate hC hP hz_18 dX10_clause_169 ?_
      refine lv_iconst (v := 1) hx hb dX10_clause_170 (by decide) ?_
      refine lv_aload_n hx hb dX10_clause_171 rfl (lv_at hl 1 rfl) ?_
      refine lv_iconst (v := 0) hx hb dX10_clause_172 (by decide) ?_
      refine lv_bipush (v := 40) hx hb dX10_clause_173 (by decide) ?_
      obtain ⟨r_21, m_at_21, m_fault_21, m_faultAt_21, hf_21, hf⟩ := zb4i hf
      refine zcallVi (As := [.int 0, .int 40]) (rest := [.int 1, .ref (g.2.1 (103 + v_9.toNatClampNeg))]) hC hP hS hB (fun q h => zF.mono hS.1 h) (cpM_number l hI H.size m_thrown m_tape m_size m_place m_at_19 m_fault_19 m_faultAt_19 (m_clauses + 1) m_open m_fed m_refused m_readTold m_told m_readBeast m_beast (va_up m_readGate v_9.toNatClampNeg (upd (m_readGate v_9.toNatClampNeg) (0 : Int32).toNatClampNeg r_19)) m_gate m_readList m_list m_lawMany m_readLawMany m_law m_readLaw m_stack m_known m_step m_steps m_now m_trial m_before m_kept m_works m_refusedSteps m_images m_spot m_begun m_doneSteps m_mixed m_fewest m_leastFees m_lots m_tars (0 : Int32) (40 : Int32) N9 hf_21) (hC.ml mw_1580) yo_X10_number 0 (zfM rfl) rfl rfl rfl hl.1 rfl (Nat.le_of_ble_eq_true rfl) ⟨by omega, by omega⟩ hR.2.2 dX10_clause_175 (fun H locs hP hS _ _ => ?_)
      obtain ⟨hz_22, hf⟩ := zite hf
      refine zs_m_readGate hC hP hI (fun k h1 h2 => zF.own h1 h2) hS hz_18 hz_22 dX10_clause_178 (fun H locs hP hS => ?_)
      obtain ⟨m_readGate_23, em_readGate_23⟩ : ∃ y, y = va_up (va_up m_readGate v_9.toNatClampNeg (upd (m_readGate v_9.toNatClampNeg) (0 : Int32).toNatClampNeg r_19)) v_9.toNatClampNeg (upd ((va_up m_readGate v_9.toNatClampNeg (upd (m_readGate v_9.toNatClampNeg) (0 : Int32).toNatClampNeg r_19)) v_9.toNatClampNeg) (1 : Int32).toNatClampNeg r_21) := ⟨_, rfl⟩
      rw [← em_readGate_23] at hP
      have hf := zleti em_readGate_23 hf
      refine lv_goto (tgt := 248) hx hb dX10_clause_179 (by decide) ?_
      exact hk248 m_at_21 m_fault_21 m_faultAt_21 (m_clauses + 1) m_readTold m_readBeast m_readGate_23 m_readList hf H locs ls hP hS (lv_sub hl [1, 2] rfl)
    have hf := zifn hc_17 hf
    by_cases hc_24 : x1 = 2
    · have hf := zifp hc_24 hf
      refine lv_tableIn (off := 94) (tgt := 182) hx hb dX10_clause_88 (by rw [hc_24]; decide) (by rw [hc_24]; decide) (by rw [hc_24]; rfl) (by decide) ?_
      refine lv_aload_n hx hb dX10_clause_182 rfl (lv_at hl 1 rfl) ?_
      refine zr_m_readList hC hP (hC.fl mw_1406) dX10_clause_183 ?_
      refine lv_iload_n hx hb dX10_clause_186 rfl (lv_at hl 0 rfl) ?_
      obtain ⟨hz_25, hf⟩ := zite hf
      refine zq_m_readList hC hP hz_25 dX10_clause_187 ?_
      refine lv_iconst (v := 0) hx hb dX10_clause_188 (by decide) ?_
      refine lv_aload_n hx hb dX10_clause_189 rfl (lv_at hl 1 rfl) ?_
      refine lv_iconst (v := 0) hx hb dX10_clause_190 (by decide) ?_
      refine lv_aload_n hx hb dX10_clause_191 rfl (lv_at hl 1 rfl) ?_
      refine zr_m_readTold hC hP (hC.fl mw_1400) dX10_clause_192 ?_
      refine lv_iconst (v := 1) hx hb dX10_clause_195 (by decide) ?_
      obtain ⟨hz_26, hf⟩ := zite hf
      refine zl_m_readTold hC hP hz_26 dX10_clause_196 ?_
      refine lv_iconst (v := 1) hx hb dX10_clause_197 (by decide) ?_
      refine lv_isub hx hb dX10_clause_198 ?_
      obtain ⟨r_27, m_at_27, m_fault_27, m_faultAt_27, hf_27, hf⟩ := zb4i hf
      refine zcallVi (As := [.int 0, .int ((m_readTold (1 : Int32).toNatClampNeg) - 1)]) (rest := [.int 0, .ref (g.2.1 (113 + v_9.toNatClampNeg))]) hC hP hS hB (fun q h => zF.mono hS.1 h) (cpM_number l hI H.size m_thrown m_tape m_size m_place m_at_7 m_fault m_faultAt (m_clauses + 1) m_open m_fed m_refused m_readTold m_told m_readBeast m_beast m_readGate m_gate m_readList m_list m_lawMany m_readLawMany m_law m_readLaw m_stack m_known m_step m_steps m_now m_trial m_before m_kept m_works m_refusedSteps m_images m_spot m_begun m_doneSteps m_mixed m_fewest m_leastFees m_lots m_tars (0 : Int32) ((m_readTold (1 : Int32).toNatClampNeg) - 1) N9 hf_27) (hC.ml mw_1580) yo_X10_number 0 (zfM rfl) rfl rfl rfl hl.1 rfl (Nat.le_of_ble_eq_true rfl) ⟨by omega, by omega⟩ hR.2.2 dX10_clause_199 (fun H locs hP hS _ _ => ?_)
      obtain ⟨hz_28, hf⟩ := zite hf
      refine zs_m_readList hC hP hI (fun k h1 h2 => zF.own h1 h2) hS hz_25 hz_28 dX10_clause_202 (fun H locs hP hS => ?_)
      refine lv_aload_n hx hb dX10_clause_203 rfl (lv_at hl 1 rfl) ?_
      refine zr_m_readList hC hP (hC.fl mw_1406) dX10_clause_204 ?_
      refine lv_iload_n hx hb dX10_clause_207 rfl (lv_at hl 0 rfl) ?_
      refine zq_m_readList hC hP hz_25 dX10_clause_208 ?_
      refine lv_iconst (v := 1) hx hb dX10_clause_209 (by decide) ?_
      refine lv_aload_n hx hb dX10_clause_210 rfl (lv_at hl 1 rfl) ?_
      refine lv_iconst (v := 0) hx hb dX10_clause_211 (by decide) ?_
      refine lv_sipush (v := 255) hx hb dX10_clause_212 (by decide) ?_
      obtain ⟨r_29, m_at_29, m_fault_29, m_faultAt_29, hf_29, hf⟩ := zb4i hf
      refine zcallVi (As := [.int 0, .int 255]) (rest := [.int 1, .ref (g.2.1 (113 + v_9.toNatClampNeg))]) hC hP hS hB (fun q h => zF.mono hS.1 h) (cpM_number l hI H.size m_thrown m_tape m_size m_place m_at_27 m_fault_27 m_faultAt_27 (m_clauses + 1) m_open m_fed m_refused m_readTold m_told m_readBeast m_beast m_readGate m_gate (va_up m_readList v_9.toNatClampNeg (upd (m_readList v_9.toNatClampNeg) (0 : Int32).toNatClampNeg r_27)) m_list m_lawMany m_readLawMany m_law m_readLaw m_stack m_known m_step m_steps m_now m_trial m_before m_kept m_works m_refusedSteps m_images m_spot m_begun m_doneSteps m_mixed m_fewest m_leastFees m_lots m_tars (0 : Int32) (255 : Int32) N9 hf_29) (hC.ml mw_1580) yo_X10_number 0 (zfM rfl) rfl rfl rfl hl.1 rfl (Nat.le_of_ble_eq_true rfl) ⟨by omega, by omega⟩ hR.2.2 dX10_clause_215 (fun H locs hP hS _ _ => ?_)
      obtain ⟨hz_30, hf⟩ := zite hf
      refine zs_m_readList hC hP hI (fun k h1 h2 => zF.own h1 h2) hS hz_25 hz_30 dX10_clause_218 (fun H locs hP hS => ?_)
      obtain ⟨m_readList_31, em_readList_31⟩ : ∃ y, y = va_up (va_up m_readList v_9.toNatClampNeg (upd (m_readList v_9.toNatClampNeg) (0 : Int32).toNatClampNeg r_27)) v_9.toNatClampNeg (upd ((va_up m_readList v_9.toNatClampNeg (upd (m_readList v_9.toNatClampNeg) (0 : Int32).toNatClampNeg r_27)) v_9.toNatClampNeg) (1 : Int32).toNatClampNeg r_29) := ⟨_, rfl⟩
      rw [← em_readList_31] at hP
      have hf := zleti em_readList_31 hf
      refine lv_goto (tgt := 248) hx hb dX10_clause_219 (by decide) ?_
      exact hk248 m_at_29 m_fault_29 m_faultAt_29 (m_clauses + 1) m_readTold m_readBeast m_readGate m_readList_31 hf H locs ls hP hS (lv_sub hl [1, 2] rfl)
    have hf := zifn hc_24 hf
    have nhc_10 := zne (k := 0) hc_10
    have nhc_17 := zne (k := 1) hc_17
    have nhc_24 := zne (k := 2) hc_24
    refine lv_tableOut (tgt := 222) hx hb dX10_clause_88 (by omega) (by decide) ?_
    refine lv_aload_n hx hb dX10_clause_222 rfl (lv_at hl 1 rfl) ?_
    refine lv_iconst (v := 0) hx hb dX10_clause_223 (by decide) ?_
    refine lv_sipush (v := 999) hx hb dX10_clause_224 (by decide) ?_
    obtain ⟨r_32, m_at_32, m_fault_32, m_faultAt_32, hf_32, hf⟩ := zb4i hf
    refine zcallVi (As := [.int 0, .int 999]) (rest := []) hC hP hS hB (fun q h => zF.mono hS.1 h) (cpM_number l hI H.size m_thrown m_tape m_size m_place m_at_7 m_fault m_faultAt (m_clauses + 1) m_open m_fed m_refused m_readTold m_told m_readBeast m_beast m_readGate m_gate m_readList m_list m_lawMany m_readLawMany m_law m_readLaw m_stack m_known m_step m_steps m_now m_trial m_before m_kept m_works m_refusedSteps m_images m_spot m_begun m_doneSteps m_mixed m_fewest m_leastFees m_lots m_tars (0 : Int32) (999 : Int32) N9 hf_32) (hC.ml mw_1580) yo_X10_number 0 (zfM rfl) rfl rfl rfl hl.1 rfl (Nat.le_of_ble_eq_true rfl) ⟨by omega, by omega⟩ hR.2.2 dX10_clause_227 (fun H locs hP hS _ _ => ?_)
    refine lv_istore_n (lv' := [(3, .int r_32), (2, .int v_9), (0, .ref (g.2.1 64)), (1, .int x1)]) hx hb dX10_clause_230 rfl hl (by decide) rfl (fun ls hl => ?_)
    refine lv_aload_n hx hb dX10_clause_231 rfl (lv_at hl 2 rfl) ?_
    refine zg_m_fault hC hP (hC.fl mw_1394) dX10_clause_232 ?_
    refine lv_if_ne (tgt := 248) hx hb dX10_clause_235 (by decide) (fun hc_33 => ?_) (fun hc_33 => ?_)
    · have hf := zifn hc_33 hf
      exact hk248 m_at_32 m_fault_32 m_faultAt_32 (m_clauses + 1) m_readTold m_readBeast m_readGate m_readList hf H locs ls hP hS (lv_sub hl [2, 3] rfl)
    · have hf := zifp hc_33 hf
      refine lv_aload_n hx hb dX10_clause_238 rfl (lv_at hl 2 rfl) ?_
      refine zr_m_readTold hC hP (hC.fl mw_1400) dX10_clause_239 ?_
      refine lv_iconst (v := 3) hx hb dX10_clause_242 (by decide) ?_
      refine lv_iload_n hx hb dX10_clause_243 rfl (lv_at hl 0 rfl) ?_
      obtain ⟨hz_34, hf⟩ := zite hf
      refine zs_m_readTold hC hP hI (fun k h1 h2 => zF.own h1 h2) hS hz_34 dX10_clause_244 (fun H locs hP hS => ?_)
      refine lv_goto (tgt := 248) hx hb dX10_clause_245 (by decide) ?_
      exact hk248 m_at_32 m_fault_32 m_faultAt_32 (m_clauses + 1) (upd m_readTold (3 : Int32).toNatClampNeg r_32) m_readBeast m_readGate m_readList hf H locs ls hP hS (lv_sub hl [2, 3] rfl)
  · have hf := zifn hc_6 hf
    exact hfin _ _ _ _ _ _ _ _ H locs _ ls (Option.some.inj hf) hP hS dX10_clause_65
set_option maxHeartbeats 4000000 in
set_option maxRecDepth 100000 in
theorem mpM_clause_49 {p : Program} {l : Launch} {e : Env} {R : Room} {s : State} {m : MethodId} {args : Array Value} {below : List Frame} {meth : Method} {c : Code} {cells slots : Nat} {Q : State → Prop} {g : zG} (hI : zI g 581) (hC : zC g RX10 cX10_clause 4 none p s m meth c args) (hR : 7 ≤ R.frames ∧ 60 * 7 ≤ R.locals ∧ cells ≤ R.cells ∧ slots ≤ R.slots) (m_thrown : Int32) (m_tape : Int32) (m_size : Int32) (m_place : Int32) (m_fault : Int32) (m_faultAt : Int32) (m_clauses : Int32) (m_open : Int32) (m_fed : Nat → Int32) (m_refused : Nat → Int32) (m_readTold : Nat → Int32) (m_told : Nat → Int32) (m_readBeast : Nat → Nat → Int32) (m_beast : Nat → Nat → Int32) (m_readGate : Nat → Nat → Int32) (m_gate : Nat → Nat → Int32) (m_readList : Nat → Nat → Int32) (m_list : Nat → Nat → Int32) (m_lawMany : Int32) (m_readLawMany : Int32) (m_law : Nat → Nat → Int32) (m_readLaw : Nat → Nat → Int32) (m_stack : Nat → Int32) (m_known : Nat → Int32) (m_step : Nat → Nat → Int32) (m_steps : Int32) (m_now : Nat → Int32) (m_trial : Nat → Int32) (m_before : Nat → Nat → Int32) (m_kept : Nat → Nat → Int32) (m_works : Int32) (m_refusedSteps : Int32) (m_images : Int32) (m_spot : Int32) (m_begun : Int32) (m_doneSteps : Int32) (m_mixed : Nat → Int32) (m_fewest : Nat → Int32) (m_leastFees : Nat → Int32) (m_lots : Int32) (m_tars : Int32)  (N9 : Nat)  (k58 : Int32 → Int32 → Int32 → Int32 → Option (Int32 × Int32 × Int32 × Int32 × (Nat → Int32) × (Nat → Nat → Int32) × (Nat → Nat → Int32) × (Nat → Nat → Int32))) (res : Int32 × Int32 × Int32 × Int32 × (Nat → Int32) × (Nat → Nat → Int32) × (Nat → Nat → Int32) × (Nat → Nat → Int32)) (hfin : ∀ (m_at : Int32) (m_fault : Int32) (m_faultAt : Int32) (m_clauses : Int32) (m_readTold : Nat → Int32) (m_readBeast : Nat → Nat → Int32) (m_readGate : Nat → Nat → Int32) (m_readList : Nat → Nat → Int32) (H : Heap) (locs : List Loc) (pc : Nat) (ls : Array Slot), (m_at, m_fault, m_faultAt, m_clauses, m_readTold, m_readBeast, m_readGate, m_readList) = res → va_P g.1 zcl (zM g m_thrown m_tape m_size m_place m_at m_fault m_faultAt m_clauses m_open m_fed m_refused m_readTold m_told m_readBeast m_beast m_readGate m_gate m_readList m_list m_lawMany m_readLawMany m_law m_readLaw m_stack m_known m_step m_steps m_now m_trial m_before m_kept m_works m_refusedSteps m_images m_spot m_begun m_doneSteps m_mixed m_fewest m_leastFees m_lots m_tars) H → va_S (zF g 64 580 s.heap.size) s.heap H locs → decode cX10_clause pc = .ok (.return_, 1) → W p l e R s m args below meth c H locs cells slots Q (F0 m pc ls [])) (hk58 : ∀ (m_at : Int32) (m_fault : Int32) (m_faultAt : Int32) (x1 : Int32), k58 m_at m_fault m_faultAt x1 = some res → ∀ (H : Heap) (locs : List Loc) (ls : Array Slot), va_P g.1 zcl (zM g m_thrown m_tape m_size m_place m_at m_fault m_faultAt m_clauses m_open m_fed m_refused m_readTold m_told m_readBeast m_beast m_readGate m_gate m_readList m_list m_lawMany m_readLawMany m_law m_readLaw m_stack m_known m_step m_steps m_now m_trial m_before m_kept m_works m_refusedSteps m_images m_spot m_begun m_doneSteps m_mixed m_fewest m_leastFees m_lots m_tars) H → va_S (zF g 64 580 s.heap.size) s.heap H locs → lv_has ls 4 [(0, .ref (g.2.1 64)), (1, .int x1)] → W p l e R s m args below meth c H locs cells slots Q (F0 m 58 ls [])) : ∀ (m_at : Int32) (x1 : Int32), pM_clause_49 N9 m_fault m_faultAt k58 m_at x1 = some res → ∀ (H : Heap) (locs : List Loc) (ls : Array Slot), va_P g.1 zcl (zM g m_thrown m_tape m_size m_place m_at m_fault m_faultAt m_clauses m_open m_fed m_refused m_readTold m_told m_readBeast m_beast m_readGate m_gate m_readList m_list m_lawMany m_readLawMany m_law m_readLaw m_stack m_known m_step m_steps m_now m_trial m_before m_kept m_works m_refusedSteps m_images m_spot m_begun m_doneSteps m_mixed m_fewest m_leastFees m_lots m_tars) H → va_S (zF g 64 580 s.heap.size) s.heap H locs → lv_has ls 4 [(0, .ref (g.2.1 64)), (1, .int x1)] → W p l e R s m args below meth c H locs cells slots Q (F0 m 49 ls []) := by
  obtain ⟨hx, hb, hr, hml, hown, hts, hK, hlk, hST⟩ := id hC
  have hB : ∀ q, (zF g 64 580 s.heap.size) q → zB g q := zF.base hI (Nat.le_of_ble_eq_true rfl) hST.1
  intro m_at x1 hf H locs ls hP hS hl
  unfold pM_clause_49 at hf
  refine lv_aload_n hx hb dX10_clause_49 rfl (lv_at hl 0 rfl) ?_
  refine lv_iconst (v := 3) hx hb dX10_clause_50 (by decide) ?_
  refine lv_aload_n hx hb dX10_clause_51 rfl (lv_at hl 0 rfl) ?_
  refine zg_m_at hC hP (hC.fl mw_1393) dX10_clause_52 ?_
  obtain ⟨m_fault_35, m_faultAt_35, hf_35, hf⟩ := zb2i hf
  refine zcallVv (As := [.int 3, .int m_at]) (rest := []) hC hP hS hB (fun q h => zF.mono hS.1 h) (cpM_wrong l hI H.size m_thrown m_tape m_size m_place m_at m_fault m_faultAt m_clauses m_open m_fed m_refused m_readTold m_told m_readBeast m_beast m_readGate m_gate m_readList m_list m_lawMany m_readLawMany m_law m_readLaw m_stack m_known m_step m_steps m_now m_trial m_before m_kept m_works m_refusedSteps m_images m_spot m_begun m_doneSteps m_mixed m_fewest m_leastFees m_lots m_tars (3 : Int32) m_at N9 hf_35) (hC.ml mw_1569) yo_X10_wrong 0 (zfM rfl) rfl rfl rfl hl.1 rfl (Nat.le_of_ble_eq_true rfl) ⟨by omega, by omega⟩ hR.2.2 dX10_clause_55 (fun H locs hP hS _ _ => ?_)
  exact hk58 m_at m_fault_35 m_faultAt_35 x1 hf H locs ls hP hS (lv_sub hl [0, 1] rfl)
set_option maxHeartbeats 4000000 in
set_option maxRecDepth 100000 in
theorem mpM_clause {p : Program} {l : Launch} {e : Env} {R : Room} {s : State} {m : MethodId} {args : Array Value} {below : List Frame} {meth : Method} {c : Code} {cells slots : Nat} {Q : State → Prop} {g : zG} (hI : zI g 581) (hC : zC g RX10 cX10_clause 4 none p s m meth c args) (hR : 7 ≤ R.frames ∧ 60 * 7 ≤ R.locals ∧ cells ≤ R.cells ∧ slots ≤ R.slots) (m_thrown : Int32) (m_tape : Int32) (m_size : Int32) (m_place : Int32) (m_at : Int32) (m_fault : Int32) (m_faultAt : Int32) (m_clauses : Int32) (m_open : Int32) (m_fed : Nat → Int32) (m_refused : Nat → Int32) (m_readTold : Nat → Int32) (m_told : Nat → Int32) (m_readBeast : Nat → Nat → Int32) (m_beast : Nat → Nat → Int32) (m_readGate : Nat → Nat → Int32) (m_gate : Nat → Nat → Int32) (m_readList : Nat → Nat → Int32) (m_list : Nat → Nat → Int32) (m_lawMany : Int32) (m_readLawMany : Int32) (m_law : Nat → Nat → Int32) (m_readLaw : Nat → Nat → Int32) (m_stack : Nat → Int32) (m_known : Nat → Int32) (m_step : Nat → Nat → Int32) (m_steps : Int32) (m_now : Nat → Int32) (m_trial : Nat → Int32) (m_before : Nat → Nat → Int32) (m_kept : Nat → Nat → Int32) (m_works : Int32) (m_refusedSteps : Int32) (m_images : Int32) (m_spot : Int32) (m_begun : Int32) (m_doneSteps : Int32) (m_mixed : Nat → Int32) (m_fewest : Nat → Int32) (m_leastFees : Nat → Int32) (m_lots : Int32) (m_tars : Int32)  (N9 : Nat)   (res : Int32 × Int32 × Int32 × Int32 × (Nat → Int32) × (Nat → Nat → Int32) × (Nat → Nat → Int32) × (Nat → Nat → Int32)) (hfin : ∀ (m_at : Int32) (m_fault : Int32) (m_faultAt : Int32) (m_clauses : Int32) (m_readTold : Nat → Int32) (m_readBeast : Nat → Nat → Int32) (m_readGate : Nat → Nat → Int32) (m_readList : Nat → Nat → Int32) (H : Heap) (locs : List Loc) (pc : Nat) (ls : Array Slot), (m_at, m_fault, m_faultAt, m_clauses, m_readTold, m_readBeast, m_readGate, m_readList) = res → va_P g.1 zcl (zM g m_thrown m_tape m_size m_place m_at m_fault m_faultAt m_clauses m_open m_fed m_refused m_readTold m_told m_readBeast m_beast m_readGate m_gate m_readList m_list m_lawMany m_readLawMany m_law m_readLaw m_stack m_known m_step m_steps m_now m_trial m_before m_kept m_works m_refusedSteps m_images m_spot m_begun m_doneSteps m_mixed m_fewest m_leastFees m_lots m_tars) H → va_S (zF g 64 580 s.heap.size) s.heap H locs → decode cX10_clause pc = .ok (.return_, 1) → W p l e R s m args below meth c H locs cells slots Q (F0 m pc ls [])) : pM_clause N9 m_size m_at m_fault m_faultAt m_clauses m_fed m_readTold m_readBeast m_readGate m_readList = some res → ∀ (H : Heap) (locs : List Loc) (ls : Array Slot), va_P g.1 zcl (zM g m_thrown m_tape m_size m_place m_at m_fault m_faultAt m_clauses m_open m_fed m_refused m_readTold m_told m_readBeast m_beast m_readGate m_gate m_readList m_list m_lawMany m_readLawMany m_law m_readLaw m_stack m_known m_step m_steps m_now m_trial m_before m_kept m_works m_refusedSteps m_images m_spot m_begun m_doneSteps m_mixed m_fewest m_leastFees m_lots m_tars) H → va_S (zF g 64 580 s.heap.size) s.heap H locs → lv_has ls 4 [(0, .ref (g.2.1 64))] → W p l e R s m args below meth c H locs cells slots Q (F0 m 0 ls []) := by
  obtain ⟨hx, hb, hr, hml, hown, hts, hK, hlk, hST⟩ := id hC
  have hB : ∀ q, (zF g 64 580 s.heap.size) q → zB g q := zF.base hI (Nat.le_of_ble_eq_true rfl) hST.1
  intro  hf H locs ls hP hS hl
  have hk58 := mpM_clause_58 (l := l) (e := e) (R := R) (below := below) (cells := cells) (slots := slots) (Q := Q) hI hC hR m_thrown m_tape m_size m_place m_clauses m_open m_fed m_refused m_readTold m_told m_readBeast m_beast m_readGate m_gate m_readList m_list m_lawMany m_readLawMany m_law m_readLaw m_stack m_known m_step m_steps m_now m_trial m_before m_kept m_works m_refusedSteps m_images m_spot m_begun m_doneSteps m_mixed m_fewest m_leastFees m_lots m_tars N9 res hfin
  have hk49 := mpM_clause_49 (l := l) (e := e) (R := R) (below := below) (cells := cells) (slots := slots) (Q := Q) hI hC hR m_thrown m_tape m_size m_place m_fault m_faultAt m_clauses m_open m_fed m_refused m_readTold m_told m_readBeast m_beast m_readGate m_gate m_readList m_list m_lawMany m_readLawMany m_law m_readLaw m_stack m_known m_step m_steps m_now m_trial m_before m_kept m_works m_refusedSteps m_images m_spot m_begun m_doneSteps m_mixed m_fewest m_leastFees m_lots m_tars N9 (pM_clause_58 N9 m_size m_clauses m_fed m_readTold m_readBeast m_readGate m_readList) res hfin hk58
  unfold pM_clause at hf
  refine lv_aload_n hx hb dX10_clause_0 rfl (lv_at hl 0 rfl) ?_
  obtain ⟨r_36, m_at_36, hf_36, hf⟩ := zb2i hf
  refine zcallVi (As := []) (rest := []) hC hP hS hB (fun q h => zF.mono hS.1 h) (cpM_kindHere l hI H.size m_thrown m_tape m_size m_place m_at m_fault m_faultAt m_clauses m_open m_fed m_refused m_readTold m_told m_readBeast m_beast m_readGate m_gate m_readList m_list m_lawMany m_readLawMany m_law m_readLaw m_stack m_known m_step m_steps m_now m_trial m_before m_kept m_works m_refusedSteps m_images m_spot m_begun m_doneSteps m_mixed m_fewest m_leastFees m_lots m_tars  N9 hf_36) (hC.ml mw_1551) yo_X10_kindHere 0 (zfM rfl) rfl rfl rfl hl.1 rfl (Nat.le_of_ble_eq_true rfl) ⟨by omega, by omega⟩ hR.2.2 dX10_clause_1 (fun H locs hP hS _ _ => ?_)
  refine lv_istore_n (lv' := [(1, .int r_36), (0, .ref (g.2.1 64))]) hx hb dX10_clause_4 rfl hl (by decide) rfl (fun ls hl => ?_)
  refine lv_iload_n hx hb dX10_clause_5 rfl (lv_at hl 0 rfl) ?_
  refine lv_iconst (v := (-1)) hx hb dX10_clause_6 (by decide) ?_
  refine lv_icmp_ne (tgt := 22) hx hb dX10_clause_7 (by decide) (fun hc_37 => ?_) (fun hc_37 => ?_)
  · have hf := zifn hc_37 hf
    refine lv_aload_n hx hb dX10_clause_22 rfl (lv_at hl 1 rfl) ?_
    refine zg_m_clauses hC hP (hC.fl mw_1396) dX10_clause_23 ?_
    refine lv_bipush (v := 60) hx hb dX10_clause_26 (by decide) ?_
    refine lv_icmp_eq (tgt := 49) hx hb dX10_clause_28 (by decide) (fun hc_38 => ?_) (fun hc_38 => ?_)
    · have hf := zifp hc_38 hf
      exact hk49 m_at_36 r_36 hf H locs ls hP hS (lv_sub hl [1, 0] rfl)
    · have hf := zifn hc_38 hf
      refine lv_iload_n hx hb dX10_clause_31 rfl (lv_at hl 0 rfl) ?_
      refine lv_iconst (v := 3) hx hb dX10_clause_32 (by decide) ?_
      refine lv_icmp_ge (tgt := 58) hx hb dX10_clause_33 (by decide) (fun hc_39 => ?_) (fun hc_39 => ?_)
      · have hf := zifp hc_39 hf
        exact hk58 m_at_36 m_fault m_faultAt r_36 hf H locs ls hP hS (lv_sub hl [1, 0] rfl)
      · have hf := zifn hc_39 hf
        refine lv_aload_n hx hb dX10_clause_36 rfl (lv_at hl 1 rfl) ?_
        refine zr_m_readTold hC hP (hC.fl mw_1400) dX10_clause_37 ?_
        refine lv_iload_n hx hb dX10_clause_40 rfl (lv_at hl 0 rfl) ?_
        obtain ⟨hz_40, hf⟩ := zite hf
        refine zl_m_readTold hC hP hz_40 dX10_clause_41 ?_
        refine lv_iload_n hx hb dX10_clause_42 rfl (lv_at hl 0 rfl) ?_
        obtain ⟨r_41, hf_41, hf⟩ := zb1i hf
        refine zcallP (As := [.int r_36]) (rest := [.int (m_readTold r_36.toNatClampNeg)]) hC hS hB (cpM_mostOf l hI r_36 N9 hf_41) (hC.ml mw_1573) yo_X10_mostOf rfl hl.1 rfl (Nat.le_of_ble_eq_true rfl) ⟨by omega, by omega⟩ hR.2.2 dX10_clause_43 (fun H locs hPk hS _ => ?_)
        have hP := hPk _ _ _ hP
        refine lv_icmp_ne (tgt := 58) hx hb dX10_clause_46 (by decide) (fun hc_42 => ?_) (fun hc_42 => ?_)
        · have hf := zifn hc_42 hf
          exact hk58 m_at_36 m_fault m_faultAt r_36 hf H locs ls hP hS (lv_sub hl [1, 0] rfl)
        · have hf := zifp hc_42 hf
          exact hk49 m_at_36 r_36 hf H locs ls hP hS (lv_sub hl [1, 0] rfl)
  · have hf := zifp hc_37 hf
    refine lv_aload_n hx hb dX10_clause_10 rfl (lv_at hl 1 rfl) ?_
    refine lv_iconst (v := 1) hx hb dX10_clause_11 (by decide) ?_
    refine lv_aload_n hx hb dX10_clause_12 rfl (lv_at hl 1 rfl) ?_
    refine zg_m_at hC hP (hC.fl mw_1393) dX10_clause_13 ?_
    obtain ⟨m_fault_43, m_faultAt_43, hf_43, hf⟩ := zb2i hf
    refine zcallVv (As := [.int 1, .int m_at_36]) (rest := []) hC hP hS hB (fun q h => zF.mono hS.1 h) (cpM_wrong l hI H.size m_thrown m_tape m_size m_place m_at_36 m_fault m_faultAt m_clauses m_open m_fed m_refused m_readTold m_told m_readBeast m_beast m_readGate m_gate m_readList m_list m_lawMany m_readLawMany m_law m_readLaw m_stack m_known m_step m_steps m_now m_trial m_before m_kept m_works m_refusedSteps m_images m_spot m_begun m_doneSteps m_mixed m_fewest m_leastFees m_lots m_tars (1 : Int32) m_at_36 N9 hf_43) (hC.ml mw_1569) yo_X10_wrong 0 (zfM rfl) rfl rfl rfl hl.1 rfl (Nat.le_of_ble_eq_true rfl) ⟨by omega, by omega⟩ hR.2.2 dX10_clause_16 (fun H locs hP hS _ _ => ?_)
    refine lv_goto (tgt := 58) hx hb dX10_clause_19 (by decide) ?_
    exact hk58 m_at_36 m_fault_43 m_faultAt_43 r_36 hf H locs ls hP hS (lv_sub hl [1, 0] rfl)
set_option maxHeartbeats 4000000 in
set_option maxRecDepth 100000 in
theorem cpM_clause (l : Launch) {g : zG} (hI : zI g 581) (sz : Nat) (m_thrown : Int32) (m_tape : Int32) (m_size : Int32) (m_place : Int32) (m_at : Int32) (m_fault : Int32) (m_faultAt : Int32) (m_clauses : Int32) (m_open : Int32) (m_fed : Nat → Int32) (m_refused : Nat → Int32) (m_readTold : Nat → Int32) (m_told : Nat → Int32) (m_readBeast : Nat → Nat → Int32) (m_beast : Nat → Nat → Int32) (m_readGate : Nat → Nat → Int32) (m_gate : Nat → Nat → Int32) (m_readList : Nat → Nat → Int32) (m_list : Nat → Nat → Int32) (m_lawMany : Int32) (m_readLawMany : Int32) (m_law : Nat → Nat → Int32) (m_readLaw : Nat → Nat → Int32) (m_stack : Nat → Int32) (m_known : Nat → Int32) (m_step : Nat → Nat → Int32) (m_steps : Int32) (m_now : Nat → Int32) (m_trial : Nat → Int32) (m_before : Nat → Nat → Int32) (m_kept : Nat → Nat → Int32) (m_works : Int32) (m_refusedSteps : Int32) (m_images : Int32) (m_spot : Int32) (m_begun : Int32) (m_doneSteps : Int32) (m_mixed : Nat → Int32) (m_fewest : Nat → Int32) (m_leastFees : Nat → Int32) (m_lots : Int32) (m_tars : Int32) (N9 : Nat) {m_at' : Int32} {m_fault' : Int32} {m_faultAt' : Int32} {m_clauses' : Int32} {m_readTold' : Nat → Int32} {m_readBeast' : Nat → Nat → Int32} {m_readGate' : Nat → Nat → Int32} {m_readList' : Nat → Nat → Int32} (hf : pM_clause N9  m_size m_at m_fault m_faultAt m_clauses m_fed m_readTold m_readBeast m_readGate m_readList = some (m_at', m_fault', m_faultAt', m_clauses', m_readTold', m_readBeast', m_readGate', m_readList')) : zMv l yX10_clause cX10_clause 4 none 7 g (zM g m_thrown m_tape m_size m_place m_at m_fault m_faultAt m_clauses m_open m_fed m_refused m_readTold m_told m_readBeast m_beast m_readGate m_gate m_readList m_list m_lawMany m_readLawMany m_law m_readLaw m_stack m_known m_step m_steps m_now m_trial m_before m_kept m_works m_refusedSteps m_images m_spot m_begun m_doneSteps m_mixed m_fewest m_leastFees m_lots m_tars) (zM g m_thrown m_tape m_size m_place m_at' m_fault' m_faultAt' m_clauses' m_open m_fed m_refused m_readTold' m_told m_readBeast' m_beast m_readGate' m_gate m_readList' m_list m_lawMany m_readLawMany m_law m_readLaw m_stack m_known m_step m_steps m_now m_trial m_before m_kept m_works m_refusedSteps m_images m_spot m_begun m_doneSteps m_mixed m_fewest m_leastFees m_lots m_tars) sz (zF g 64 580 sz) [.ref (g.2.1 64)] := by
  refine Met.ofW (cc := cX10_clause) (maxL := 4) (ret := none) (by decide +kernel) rfl ?_
  intro p e s m args below meth c s₁ B hml hv
  obtain ⟨rfl, hsz, hP, hK, hST⟩ := hv
  subst hsz
  have hC := zstart (own := RX10) rfl B hml hK hST
  have hl := lv_entry ([.ref (g.2.1 64)]) (n := 4) (Nat.le_of_ble_eq_true rfl)
  rw [lg_entry_eq]
  generalize (lg_sl ([.ref (g.2.1 64)]) ++ List.replicate (4 - (lg_sl ([.ref (g.2.1 64)])).length) Slot.unset).toArray = ls at hl ⊢
  have hl : lv_has ls 4 [(0, .ref (g.2.1 64))] := hl
  obtain ⟨hx, hb, hr, hml, hown, hts, hK, hlk, hST⟩ := id hC
  refine mpM_clause hI hC ⟨Nat.le_refl _, Nat.le_refl _, Nat.le_refl _, Nat.le_refl _⟩ m_thrown m_tape m_size m_place m_at m_fault m_faultAt m_clauses m_open m_fed m_refused m_readTold m_told m_readBeast m_beast m_readGate m_gate m_readList m_list m_lawMany m_readLawMany m_law m_readLaw m_stack m_known m_step m_steps m_now m_trial m_before m_kept m_works m_refusedSteps m_images m_spot m_begun m_doneSteps m_mixed m_fewest m_leastFees m_lots m_tars N9 (m_at', m_fault', m_faultAt', m_clauses', m_readTold', m_readBeast', m_readGate', m_readList') ?_ hf _ _ ls hP va_S.rf hl
  intro m_at1 m_fault1 m_faultAt1 m_clauses1 m_readTold1 m_readBeast1 m_readGate1 m_readList1 H locs pc ls he hP hS hd
  cases he
  exact W.vret hx hb hr (fun t ht hW => ⟨⟨(), rfl, trivial, by rw [← ht] at hP; exact hP⟩, hS.F ht⟩) hS.2.2 hd hlk
