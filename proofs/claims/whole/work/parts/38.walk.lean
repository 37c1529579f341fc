/-! StripeTradeModel.puts ([IIZ)I [('obj', 'm'), ('row', 'm_kept')] -/
def pM_puts_11 (N9 : Nat) (m_spot : Int32) (r1 : Int32) (m_kept : Nat → Nat → Int32) : Option (Int32 × (Nat → Nat → Int32) × Int32) := if zin r1 3 then if zin ((m_spot + 1) - 1) 783 then some (m_kept r1.toNatClampNeg ((m_spot + 1) - 1).toNatClampNeg, m_kept, m_spot + 1) else none else none
def pM_puts (N9 : Nat) (m_kept : Nat → Nat → Int32) (m_spot : Int32) (r1 : Int32) (x2 : Int32) (x3 : Int32) : Option (Int32 × (Nat → Nat → Int32) × Int32) := if x3 = 0 then (if zin r1 3 then if zin m_spot 783 then pM_puts_11 N9 m_spot r1 (va_up m_kept r1.toNatClampNeg (upd (m_kept r1.toNatClampNeg) m_spot.toNatClampNeg x2)) else none else none) else (pM_puts_11 N9 m_spot r1 m_kept)
set_option maxHeartbeats 4000000 in
set_option maxRecDepth 100000 in
theorem mpM_puts_11 {p : Program} {l : Launch} {e : Env} {R : Room} {s : State} {m : MethodId} {args : Array Value} {below : List Frame} {meth : Method} {c : Code} {cells slots : Nat} {Q : State → Prop} {g : zG} (hI : zI g 581) (hC : zC g RX10 cX10_puts 4 (some .int) p s m meth c args) (hR : 1 ≤ R.frames ∧ 60 * 1 ≤ R.locals ∧ cells ≤ R.cells ∧ slots ≤ R.slots) (m_thrown : Int32) (m_tape : Int32) (m_size : Int32) (m_place : Int32) (m_at : Int32) (m_fault : Int32) (m_faultAt : Int32) (m_clauses : Int32) (m_open : Int32) (m_fed : Nat → Int32) (m_refused : Nat → Int32) (m_readTold : Nat → Int32) (m_told : Nat → Int32) (m_readBeast : Nat → Nat → Int32) (m_beast : Nat → Nat → Int32) (m_readGate : Nat → Nat → Int32) (m_gate : Nat → Nat → Int32) (m_readList : Nat → Nat → Int32) (m_list : Nat → Nat → Int32) (m_lawMany : Int32) (m_readLawMany : Int32) (m_law : Nat → Nat → Int32) (m_readLaw : Nat → Nat → Int32) (m_stack : Nat → Int32) (m_known : Nat → Int32) (m_step : Nat → Nat → Int32) (m_steps : Int32) (m_now : Nat → Int32) (m_trial : Nat → Int32) (m_before : Nat → Nat → Int32) (m_works : Int32) (m_refusedSteps : Int32) (m_images : Int32) (m_spot : Int32) (m_begun : Int32) (m_doneSteps : Int32) (m_mixed : Nat → Int32) (m_fewest : Nat → Int32) (m_leastFees : Nat → Int32) (m_lots : Int32) (m_tars : Int32) (r1 : Int32) (N9 : Nat)   (res : Int32 × (Nat → Nat → Int32) × Int32) (hfin : ∀ (r0 : Int32) (m_kept : Nat → Nat → Int32) (m_spot : Int32) (H : Heap) (locs : List Loc) (pc : Nat) (ls : Array Slot), (r0, m_kept, m_spot) = res → va_P g.1 zcl (zM g m_thrown m_tape m_size m_place m_at m_fault m_faultAt m_clauses m_open m_fed m_refused m_readTold m_told m_readBeast m_beast m_readGate m_gate m_readList m_list m_lawMany m_readLawMany m_law m_readLaw m_stack m_known m_step m_steps m_now m_trial m_before m_kept m_works m_refusedSteps m_images m_spot m_begun m_doneSteps m_mixed m_fewest m_leastFees m_lots m_tars) H → va_S (zF g 64 580 s.heap.size) s.heap H locs → decode cX10_puts pc = .ok (.ireturn, 1) → W p l e R s m args below meth c H locs cells slots Q (F0 m pc ls [.int r0])) : ∀ (m_kept : Nat → Nat → Int32), pM_puts_11 N9 m_spot r1 m_kept = some res → ∀ (H : Heap) (locs : List Loc) (ls : Array Slot), va_P g.1 zcl (zM g m_thrown m_tape m_size m_place m_at m_fault m_faultAt m_clauses m_open m_fed m_refused m_readTold m_told m_readBeast m_beast m_readGate m_gate m_readList m_list m_lawMany m_readLawMany m_law m_readLaw m_stack m_known m_step m_steps m_now m_trial m_before m_kept m_works m_refusedSteps m_images m_spot m_begun m_doneSteps m_mixed m_fewest m_leastFees m_lots m_tars) H → va_S (zF g 64 580 s.heap.size) s.heap H locs → lv_has ls 4 [(0, .ref (g.2.1 64)), (1, .ref (g.2.1 (577 + r1.toNatClampNeg)))] → W p l e R s m args below meth c H locs cells slots Q (F0 m 11 ls []) := by
  obtain ⟨hx, hb, hr, hml, hown, hts, hK, hlk⟩ := id hC
  intro m_kept hf H locs ls hP hS hl
  unfold pM_puts_11 at hf
  refine lv_aload_n hx hb dX10_puts_11 rfl (lv_at hl 0 rfl) ?_
  refine lv_dup hx hb dX10_puts_12 rfl ?_
  refine zg_m_spot hC hP (hC.fl mw_1427) dX10_puts_13 ?_
  refine lv_iconst (v := 1) hx hb dX10_puts_16 (by decide) ?_
  refine lv_iadd hx hb dX10_puts_17 ?_
  refine zp_m_spot hC hP hI (fun k h1 h2 => zF.own h1 h2) hS (hC.fl mw_1427) dX10_puts_18 (fun H locs hP hS => ?_)
  refine lv_aload_n hx hb dX10_puts_21 rfl (lv_at hl 1 rfl) ?_
  refine lv_aload_n hx hb dX10_puts_22 rfl (lv_at hl 0 rfl) ?_
  refine zg_m_spot hC hP (hC.fl mw_1427) dX10_puts_23 ?_
  refine lv_iconst (v := 1) hx hb dX10_puts_26 (by decide) ?_
  refine lv_isub hx hb dX10_puts_27 ?_
  obtain ⟨hz_1, hf⟩ := zite hf
  obtain ⟨hz_2, hf⟩ := zite hf
  refine zl_m_kept hC hP hz_1 hz_2 dX10_puts_28 ?_
  exact hfin _ _ _ H locs _ ls (Option.some.inj hf) hP hS dX10_puts_29
set_option maxHeartbeats 4000000 in
set_option maxRecDepth 100000 in
theorem mpM_puts {p : Program} {l : Launch} {e : Env} {R : Room} {s : State} {m : MethodId} {args : Array Value} {below : List Frame} {meth : Method} {c : Code} {cells slots : Nat} {Q : State → Prop} {g : zG} (hI : zI g 581) (hC : zC g RX10 cX10_puts 4 (some .int) p s m meth c args) (hR : 1 ≤ R.frames ∧ 60 * 1 ≤ R.locals ∧ cells ≤ R.cells ∧ slots ≤ R.slots) (m_thrown : Int32) (m_tape : Int32) (m_size : Int32) (m_place : Int32) (m_at : Int32) (m_fault : Int32) (m_faultAt : Int32) (m_clauses : Int32) (m_open : Int32) (m_fed : Nat → Int32) (m_refused : Nat → Int32) (m_readTold : Nat → Int32) (m_told : Nat → Int32) (m_readBeast : Nat → Nat → Int32) (m_beast : Nat → Nat → Int32) (m_readGate : Nat → Nat → Int32) (m_gate : Nat → Nat → Int32) (m_readList : Nat → Nat → Int32) (m_list : Nat → Nat → Int32) (m_lawMany : Int32) (m_readLawMany : Int32) (m_law : Nat → Nat → Int32) (m_readLaw : Nat → Nat → Int32) (m_stack : Nat → Int32) (m_known : Nat → Int32) (m_step : Nat → Nat → Int32) (m_steps : Int32) (m_now : Nat → Int32) (m_trial : Nat → Int32) (m_before : Nat → Nat → Int32) (m_kept : Nat → Nat → Int32) (m_works : Int32) (m_refusedSteps : Int32) (m_images : Int32) (m_spot : Int32) (m_begun : Int32) (m_doneSteps : Int32) (m_mixed : Nat → Int32) (m_fewest : Nat → Int32) (m_leastFees : Nat → Int32) (m_lots : Int32) (m_tars : Int32) (r1 : Int32) (x2 : Int32) (x3 : Int32) (N9 : Nat)   (res : Int32 × (Nat → Nat → Int32) × Int32) (hfin : ∀ (r0 : Int32) (m_kept : Nat → Nat → Int32) (m_spot : Int32) (H : Heap) (locs : List Loc) (pc : Nat) (ls : Array Slot), (r0, m_kept, m_spot) = res → va_P g.1 zcl (zM g m_thrown m_tape m_size m_place m_at m_fault m_faultAt m_clauses m_open m_fed m_refused m_readTold m_told m_readBeast m_beast m_readGate m_gate m_readList m_list m_lawMany m_readLawMany m_law m_readLaw m_stack m_known m_step m_steps m_now m_trial m_before m_kept m_works m_refusedSteps m_images m_spot m_begun m_doneSteps m_mixed m_fewest m_leastFees m_lots m_tars) H → va_S (zF g 64 580 s.heap.size) s.heap H locs → decode cX10_puts pc = .ok (.ireturn, 1) → W p l e R s m args below meth c H locs cells slots Q (F0 m pc ls [.int r0])) : pM_puts N9 m_kept m_spot r1 x2 x3 = some res → ∀ (H : Heap) (locs : List Loc) (ls : Array Slot), va_P g.1 zcl (zM g m_thrown m_tape m_size m_place m_at m_fault m_faultAt m_clauses m_open m_fed m_refused m_readTold m_told m_readBeast m_beast m_readGate m_gate m_readList m_list m_lawMany m_readLawMany m_law m_readLaw m_stack m_known m_step m_steps m_now m_trial m_before m_kept m_works m_refusedSteps m_images m_spot m_begun m_doneSteps m_mixed m_fewest m_leastFees m_lots m_tars) H → va_S (zF g 64 580 s.heap.size) s.heap H locs → lv_has ls 4 [(0, .ref (g.2.1 64)), (1, .ref (g.2.1 (577 + r1.toNatClampNeg))), (2, .int x2), (3, .int x3)] → W p l e R s m args below meth c H locs cells slots Q (F0 m 0 ls []) := by
  obtain ⟨hx, hb, hr, hml, hown, hts, hK, hlk⟩ := id hC
  intro  hf H locs ls hP hS hl
  have hk11 := mpM_puts_11 (l := l) (e := e) (R := R) (below := below) (cells := cells) (slots := slots) (Q := Q) hI hC hR m_thrown m_tape m_size m_place m_at m_fault m_faultAt m_clauses m_open m_fed m_refused m_readTold m_told m_readBeast m_beast m_readGate m_gate m_readList m_list m_lawMany m_readLawMany m_law m_readLaw m_stack m_known m_step m_steps m_now m_trial m_before m_works m_refusedSteps m_images m_spot m_begun m_doneSteps m_mixed m_fewest m_leastFees m_lots m_tars r1 N9 res hfin
  unfold pM_puts at hf
  refine lv_iload_n hx hb dX10_puts_0 rfl (lv_at hl 3 rfl) ?_
  refine lv_if_ne (tgt := 11) hx hb dX10_puts_1 (by decide) (fun hc_3 => ?_) (fun hc_3 => ?_)
  · have hf := zifn hc_3 hf
    exact hk11 m_kept hf H locs ls hP hS (lv_sub hl [0, 1] rfl)
  · have hf := zifp hc_3 hf
    refine lv_aload_n hx hb dX10_puts_4 rfl (lv_at hl 1 rfl) ?_
    refine lv_aload_n hx hb dX10_puts_5 rfl (lv_at hl 0 rfl) ?_
    refine zg_m_spot hC hP (hC.fl mw_1427) dX10_puts_6 ?_
    refine lv_iload_n hx hb dX10_puts_9 rfl (lv_at hl 2 rfl) ?_
    obtain ⟨hz_4, hf⟩ := zite hf
    obtain ⟨hz_5, hf⟩ := zite hf
    refine zs_m_kept hC hP hI (fun k h1 h2 => zF.own h1 h2) hS hz_4 hz_5 dX10_puts_10 (fun H locs hP hS => ?_)
    exact hk11 (va_up m_kept r1.toNatClampNeg (upd (m_kept r1.toNatClampNeg) m_spot.toNatClampNeg x2)) hf H locs ls hP hS (lv_sub hl [0, 1] rfl)
set_option maxHeartbeats 4000000 in
set_option maxRecDepth 100000 in
theorem cpM_puts (l : Launch) {g : zG} (hI : zI g 581) (sz : Nat) (m_thrown : Int32) (m_tape : Int32) (m_size : Int32) (m_place : Int32) (m_at : Int32) (m_fault : Int32) (m_faultAt : Int32) (m_clauses : Int32) (m_open : Int32) (m_fed : Nat → Int32) (m_refused : Nat → Int32) (m_readTold : Nat → Int32) (m_told : Nat → Int32) (m_readBeast : Nat → Nat → Int32) (m_beast : Nat → Nat → Int32) (m_readGate : Nat → Nat → Int32) (m_gate : Nat → Nat → Int32) (m_readList : Nat → Nat → Int32) (m_list : Nat → Nat → Int32) (m_lawMany : Int32) (m_readLawMany : Int32) (m_law : Nat → Nat → Int32) (m_readLaw : Nat → Nat → Int32) (m_stack : Nat → Int32) (m_known : Nat → Int32) (m_step : Nat → Nat → Int32) (m_steps : Int32) (m_now : Nat → Int32) (m_trial : Nat → Int32) (m_before : Nat → Nat → Int32) (m_kept : Nat → Nat → Int32) (m_works : Int32) (m_refusedSteps : Int32) (m_images : Int32) (m_spot : Int32) (m_begun : Int32) (m_doneSteps : Int32) (m_mixed : Nat → Int32) (m_fewest : Nat → Int32) (m_leastFees : Nat → Int32) (m_lots : Int32) (m_tars : Int32) (r1 : Int32)  (x2 : Int32)  (x3 : Int32) (N9 : Nat) {r0 : Int32} {m_kept' : Nat → Nat → Int32} {m_spot' : Int32} (hf : pM_puts N9  m_kept m_spot r1 x2 x3 = some (r0, m_kept', m_spot')) : zMi l yX10_puts cX10_puts 4 (some .int) 1 g (zM g m_thrown m_tape m_size m_place m_at m_fault m_faultAt m_clauses m_open m_fed m_refused m_readTold m_told m_readBeast m_beast m_readGate m_gate m_readList m_list m_lawMany m_readLawMany m_law m_readLaw m_stack m_known m_step m_steps m_now m_trial m_before m_kept m_works m_refusedSteps m_images m_spot m_begun m_doneSteps m_mixed m_fewest m_leastFees m_lots m_tars) (zM g m_thrown m_tape m_size m_place m_at m_fault m_faultAt m_clauses m_open m_fed m_refused m_readTold m_told m_readBeast m_beast m_readGate m_gate m_readList m_list m_lawMany m_readLawMany m_law m_readLaw m_stack m_known m_step m_steps m_now m_trial m_before m_kept' m_works m_refusedSteps m_images m_spot' m_begun m_doneSteps m_mixed m_fewest m_leastFees m_lots m_tars) sz (zF g 64 580 sz) [.ref (g.2.1 64), .ref (g.2.1 (577 + r1.toNatClampNeg)), .int x2, .int x3] r0 := by
  refine Met.ofW (cc := cX10_puts) (maxL := 4) (ret := (some .int)) (by decide +kernel) rfl ?_
  intro p e s m args below meth c s₁ B hml hv
  obtain ⟨rfl, hsz, hP, hK⟩ := hv
  subst hsz
  have hC := zstart (ws := []) (sz := 0) (own := RX10) rfl B hml hK
  have hl := lv_entry ([.ref (g.2.1 64), .ref (g.2.1 (577 + r1.toNatClampNeg)), .int x2, .int x3]) (n := 4) (Nat.le_of_ble_eq_true rfl)
  rw [lg_entry_eq]
  generalize (lg_sl ([.ref (g.2.1 64), .ref (g.2.1 (577 + r1.toNatClampNeg)), .int x2, .int x3]) ++ List.replicate (4 - (lg_sl ([.ref (g.2.1 64), .ref (g.2.1 (577 + r1.toNatClampNeg)), .int x2, .int x3])).length) Slot.unset).toArray = ls at hl ⊢
  have hl : lv_has ls 4 [(0, .ref (g.2.1 64)), (1, .ref (g.2.1 (577 + r1.toNatClampNeg))), (2, .int x2), (3, .int x3)] := hl
  obtain ⟨hx, hb, hr, hml, hown, hts, hK, hlk⟩ := id hC
  refine mpM_puts hI hC ⟨Nat.le_refl _, Nat.le_refl _, Nat.le_refl _, Nat.le_refl _⟩ m_thrown m_tape m_size m_place m_at m_fault m_faultAt m_clauses m_open m_fed m_refused m_readTold m_told m_readBeast m_beast m_readGate m_gate m_readList m_list m_lawMany m_readLawMany m_law m_readLaw m_stack m_known m_step m_steps m_now m_trial m_before m_kept m_works m_refusedSteps m_images m_spot m_begun m_doneSteps m_mixed m_fewest m_leastFees m_lots m_tars r1 x2 x3 N9 (r0, m_kept', m_spot') ?_ hf _ _ ls hP va_S.rf hl
  intro r1 m_kept1 m_spot1 H locs pc ls he hP hS hd
  cases he
  exact W.iret hx hb hr (fun t ht hW => ⟨⟨_, (), rfl, rfl, by rw [← ht] at hP; exact hP⟩, hS.F ht⟩) hS.2.2 hd hlk
/-! StripeTradeModel.putsAll ([IZ)V [('obj', 'm'), ('row', 'm_kept')] -/
def pM_putsAll_62 (N9 : Nat) (m_now : Nat → Int32) (r1 : Int32) (x2 : Int32) (k53 : (Nat → Int32) → (Nat → Nat → Int32) → (Nat → Nat → Int32) → Int32 → Int32 → Option ((Nat → Int32) × (Nat → Nat → Int32) × (Nat → Nat → Int32) × Int32 × Int32)) : Nat → (Nat → Nat → Int32) → (Nat → Nat → Int32) → Int32 → Int32 → Int32 → Option ((Nat → Int32) × (Nat → Nat → Int32) × (Nat → Nat → Int32) × Int32 × Int32)
  | 0 => fun _ _ _ _ _ => none
  | n9 + 1 => fun (m_before : Nat → Nat → Int32) (m_kept : Nat → Nat → Int32) (m_spot : Int32) (x3 : Int32) (x4 : Int32) => if 46 ≤ x4 then (k53 m_now m_before m_kept m_spot (x3 + 1)) else (if zin x3 16 then if zin x4 46 then zb3 (pM_puts N9 m_kept m_spot r1 (m_before x3.toNatClampNeg x4.toNatClampNeg) x2) fun r_4 m_kept_4 m_spot_4 => pM_putsAll_62 N9 m_now r1 x2 k53 n9 (va_up m_before x3.toNatClampNeg (upd (m_before x3.toNatClampNeg) x4.toNatClampNeg r_4)) m_kept_4 m_spot_4 x3 (x4 + 1) else none else none)
def pM_putsAll_53 (N9 : Nat) (m_works : Int32) (r1 : Int32) (x2 : Int32) : Nat → (Nat → Int32) → (Nat → Nat → Int32) → (Nat → Nat → Int32) → Int32 → Int32 → Option ((Nat → Int32) × (Nat → Nat → Int32) × (Nat → Nat → Int32) × Int32 × Int32)
  | 0 => fun _ _ _ _ _ => none
  | n9 + 1 => fun (m_now : Nat → Int32) (m_before : Nat → Nat → Int32) (m_kept : Nat → Nat → Int32) (m_spot : Int32) (x3 : Int32) => if 16 ≤ x3 then (some (m_now, m_before, m_kept, m_works, m_spot)) else (pM_putsAll_62 N9 m_now r1 x2 (pM_putsAll_53 N9 m_works r1 x2 n9) N9 m_before m_kept m_spot x3 0)
def pM_putsAll_21 (N9 : Nat) (m_before : Nat → Nat → Int32) (r1 : Int32) (x2 : Int32) : Nat → (Nat → Int32) → (Nat → Nat → Int32) → Int32 → Int32 → Int32 → Option ((Nat → Int32) × (Nat → Nat → Int32) × (Nat → Nat → Int32) × Int32 × Int32)
  | 0 => fun _ _ _ _ _ => none
  | n9 + 1 => fun (m_now : Nat → Int32) (m_kept : Nat → Nat → Int32) (m_works : Int32) (m_spot : Int32) (x3 : Int32) => if 46 ≤ x3 then (pM_putsAll_53 N9 m_works r1 x2 N9 m_now m_before m_kept m_spot 0) else (if zin x3 46 then zb3 (pM_puts N9 m_kept m_spot r1 (m_now x3.toNatClampNeg) x2) fun r_8 m_kept_8 m_spot_8 => pM_putsAll_21 N9 m_before r1 x2 n9 (upd m_now x3.toNatClampNeg r_8) m_kept_8 m_works m_spot_8 (x3 + 1) else none)
def pM_putsAll (N9 : Nat) (m_now : Nat → Int32) (m_before : Nat → Nat → Int32) (m_kept : Nat → Nat → Int32) (m_works : Int32) (m_spot : Int32) (r1 : Int32) (x2 : Int32) : Option ((Nat → Int32) × (Nat → Nat → Int32) × (Nat → Nat → Int32) × Int32 × Int32) := zb3 (pM_puts N9 m_kept (0 : Int32) r1 m_works x2) fun r_9 m_kept_9 m_spot_9 => pM_putsAll_21 N9 m_before r1 x2 N9 m_now m_kept_9 r_9 m_spot_9 0
set_option maxHeartbeats 4000000 in
set_option maxRecDepth 100000 in
theorem mpM_putsAll_62 {p : Program} {l : Launch} {e : Env} {R : Room} {s : State} {m : MethodId} {args : Array Value} {below : List Frame} {meth : Method} {c : Code} {cells slots : Nat} {Q : State → Prop} {g : zG} (hI : zI g 581) (hC : zC g RX10 cX10_putsAll 5 none p s m meth c args) (hR : 2 ≤ R.frames ∧ 60 * 2 ≤ R.locals ∧ cells ≤ R.cells ∧ slots ≤ R.slots) (m_thrown : Int32) (m_tape : Int32) (m_size : Int32) (m_place : Int32) (m_at : Int32) (m_fault : Int32) (m_faultAt : Int32) (m_clauses : Int32) (m_open : Int32) (m_fed : Nat → Int32) (m_refused : Nat → Int32) (m_readTold : Nat → Int32) (m_told : Nat → Int32) (m_readBeast : Nat → Nat → Int32) (m_beast : Nat → Nat → Int32) (m_readGate : Nat → Nat → Int32) (m_gate : Nat → Nat → Int32) (m_readList : Nat → Nat → Int32) (m_list : Nat → Nat → Int32) (m_lawMany : Int32) (m_readLawMany : Int32) (m_law : Nat → Nat → Int32) (m_readLaw : Nat → Nat → Int32) (m_stack : Nat → Int32) (m_known : Nat → Int32) (m_step : Nat → Nat → Int32) (m_steps : Int32) (m_now : Nat → Int32) (m_trial : Nat → Int32) (m_works : Int32) (m_refusedSteps : Int32) (m_images : Int32) (m_begun : Int32) (m_doneSteps : Int32) (m_mixed : Nat → Int32) (m_fewest : Nat → Int32) (m_leastFees : Nat → Int32) (m_lots : Int32) (m_tars : Int32) (r1 : Int32) (x2 : Int32) (N9 : Nat)  (k53 : (Nat → Int32) → (Nat → Nat → Int32) → (Nat → Nat → Int32) → Int32 → Int32 → Option ((Nat → Int32) × (Nat → Nat → Int32) × (Nat → Nat → Int32) × Int32 × Int32)) (res : (Nat → Int32) × (Nat → Nat → Int32) × (Nat → Nat → Int32) × Int32 × Int32) (hfin : ∀ (m_now : Nat → Int32) (m_before : Nat → Nat → Int32) (m_kept : Nat → Nat → Int32) (m_works : Int32) (m_spot : Int32) (H : Heap) (locs : List Loc) (pc : Nat) (ls : Array Slot), (m_now, m_before, m_kept, m_works, m_spot) = res → va_P g.1 zcl (zM g m_thrown m_tape m_size m_place m_at m_fault m_faultAt m_clauses m_open m_fed m_refused m_readTold m_told m_readBeast m_beast m_readGate m_gate m_readList m_list m_lawMany m_readLawMany m_law m_readLaw m_stack m_known m_step m_steps m_now m_trial m_before m_kept m_works m_refusedSteps m_images m_spot m_begun m_doneSteps m_mixed m_fewest m_leastFees m_lots m_tars) H → va_S (zF g 64 580 s.heap.size) s.heap H locs → decode cX10_putsAll pc = .ok (.return_, 1) → W p l e R s m args below meth c H locs cells slots Q (F0 m pc ls [])) (hk53 : ∀ (m_now : Nat → Int32) (m_before : Nat → Nat → Int32) (m_kept : Nat → Nat → Int32) (m_spot : Int32) (x3 : Int32), k53 m_now m_before m_kept m_spot x3 = some res → ∀ (H : Heap) (locs : List Loc) (ls : Array Slot), va_P g.1 zcl (zM g m_thrown m_tape m_size m_place m_at m_fault m_faultAt m_clauses m_open m_fed m_refused m_readTold m_told m_readBeast m_beast m_readGate m_gate m_readList m_list m_lawMany m_readLawMany m_law m_readLaw m_stack m_known m_step m_steps m_now m_trial m_before m_kept m_works m_refusedSteps m_images m_spot m_begun m_doneSteps m_mixed m_fewest m_leastFees m_lots m_tars) H → va_S (zF g 64 580 s.heap.size) s.heap H locs → lv_has ls 5 [(0, .ref (g.2.1 64)), (1, .ref (g.2.1 (577 + r1.toNatClampNeg))), (2, .int x2), (3, .int x3)] → W p l e R s m args below meth c H locs cells slots Q (F0 m 53 ls [])) : ∀ (n9 : Nat) (m_before : Nat → Nat → Int32) (m_kept : Nat → Nat → Int32) (m_spot : Int32) (x3 : Int32) (x4 : Int32), pM_putsAll_62 N9 m_now r1 x2 k53 n9 m_before m_kept m_spot x3 x4 = some res → ∀ (H : Heap) (locs : List Loc) (ls : Array Slot), va_P g.1 zcl (zM g m_thrown m_tape m_size m_place m_at m_fault m_faultAt m_clauses m_open m_fed m_refused m_readTold m_told m_readBeast m_beast m_readGate m_gate m_readList m_list m_lawMany m_readLawMany m_law m_readLaw m_stack m_known m_step m_steps m_now m_trial m_before m_kept m_works m_refusedSteps m_images m_spot m_begun m_doneSteps m_mixed m_fewest m_leastFees m_lots m_tars) H → va_S (zF g 64 580 s.heap.size) s.heap H locs → lv_has ls 5 [(0, .ref (g.2.1 64)), (1, .ref (g.2.1 (577 + r1.toNatClampNeg))), (2, .int x2), (3, .int x3), (4, .int x4)] → W p l e R s m args below meth c H locs cells slots Q (F0 m 62 ls []) := by
  obtain ⟨hx, hb, hr, hml, hown, hts, hK, hlk⟩ := id hC
  intro n9
  induction n9 with
  | zero => intro m_before m_kept m_spot x3 x4 hf; cases hf
  | succ n9 ih =>
    intro m_before m_kept m_spot x3 x4 hf H locs ls hP hS hl
    have hk62 := ih
    unfold pM_putsAll_62 at hf
    refine lv_iload hx hb dX10_putsAll_62 (lv_at hl 4 rfl) ?_
    refine lv_bipush (v := 46) hx hb dX10_putsAll_64 (by decide) ?_
    refine lv_icmp_ge (tgt := 99) hx hb dX10_putsAll_66 (by decide) (fun hc_1 => ?_) (fun hc_1 => ?_)
    · have hf := zifp hc_1 hf
      refine lv_iinc (v := x3 + 1) (lv' := [(3, .int (x3 + 1)), (0, .ref (g.2.1 64)), (1, .ref (g.2.1 (577 + r1.toNatClampNeg))), (2, .int x2), (4, .int x4)]) hx hb dX10_putsAll_99 hl (k := 3) rfl rfl (by decide) rfl (fun ls hl => ?_)
      refine lv_goto (tgt := 53) hx hb dX10_putsAll_102 (by decide) ?_
      exact hk53 m_now m_before m_kept m_spot (x3 + 1) hf H locs ls hP hS (lv_sub hl [1, 2, 3, 0] rfl)
    · have hf := zifn hc_1 hf
      refine lv_aload_n hx hb dX10_putsAll_69 rfl (lv_at hl 0 rfl) ?_
      refine zr_m_before hC hP (hC.fl mw_1422) dX10_putsAll_70 ?_
      refine lv_iload_n hx hb dX10_putsAll_73 rfl (lv_at hl 3 rfl) ?_
      obtain ⟨hz_2, hf⟩ := zite hf
      refine zq_m_before hC hP hz_2 dX10_putsAll_74 ?_
      refine lv_iload hx hb dX10_putsAll_75 (lv_at hl 4 rfl) ?_
      refine lv_aload_n hx hb dX10_putsAll_77 rfl (lv_at hl 0 rfl) ?_
      refine lv_aload_n hx hb dX10_putsAll_78 rfl (lv_at hl 1 rfl) ?_
      refine lv_aload_n hx hb dX10_putsAll_79 rfl (lv_at hl 0 rfl) ?_
      refine zr_m_before hC hP (hC.fl mw_1422) dX10_putsAll_80 ?_
      refine lv_iload_n hx hb dX10_putsAll_83 rfl (lv_at hl 3 rfl) ?_
      refine zq_m_before hC hP hz_2 dX10_putsAll_84 ?_
      refine lv_iload hx hb dX10_putsAll_85 (lv_at hl 4 rfl) ?_
      obtain ⟨hz_3, hf⟩ := zite hf
      refine zl_m_before hC hP hz_2 hz_3 dX10_putsAll_87 ?_
      refine lv_iload_n hx hb dX10_putsAll_88 rfl (lv_at hl 2 rfl) ?_
      obtain ⟨r_4, m_kept_4, m_spot_4, hf_4, hf⟩ := zb3i hf
      refine zcallVi (As := [.ref (g.2.1 (577 + r1.toNatClampNeg)), .int (m_before x3.toNatClampNeg x4.toNatClampNeg), .int x2]) (rest := [.int x4, .ref (g.2.1 (561 + x3.toNatClampNeg))]) hC hP hS (fun q h => zF.mono hS.1 h) (cpM_puts l hI H.size m_thrown m_tape m_size m_place m_at m_fault m_faultAt m_clauses m_open m_fed m_refused m_readTold m_told m_readBeast m_beast m_readGate m_gate m_readList m_list m_lawMany m_readLawMany m_law m_readLaw m_stack m_known m_step m_steps m_now m_trial m_before m_kept m_works m_refusedSteps m_images m_spot m_begun m_doneSteps m_mixed m_fewest m_leastFees m_lots m_tars r1 (m_before x3.toNatClampNeg x4.toNatClampNeg) x2 N9 hf_4) (hC.ml mw_1921) yo_X10_puts 0 (zfM rfl) rfl rfl rfl hl.1 rfl (Nat.le_of_ble_eq_true rfl) ⟨by omega, by omega⟩ hR.2.2 dX10_putsAll_89 (fun H locs hP hS _ _ => ?_)
      refine zs_m_before hC hP hI (fun k h1 h2 => zF.own h1 h2) hS hz_2 hz_3 dX10_putsAll_92 (fun H locs hP hS => ?_)
      refine lv_iinc (v := x4 + 1) (lv' := [(4, .int (x4 + 1)), (0, .ref (g.2.1 64)), (1, .ref (g.2.1 (577 + r1.toNatClampNeg))), (2, .int x2), (3, .int x3)]) hx hb dX10_putsAll_93 hl (k := 4) rfl rfl (by decide) rfl (fun ls hl => ?_)
      refine lv_goto (tgt := 62) hx hb dX10_putsAll_96 (by decide) ?_
      exact hk62 (va_up m_before x3.toNatClampNeg (upd (m_before x3.toNatClampNeg) x4.toNatClampNeg r_4)) m_kept_4 m_spot_4 x3 (x4 + 1) hf H locs ls hP hS (lv_sub hl [1, 2, 3, 4, 0] rfl)
set_option maxHeartbeats 4000000 in
set_option maxRecDepth 100000 in
theorem mpM_putsAll_53 {p : Program} {l : Launch} {e : Env} {R : Room} {s : State} {m : MethodId} {args : Array Value} {below : List Frame} {meth : Method} {c : Code} {cells slots : Nat} {Q : State → Prop} {g : zG} (hI : zI g 581) (hC : zC g RX10 cX10_putsAll 5 none p s m meth c args) (hR : 2 ≤ R.frames ∧ 60 * 2 ≤ R.locals ∧ cells ≤ R.cells ∧ slots ≤ R.slots) (m_thrown : Int32) (m_tape : Int32) (m_size : Int32) (m_place : Int32) (m_at : Int32) (m_fault : Int32) (m_faultAt : Int32) (m_clauses : Int32) (m_open : Int32) (m_fed : Nat → Int32) (m_refused : Nat → Int32) (m_readTold : Nat → Int32) (m_told : Nat → Int32) (m_readBeast : Nat → Nat → Int32) (m_beast : Nat → Nat → Int32) (m_readGate : Nat → Nat → Int32) (m_gate : Nat → Nat → Int32) (m_readList : Nat → Nat → Int32) (m_list : Nat → Nat → Int32) (m_lawMany : Int32) (m_readLawMany : Int32) (m_law : Nat → Nat → Int32) (m_readLaw : Nat → Nat → Int32) (m_stack : Nat → Int32) (m_known : Nat → Int32) (m_step : Nat → Nat → Int32) (m_steps : Int32) (m_trial : Nat → Int32) (m_works : Int32) (m_refusedSteps : Int32) (m_images : Int32) (m_begun : Int32) (m_doneSteps : Int32) (m_mixed : Nat → Int32) (m_fewest : Nat → Int32) (m_leastFees : Nat → Int32) (m_lots : Int32) (m_tars : Int32) (r1 : Int32) (x2 : Int32) (N9 : Nat)   (res : (Nat → Int32) × (Nat → Nat → Int32) × (Nat → Nat → Int32) × Int32 × Int32) (hfin : ∀ (m_now : Nat → Int32) (m_before : Nat → Nat → Int32) (m_kept : Nat → Nat → Int32) (m_works : Int32) (m_spot : Int32) (H : Heap) (locs : List Loc) (pc : Nat) (ls : Array Slot), (m_now, m_before, m_kept, m_works, m_spot) = res → va_P g.1 zcl (zM g m_thrown m_tape m_size m_place m_at m_fault m_faultAt m_clauses m_open m_fed m_refused m_readTold m_told m_readBeast m_beast m_readGate m_gate m_readList m_list m_lawMany m_readLawMany m_law m_readLaw m_stack m_known m_step m_steps m_now m_trial m_before m_kept m_works m_refusedSteps m_images m_spot m_begun m_doneSteps m_mixed m_fewest m_leastFees m_lots m_tars) H → va_S (zF g 64 580 s.heap.size) s.heap H locs → decode cX10_putsAll pc = .ok (.return_, 1) → W p l e R s m args below meth c H locs cells slots Q (F0 m pc ls [])) : ∀ (n9 : Nat) (m_now : Nat → Int32) (m_before : Nat → Nat → Int32) (m_kept : Nat → Nat → Int32) (m_spot : Int32) (x3 : Int32), pM_putsAll_53 N9 m_works r1 x2 n9 m_now m_before m_kept m_spot x3 = some res → ∀ (H : Heap) (locs : List Loc) (ls : Array Slot), va_P g.1 zcl (zM g m_thrown m_tape m_size m_place m_at m_fault m_faultAt m_clauses m_open m_fed m_refused m_readTold m_told m_readBeast m_beast m_readGate m_gate m_readList m_list m_lawMany m_readLawMany m_law m_readLaw m_stack m_known m_step m_steps m_now m_trial m_before m_kept m_works m_refusedSteps m_images m_spot m_begun m_doneSteps m_mixed m_fewest m_leastFees m_lots m_tars) H → va_S (zF g 64 580 s.heap.size) s.heap H locs → lv_has ls 5 [(0, .ref (g.2.1 64)), (1, .ref (g.2.1 (577 + r1.toNatClampNeg))), (2, .int x2), (3, .int x3)] → W p l e R s m args below meth c H locs cells slots Q (F0 m 53 ls []) := by
  obtain ⟨hx, hb, hr, hml, hown, hts, hK, hlk⟩ := id hC
  intro n9
  induction n9 with
  | zero => intro m_now m_before m_kept m_spot x3 hf; cases hf
  | succ n9 ih =>
    intro m_now m_before m_kept m_spot x3 hf H locs ls hP hS hl
    have hk53 := ih
    have hk62 := mpM_putsAll_62 (l := l) (e := e) (R := R) (below := below) (cells := cells) (slots := slots) (Q := Q) hI hC hR m_thrown m_tape m_size m_place m_at m_fault m_faultAt m_clauses m_open m_fed m_refused m_readTold m_told m_readBeast m_beast m_readGate m_gate m_readList m_list m_lawMany m_readLawMany m_law m_readLaw m_stack m_known m_step m_steps m_now m_trial m_works m_refusedSteps m_images m_begun m_doneSteps m_mixed m_fewest m_leastFees m_lots m_tars r1 x2 N9 (pM_putsAll_53 N9 m_works r1 x2 n9) res hfin hk53 N9
    unfold pM_putsAll_53 at hf
    refine lv_iload_n hx hb dX10_putsAll_53 rfl (lv_at hl 3 rfl) ?_
    refine lv_bipush (v := 16) hx hb dX10_putsAll_54 (by decide) ?_
    refine lv_icmp_ge (tgt := 105) hx hb dX10_putsAll_56 (by decide) (fun hc_5 => ?_) (fun hc_5 => ?_)
    · have hf := zifp hc_5 hf
      exact hfin _ _ _ _ _ H locs _ ls (Option.some.inj hf) hP hS dX10_putsAll_105
    · have hf := zifn hc_5 hf
      refine lv_iconst (v := 0) hx hb dX10_putsAll_59 (by decide) ?_
      refine lv_istore (lv' := [(4, .int 0), (0, .ref (g.2.1 64)), (1, .ref (g.2.1 (577 + r1.toNatClampNeg))), (2, .int x2), (3, .int x3)]) hx hb dX10_putsAll_60 hl (by decide) rfl (fun ls hl => ?_)
      exact hk62 m_before m_kept m_spot x3 0 hf H locs ls hP hS (lv_sub hl [1, 2, 3, 4, 0] rfl)
set_option maxHeartbeats 4000000 in
set_option maxRecDepth 100000 in
theorem mpM_putsAll_21 {p : Program} {l : Launch} {e : Env} {R : Room} {s : State} {m : MethodId} {args : Array Value} {below : List Frame} {meth : Method} {c : Code} {cells slots : Nat} {Q : State → Prop} {g : zG} (hI : zI g 581) (hC : zC g RX10 cX10_putsAll 5 none p s m meth c args) (hR : 2 ≤ R.frames ∧ 60 * 2 ≤ R.locals ∧ cells ≤ R.cells ∧ slots ≤ R.slots) (m_thrown : Int32) (m_tape : Int32) (m_size : Int32) (m_place : Int32) (m_at : Int32) (m_fault : Int32) (m_faultAt : Int32) (m_clauses : Int32) (m_open : Int32) (m_fed : Nat → Int32) (m_refused : Nat → Int32) (m_readTold : Nat → Int32) (m_told : Nat → Int32) (m_readBeast : Nat → Nat → Int32) (m_beast : Nat → Nat → Int32) (m_readGate : Nat → Nat → Int32) (m_gate : Nat → Nat → Int32) (m_readList : Nat → Nat → Int32) (m_list : Nat → Nat → Int32) (m_lawMany : Int32) (m_readLawMany : Int32) (m_law : Nat → Nat → Int32) (m_readLaw : Nat → Nat → Int32) (m_stack : Nat → Int32) (m_known : Nat → Int32) (m_step : Nat → Nat → Int32) (m_steps : Int32) (m_trial : Nat → Int32) (m_before : Nat → Nat → Int32) (m_refusedSteps : Int32) (m_images : Int32) (m_begun : Int32) (m_doneSteps : Int32) (m_mixed : Nat → Int32) (m_fewest : Nat → Int32) (m_leastFees : Nat → Int32) (m_lots : Int32) (m_tars : Int32) (r1 : Int32) (x2 : Int32) (N9 : Nat)   (res : (Nat → Int32) × (Nat → Nat → Int32) × (Nat → Nat → Int32) × Int32 × Int32) (hfin : ∀ (m_now : Nat → Int32) (m_before : Nat → Nat → Int32) (m_kept : Nat → Nat → Int32) (m_works : Int32) (m_spot : Int32) (H : Heap) (locs : List Loc) (pc : Nat) (ls : Array Slot), (m_now, m_before, m_kept, m_works, m_spot) = res → va_P g.1 zcl (zM g m_thrown m_tape m_size m_place m_at m_fault m_faultAt m_clauses m_open m_fed m_refused m_readTold m_told m_readBeast m_beast m_readGate m_gate m_readList m_list m_lawMany m_readLawMany m_law m_readLaw m_stack m_known m_step m_steps m_now m_trial m_before m_kept m_works m_refusedSteps m_images m_spot m_begun m_doneSteps m_mixed m_fewest m_leastFees m_lots m_tars) H → va_S (zF g 64 580 s.heap.size) s.heap H locs → decode cX10_putsAll pc = .ok (.return_, 1) → W p l e R s m args below meth c H locs cells slots Q (F0 m pc ls [])) : ∀ (n9 : Nat) (m_now : Nat → Int32) (m_kept : Nat → Nat → Int32) (m_works : Int32) (m_spot : Int32) (x3 : Int32), pM_putsAll_21 N9 m_before r1 x2 n9 m_now m_kept m_works m_spot x3 = some res → ∀ (H : Heap) (locs : List Loc) (ls : Array Slot), va_P g.1 zcl (zM g m_thrown m_tape m_size m_place m_at m_fault m_faultAt m_clauses m_open m_fed m_refused m_readTold m_told m_readBeast m_beast m_readGate m_gate m_readList m_list m_lawMany m_readLawMany m_law m_readLaw m_stack m_known m_step m_steps m_now m_trial m_before m_kept m_works m_refusedSteps m_images m_spot m_begun m_doneSteps m_mixed m_fewest m_leastFees m_lots m_tars) H → va_S (zF g 64 580 s.heap.size) s.heap H locs → lv_has ls 5 [(0, .ref (g.2.1 64)), (1, .ref (g.2.1 (577 + r1.toNatClampNeg))), (2, .int x2), (3, .int x3)] → W p l e R s m args below meth c H locs cells slots Q (F0 m 21 ls []) := by
  obtain ⟨hx, hb, hr, hml, hown, hts, hK, hlk⟩ := id hC
  intro n9
  induction n9 with
  | zero => intro m_now m_kept m_works m_spot x3 hf; cases hf
  | succ n9 ih =>
    intro m_now m_kept m_works m_spot x3 hf H locs ls hP hS hl
    have hk21 := ih
    have hk53 := mpM_putsAll_53 (l := l) (e := e) (R := R) (below := below) (cells := cells) (slots := slots) (Q := Q) hI hC hR m_thrown m_tape m_size m_place m_at m_fault m_faultAt m_clauses m_open m_fed m_refused m_readTold m_told m_readBeast m_beast m_readGate m_gate m_readList m_list m_lawMany m_readLawMany m_law m_readLaw m_stack m_known m_step m_steps m_trial m_works m_refusedSteps m_images m_begun m_doneSteps m_mixed m_fewest m_leastFees m_lots m_tars r1 x2 N9 res hfin N9
    unfold pM_putsAll_21 at hf
    refine lv_iload_n hx hb dX10_putsAll_21 rfl (lv_at hl 3 rfl) ?_
    refine lv_bipush (v := 46) hx hb dX10_putsAll_22 (by decide) ?_
    refine lv_icmp_ge (tgt := 51) hx hb dX10_putsAll_24 (by decide) (fun hc_6 => ?_) (fun hc_6 => ?_)
    · have hf := zifp hc_6 hf
      refine lv_iconst (v := 0) hx hb dX10_putsAll_51 (by decide) ?_
      refine lv_istore_n (lv' := [(3, .int 0), (0, .ref (g.2.1 64)), (1, .ref (g.2.1 (577 + r1.toNatClampNeg))), (2, .int x2)]) hx hb dX10_putsAll_52 rfl hl (by decide) rfl (fun ls hl => ?_)
      exact hk53 m_now m_before m_kept m_spot 0 hf H locs ls hP hS (lv_sub hl [1, 2, 3, 0] rfl)
    · have hf := zifn hc_6 hf
      refine lv_aload_n hx hb dX10_putsAll_27 rfl (lv_at hl 0 rfl) ?_
      refine zr_m_now hC hP (hC.fl mw_1420) dX10_putsAll_28 ?_
      refine lv_iload_n hx hb dX10_putsAll_31 rfl (lv_at hl 3 rfl) ?_
      refine lv_aload_n hx hb dX10_putsAll_32 rfl (lv_at hl 0 rfl) ?_
      refine lv_aload_n hx hb dX10_putsAll_33 rfl (lv_at hl 1 rfl) ?_
      refine lv_aload_n hx hb dX10_putsAll_34 rfl (lv_at hl 0 rfl) ?_
      refine zr_m_now hC hP (hC.fl mw_1420) dX10_putsAll_35 ?_
      refine lv_iload_n hx hb dX10_putsAll_38 rfl (lv_at hl 3 rfl) ?_
      obtain ⟨hz_7, hf⟩ := zite hf
      refine zl_m_now hC hP hz_7 dX10_putsAll_39 ?_
      refine lv_iload_n hx hb dX10_putsAll_40 rfl (lv_at hl 2 rfl) ?_
      obtain ⟨r_8, m_kept_8, m_spot_8, hf_8, hf⟩ := zb3i hf
      refine zcallVi (As := [.ref (g.2.1 (577 + r1.toNatClampNeg)), .int (m_now x3.toNatClampNeg), .int x2]) (rest := [.int x3, .ref (g.2.1 80)]) hC hP hS (fun q h => zF.mono hS.1 h) (cpM_puts l hI H.size m_thrown m_tape m_size m_place m_at m_fault m_faultAt m_clauses m_open m_fed m_refused m_readTold m_told m_readBeast m_beast m_readGate m_gate m_readList m_list m_lawMany m_readLawMany m_law m_readLaw m_stack m_known m_step m_steps m_now m_trial m_before m_kept m_works m_refusedSteps m_images m_spot m_begun m_doneSteps m_mixed m_fewest m_leastFees m_lots m_tars r1 (m_now x3.toNatClampNeg) x2 N9 hf_8) (hC.ml mw_1921) yo_X10_puts 0 (zfM rfl) rfl rfl rfl hl.1 rfl (Nat.le_of_ble_eq_true rfl) ⟨by omega, by omega⟩ hR.2.2 dX10_putsAll_41 (fun H locs hP hS _ _ => ?_)
      refine zs_m_now hC hP hI (fun k h1 h2 => zF.own h1 h2) hS hz_7 dX10_putsAll_44 (fun H locs hP hS => ?_)
      refine lv_iinc (v := x3 + 1) (lv' := [(3, .int (x3 + 1)), (0, .ref (g.2.1 64)), (1, .ref (g.2.1 (577 + r1.toNatClampNeg))), (2, .int x2)]) hx hb dX10_putsAll_45 hl (k := 3) rfl rfl (by decide) rfl (fun ls hl => ?_)
      refine lv_goto (tgt := 21) hx hb dX10_putsAll_48 (by decide) ?_
      exact hk21 (upd m_now x3.toNatClampNeg r_8) m_kept_8 m_works m_spot_8 (x3 + 1) hf H locs ls hP hS (lv_sub hl [1, 2, 3, 0] rfl)
set_option maxHeartbeats 4000000 in
set_option maxRecDepth 100000 in
theorem mpM_putsAll {p : Program} {l : Launch} {e : Env} {R : Room} {s : State} {m : MethodId} {args : Array Value} {below : List Frame} {meth : Method} {c : Code} {cells slots : Nat} {Q : State → Prop} {g : zG} (hI : zI g 581) (hC : zC g RX10 cX10_putsAll 5 none p s m meth c args) (hR : 2 ≤ R.frames ∧ 60 * 2 ≤ R.locals ∧ cells ≤ R.cells ∧ slots ≤ R.slots) (m_thrown : Int32) (m_tape : Int32) (m_size : Int32) (m_place : Int32) (m_at : Int32) (m_fault : Int32) (m_faultAt : Int32) (m_clauses : Int32) (m_open : Int32) (m_fed : Nat → Int32) (m_refused : Nat → Int32) (m_readTold : Nat → Int32) (m_told : Nat → Int32) (m_readBeast : Nat → Nat → Int32) (m_beast : Nat → Nat → Int32) (m_readGate : Nat → Nat → Int32) (m_gate : Nat → Nat → Int32) (m_readList : Nat → Nat → Int32) (m_list : Nat → Nat → Int32) (m_lawMany : Int32) (m_readLawMany : Int32) (m_law : Nat → Nat → Int32) (m_readLaw : Nat → Nat → Int32) (m_stack : Nat → Int32) (m_known : Nat → Int32) (m_step : Nat → Nat → Int32) (m_steps : Int32) (m_now : Nat → Int32) (m_trial : Nat → Int32) (m_before : Nat → Nat → Int32) (m_kept : Nat → Nat → Int32) (m_works : Int32) (m_refusedSteps : Int32) (m_images : Int32) (m_spot : Int32) (m_begun : Int32) (m_doneSteps : Int32) (m_mixed : Nat → Int32) (m_fewest : Nat → Int32) (m_leastFees : Nat → Int32) (m_lots : Int32) (m_tars : Int32) (r1 : Int32) (x2 : Int32) (N9 : Nat)   (res : (Nat → Int32) × (Nat → Nat → Int32) × (Nat → Nat → Int32) × Int32 × Int32) (hfin : ∀ (m_now : Nat → Int32) (m_before : Nat → Nat → Int32) (m_kept : Nat → Nat → Int32) (m_works : Int32) (m_spot : Int32) (H : Heap) (locs : List Loc) (pc : Nat) (ls : Array Slot), (m_now, m_before, m_kept, m_works, m_spot) = res → va_P g.1 zcl (zM g m_thrown m_tape m_size m_place m_at m_fault m_faultAt m_clauses m_open m_fed m_refused m_readTold m_told m_readBeast m_beast m_readGate m_gate m_readList m_list m_lawMany m_readLawMany m_law m_readLaw m_stack m_known m_step m_steps m_now m_trial m_before m_kept m_works m_refusedSteps m_images m_spot m_begun m_doneSteps m_mixed m_fewest m_leastFees m_lots m_tars) H → va_S (zF g 64 580 s.heap.size) s.heap H locs → decode cX10_putsAll pc = .ok (.return_, 1) → W p l e R s m args below meth c H locs cells slots Q (F0 m pc ls [])) : pM_putsAll N9 m_now m_before m_kept m_works m_spot r1 x2 = some res → ∀ (H : Heap) (locs : List Loc) (ls : Array Slot), va_P g.1 zcl (zM g m_thrown m_tape m_size m_place m_at m_fault m_faultAt m_clauses m_open m_fed m_refused m_readTold m_told m_readBeast m_beast m_readGate m_gate m_readList m_list m_lawMany m_readLawMany m_law m_readLaw m_stack m_known m_step m_steps m_now m_trial m_before m_kept m_works m_refusedSteps m_images m_spot m_begun m_doneSteps m_mixed m_fewest m_leastFees m_lots m_tars) H → va_S (zF g 64 580 s.heap.size) s.heap H locs → lv_has ls 5 [(0, .ref (g.2.1 64)), (1, .ref (g.2.1 (577 + r1.toNatClampNeg))), (2, .int x2)] → W p l e R s m args below meth c H locs cells slots Q (F0 m 0 ls []) := by
  obtain ⟨hx, hb, hr, hml, hown, hts, hK, hlk⟩ := id hC
  intro  hf H locs ls hP hS hl
  have hk21 := mpM_putsAll_21 (l := l) (e := e) (R := R) (below := below) (cells := cells) (slots := slots) (Q := Q) hI hC hR m_thrown m_tape m_size m_place m_at m_fault m_faultAt m_clauses m_open m_fed m_refused m_readTold m_told m_readBeast m_beast m_readGate m_gate m_readList m_list m_lawMany m_readLawMany m_law m_readLaw m_stack m_known m_step m_steps m_trial m_before m_refusedSteps m_images m_begun m_doneSteps m_mixed m_fewest m_leastFees m_lots m_tars r1 x2 N9 res hfin N9
  unfold pM_putsAll at hf
  refine lv_aload_n hx hb dX10_putsAll_0 rfl (lv_at hl 0 rfl) ?_
  refine lv_iconst (v := 0) hx hb dX10_putsAll_1 (by decide) ?_
  refine zp_m_spot hC hP hI (fun k h1 h2 => zF.own h1 h2) hS (hC.fl mw_1427) dX10_putsAll_2 (fun H locs hP hS => ?_)
  refine lv_aload_n hx hb dX10_putsAll_5 rfl (lv_at hl 0 rfl) ?_
  refine lv_aload_n hx hb dX10_putsAll_6 rfl (lv_at hl 0 rfl) ?_
  refine lv_aload_n hx hb dX10_putsAll_7 rfl (lv_at hl 1 rfl) ?_
  refine lv_aload_n hx hb dX10_putsAll_8 rfl (lv_at hl 0 rfl) ?_
  refine zg_m_works hC hP (hC.fl mw_1424) dX10_putsAll_9 ?_
  refine lv_iload_n hx hb dX10_putsAll_12 rfl (lv_at hl 2 rfl) ?_
  obtain ⟨r_9, m_kept_9, m_spot_9, hf_9, hf⟩ := zb3i hf
  refine zcallVi (As := [.ref (g.2.1 (577 + r1.toNatClampNeg)), .int m_works, .int x2]) (rest := [.ref (g.2.1 64)]) hC hP hS (fun q h => zF.mono hS.1 h) (cpM_puts l hI H.size m_thrown m_tape m_size m_place m_at m_fault m_faultAt m_clauses m_open m_fed m_refused m_readTold m_told m_readBeast m_beast m_readGate m_gate m_readList m_list m_lawMany m_readLawMany m_law m_readLaw m_stack m_known m_step m_steps m_now m_trial m_before m_kept m_works m_refusedSteps m_images 0 m_begun m_doneSteps m_mixed m_fewest m_leastFees m_lots m_tars r1 m_works x2 N9 hf_9) (hC.ml mw_1921) yo_X10_puts 0 (zfM rfl) rfl rfl rfl hl.1 rfl (Nat.le_of_ble_eq_true rfl) ⟨by omega, by omega⟩ hR.2.2 dX10_putsAll_13 (fun H locs hP hS _ _ => ?_)
  refine zp_m_works hC hP hI (fun k h1 h2 => zF.own h1 h2) hS (hC.fl mw_1424) dX10_putsAll_16 (fun H locs hP hS => ?_)
  refine lv_iconst (v := 0) hx hb dX10_putsAll_19 (by decide) ?_
  refine lv_istore_n (lv' := [(3, .int 0), (0, .ref (g.2.1 64)), (1, .ref (g.2.1 (577 + r1.toNatClampNeg))), (2, .int x2)]) hx hb dX10_putsAll_20 rfl hl (by decide) rfl (fun ls hl => ?_)
  exact hk21 m_now m_kept_9 r_9 m_spot_9 0 hf H locs ls hP hS (lv_sub hl [1, 2, 3, 0] rfl)
set_option maxHeartbeats 4000000 in
set_option maxRecDepth 100000 in
theorem cpM_putsAll (l : Launch) {g : zG} (hI : zI g 581) (sz : Nat) (m_thrown : Int32) (m_tape : Int32) (m_size : Int32) (m_place : Int32) (m_at : Int32) (m_fault : Int32) (m_faultAt : Int32) (m_clauses : Int32) (m_open : Int32) (m_fed : Nat → Int32) (m_refused : Nat → Int32) (m_readTold : Nat → Int32) (m_told : Nat → Int32) (m_readBeast : Nat → Nat → Int32) (m_beast : Nat → Nat → Int32) (m_readGate : Nat → Nat → Int32) (m_gate : Nat → Nat → Int32) (m_readList : Nat → Nat → Int32) (m_list : Nat → Nat → Int32) (m_lawMany : Int32) (m_readLawMany : Int32) (m_law : Nat → Nat → Int32) (m_readLaw : Nat → Nat → Int32) (m_stack : Nat → Int32) (m_known : Nat → Int32) (m_step : Nat → Nat → Int32) (m_steps : Int32) (m_now : Nat → Int32) (m_trial : Nat → Int32) (m_before : Nat → Nat → Int32) (m_kept : Nat → Nat → Int32) (m_works : Int32) (m_refusedSteps : Int32) (m_images : Int32) (m_spot : Int32) (m_begun : Int32) (m_doneSteps : Int32) (m_mixed : Nat → Int32) (m_fewest : Nat → Int32) (m_leastFees : Nat → Int32) (m_lots : Int32) (m_tars : Int32) (r1 : Int32)  (x2 : Int32) (N9 : Nat) {m_now' : Nat → Int32} {m_before' : Nat → Nat → Int32} {m_kept' : Nat → Nat → Int32} {m_works' : Int32} {m_spot' : Int32} (hf : pM_putsAll N9  m_now m_before m_kept m_works m_spot r1 x2 = some (m_now', m_before', m_kept', m_works', m_spot')) : zMv l yX10_putsAll cX10_putsAll 5 none 2 g (zM g m_thrown m_tape m_size m_place m_at m_fault m_faultAt m_clauses m_open m_fed m_refused m_readTold m_told m_readBeast m_beast m_readGate m_gate m_readList m_list m_lawMany m_readLawMany m_law m_readLaw m_stack m_known m_step m_steps m_now m_trial m_before m_kept m_works m_refusedSteps m_images m_spot m_begun m_doneSteps m_mixed m_fewest m_leastFees m_lots m_tars) (zM g m_thrown m_tape m_size m_place m_at m_fault m_faultAt m_clauses m_open m_fed m_refused m_readTold m_told m_readBeast m_beast m_readGate m_gate m_readList m_list m_lawMany m_readLawMany m_law m_readLaw m_stack m_known m_step m_steps m_now' m_trial m_before' m_kept' m_works' m_refusedSteps m_images m_spot' m_begun m_doneSteps m_mixed m_fewest m_leastFees m_lots m_tars) sz (zF g 64 580 sz) [.ref (g.2.1 64), .ref (g.2.1 (577 + r1.toNatClampNeg)), .int x2] := by
  refine Met.ofW (cc := cX10_putsAll) (maxL := 5) (ret := none) (by decide +kernel) rfl ?_
  intro p e s m args below meth c s₁ B hml hv
  obtain ⟨rfl, hsz, hP, hK⟩ := hv
  subst hsz
  have hC := zstart (ws := []) (sz := 0) (own := RX10) rfl B hml hK
  have hl := lv_entry ([.ref (g.2.1 64), .ref (g.2.1 (577 + r1.toNatClampNeg)), .int x2]) (n := 5) (Nat.le_of_ble_eq_true rfl)
  rw [lg_entry_eq]
  generalize (lg_sl ([.ref (g.2.1 64), .ref (g.2.1 (577 + r1.toNatClampNeg)), .int x2]) ++ List.replicate (5 - (lg_sl ([.ref (g.2.1 64), .ref (g.2.1 (577 + r1.toNatClampNeg)), .int x2])).length) Slot.unset).toArray = ls at hl ⊢
  have hl : lv_has ls 5 [(0, .ref (g.2.1 64)), (1, .ref (g.2.1 (577 + r1.toNatClampNeg))), (2, .int x2)] := hl
  obtain ⟨hx, hb, hr, hml, hown, hts, hK, hlk⟩ := id hC
  refine mpM_putsAll hI hC ⟨Nat.le_refl _, Nat.le_refl _, Nat.le_refl _, Nat.le_refl _⟩ m_thrown m_tape m_size m_place m_at m_fault m_faultAt m_clauses m_open m_fed m_refused m_readTold m_told m_readBeast m_beast m_readGate m_gate m_readList m_list m_lawMany m_readLawMany m_law m_readLaw m_stack m_known m_step m_steps m_now m_trial m_before m_kept m_works m_refusedSteps m_images m_spot m_begun m_doneSteps m_mixed m_fewest m_leastFees m_lots m_tars r1 x2 N9 (m_now', m_before', m_kept', m_works', m_spot') ?_ hf _ _ ls hP va_S.rf hl
  intro m_now1 m_before1 m_kept1 m_works1 m_spot1 H locs pc ls he hP hS hd
  cases he
  exact W.vret hx hb hr (fun t ht hW => ⟨⟨(), rfl, trivial, by rw [← ht] at hP; exact hP⟩, hS.F ht⟩) hS.2.2 hd hlk
/-! StripeTradeModel.image ()I [('obj', 'm')] -/
def pM_image (N9 : Nat) (m_thrown : Int32) (m_now : Nat → Int32) (m_before : Nat → Nat → Int32) (m_kept : Nat → Nat → Int32) (m_works : Int32) (m_images : Int32) (m_spot : Int32) : Option (Int32 × Int32 × (Nat → Int32) × (Nat → Nat → Int32) × (Nat → Nat → Int32) × Int32 × Int32 × Int32) := if m_images = 3 then (some ((-1), 0, m_now, m_before, m_kept, m_works, m_images, m_spot)) else (if zin m_images 3 then zb5 (pM_putsAll N9 m_now m_before m_kept m_works m_spot m_images (0 : Int32)) fun m_now_3 m_before_3 m_kept_3 m_works_3 m_spot_3 => some (m_images + 1, 0, m_now_3, m_before_3, m_kept_3, m_works_3, m_images + 1, m_spot_3) else none)
set_option maxHeartbeats 4000000 in
set_option maxRecDepth 100000 in
theorem mpM_image {p : Program} {l : Launch} {e : Env} {R : Room} {s : State} {m : MethodId} {args : Array Value} {below : List Frame} {meth : Method} {c : Code} {cells slots : Nat} {Q : State → Prop} {g : zG} (hI : zI g 581) (hC : zC g RX10 cX10_image 1 (some .int) p s m meth c args) (hR : 3 ≤ R.frames ∧ 60 * 3 ≤ R.locals ∧ cells ≤ R.cells ∧ slots ≤ R.slots) (m_thrown : Int32) (m_tape : Int32) (m_size : Int32) (m_place : Int32) (m_at : Int32) (m_fault : Int32) (m_faultAt : Int32) (m_clauses : Int32) (m_open : Int32) (m_fed : Nat → Int32) (m_refused : Nat → Int32) (m_readTold : Nat → Int32) (m_told : Nat → Int32) (m_readBeast : Nat → Nat → Int32) (m_beast : Nat → Nat → Int32) (m_readGate : Nat → Nat → Int32) (m_gate : Nat → Nat → Int32) (m_readList : Nat → Nat → Int32) (m_list : Nat → Nat → Int32) (m_lawMany : Int32) (m_readLawMany : Int32) (m_law : Nat → Nat → Int32) (m_readLaw : Nat → Nat → Int32) (m_stack : Nat → Int32) (m_known : Nat → Int32) (m_step : Nat → Nat → Int32) (m_steps : Int32) (m_now : Nat → Int32) (m_trial : Nat → Int32) (m_before : Nat → Nat → Int32) (m_kept : Nat → Nat → Int32) (m_works : Int32) (m_refusedSteps : Int32) (m_images : Int32) (m_spot : Int32) (m_begun : Int32) (m_doneSteps : Int32) (m_mixed : Nat → Int32) (m_fewest : Nat → Int32) (m_leastFees : Nat → Int32) (m_lots : Int32) (m_tars : Int32)  (N9 : Nat)   (res : Int32 × Int32 × (Nat → Int32) × (Nat → Nat → Int32) × (Nat → Nat → Int32) × Int32 × Int32 × Int32) (hfin : ∀ (r0 : Int32) (m_thrown : Int32) (m_now : Nat → Int32) (m_before : Nat → Nat → Int32) (m_kept : Nat → Nat → Int32) (m_works : Int32) (m_images : Int32) (m_spot : Int32) (H : Heap) (locs : List Loc) (pc : Nat) (ls : Array Slot), (r0, m_thrown, m_now, m_before, m_kept, m_works, m_images, m_spot) = res → va_P g.1 zcl (zM g m_thrown m_tape m_size m_place m_at m_fault m_faultAt m_clauses m_open m_fed m_refused m_readTold m_told m_readBeast m_beast m_readGate m_gate m_readList m_list m_lawMany m_readLawMany m_law m_readLaw m_stack m_known m_step m_steps m_now m_trial m_before m_kept m_works m_refusedSteps m_images m_spot m_begun m_doneSteps m_mixed m_fewest m_leastFees m_lots m_tars) H → va_S (zF g 64 580 s.heap.size) s.heap H locs → decode cX10_image pc = .ok (.ireturn, 1) → W p l e R s m args below meth c H locs cells slots Q (F0 m pc ls [.int r0])) : pM_image N9 m_thrown m_now m_before m_kept m_works m_images m_spot = some res → ∀ (H : Heap) (locs : List Loc) (ls : Array Slot), va_P g.1 zcl (zM g m_thrown m_tape m_size m_place m_at m_fault m_faultAt m_clauses m_open m_fed m_refused m_readTold m_told m_readBeast m_beast m_readGate m_gate m_readList m_list m_lawMany m_readLawMany m_law m_readLaw m_stack m_known m_step m_steps m_now m_trial m_before m_kept m_works m_refusedSteps m_images m_spot m_begun m_doneSteps m_mixed m_fewest m_leastFees m_lots m_tars) H → va_S (zF g 64 580 s.heap.size) s.heap H locs → lv_has ls 1 [(0, .ref (g.2.1 64))] → W p l e R s m args below meth c H locs cells slots Q (F0 m 0 ls []) := by
  obtain ⟨hx, hb, hr, hml, hown, hts, hK, hlk⟩ := id hC
  intro  hf H locs ls hP hS hl
  unfold pM_image at hf
  refine lv_aload_n hx hb dX10_image_0 rfl (lv_at hl 0 rfl) ?_
  refine lv_iconst (v := 0) hx hb dX10_image_1 (by decide) ?_
  refine zp_m_thrown hC hP hI (fun k h1 h2 => zF.own h1 h2) hS (hC.fl mw_1393) dX10_image_2 (fun H locs hP hS => ?_)
  refine lv_aload_n hx hb dX10_image_5 rfl (lv_at hl 0 rfl) ?_
  refine zg_m_images hC hP (hC.fl mw_1426) dX10_image_6 ?_
  refine lv_iconst (v := 3) hx hb dX10_image_9 (by decide) ?_
  refine lv_icmp_ne (tgt := 15) hx hb dX10_image_10 (by decide) (fun hc_1 => ?_) (fun hc_1 => ?_)
  · have hf := zifn hc_1 hf
    refine lv_aload_n hx hb dX10_image_15 rfl (lv_at hl 0 rfl) ?_
    refine lv_aload_n hx hb dX10_image_16 rfl (lv_at hl 0 rfl) ?_
    refine zr_m_kept hC hP (hC.fl mw_1423) dX10_image_17 ?_
    refine lv_aload_n hx hb dX10_image_20 rfl (lv_at hl 0 rfl) ?_
    refine zg_m_images hC hP (hC.fl mw_1426) dX10_image_21 ?_
    obtain ⟨hz_2, hf⟩ := zite hf
    refine zq_m_kept hC hP hz_2 dX10_image_24 ?_
    refine lv_iconst (v := 0) hx hb dX10_image_25 (by decide) ?_
    obtain ⟨m_now_3, m_before_3, m_kept_3, m_works_3, m_spot_3, hf_3, hf⟩ := zb5i hf
    refine zcallVv (As := [.ref (g.2.1 (577 + m_images.toNatClampNeg)), .int 0]) (rest := []) hC hP hS (fun q h => zF.mono hS.1 h) (cpM_putsAll l hI H.size 0 m_tape m_size m_place m_at m_fault m_faultAt m_clauses m_open m_fed m_refused m_readTold m_told m_readBeast m_beast m_readGate m_gate m_readList m_list m_lawMany m_readLawMany m_law m_readLaw m_stack m_known m_step m_steps m_now m_trial m_before m_kept m_works m_refusedSteps m_images m_spot m_begun m_doneSteps m_mixed m_fewest m_leastFees m_lots m_tars m_images (0 : Int32) N9 hf_3) (hC.ml mw_1917) yo_X10_putsAll 0 (zfM rfl) rfl rfl rfl hl.1 rfl (Nat.le_of_ble_eq_true rfl) ⟨by omega, by omega⟩ hR.2.2 dX10_image_26 (fun H locs hP hS _ _ => ?_)
    refine lv_aload_n hx hb dX10_image_29 rfl (lv_at hl 0 rfl) ?_
    refine lv_dup hx hb dX10_image_30 rfl ?_
    refine zg_m_images hC hP (hC.fl mw_1426) dX10_image_31 ?_
    refine lv_iconst (v := 1) hx hb dX10_image_34 (by decide) ?_
    refine lv_iadd hx hb dX10_image_35 ?_
    refine zp_m_images hC hP hI (fun k h1 h2 => zF.own h1 h2) hS (hC.fl mw_1426) dX10_image_36 (fun H locs hP hS => ?_)
    refine lv_aload_n hx hb dX10_image_39 rfl (lv_at hl 0 rfl) ?_
    refine zg_m_images hC hP (hC.fl mw_1426) dX10_image_40 ?_
    exact hfin _ _ _ _ _ _ _ _ H locs _ ls (Option.some.inj hf) hP hS dX10_image_43
  · have hf := zifp hc_1 hf
    refine lv_iconst (v := (-1)) hx hb dX10_image_13 (by decide) ?_
    exact hfin _ _ _ _ _ _ _ _ H locs _ ls (Option.some.inj hf) hP hS dX10_image_14
set_option maxHeartbeats 4000000 in
set_option maxRecDepth 100000 in
theorem cpM_image (l : Launch) {g : zG} (hI : zI g 581) (sz : Nat) (m_thrown : Int32) (m_tape : Int32) (m_size : Int32) (m_place : Int32) (m_at : Int32) (m_fault : Int32) (m_faultAt : Int32) (m_clauses : Int32) (m_open : Int32) (m_fed : Nat → Int32) (m_refused : Nat → Int32) (m_readTold : Nat → Int32) (m_told : Nat → Int32) (m_readBeast : Nat → Nat → Int32) (m_beast : Nat → Nat → Int32) (m_readGate : Nat → Nat → Int32) (m_gate : Nat → Nat → Int32) (m_readList : Nat → Nat → Int32) (m_list : Nat → Nat → Int32) (m_lawMany : Int32) (m_readLawMany : Int32) (m_law : Nat → Nat → Int32) (m_readLaw : Nat → Nat → Int32) (m_stack : Nat → Int32) (m_known : Nat → Int32) (m_step : Nat → Nat → Int32) (m_steps : Int32) (m_now : Nat → Int32) (m_trial : Nat → Int32) (m_before : Nat → Nat → Int32) (m_kept : Nat → Nat → Int32) (m_works : Int32) (m_refusedSteps : Int32) (m_images : Int32) (m_spot : Int32) (m_begun : Int32) (m_doneSteps : Int32) (m_mixed : Nat → Int32) (m_fewest : Nat → Int32) (m_leastFees : Nat → Int32) (m_lots : Int32) (m_tars : Int32) (N9 : Nat) {r0 : Int32} {m_thrown' : Int32} {m_now' : Nat → Int32} {m_before' : Nat → Nat → Int32} {m_kept' : Nat → Nat → Int32} {m_works' : Int32} {m_images' : Int32} {m_spot' : Int32} (hf : pM_image N9  m_thrown m_now m_before m_kept m_works m_images m_spot = some (r0, m_thrown', m_now', m_before', m_kept', m_works', m_images', m_spot')) : zMi l yX10_image cX10_image 1 (some .int) 3 g (zM g m_thrown m_tape m_size m_place m_at m_fault m_faultAt m_clauses m_open m_fed m_refused m_readTold m_told m_readBeast m_beast m_readGate m_gate m_readList m_list m_lawMany m_readLawMany m_law m_readLaw m_stack m_known m_step m_steps m_now m_trial m_before m_kept m_works m_refusedSteps m_images m_spot m_begun m_doneSteps m_mixed m_fewest m_leastFees m_lots m_tars) (zM g m_thrown' m_tape m_size m_place m_at m_fault m_faultAt m_clauses m_open m_fed m_refused m_readTold m_told m_readBeast m_beast m_readGate m_gate m_readList m_list m_lawMany m_readLawMany m_law m_readLaw m_stack m_known m_step m_steps m_now' m_trial m_before' m_kept' m_works' m_refusedSteps m_images' m_spot' m_begun m_doneSteps m_mixed m_fewest m_leastFees m_lots m_tars) sz (zF g 64 580 sz) [.ref (g.2.1 64)] r0 := by
  refine Met.ofW (cc := cX10_image) (maxL := 1) (ret := (some .int)) (by decide +kernel) rfl ?_
  intro p e s m args below meth c s₁ B hml hv
  obtain ⟨rfl, hsz, hP, hK⟩ := hv
  subst hsz
  have hC := zstart (ws := []) (sz := 0) (own := RX10) rfl B hml hK
  have hl := lv_entry ([.ref (g.2.1 64)]) (n := 1) (Nat.le_of_ble_eq_true rfl)
  rw [lg_entry_eq]
  generalize (lg_sl ([.ref (g.2.1 64)]) ++ List.replicate (1 - (lg_sl ([.ref (g.2.1 64)])).length) Slot.unset).toArray = ls at hl ⊢
  have hl : lv_has ls 1 [(0, .ref (g.2.1 64))] := hl
  obtain ⟨hx, hb, hr, hml, hown, hts, hK, hlk⟩ := id hC
  refine mpM_image hI hC ⟨Nat.le_refl _, Nat.le_refl _, Nat.le_refl _, Nat.le_refl _⟩ m_thrown m_tape m_size m_place m_at m_fault m_faultAt m_clauses m_open m_fed m_refused m_readTold m_told m_readBeast m_beast m_readGate m_gate m_readList m_list m_lawMany m_readLawMany m_law m_readLaw m_stack m_known m_step m_steps m_now m_trial m_before m_kept m_works m_refusedSteps m_images m_spot m_begun m_doneSteps m_mixed m_fewest m_leastFees m_lots m_tars N9 (r0, m_thrown', m_now', m_before', m_kept', m_works', m_images', m_spot') ?_ hf _ _ ls hP va_S.rf hl
  intro r1 m_thrown1 m_now1 m_before1 m_kept1 m_works1 m_images1 m_spot1 H locs pc ls he hP hS hd
  cases he
  exact W.iret hx hb hr (fun t ht hW => ⟨⟨_, (), rfl, rfl, by rw [← ht] at hP; exact hP⟩, hS.F ht⟩) hS.2.2 hd hlk
/-! StripeTradeModel.restore ()I [('obj', 'm')] -/
def pM_restore (N9 : Nat) (m_thrown : Int32) (m_now : Nat → Int32) (m_before : Nat → Nat → Int32) (m_kept : Nat → Nat → Int32) (m_works : Int32) (m_refusedSteps : Int32) (m_images : Int32) (m_spot : Int32) : Option (Int32 × Int32 × (Nat → Int32) × (Nat → Nat → Int32) × (Nat → Nat → Int32) × Int32 × Int32 × Int32 × Int32) := if m_images = 0 then (some ((-1), 0, m_now, m_before, m_kept, m_works, m_refusedSteps, m_images, m_spot)) else (if zin (m_images - 1) 3 then zb5 (pM_putsAll N9 m_now m_before m_kept m_works m_spot (m_images - 1) (1 : Int32)) fun m_now_3 m_before_3 m_kept_3 m_works_3 m_spot_3 => some (m_images - 1, 0, m_now_3, m_before_3, m_kept_3, m_works_3, 0, m_images - 1, m_spot_3) else none)
set_option maxHeartbeats 4000000 in
set_option maxRecDepth 100000 in
theorem mpM_restore {p : Program} {l : Launch} {e : Env} {R : Room} {s : State} {m : MethodId} {args : Array Value} {below : List Frame} {meth : Method} {c : Code} {cells slots : Nat} {Q : State → Prop} {g : zG} (hI : zI g 581) (hC : zC g RX10 cX10_restore 1 (some .int) p s m meth c args) (hR : 3 ≤ R.frames ∧ 60 * 3 ≤ R.locals ∧ cells ≤ R.cells ∧ slots ≤ R.slots) (m_thrown : Int32) (m_tape : Int32) (m_size : Int32) (m_place : Int32) (m_at : Int32) (m_fault : Int32) (m_faultAt : Int32) (m_clauses : Int32) (m_open : Int32) (m_fed : Nat → Int32) (m_refused : Nat → Int32) (m_readTold : Nat → Int32) (m_told : Nat → Int32) (m_readBeast : Nat → Nat → Int32) (m_beast : Nat → Nat → Int32) (m_readGate : Nat → Nat → Int32) (m_gate : Nat → Nat → Int32) (m_readList : Nat → Nat → Int32) (m_list : Nat → Nat → Int32) (m_lawMany : Int32) (m_readLawMany : Int32) (m_law : Nat → Nat → Int32) (m_readLaw : Nat → Nat → Int32) (m_stack : Nat → Int32) (m_known : Nat → Int32) (m_step : Nat → Nat → Int32) (m_steps : Int32) (m_now : Nat → Int32) (m_trial : Nat → Int32) (m_before : Nat → Nat → Int32) (m_kept : Nat → Nat → Int32) (m_works : Int32) (m_refusedSteps : Int32) (m_images : Int32) (m_spot : Int32) (m_begun : Int32) (m_doneSteps : Int32) (m_mixed : Nat → Int32) (m_fewest : Nat → Int32) (m_leastFees : Nat → Int32) (m_lots : Int32) (m_tars : Int32)  (N9 : Nat)   (res : Int32 × Int32 × (Nat → Int32) × (Nat → Nat → Int32) × (Nat → Nat → Int32) × Int32 × Int32 × Int32 × Int32) (hfin : ∀ (r0 : Int32) (m_thrown : Int32) (m_now : Nat → Int32) (m_before : Nat → Nat → Int32) (m_kept : Nat → Nat → Int32) (m_works : Int32) (m_refusedSteps : Int32) (m_images : Int32) (m_spot : Int32) (H : Heap) (locs : List Loc) (pc : Nat) (ls : Array Slot), (r0, m_thrown, m_now, m_before, m_kept, m_works, m_refusedSteps, m_images, m_spot) = res → va_P g.1 zcl (zM g m_thrown m_tape m_size m_place m_at m_fault m_faultAt m_clauses m_open m_fed m_refused m_readTold m_told m_readBeast m_beast m_readGate m_gate m_readList m_list m_lawMany m_readLawMany m_law m_readLaw m_stack m_known m_step m_steps m_now m_trial m_before m_kept m_works m_refusedSteps m_images m_spot m_begun m_doneSteps m_mixed m_fewest m_leastFees m_lots m_tars) H → va_S (zF g 64 580 s.heap.size) s.heap H locs → decode cX10_restore pc = .ok (.ireturn, 1) → W p l e R s m args below meth c H locs cells slots Q (F0 m pc ls [.int r0])) : pM_restore N9 m_thrown m_now m_before m_kept m_works m_refusedSteps m_images m_spot = some res → ∀ (H : Heap) (locs : List Loc) (ls : Array Slot), va_P g.1 zcl (zM g m_thrown m_tape m_size m_place m_at m_fault m_faultAt m_clauses m_open m_fed m_refused m_readTold m_told m_readBeast m_beast m_readGate m_gate m_readList m_list m_lawMany m_readLawMany m_law m_readLaw m_stack m_known m_step m_steps m_now m_trial m_before m_kept m_works m_refusedSteps m_images m_spot m_begun m_doneSteps m_mixed m_fewest m_leastFees m_lots m_tars) H → va_S (zF g 64 580 s.heap.size) s.heap H locs → lv_has ls 1 [(0, .ref (g.2.1 64))] → W p l e R s m args below meth c H locs cells slots Q (F0 m 0 ls []) := by
  obtain ⟨hx, hb, hr, hml, hown, hts, hK, hlk⟩ := id hC
  intro  hf H locs ls hP hS hl
  unfold pM_restore at hf
  refine lv_aload_n hx hb dX10_restore_0 rfl (lv_at hl 0 rfl) ?_
  refine lv_iconst (v := 0) hx hb dX10_restore_1 (by decide) ?_
  refine zp_m_thrown hC hP hI (fun k h1 h2 => zF.own h1 h2) hS (hC.fl mw_1393) dX10_restore_2 (fun H locs hP hS => ?_)
  refine lv_aload_n hx hb dX10_restore_5 rfl (lv_at hl 0 rfl) ?_
  refine zg_m_images hC hP (hC.fl mw_1426) dX10_restore_6 ?_
  refine lv_if_ne (tgt := 14) hx hb dX10_restore_9 (by decide) (fun hc_1 => ?_) (fun hc_1 => ?_)
  · have hf := zifn hc_1 hf
    refine lv_aload_n hx hb dX10_restore_14 rfl (lv_at hl 0 rfl) ?_
    refine lv_dup hx hb dX10_restore_15 rfl ?_
    refine zg_m_images hC hP (hC.fl mw_1426) dX10_restore_16 ?_
    refine lv_iconst (v := 1) hx hb dX10_restore_19 (by decide) ?_
    refine lv_isub hx hb dX10_restore_20 ?_
    refine zp_m_images hC hP hI (fun k h1 h2 => zF.own h1 h2) hS (hC.fl mw_1426) dX10_restore_21 (fun H locs hP hS => ?_)
    refine lv_aload_n hx hb dX10_restore_24 rfl (lv_at hl 0 rfl) ?_
    refine lv_aload_n hx hb dX10_restore_25 rfl (lv_at hl 0 rfl) ?_
    refine zr_m_kept hC hP (hC.fl mw_1423) dX10_restore_26 ?_
    refine lv_aload_n hx hb dX10_restore_29 rfl (lv_at hl 0 rfl) ?_
    refine zg_m_images hC hP (hC.fl mw_1426) dX10_restore_30 ?_
    obtain ⟨hz_2, hf⟩ := zite hf
    refine zq_m_kept hC hP hz_2 dX10_restore_33 ?_
    refine lv_iconst (v := 1) hx hb dX10_restore_34 (by decide) ?_
    obtain ⟨m_now_3, m_before_3, m_kept_3, m_works_3, m_spot_3, hf_3, hf⟩ := zb5i hf
    refine zcallVv (As := [.ref (g.2.1 (577 + (m_images - 1).toNatClampNeg)), .int 1]) (rest := []) hC hP hS (fun q h => zF.mono hS.1 h) (cpM_putsAll l hI H.size 0 m_tape m_size m_place m_at m_fault m_faultAt m_clauses m_open m_fed m_refused m_readTold m_told m_readBeast m_beast m_readGate m_gate m_readList m_list m_lawMany m_readLawMany m_law m_readLaw m_stack m_known m_step m_steps m_now m_trial m_before m_kept m_works m_refusedSteps (m_images - 1) m_spot m_begun m_doneSteps m_mixed m_fewest m_leastFees m_lots m_tars (m_images - 1) (1 : Int32) N9 hf_3) (hC.ml mw_1917) yo_X10_putsAll 0 (zfM rfl) rfl rfl rfl hl.1 rfl (Nat.le_of_ble_eq_true rfl) ⟨by omega, by omega⟩ hR.2.2 dX10_restore_35 (fun H locs hP hS _ _ => ?_)
    refine lv_aload_n hx hb dX10_restore_38 rfl (lv_at hl 0 rfl) ?_
    refine lv_iconst (v := 0) hx hb dX10_restore_39 (by decide) ?_
    refine zp_m_refusedSteps hC hP hI (fun k h1 h2 => zF.own h1 h2) hS (hC.fl mw_1425) dX10_restore_40 (fun H locs hP hS => ?_)
    refine lv_aload_n hx hb dX10_restore_43 rfl (lv_at hl 0 rfl) ?_
    refine zg_m_images hC hP (hC.fl mw_1426) dX10_restore_44 ?_
    exact hfin _ _ _ _ _ _ _ _ _ H locs _ ls (Option.some.inj hf) hP hS dX10_restore_47
  · have hf := zifp hc_1 hf
    refine lv_iconst (v := (-1)) hx hb dX10_restore_12 (by decide) ?_
    exact hfin _ _ _ _ _ _ _ _ _ H locs _ ls (Option.some.inj hf) hP hS dX10_restore_13
set_option maxHeartbeats 4000000 in
set_option maxRecDepth 100000 in
theorem cpM_restore (l : Launch) {g : zG} (hI : zI g 581) (sz : Nat) (m_thrown : Int32) (m_tape : Int32) (m_size : Int32) (m_place : Int32) (m_at : Int32) (m_fault : Int32) (m_faultAt : Int32) (m_clauses : Int32) (m_open : Int32) (m_fed : Nat → Int32) (m_refused : Nat → Int32) (m_readTold : Nat → Int32) (m_told : Nat → Int32) (m_readBeast : Nat → Nat → Int32) (m_beast : Nat → Nat → Int32) (m_readGate : Nat → Nat → Int32) (m_gate : Nat → Nat → Int32) (m_readList : Nat → Nat → Int32) (m_list : Nat → Nat → Int32) (m_lawMany : Int32) (m_readLawMany : Int32) (m_law : Nat → Nat → Int32) (m_readLaw : Nat → Nat → Int32) (m_stack : Nat → Int32) (m_known : Nat → Int32) (m_step : Nat → Nat → Int32) (m_steps : Int32) (m_now : Nat → Int32) (m_trial : Nat → Int32) (m_before : Nat → Nat → Int32) (m_kept : Nat → Nat → Int32) (m_works : Int32) (m_refusedSteps : Int32) (m_images : Int32) (m_spot : Int32) (m_begun : Int32) (m_doneSteps : Int32) (m_mixed : Nat → Int32) (m_fewest : Nat → Int32) (m_leastFees : Nat → Int32) (m_lots : Int32) (m_tars : Int32) (N9 : Nat) {r0 : Int32} {m_thrown' : Int32} {m_now' : Nat → Int32} {m_before' : Nat → Nat → Int32} {m_kept' : Nat → Nat → Int32} {m_works' : Int32} {m_refusedSteps' : Int32} {m_images' : Int32} {m_spot' : Int32} (hf : pM_restore N9  m_thrown m_now m_before m_kept m_works m_refusedSteps m_images m_spot = some (r0, m_thrown', m_now', m_before', m_kept', m_works', m_refusedSteps', m_images', m_spot')) : zMi l yX10_restore cX10_restore 1 (some .int) 3 g (zM g m_thrown m_tape m_size m_place m_at m_fault m_faultAt m_clauses m_open m_fed m_refused m_readTold m_told m_readBeast m_beast m_readGate m_gate m_readList m_list m_lawMany m_readLawMany m_law m_readLaw m_stack m_known m_step m_steps m_now m_trial m_before m_kept m_works m_refusedSteps m_images m_spot m_begun m_doneSteps m_mixed m_fewest m_leastFees m_lots m_tars) (zM g m_thrown' m_tape m_size m_place m_at m_fault m_faultAt m_clauses m_open m_fed m_refused m_readTold m_told m_readBeast m_beast m_readGate m_gate m_readList m_list m_lawMany m_readLawMany m_law m_readLaw m_stack m_known m_step m_steps m_now' m_trial m_before' m_kept' m_works' m_refusedSteps' m_images' m_spot' m_begun m_doneSteps m_mixed m_fewest m_leastFees m_lots m_tars) sz (zF g 64 580 sz) [.ref (g.2.1 64)] r0 := by
  refine Met.ofW (cc := cX10_restore) (maxL := 1) (ret := (some .int)) (by decide +kernel) rfl ?_
  intro p e s m args below meth c s₁ B hml hv
  obtain ⟨rfl, hsz, hP, hK⟩ := hv
  subst hsz
  have hC := zstart (ws := []) (sz := 0) (own := RX10) rfl B hml hK
  have hl := lv_entry ([.ref (g.2.1 64)]) (n := 1) (Nat.le_of_ble_eq_true rfl)
  rw [lg_entry_eq]
  generalize (lg_sl ([.ref (g.2.1 64)]) ++ List.replicate (1 - (lg_sl ([.ref (g.2.1 64)])).length) Slot.unset).toArray = ls at hl ⊢
  have hl : lv_has ls 1 [(0, .ref (g.2.1 64))] := hl
  obtain ⟨hx, hb, hr, hml, hown, hts, hK, hlk⟩ := id hC
  refine mpM_restore hI hC ⟨Nat.le_refl _, Nat.le_refl _, Nat.le_refl _, Nat.le_refl _⟩ m_thrown m_tape m_size m_place m_at m_fault m_faultAt m_clauses m_open m_fed m_refused m_readTold m_told m_readBeast m_beast m_readGate m_gate m_readList m_list m_lawMany m_readLawMany m_law m_readLaw m_stack m_known m_step m_steps m_now m_trial m_before m_kept m_works m_refusedSteps m_images m_spot m_begun m_doneSteps m_mixed m_fewest m_leastFees m_lots m_tars N9 (r0, m_thrown', m_now', m_before', m_kept', m_works', m_refusedSteps', m_images', m_spot') ?_ hf _ _ ls hP va_S.rf hl
  intro r1 m_thrown1 m_now1 m_before1 m_kept1 m_works1 m_refusedSteps1 m_images1 m_spot1 H locs pc ls he hP hS hd
  cases he
  exact W.iret hx hb hr (fun t ht hW => ⟨⟨_, (), rfl, rfl, by rw [← ht] at hP; exact hP⟩, hS.F ht⟩) hS.2.2 hd hlk
/-! StripeTradeModel.status (I)I [('obj', 'm')] -/
def pM_status_24 (N9 : Nat) (m_thrown : Int32) (s0 : Int32) : Option (Int32 × Int32) := some (s0, m_thrown)
def pM_status (N9 : Nat) (m_thrown : Int32) (m_refused : Nat → Int32) (x1 : Int32) : Option (Int32 × Int32) := zb1 (pM_in N9 x1 (0 : Int32) (1 : Int32)) fun r_1 => if r_1 = 0 then (pM_status_24 N9 0 (-1)) else (if zin x1 2 then pM_status_24 N9 0 (m_refused x1.toNatClampNeg) else none)
set_option maxHeartbeats 4000000 in
set_option maxRecDepth 100000 in
theorem mpM_status_24 {p : Program} {l : Launch} {e : Env} {R : Room} {s : State} {m : MethodId} {args : Array Value} {below : List Frame} {meth : Method} {c : Code} {cells slots : Nat} {Q : State → Prop} {g : zG} (hI : zI g 581) (hC : zC g RX10 cX10_status 2 (some .int) p s m meth c args) (hR : 2 ≤ R.frames ∧ 60 * 2 ≤ R.locals ∧ cells ≤ R.cells ∧ slots ≤ R.slots) (m_tape : Int32) (m_size : Int32) (m_place : Int32) (m_at : Int32) (m_fault : Int32) (m_faultAt : Int32) (m_clauses : Int32) (m_open : Int32) (m_fed : Nat → Int32) (m_refused : Nat → Int32) (m_readTold : Nat → Int32) (m_told : Nat → Int32) (m_readBeast : Nat → Nat → Int32) (m_beast : Nat → Nat → Int32) (m_readGate : Nat → Nat → Int32) (m_gate : Nat → Nat → Int32) (m_readList : Nat → Nat → Int32) (m_list : Nat → Nat → Int32) (m_lawMany : Int32) (m_readLawMany : Int32) (m_law : Nat → Nat → Int32) (m_readLaw : Nat → Nat → Int32) (m_stack : Nat → Int32) (m_known : Nat → Int32) (m_step : Nat → Nat → Int32) (m_steps : Int32) (m_now : Nat → Int32) (m_trial : Nat → Int32) (m_before : Nat → Nat → Int32) (m_kept : Nat → Nat → Int32) (m_works : Int32) (m_refusedSteps : Int32) (m_images : Int32) (m_spot : Int32) (m_begun : Int32) (m_doneSteps : Int32) (m_mixed : Nat → Int32) (m_fewest : Nat → Int32) (m_leastFees : Nat → Int32) (m_lots : Int32) (m_tars : Int32)  (N9 : Nat)   (res : Int32 × Int32) (hfin : ∀ (r0 : Int32) (m_thrown : Int32) (H : Heap) (locs : List Loc) (pc : Nat) (ls : Array Slot), (r0, m_thrown) = res → va_P g.1 zcl (zM g m_thrown m_tape m_size m_place m_at m_fault m_faultAt m_clauses m_open m_fed m_refused m_readTold m_told m_readBeast m_beast m_readGate m_gate m_readList m_list m_lawMany m_readLawMany m_law m_readLaw m_stack m_known m_step m_steps m_now m_trial m_before m_kept m_works m_refusedSteps m_images m_spot m_begun m_doneSteps m_mixed m_fewest m_leastFees m_lots m_tars) H → va_S (zF g 64 580 s.heap.size) s.heap H locs → decode cX10_status pc = .ok (.ireturn, 1) → W p l e R s m args below meth c H locs cells slots Q (F0 m pc ls [.int r0])) : ∀ (m_thrown : Int32) (s0 : Int32), pM_status_24 N9 m_thrown s0 = some res → ∀ (H : Heap) (locs : List Loc) (ls : Array Slot), va_P g.1 zcl (zM g m_thrown m_tape m_size m_place m_at m_fault m_faultAt m_clauses m_open m_fed m_refused m_readTold m_told m_readBeast m_beast m_readGate m_gate m_readList m_list m_lawMany m_readLawMany m_law m_readLaw m_stack m_known m_step m_steps m_now m_trial m_before m_kept m_works m_refusedSteps m_images m_spot m_begun m_doneSteps m_mixed m_fewest m_leastFees m_lots m_tars) H → va_S (zF g 64 580 s.heap.size) s.heap H locs → lv_has ls 2 [] → W p l e R s m args below meth c H locs cells slots Q (F0 m 24 ls [.int s0]) := by
  obtain ⟨hx, hb, hr, hml, hown, hts, hK, hlk⟩ := id hC
  intro m_thrown s0 hf H locs ls hP hS hl
  unfold pM_status_24 at hf
  exact hfin _ _ H locs _ ls (Option.some.inj hf) hP hS dX10_status_24
set_option maxHeartbeats 4000000 in
set_option maxRecDepth 100000 in
theorem mpM_status {p : Program} {l : Launch} {e : Env} {R : Room} {s : State} {m : MethodId} {args : Array Value} {below : List Frame} {meth : Method} {c : Code} {cells slots : Nat} {Q : State → Prop} {g : zG} (hI : zI g 581) (hC : zC g RX10 cX10_status 2 (some .int) p s m meth c args) (hR : 2 ≤ R.frames ∧ 60 * 2 ≤ R.locals ∧ cells ≤ R.cells ∧ slots ≤ R.slots) (m_thrown : Int32) (m_tape : Int32) (m_size : Int32) (m_place : Int32) (m_at : Int32) (m_fault : Int32) (m_faultAt : Int32) (m_clauses : Int32) (m_open : Int32) (m_fed : Nat → Int32) (m_refused : Nat → Int32) (m_readTold : Nat → Int32) (m_told : Nat → Int32) (m_readBeast : Nat → Nat → Int32) (m_beast : Nat → Nat → Int32) (m_readGate : Nat → Nat → Int32) (m_gate : Nat → Nat → Int32) (m_readList : Nat → Nat → Int32) (m_list : Nat → Nat → Int32) (m_lawMany : Int32) (m_readLawMany : Int32) (m_law : Nat → Nat → Int32) (m_readLaw : Nat → Nat → Int32) (m_stack : Nat → Int32) (m_known : Nat → Int32) (m_step : Nat → Nat → Int32) (m_steps : Int32) (m_now : Nat → Int32) (m_trial : Nat → Int32) (m_before : Nat → Nat → Int32) (m_kept : Nat → Nat → Int32) (m_works : Int32) (m_refusedSteps : Int32) (m_images : Int32) (m_spot : Int32) (m_begun : Int32) (m_doneSteps : Int32) (m_mixed : Nat → Int32) (m_fewest : Nat → Int32) (m_leastFees : Nat → Int32) (m_lots : Int32) (m_tars : Int32) (x1 : Int32) (N9 : Nat)   (res : Int32 × Int32) (hfin : ∀ (r0 : Int32) (m_thrown : Int32) (H : Heap) (locs : List Loc) (pc : Nat) (ls : Array Slot), (r0, m_thrown) = res → va_P g.1 zcl (zM g m_thrown m_tape m_size m_place m_at m_fault m_faultAt m_clauses m_open m_fed m_refused m_readTold m_told m_readBeast m_beast m_readGate m_gate m_readList m_list m_lawMany m_readLawMany m_law m_readLaw m_stack m_known m_step m_steps m_now m_trial m_before m_kept m_works m_refusedSteps m_images m_spot m_begun m_doneSteps m_mixed m_fewest m_leastFees m_lots m_tars) H → va_S (zF g 64 580 s.heap.size) s.heap H locs → decode cX10_status pc = .ok (.ireturn, 1) → W p l e R s m args below meth c H locs cells slots Q (F0 m pc ls [.int r0])) : pM_status N9 m_thrown m_refused x1 = some res → ∀ (H : Heap) (locs : List Loc) (ls : Array Slot), va_P g.1 zcl (zM g m_thrown m_tape m_size m_place m_at m_fault m_faultAt m_clauses m_open m_fed m_refused m_readTold m_told m_readBeast m_beast m_readGate m_gate m_readList m_list m_lawMany m_readLawMany m_law m_readLaw m_stack m_known m_step m_steps m_now m_trial m_before m_kept m_works m_refusedSteps m_images m_spot m_begun m_doneSteps m_mixed m_fewest m_leastFees m_lots m_tars) H → va_S (zF g 64 580 s.heap.size) s.heap H locs → lv_has ls 2 [(0, .ref (g.2.1 64)), (1, .int x1)] → W p l e R s m args below meth c H locs cells slots Q (F0 m 0 ls []) := by
  obtain ⟨hx, hb, hr, hml, hown, hts, hK, hlk⟩ := id hC
  intro  hf H locs ls hP hS hl
  have hk24 := mpM_status_24 (l := l) (e := e) (R := R) (below := below) (cells := cells) (slots := slots) (Q := Q) hI hC hR m_tape m_size m_place m_at m_fault m_faultAt m_clauses m_open m_fed m_refused m_readTold m_told m_readBeast m_beast m_readGate m_gate m_readList m_list m_lawMany m_readLawMany m_law m_readLaw m_stack m_known m_step m_steps m_now m_trial m_before m_kept m_works m_refusedSteps m_images m_spot m_begun m_doneSteps m_mixed m_fewest m_leastFees m_lots m_tars N9 res hfin
  unfold pM_status at hf
  refine lv_aload_n hx hb dX10_status_0 rfl (lv_at hl 0 rfl) ?_
  refine lv_iconst (v := 0) hx hb dX10_status_1 (by decide) ?_
  refine zp_m_thrown hC hP hI (fun k h1 h2 => zF.own h1 h2) hS (hC.fl mw_1393) dX10_status_2 (fun H locs hP hS => ?_)
  refine lv_iload_n hx hb dX10_status_5 rfl (lv_at hl 1 rfl) ?_
  refine lv_iconst (v := 0) hx hb dX10_status_6 (by decide) ?_
  refine lv_iconst (v := 1) hx hb dX10_status_7 (by decide) ?_
  obtain ⟨r_1, hf_1, hf⟩ := zb1i hf
  refine zcallP (As := [.int x1, .int 0, .int 1]) (rest := []) hC hS (cpM_in l hI x1 (0 : Int32) (1 : Int32) N9 hf_1) (hC.ml mw_1532) yo_X10_in rfl hl.1 rfl (Nat.le_of_ble_eq_true rfl) ⟨by omega, by omega⟩ hR.2.2 dX10_status_8 (fun H locs hPk hS _ => ?_)
  have hP := hPk _ _ _ hP
  refine lv_if_eq (tgt := 23) hx hb dX10_status_11 (by decide) (fun hc_2 => ?_) (fun hc_2 => ?_)
  · have hf := zifp hc_2 hf
    refine lv_iconst (v := (-1)) hx hb dX10_status_23 (by decide) ?_
    exact hk24 0 (-1) hf H locs ls hP hS (lv_sub hl [] rfl)
  · have hf := zifn hc_2 hf
    refine lv_aload_n hx hb dX10_status_14 rfl (lv_at hl 0 rfl) ?_
    refine zr_m_refused hC hP (hC.fl mw_1403) dX10_status_15 ?_
    refine lv_iload_n hx hb dX10_status_18 rfl (lv_at hl 1 rfl) ?_
    obtain ⟨hz_3, hf⟩ := zite hf
    refine zl_m_refused hC hP hz_3 dX10_status_19 ?_
    refine lv_goto (tgt := 24) hx hb dX10_status_20 (by decide) ?_
    exact hk24 0 (m_refused x1.toNatClampNeg) hf H locs ls hP hS (lv_sub hl [] rfl)
set_option maxHeartbeats 4000000 in
set_option maxRecDepth 100000 in
theorem cpM_status (l : Launch) {g : zG} (hI : zI g 581) (sz : Nat) (m_thrown : Int32) (m_tape : Int32) (m_size : Int32) (m_place : Int32) (m_at : Int32) (m_fault : Int32) (m_faultAt : Int32) (m_clauses : Int32) (m_open : Int32) (m_fed : Nat → Int32) (m_refused : Nat → Int32) (m_readTold : Nat → Int32) (m_told : Nat → Int32) (m_readBeast : Nat → Nat → Int32) (m_beast : Nat → Nat → Int32) (m_readGate : Nat → Nat → Int32) (m_gate : Nat → Nat → Int32) (m_readList : Nat → Nat → Int32) (m_list : Nat → Nat → Int32) (m_lawMany : Int32) (m_readLawMany : Int32) (m_law : Nat → Nat → Int32) (m_readLaw : Nat → Nat → Int32) (m_stack : Nat → Int32) (m_known : Nat → Int32) (m_step : Nat → Nat → Int32) (m_steps : Int32) (m_now : Nat → Int32) (m_trial : Nat → Int32) (m_before : Nat → Nat → Int32) (m_kept : Nat → Nat → Int32) (m_works : Int32) (m_refusedSteps : Int32) (m_images : Int32) (m_spot : Int32) (m_begun : Int32) (m_doneSteps : Int32) (m_mixed : Nat → Int32) (m_fewest : Nat → Int32) (m_leastFees : Nat → Int32) (m_lots : Int32) (m_tars : Int32) (x1 : Int32) (N9 : Nat) {r0 : Int32} {m_thrown' : Int32} (hf : pM_status N9  m_thrown m_refused x1 = some (r0, m_thrown')) : zMi l yX10_status cX10_status 2 (some .int) 2 g (zM g m_thrown m_tape m_size m_place m_at m_fault m_faultAt m_clauses m_open m_fed m_refused m_readTold m_told m_readBeast m_beast m_readGate m_gate m_readList m_list m_lawMany m_readLawMany m_law m_readLaw m_stack m_known m_step m_steps m_now m_trial m_before m_kept m_works m_refusedSteps m_images m_spot m_begun m_doneSteps m_mixed m_fewest m_leastFees m_lots m_tars) (zM g m_thrown' m_tape m_size m_place m_at m_fault m_faultAt m_clauses m_open m_fed m_refused m_readTold m_told m_readBeast m_beast m_readGate m_gate m_readList m_list m_lawMany m_readLawMany m_law m_readLaw m_stack m_known m_step m_steps m_now m_trial m_before m_kept m_works m_refusedSteps m_images m_spot m_begun m_doneSteps m_mixed m_fewest m_leastFees m_lots m_tars) sz (zF g 64 580 sz) [.ref (g.2.1 64), .int x1] r0 := by
  refine Met.ofW (cc := cX10_status) (maxL := 2) (ret := (some .int)) (by decide +kernel) rfl ?_
  intro p e s m args below meth c s₁ B hml hv
  obtain ⟨rfl, hsz, hP, hK⟩ := hv
  subst hsz
  have hC := zstart (ws := []) (sz := 0) (own := RX10) rfl B hml hK
  have hl := lv_entry ([.ref (g.2.1 64), .int x1]) (n := 2) (Nat.le_of_ble_eq_true rfl)
  rw [lg_entry_eq]
  generalize (lg_sl ([.ref (g.2.1 64), .int x1]) ++ List.replicate (2 - (lg_sl ([.ref (g.2.1 64), .int x1])).length) Slot.unset).toArray = ls at hl ⊢
  have hl : lv_has ls 2 [(0, .ref (g.2.1 64)), (1, .int x1)] := hl
  obtain ⟨hx, hb, hr, hml, hown, hts, hK, hlk⟩ := id hC
  refine mpM_status hI hC ⟨Nat.le_refl _, Nat.le_refl _, Nat.le_refl _, Nat.le_refl _⟩ m_thrown m_tape m_size m_place m_at m_fault m_faultAt m_clauses m_open m_fed m_refused m_readTold m_told m_readBeast m_beast m_readGate m_gate m_readList m_list m_lawMany m_readLawMany m_law m_readLaw m_stack m_known m_step m_steps m_now m_trial m_before m_kept m_works m_refusedSteps m_images m_spot m_begun m_doneSteps m_mixed m_fewest m_leastFees m_lots m_tars x1 N9 (r0, m_thrown') ?_ hf _ _ ls hP va_S.rf hl
  intro r1 m_thrown1 H locs pc ls he hP hS hd
  cases he
  exact W.iret hx hb hr (fun t ht hW => ⟨⟨_, (), rfl, rfl, by rw [← ht] at hP; exact hP⟩, hS.F ht⟩) hS.2.2 hd hlk
/-! StripeTradeModel.count (I)I [('obj', 'm')] -/
def pM_count_41 (N9 : Nat) (m_thrown : Int32) (s0 : Int32) : Option (Int32 × Int32) := some (s0, m_thrown)
def pM_count (N9 : Nat) (m_thrown : Int32) (m_tape : Int32) (m_works : Int32) (m_images : Int32) (x1 : Int32) : Option (Int32 × Int32) := if x1 = 0 then (pM_count_41 N9 0 m_images) else (if x1 = 1 then (pM_count_41 N9 0 m_tape) else (if x1 = 2 then (pM_count_41 N9 0 m_works) else (pM_count_41 N9 0 (-1))))
set_option maxHeartbeats 4000000 in
set_option maxRecDepth 100000 in
theorem mpM_count_41 {p : Program} {l : Launch} {e : Env} {R : Room} {s : State} {m : MethodId} {args : Array Value} {below : List Frame} {meth : Method} {c : Code} {cells slots : Nat} {Q : State → Prop} {g : zG} (hI : zI g 581) (hC : zC g RX10 cX10_count 2 (some .int) p s m meth c args) (hR : 1 ≤ R.frames ∧ 60 * 1 ≤ R.locals ∧ cells ≤ R.cells ∧ slots ≤ R.slots) (m_tape : Int32) (m_size : Int32) (m_place : Int32) (m_at : Int32) (m_fault : Int32) (m_faultAt : Int32) (m_clauses : Int32) (m_open : Int32) (m_fed : Nat → Int32) (m_refused : Nat → Int32) (m_readTold : Nat → Int32) (m_told : Nat → Int32) (m_readBeast : Nat → Nat → Int32) (m_beast : Nat → Nat → Int32) (m_readGate : Nat → Nat → Int32) (m_gate : Nat → Nat → Int32) (m_readList : Nat → Nat → Int32) (m_list : Nat → Nat → Int32) (m_lawMany : Int32) (m_readLawMany : Int32) (m_law : Nat → Nat → Int32) (m_readLaw : Nat → Nat → Int32) (m_stack : Nat → Int32) (m_known : Nat → Int32) (m_step : Nat → Nat → Int32) (m_steps : Int32) (m_now : Nat → Int32) (m_trial : Nat → Int32) (m_before : Nat → Nat → Int32) (m_kept : Nat → Nat → Int32) (m_works : Int32) (m_refusedSteps : Int32) (m_images : Int32) (m_spot : Int32) (m_begun : Int32) (m_doneSteps : Int32) (m_mixed : Nat → Int32) (m_fewest : Nat → Int32) (m_leastFees : Nat → Int32) (m_lots : Int32) (m_tars : Int32)  (N9 : Nat)   (res : Int32 × Int32) (hfin : ∀ (r0 : Int32) (m_thrown : Int32) (H : Heap) (locs : List Loc) (pc : Nat) (ls : Array Slot), (r0, m_thrown) = res → va_P g.1 zcl (zM g m_thrown m_tape m_size m_place m_at m_fault m_faultAt m_clauses m_open m_fed m_refused m_readTold m_told m_readBeast m_beast m_readGate m_gate m_readList m_list m_lawMany m_readLawMany m_law m_readLaw m_stack m_known m_step m_steps m_now m_trial m_before m_kept m_works m_refusedSteps m_images m_spot m_begun m_doneSteps m_mixed m_fewest m_leastFees m_lots m_tars) H → va_S (zF g 64 580 s.heap.size) s.heap H locs → decode cX10_count pc = .ok (.ireturn, 1) → W p l e R s m args below meth c H locs cells slots Q (F0 m pc ls [.int r0])) : ∀ (m_thrown : Int32) (s0 : Int32), pM_count_41 N9 m_thrown s0 = some res → ∀ (H : Heap) (locs : List Loc) (ls : Array Slot), va_P g.1 zcl (zM g m_thrown m_tape m_size m_place m_at m_fault m_faultAt m_clauses m_open m_fed m_refused m_readTold m_told m_readBeast m_beast m_readGate m_gate m_readList m_list m_lawMany m_readLawMany m_law m_readLaw m_stack m_known m_step m_steps m_now m_trial m_before m_kept m_works m_refusedSteps m_images m_spot m_begun m_doneSteps m_mixed m_fewest m_leastFees m_lots m_tars) H → va_S (zF g 64 580 s.heap.size) s.heap H locs → lv_has ls 2 [] → W p l e R s m args below meth c H locs cells slots Q (F0 m 41 ls [.int s0]) := by
  obtain ⟨hx, hb, hr, hml, hown, hts, hK, hlk⟩ := id hC
  intro m_thrown s0 hf H locs ls hP hS hl
  unfold pM_count_41 at hf
  exact hfin _ _ H locs _ ls (Option.some.inj hf) hP hS dX10_count_41
set_option maxHeartbeats 4000000 in
set_option maxRecDepth 100000 in
theorem mpM_count {p : Program} {l : Launch} {e : Env} {R : Room} {s : State} {m : MethodId} {args : Array Value} {below : List Frame} {meth : Method} {c : Code} {cells slots : Nat} {Q : State → Prop} {g : zG} (hI : zI g 581) (hC : zC g RX10 cX10_count 2 (some .int) p s m meth c args) (hR : 1 ≤ R.frames ∧ 60 * 1 ≤ R.locals ∧ cells ≤ R.cells ∧ slots ≤ R.slots) (m_thrown : Int32) (m_tape : Int32) (m_size : Int32) (m_place : Int32) (m_at : Int32) (m_fault : Int32) (m_faultAt : Int32) (m_clauses : Int32) (m_open : Int32) (m_fed : Nat → Int32) (m_refused : Nat → Int32) (m_readTold : Nat → Int32) (m_told : Nat → Int32) (m_readBeast : Nat → Nat → Int32) (m_beast : Nat → Nat → Int32) (m_readGate : Nat → Nat → Int32) (m_gate : Nat → Nat → Int32) (m_readList : Nat → Nat → Int32) (m_list : Nat → Nat → Int32) (m_lawMany : Int32) (m_readLawMany : Int32) (m_law : Nat → Nat → Int32) (m_readLaw : Nat → Nat → Int32) (m_stack : Nat → Int32) (m_known : Nat → Int32) (m_step : Nat → Nat → Int32) (m_steps : Int32) (m_now : Nat → Int32) (m_trial : Nat → Int32) (m_before : Nat → Nat → Int32) (m_kept : Nat → Nat → Int32) (m_works : Int32) (m_refusedSteps : Int32) (m_images : Int32) (m_spot : Int32) (m_begun : Int32) (m_doneSteps : Int32) (m_mixed : Nat → Int32) (m_fewest : Nat → Int32) (m_leastFees : Nat → Int32) (m_lots : Int32) (m_tars : Int32) (x1 : Int32) (N9 : Nat)   (res : Int32 × Int32) (hfin : ∀ (r0 : Int32) (m_thrown : Int32) (H : Heap) (locs : List Loc) (pc : Nat) (ls : Array Slot), (r0, m_thrown) = res → va_P g.1 zcl (zM g m_thrown m_tape m_size m_place m_at m_fault m_faultAt m_clauses m_open m_fed m_refused m_readTold m_told m_readBeast m_beast m_readGate m_gate m_readList m_list m_lawMany m_readLawMany m_law m_readLaw m_stack m_known m_step m_steps m_now m_trial m_before m_kept m_works m_refusedSteps m_images m_spot m_begun m_doneSteps m_mixed m_fewest m_leastFees m_lots m_tars) H → va_S (zF g 64 580 s.heap.size) s.heap H locs → decode cX10_count pc = .ok (.ireturn, 1) → W p l e R s m args below meth c H locs cells slots Q (F0 m pc ls [.int r0])) : pM_count N9 m_thrown m_tape m_works m_images x1 = some res → ∀ (H : Heap) (locs : List Loc) (ls : Array Slot), va_P g.1 zcl (zM g m_thrown m_tape m_size m_place m_at m_fault m_faultAt m_clauses m_open m_fed m_refused m_readTold m_told m_readBeast m_beast m_readGate m_gate m_readList m_list m_lawMany m_readLawMany m_law m_readLaw m_stack m_known m_step m_steps m_now m_trial m_before m_kept m_works m_refusedSteps m_images m_spot m_begun m_doneSteps m_mixed m_fewest m_leastFees m_lots m_tars) H → va_S (zF g 64 580 s.heap.size) s.heap H locs → lv_has ls 2 [(0, .ref (g.2.1 64)), (1, .int x1)] → W p l e R s m args below meth c H locs cells slots Q (F0 m 0 ls []) := by
  obtain ⟨hx, hb, hr, hml, hown, hts, hK, hlk⟩ := id hC
  intro  hf H locs ls hP hS hl
  have hk41 := mpM_count_41 (l := l) (e := e) (R := R) (below := below) (cells := cells) (slots := slots) (Q := Q) hI hC hR m_tape m_size m_place m_at m_fault m_faultAt m_clauses m_open m_fed m_refused m_readTold m_told m_readBeast m_beast m_readGate m_gate m_readList m_list m_lawMany m_readLawMany m_law m_readLaw m_stack m_known m_step m_steps m_now m_trial m_before m_kept m_works m_refusedSteps m_images m_spot m_begun m_doneSteps m_mixed m_fewest m_leastFees m_lots m_tars N9 res hfin
  unfold pM_count at hf
  refine lv_aload_n hx hb dX10_count_0 rfl (lv_at hl 0 rfl) ?_
  refine lv_iconst (v := 0) hx hb dX10_count_1 (by decide) ?_
  refine zp_m_thrown hC hP hI (fun k h1 h2 => zF.own h1 h2) hS (hC.fl mw_1393) dX10_count_2 (fun H locs hP hS => ?_)
  refine lv_iload_n hx hb dX10_count_5 rfl (lv_at hl 1 rfl) ?_
  refine lv_if_ne (tgt := 16) hx hb dX10_count_6 (by decide) (fun hc_1 => ?_) (fun hc_1 => ?_)
  · have hf := zifn hc_1 hf
    refine lv_iload_n hx hb dX10_count_16 rfl (lv_at hl 1 rfl) ?_
    refine lv_iconst (v := 1) hx hb dX10_count_17 (by decide) ?_
    refine lv_icmp_ne (tgt := 28) hx hb dX10_count_18 (by decide) (fun hc_2 => ?_) (fun hc_2 => ?_)
    · have hf := zifn hc_2 hf
      refine lv_iload_n hx hb dX10_count_28 rfl (lv_at hl 1 rfl) ?_
      refine lv_iconst (v := 2) hx hb dX10_count_29 (by decide) ?_
      refine lv_icmp_ne (tgt := 40) hx hb dX10_count_30 (by decide) (fun hc_3 => ?_) (fun hc_3 => ?_)
      · have hf := zifn hc_3 hf
        refine lv_iconst (v := (-1)) hx hb dX10_count_40 (by decide) ?_
        exact hk41 0 (-1) hf H locs ls hP hS (lv_sub hl [] rfl)
      · have hf := zifp hc_3 hf
        refine lv_aload_n hx hb dX10_count_33 rfl (lv_at hl 0 rfl) ?_
        refine zg_m_works hC hP (hC.fl mw_1424) dX10_count_34 ?_
        refine lv_goto (tgt := 41) hx hb dX10_count_37 (by decide) ?_
        exact hk41 0 m_works hf H locs ls hP hS (lv_sub hl [] rfl)
    · have hf := zifp hc_2 hf
      refine lv_aload_n hx hb dX10_count_21 rfl (lv_at hl 0 rfl) ?_
      refine zg_m_tape hC hP (hC.fl mw_1394) dX10_count_22 ?_
      refine lv_goto (tgt := 41) hx hb dX10_count_25 (by decide) ?_
      exact hk41 0 m_tape hf H locs ls hP hS (lv_sub hl [] rfl)
  · have hf := zifp hc_1 hf
    refine lv_aload_n hx hb dX10_count_9 rfl (lv_at hl 0 rfl) ?_
    refine zg_m_images hC hP (hC.fl mw_1426) dX10_count_10 ?_
    refine lv_goto (tgt := 41) hx hb dX10_count_13 (by decide) ?_
    exact hk41 0 m_images hf H locs ls hP hS (lv_sub hl [] rfl)
set_option maxHeartbeats 4000000 in
set_option maxRecDepth 100000 in
theorem cpM_count (l : Launch) {g : zG} (hI : zI g 581) (sz : Nat) (m_thrown : Int32) (m_tape : Int32) (m_size : Int32) (m_place : Int32) (m_at : Int32) (m_fault : Int32) (m_faultAt : Int32) (m_clauses : Int32) (m_open : Int32) (m_fed : Nat → Int32) (m_refused : Nat → Int32) (m_readTold : Nat → Int32) (m_told : Nat → Int32) (m_readBeast : Nat → Nat → Int32) (m_beast : Nat → Nat → Int32) (m_readGate : Nat → Nat → Int32) (m_gate : Nat → Nat → Int32) (m_readList : Nat → Nat → Int32) (m_list : Nat → Nat → Int32) (m_lawMany : Int32) (m_readLawMany : Int32) (m_law : Nat → Nat → Int32) (m_readLaw : Nat → Nat → Int32) (m_stack : Nat → Int32) (m_known : Nat → Int32) (m_step : Nat → Nat → Int32) (m_steps : Int32) (m_now : Nat → Int32) (m_trial : Nat → Int32) (m_before : Nat → Nat → Int32) (m_kept : Nat → Nat → Int32) (m_works : Int32) (m_refusedSteps : Int32) (m_images : Int32) (m_spot : Int32) (m_begun : Int32) (m_doneSteps : Int32) (m_mixed : Nat → Int32) (m_fewest : Nat → Int32) (m_leastFees : Nat → Int32) (m_lots : Int32) (m_tars : Int32) (x1 : Int32) (N9 : Nat) {r0 : Int32} {m_thrown' : Int32} (hf : pM_count N9  m_thrown m_tape m_works m_images x1 = some (r0, m_thrown')) : zMi l yX10_count cX10_count 2 (some .int) 1 g (zM g m_thrown m_tape m_size m_place m_at m_fault m_faultAt m_clauses m_open m_fed m_refused m_readTold m_told m_readBeast m_beast m_readGate m_gate m_readList m_list m_lawMany m_readLawMany m_law m_readLaw m_stack m_known m_step m_steps m_now m_trial m_before m_kept m_works m_refusedSteps m_images m_spot m_begun m_doneSteps m_mixed m_fewest m_leastFees m_lots m_tars) (zM g m_thrown' m_tape m_size m_place m_at m_fault m_faultAt m_clauses m_open m_fed m_refused m_readTold m_told m_readBeast m_beast m_readGate m_gate m_readList m_list m_lawMany m_readLawMany m_law m_readLaw m_stack m_known m_step m_steps m_now m_trial m_before m_kept m_works m_refusedSteps m_images m_spot m_begun m_doneSteps m_mixed m_fewest m_leastFees m_lots m_tars) sz (zF g 64 580 sz) [.ref (g.2.1 64), .int x1] r0 := by
  refine Met.ofW (cc := cX10_count) (maxL := 2) (ret := (some .int)) (by decide +kernel) rfl ?_
  intro p e s m args below meth c s₁ B hml hv
  obtain ⟨rfl, hsz, hP, hK⟩ := hv
  subst hsz
  have hC := zstart (ws := []) (sz := 0) (own := RX10) rfl B hml hK
  have hl := lv_entry ([.ref (g.2.1 64), .int x1]) (n := 2) (Nat.le_of_ble_eq_true rfl)
  rw [lg_entry_eq]
  generalize (lg_sl ([.ref (g.2.1 64), .int x1]) ++ List.replicate (2 - (lg_sl ([.ref (g.2.1 64), .int x1])).length) Slot.unset).toArray = ls at hl ⊢
  have hl : lv_has ls 2 [(0, .ref (g.2.1 64)), (1, .int x1)] := hl
  obtain ⟨hx, hb, hr, hml, hown, hts, hK, hlk⟩ := id hC
  refine mpM_count hI hC ⟨Nat.le_refl _, Nat.le_refl _, Nat.le_refl _, Nat.le_refl _⟩ m_thrown m_tape m_size m_place m_at m_fault m_faultAt m_clauses m_open m_fed m_refused m_readTold m_told m_readBeast m_beast m_readGate m_gate m_readList m_list m_lawMany m_readLawMany m_law m_readLaw m_stack m_known m_step m_steps m_now m_trial m_before m_kept m_works m_refusedSteps m_images m_spot m_begun m_doneSteps m_mixed m_fewest m_leastFees m_lots m_tars x1 N9 (r0, m_thrown') ?_ hf _ _ ls hP va_S.rf hl
  intro r1 m_thrown1 H locs pc ls he hP hS hd
  cases he
  exact W.iret hx hb hr (fun t ht hW => ⟨⟨_, (), rfl, rfl, by rw [← ht] at hP; exact hP⟩, hS.F ht⟩) hS.2.2 hd hlk
