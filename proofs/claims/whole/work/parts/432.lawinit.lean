/-! the Law's constructor: setUsual, clear, add over its four cells alone -/
def zLw (g : zG) (a0 a1 a2 a3 : Nat) (f h st : Nat → Int32) (n : Int32) : va_W := [(a0, .inr (2, [.ref a1, .ref a2, .ref a3, .int n])), (a1, .inl (g.2.2.1, 150, .inl f)), (a2, .inl (g.2.2.1, 150, .inl h)), (a3, .inl (g.2.2.1, 150, .inl st))]
theorem zDfst {A : Nat → Prop} {ws ws' : va_W} (hD : va_D A ws) (h : ws.map Prod.fst = ws'.map Prod.fst) : va_D A ws' := by
  have hat : ∀ (k : Nat) (q : Nat × va_E), ws'[k]? = some q → ∃ q', ws[k]? = some q' ∧ q'.1 = q.1 := fun k q hq => by
    have h1 : (ws'.map Prod.fst)[k]? = some q.1 := by rw [List.getElem?_map, hq]; rfl
    rw [← h, List.getElem?_map] at h1
    cases hw : ws[k]? with
    | none => rw [hw] at h1; cases h1
    | some q' => rw [hw] at h1; exact ⟨q', rfl, Option.some.inj h1⟩
  refine ⟨fun i j p q hi hj e => ?_, fun k q hq => ?_⟩
  · obtain ⟨p', p1, p2⟩ := hat i p hi
    obtain ⟨q', q1, q2⟩ := hat j q hj
    exact hD.1 i j p' q' p1 q1 (by rw [p2, q2, e])
  · obtain ⟨q', q1, q2⟩ := hat k q hq
    rw [← q2]
    exact hD.2 k q' q1
section ZLI
variable {g : zG} {a0 a1 a2 a3 : Nat} {f h st : Nat → Int32} {A : Nat → Prop}
set_option maxHeartbeats 4000000 in
set_option maxRecDepth 100000 in
theorem cl_clear (l : Launch) (n : Int32) (sz : Nat) (hD : va_D A (zLw g a0 a1 a2 a3 f h st n)) : zMv l yX2_clear cX2_clear 1 none 1 g (zLw g a0 a1 a2 a3 f h st n) (zLw g a0 a1 a2 a3 f h st 0) sz A [.ref a0] := by
  refine Met.ofW (cc := cX2_clear) (maxL := 1) (ret := none) (by decide +kernel) rfl ?_
  intro p e s m args below meth c s₁ B hml hv
  obtain ⟨rfl, hsz, hP, hK, hST⟩ := hv
  subst hsz
  have hC := zstart (own := RX2) rfl B hml hK hST
  have hl := lv_entry ([.ref a0]) (n := 1) (Nat.le_of_ble_eq_true rfl)
  rw [lg_entry_eq]
  generalize (lg_sl ([.ref a0]) ++ List.replicate (1 - (lg_sl ([.ref a0])).length) Slot.unset).toArray = ls at hl ⊢
  have hl : lv_has ls 1 [(0, .ref a0)] := hl
  obtain ⟨hx, hb, hr, hml, hown, hts, hK, hlk, hST⟩ := id hC
  have hS : va_S A s.heap s.heap [] := va_S.rf
  refine lv_aload_n hx hb dX2_clear_0 rfl (lv_at hl 0 rfl) ?_
  refine lv_iconst (v := 0) hx hb dX2_clear_1 (by decide) ?_
  refine zput hC uin_X2 tyX2 tyX2_ok nmX2 rfl hP hD hS 0 rfl 3 (by decide) (hC.fl mw_273) rfl (by decide +kernel) (Nat.le_of_ble_eq_true rfl) dX2_clear_2 (fun H locs hP hS => ?_)
  have hP : va_P g.1 zcl (zLw g a0 a1 a2 a3 f h st 0) H := hP
  exact W.vret hx hb hr (fun t ht hW => ⟨⟨(), rfl, trivial, by rw [← ht] at hP; exact hP⟩, hS.F ht⟩) hS.2.2 dX2_clear_5 hlk
set_option maxHeartbeats 4000000 in
set_option maxRecDepth 100000 in
theorem cl_add (l : Launch) {n : Nat} (hn : n < 150) (k v : Int32) (sz : Nat) (hD : va_D A (zLw g a0 a1 a2 a3 f h st (nI n))) : zMv l yX2_add cX2_add 3 none 1 g (zLw g a0 a1 a2 a3 f h st (nI n)) (zLw g a0 a1 a2 a3 (upd f n k) (upd h n v) st (nI (n + 1))) sz A [.ref a0, .int k, .int v] := by
  refine Met.ofW (cc := cX2_add) (maxL := 3) (ret := none) (by decide +kernel) rfl ?_
  intro p e s m args below meth c s₁ B hml hv
  obtain ⟨rfl, hsz, hP, hK, hST⟩ := hv
  subst hsz
  have hC := zstart (own := RX2) rfl B hml hK hST
  have hl := lv_entry ([.ref a0, .int k, .int v]) (n := 3) (Nat.le_of_ble_eq_true rfl)
  rw [lg_entry_eq]
  generalize (lg_sl ([.ref a0, .int k, .int v]) ++ List.replicate (3 - (lg_sl ([.ref a0, .int k, .int v])).length) Slot.unset).toArray = ls at hl ⊢
  have hl : lv_has ls 3 [(0, .ref a0), (1, .int k), (2, .int v)] := hl
  obtain ⟨hx, hb, hr, hml, hown, hts, hK, hlk, hST⟩ := id hC
  have hS : va_S A s.heap s.heap [] := va_S.rf
  have hz : zin (nI n) 150 = true := (jzin hn (by omega)).mpr trivial
  have hcl : (nI n).toNatClampNeg = n := jcl (by omega)
  refine lv_aload_n hx hb dX2_add_0 rfl (lv_at hl 0 rfl) ?_
  refine zget hC uin_X2 rfl hP 0 rfl 3 (Nat.le_of_ble_eq_true rfl) (v := .int (nI n)) rfl (hC.fl mw_273) dX2_add_1 ?_
  refine lv_sipush (v := 150) hx hb dX2_add_4 (by decide) ?_
  refine lv_icmp_ge (tgt := 40) hx hb dX2_add_7 (by decide) (fun hc_1 => ?_) (fun hc_1 => ?_)
  · exact absurd hc_1 (show ¬ (150 : Int32) ≤ nI n from nI_ge (a := n) (b := 150) hn (by omega))
  refine lv_aload_n hx hb dX2_add_10 rfl (lv_at hl 0 rfl) ?_
  refine zget hC uin_X2 rfl hP 0 rfl 0 (Nat.le_of_ble_eq_true rfl) (v := .ref a1) rfl (hC.fl mw_270) dX2_add_11 ?_
  refine lv_aload_n hx hb dX2_add_14 rfl (lv_at hl 0 rfl) ?_
  refine zget hC uin_X2 rfl hP 0 rfl 3 (Nat.le_of_ble_eq_true rfl) (v := .int (nI n)) rfl (hC.fl mw_273) dX2_add_15 ?_
  refine lv_iload_n hx hb dX2_add_18 rfl (lv_at hl 1 rfl) ?_
  refine zast hC hP hD hS 1 rfl hz dX2_add_19 (fun H locs hP hS => ?_)
  rw [hcl] at hP
  have hP : va_P g.1 zcl (zLw g a0 a1 a2 a3 (upd f n k) h st (nI n)) H := hP
  have hD : va_D A (zLw g a0 a1 a2 a3 (upd f n k) h st (nI n)) := zDfst hD rfl
  refine lv_aload_n hx hb dX2_add_20 rfl (lv_at hl 0 rfl) ?_
  refine zget hC uin_X2 rfl hP 0 rfl 1 (Nat.le_of_ble_eq_true rfl) (v := .ref a2) rfl (hC.fl mw_271) dX2_add_21 ?_
  refine lv_aload_n hx hb dX2_add_24 rfl (lv_at hl 0 rfl) ?_
  refine zget hC uin_X2 rfl hP 0 rfl 3 (Nat.le_of_ble_eq_true rfl) (v := .int (nI n)) rfl (hC.fl mw_273) dX2_add_25 ?_
  refine lv_iload_n hx hb dX2_add_28 rfl (lv_at hl 2 rfl) ?_
  refine zast hC hP hD hS 2 rfl hz dX2_add_29 (fun H locs hP hS => ?_)
  rw [hcl] at hP
  have hP : va_P g.1 zcl (zLw g a0 a1 a2 a3 (upd f n k) (upd h n v) st (nI n)) H := hP
  have hD : va_D A (zLw g a0 a1 a2 a3 (upd f n k) (upd h n v) st (nI n)) := zDfst hD rfl
  refine lv_aload_n hx hb dX2_add_30 rfl (lv_at hl 0 rfl) ?_
  refine lv_dup hx hb dX2_add_31 rfl ?_
  refine zget hC uin_X2 rfl hP 0 rfl 3 (Nat.le_of_ble_eq_true rfl) (v := .int (nI n)) rfl (hC.fl mw_273) dX2_add_32 ?_
  refine lv_iconst (v := 1) hx hb dX2_add_35 (by decide) ?_
  refine lv_iadd hx hb dX2_add_36 ?_
  refine zput hC uin_X2 tyX2 tyX2_ok nmX2 rfl hP hD hS 0 rfl 3 (by decide) (hC.fl mw_273) rfl (by decide +kernel) (Nat.le_of_ble_eq_true rfl) dX2_add_37 (fun H locs hP hS => ?_)
  rw [nI_1] at hP
  have hP : va_P g.1 zcl (zLw g a0 a1 a2 a3 (upd f n k) (upd h n v) st (nI (n + 1))) H := hP
  exact W.vret hx hb hr (fun t ht hW => ⟨⟨(), rfl, trivial, by rw [← ht] at hP; exact hP⟩, hS.F ht⟩) hS.2.2 dX2_add_40 hlk
def zUk (f : Nat → Int32) : Nat → Int32 := upd (upd (upd (upd (upd f 0 1) 1 1) 2 0) 3 4) 4 2
def zUv (f : Nat → Int32) : Nat → Int32 := upd (upd (upd (upd (upd f 0 0) 1 1) 2 2) 3 0) 4 0
set_option maxHeartbeats 4000000 in
set_option maxRecDepth 100000 in
theorem cl_setUsual (l : Launch) (n : Int32) (sz : Nat) (hB : ∀ q, A q → zB g q) (hD : va_D A (zLw g a0 a1 a2 a3 f h st n)) : zMv l yX2_setUsual cX2_setUsual 1 none 2 g (zLw g a0 a1 a2 a3 f h st n) (zLw g a0 a1 a2 a3 (zUk f) (zUv h) st (nI 5)) sz A [.ref a0] := by
  refine Met.ofW (cc := cX2_setUsual) (maxL := 1) (ret := none) (by decide +kernel) rfl ?_
  intro p e s m args below meth c s₁ B hml hv
  obtain ⟨rfl, hsz, hP, hK, hST⟩ := hv
  subst hsz
  have hC := zstart (own := RX2) rfl B hml hK hST
  have hl := lv_entry ([.ref a0]) (n := 1) (Nat.le_of_ble_eq_true rfl)
  rw [lg_entry_eq]
  generalize (lg_sl ([.ref a0]) ++ List.replicate (1 - (lg_sl ([.ref a0])).length) Slot.unset).toArray = ls at hl ⊢
  have hl : lv_has ls 1 [(0, .ref a0)] := hl
  obtain ⟨hx, hb, hr, hml, hown, hts, hK, hlk, hST⟩ := id hC
  have hS : va_S A s.heap s.heap [] := va_S.rf
  have hDD : ∀ {f' h' st' : Nat → Int32} {n' : Int32}, va_D A (zLw g a0 a1 a2 a3 f' h' st' n') := fun {f' h' st'} {n'} => zDfst hD rfl
  refine lv_aload_n hx hb dX2_setUsual_0 rfl (lv_at hl 0 rfl) ?_
  refine zcallVv (As := []) (rest := []) hC hP hS hB (fun q h => h) (cl_clear l n _ hDD) (hC.ml mw_262) yo_X2_clear 0 rfl rfl rfl rfl hl.1 rfl (Nat.le_of_ble_eq_true rfl) ⟨Nat.le_of_ble_eq_true rfl, Nat.le_of_ble_eq_true rfl⟩ ⟨Nat.le_refl _, Nat.le_refl _⟩ dX2_setUsual_1 (fun H locs hP hS _ _ => ?_)
  refine lv_aload_n hx hb dX2_setUsual_4 rfl (lv_at hl 0 rfl) ?_
  refine lv_iconst (v := 1) hx hb dX2_setUsual_5 (by decide) ?_
  refine lv_iconst (v := 0) hx hb dX2_setUsual_6 (by decide) ?_
  refine zcallVv (As := [.int 1, .int 0]) (rest := []) hC hP hS hB (fun q h => h) (cl_add l (n := 0) (by decide) 1 0 _ hDD) (hC.ml mw_266) yo_X2_add 0 rfl rfl rfl rfl hl.1 rfl (Nat.le_of_ble_eq_true rfl) ⟨Nat.le_of_ble_eq_true rfl, Nat.le_of_ble_eq_true rfl⟩ ⟨Nat.le_refl _, Nat.le_refl _⟩ dX2_setUsual_7 (fun H locs hP hS _ _ => ?_)
  refine lv_aload_n hx hb dX2_setUsual_10 rfl (lv_at hl 0 rfl) ?_
  refine lv_iconst (v := 1) hx hb dX2_setUsual_11 (by decide) ?_
  refine lv_iconst (v := 1) hx hb dX2_setUsual_12 (by decide) ?_
  refine zcallVv (As := [.int 1, .int 1]) (rest := []) hC hP hS hB (fun q h => h) (cl_add l (n := 1) (by decide) 1 1 _ hDD) (hC.ml mw_266) yo_X2_add 0 rfl rfl rfl rfl hl.1 rfl (Nat.le_of_ble_eq_true rfl) ⟨Nat.le_of_ble_eq_true rfl, Nat.le_of_ble_eq_true rfl⟩ ⟨Nat.le_refl _, Nat.le_refl _⟩ dX2_setUsual_13 (fun H locs hP hS _ _ => ?_)
  refine lv_aload_n hx hb dX2_setUsual_16 rfl (lv_at hl 0 rfl) ?_
  refine lv_iconst (v := 0) hx hb dX2_setUsual_17 (by decide) ?_
  refine lv_iconst (v := 2) hx hb dX2_setUsual_18 (by decide) ?_
  refine zcallVv (As := [.int 0, .int 2]) (rest := []) hC hP hS hB (fun q h => h) (cl_add l (n := 2) (by decide) 0 2 _ hDD) (hC.ml mw_266) yo_X2_add 0 rfl rfl rfl rfl hl.1 rfl (Nat.le_of_ble_eq_true rfl) ⟨Nat.le_of_ble_eq_true rfl, Nat.le_of_ble_eq_true rfl⟩ ⟨Nat.le_refl _, Nat.le_refl _⟩ dX2_setUsual_19 (fun H locs hP hS _ _ => ?_)
  refine lv_aload_n hx hb dX2_setUsual_22 rfl (lv_at hl 0 rfl) ?_
  refine lv_iconst (v := 4) hx hb dX2_setUsual_23 (by decide) ?_
  refine lv_iconst (v := 0) hx hb dX2_setUsual_24 (by decide) ?_
  refine zcallVv (As := [.int 4, .int 0]) (rest := []) hC hP hS hB (fun q h => h) (cl_add l (n := 3) (by decide) 4 0 _ hDD) (hC.ml mw_266) yo_X2_add 0 rfl rfl rfl rfl hl.1 rfl (Nat.le_of_ble_eq_true rfl) ⟨Nat.le_of_ble_eq_true rfl, Nat.le_of_ble_eq_true rfl⟩ ⟨Nat.le_refl _, Nat.le_refl _⟩ dX2_setUsual_25 (fun H locs hP hS _ _ => ?_)
  refine lv_aload_n hx hb dX2_setUsual_28 rfl (lv_at hl 0 rfl) ?_
  refine lv_iconst (v := 2) hx hb dX2_setUsual_29 (by decide) ?_
  refine lv_iconst (v := 0) hx hb dX2_setUsual_30 (by decide) ?_
  refine zcallVv (As := [.int 2, .int 0]) (rest := []) hC hP hS hB (fun q h => h) (cl_add l (n := 4) (by decide) 2 0 _ hDD) (hC.ml mw_266) yo_X2_add 0 rfl rfl rfl rfl hl.1 rfl (Nat.le_of_ble_eq_true rfl) ⟨Nat.le_of_ble_eq_true rfl, Nat.le_of_ble_eq_true rfl⟩ ⟨Nat.le_refl _, Nat.le_refl _⟩ dX2_setUsual_31 (fun H locs hP hS _ _ => ?_)
  have hP : va_P g.1 zcl (zLw g a0 a1 a2 a3 (zUk f) (zUv h) st (nI 5)) H := hP
  exact W.vret hx hb hr (fun t ht hW => ⟨⟨(), rfl, trivial, by rw [← ht] at hP; exact hP⟩, hS.F ht⟩) hS.2.2 dX2_setUsual_34 hlk
end ZLI
