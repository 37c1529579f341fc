/-! whole_start, from new int[n][k] -/
section ZNL
variable {p : Program} {l : Launch} {e : Env} {R : Room} {s : State} {m : MethodId} {args : Array Value} {below : List Frame} {meth : Method} {c : Code} {H : Heap} {locs : List Loc} {cells slots : Nat} {Q : State → Prop}
variable {g : zG} {own : String} {cc : ByteArray} {nL : Nat} {ret : Option FieldType} {pc : Nat} {ls : Array Slot} {rest : List Value} {A : Nat → Prop} {ws : va_W} {H0 : Heap}
/-- new long[n] -/
theorem zNewL (hC : zC g own cc nL ret p s m meth c args) (hP : va_P g.1 zcl ws H) (hS : va_S A H0 H locs)
    {n : Int32} {N h : Nat} (hh : H.size = h) (hn : ¬ n < 0) (hN : n.toNatClampNeg = N) (hbytes : N * 8 ≤ 536870912) (hcells : cells + 1 ≤ R.cells) (hslots : slots + N ≤ R.slots) (hdg : decode cc pc = .ok (.newarray .long, 2))
    (kk : ∀ (H1 : Heap), va_P g.1 zcl (ws ++ [(h, .inl (g.2.2.2.2.1, N, .inr (.inl (fun _ => 0))))]) H1 → va_S A H0 H1 locs → W p l e R s m args below meth c H1 locs (cells + 1) (slots + N) Q (F0 m (pc + 2) ls (.ref h :: rest))) : W p l e R s m args below meth c H locs cells slots Q (F0 m pc ls (.int n :: rest)) := by
  obtain ⟨hx, hb, hr, hml, hown, hts, hK, hlk, hST⟩ := id hC
  refine va_newaK (atype := .long) hx hb (hC.word zwAL) rfl hdg rfl hn hN hbytes hcells hslots hh fun H1 cA e1 z1 o1 hAr hNm => ?_
  have hk : ∀ (k : Nat) (x : Nat × va_E), ws[k]? = some x → H1[x.1]? = H[x.1]? := fun k x hx => o1 x.1 (by have := (hP k x hx).lt; omega)
  have hcA : cA = g.2.2.2.2.1 := Option.some.inj (hNm.symm.trans (hK.1.2 2 _ rfl).2)
  subst hcA
  refine kk H1 ((hP.kept hk).app (fun k x hx => ?_)) ⟨Nat.le_trans hS.1 (by omega), fun x h1 h2 => (o1 x (Nat.lt_of_lt_of_le h1 (hh ▸ hS.1))).trans (hS.2.1 x h1 h2), hS.2.2⟩
  have hz : k < 1 := (List.getElem?_eq_some_iff.mp hx).1
  rw [show k = 0 by omega] at hx
  cases hx
  show H1[h]? = some (vp_cell _ _)
  rw [vp_cell_l]
  exact e1
end ZNL
theorem zwAOt : Cond.arrayOver (.array .int) ∈ lw_tbl := zu1 (List.mem_of_getElem? (i := 86) (by rfl))
theorem zfs_X10 : ∀ j, j < 42 → defaultValue (tyX10 j) = vp_V [.int 0, .int 0, .int 0, .int 0, .int 0, .int 0, .int 0, .int 0, .int 0, .null, .null, .null, .null, .null, .null, .null, .null, .null, .null, .int 0, .int 0, .null, .null, .null, .null, .null, .int 0, .null, .null, .null, .null, .int 0, .int 0, .int 0, .int 0, .int 0, .int 0, .null, .null, .null, .int 0, .int 0] j := by
  have h : ∀ j, j < 42 → (fun j => decide (defaultValue (tyX10 j) = vp_V [.int 0, .int 0, .int 0, .int 0, .int 0, .int 0, .int 0, .int 0, .int 0, .null, .null, .null, .null, .null, .null, .null, .null, .null, .null, .int 0, .int 0, .null, .null, .null, .null, .null, .int 0, .null, .null, .null, .null, .int 0, .int 0, .int 0, .int 0, .int 0, .int 0, .null, .null, .null, .int 0, .int 0] j)) j = true := by decide +kernel
  intro j hj
  exact of_decide_eq_true (h j hj)
theorem zbegin (N9 : Nat) (hN : 70000 < N9) : ∃ rT td bst gte lst now, pM_tellsNothing N9 (fun _ => 0) = some rT ∧ pM_beginsAnew N9 rT (fun _ => 0) (fun _ _ => 0) (fun _ _ => 0) (fun _ _ => 0) (fun _ _ => 0) (fun _ _ => 0) (fun _ _ => 0) 0 (fun _ => 0) 0 0 0 = some (td, bst, gte, lst, nI 0, now, nI 0, nI 0, nI 0) ∧
    jAll (fun _ => 0) 0 (-1) (fun _ => 0) (fun _ => 0) (fun _ => 0) (fun _ _ => 0) 0 0 (zUk (fun _ => 0)) (zUv (fun _ => 0)) (nI 5) (fun _ => 0) (fun _ => 0) (fun _ => 0) (fun _ => 0) (fun _ => 0) (fun _ => 0) 0 0 100 (fun _ => 0) (fun _ _ => 0) 0 0 0 0 0 0 (-1) (fun _ => 0) (fun _ => 0) td gte lst (nI 0) (fun _ _ => 0) now (fun _ _ => 0) (fun _ _ => 0) (nI 0) (nI 0) (nI 0) := by
  obtain ⟨rT, t0, t1, t2, t3, t4⟩ := jtells (N9 := N9) hN (fun _ => 0)
  obtain ⟨td, bst, gte, lst, now, b0, b1, b2, b3, b4, b5, b6, b7⟩ := jbegins (N9 := N9) hN (nb := 0) (ng := 0) (nl := 0) (by omega) (by omega) (by omega) t1 t2 t3 (fun _ => 0) (fun _ _ => 0) (fun _ _ => 0) (fun _ _ => 0) (fun _ _ => 0) (fun _ _ => 0) (fun _ _ => 0) 0 (fun _ => 0) 0 0 0
  refine ⟨rT, td, bst, gte, lst, now, t0, b0, ?_⟩
  refine ⟨⟨fun _ => 0, 0, by omega, rfl, rfl, fun i _ => ⟨by show 0 < 256; omega, rfl, rfl⟩⟩, rfl, ⟨0, 0, fun _ => 0, fun _ => 0, fun _ => 0, rfl, rfl, ⟨by omega, by omega, ?_, ?_, fun g hg => absurd hg (Nat.not_lt_zero g), fun g hg => absurd hg (Nat.not_lt_zero g), fun g hg => absurd hg (Nat.not_lt_zero g), fun g hg => absurd hg (Nat.not_lt_zero g)⟩, ⟨0, fun _ => 0, fun _ => 0, 100, fun _ => 0, by omega, rfl, ?_, rfl, ?_, ?_, ?_, fun g hg => absurd hg (Nat.not_lt_zero g), fun g hg => ⟨?_, rfl, ?_⟩, by show 100 + (0 + 0 + 0 + 0 + 0) ≤ 999; omega, fun _ _ _ => rfl⟩, ⟨0, by omega, rfl, rfl, fun i hi => absurd hi (Nat.not_lt_zero i)⟩, ⟨0, by omega, rfl, rfl, fun i hi => absurd hi (Nat.not_lt_zero i)⟩⟩, ?_, rfl, ⟨rfl, rfl⟩⟩
  · rw [b1 1 (by omega), t2]
  · rw [b1 2 (by omega), t3]
  · exact b4
  · rw [b5, t4]
  · rw [b7 44 (by omega) (by omega) (by omega) (by omega)]; rfl
  · rw [b7 45 (by omega) (by omega) (by omega) (by omega)]; rfl
  · rw [b7 (32 + g) (by omega) (by omega) (by omega) (by omega)]; rfl
  · rw [b7 (37 + g) (by omega) (by omega) (by omega) (by omega)]
  · obtain ⟨kd', vl', e1, e2⟩ := jusual (N9 := N9) (fun _ => 0) (fun _ => 0) 0 0 (fun _ _ => 0)
    have e3 : pX2_setUsual N9 (fun _ => 0) (fun _ => 0) 0 = some (zUk (fun _ => 0), zUv (fun _ => 0), nI 5) := rfl
    rw [e3] at e1
    cases e1
    exact e2
set_option maxHeartbeats 8000000 in
set_option maxRecDepth 100000 in
theorem whole_open (hZ : zMnaS) {p : Program} {e : Env} {s : State} {m : MethodId} {below : List Frame} {meth : Method} {c : Code} (l : Launch) (hl0 : l.stackTraces = false) {b L : Nat} {xs : Nat → Int32} (hL : L ≤ 4608) (hx : p.tables.exec = Jvm.exec) (hb : c.code = code) (hr : meth.sig.returnType = ret) (hml : c.maxLocals = 8) (hown : s.vm.findClass RL = some m.cls) (hts : ∀ w ∈ lw_tbl, w.before #[Value.ref b] s = true) (hX : va_X b L xs s s.heap) (hbl : b < s.heap.size) (hlk : meth.locks = false) (hgv : (Jvm.Cond.and given_1 narrow_1).before #[Value.ref b] s = true)
    {Q : State → Prop} (hend : ∀ (cells slots : Nat) (H : Heap) (locs : List Loc) (ls : Array Slot), cells + 3 ≤ room_1.cells → slots + 18 ≤ room_1.slots → va_S (fun q : Nat => s.heap.size ≤ q) s.heap H locs → W p l e room_1 s m #[Value.ref b] below meth c H locs cells slots Q (F0 m 2813 ls [])) :
    W p l e room_1 s m #[Value.ref b] below meth c s.heap [] 0 0 Q (entryFrame m ([Value.ref b] : List Value).toArray 8) := by
  have hAO : zAO s := hts _ zwAOt
  obtain ⟨adK, adV, hST0⟩ := zST_of hgv hts
  obtain ⟨D, cI, cT, cL, hK0⟩ := zK_of hts hAO
  obtain ⟨rT, td, bst, gte, lst, now, ht, hbg, hJ⟩ := zbegin 70001 (by omega)
  obtain ⟨g, hg⟩ : ∃ g : zG, g = (D, fun k => s.heap.size + zPi k, cI, cT, cL, adK, adV, s.heap.size) := ⟨_, rfl⟩
  have hga : ∀ k, g.2.1 k = s.heap.size + zPi k := fun k => by rw [hg]
  have hbs : g.2.2.2.2.2.2.2 = s.heap.size := by rw [hg]
  have hK : zK g s := by rw [hg]; exact ⟨hK0, zNW_of hts⟩
  have hST : zST g s := hST0 g (by rw [hg]) (by rw [hg]) hbs
  have hI : zI g 581 := zPi_I hga (Nat.le_of_eq hbs)
  clear hg
  have hC : zC g RL cL_law_ 8 (some .boolean) p s m meth c #[Value.ref b] := ⟨hx, hb, hr, hml, hown, fun w hw => hts w (zw_lt hw), hK, hlk, hST⟩
  have hBB : ∀ q, s.heap.size ≤ q → zB g q := fun q h => by unfold zB; rw [hbs]; exact h
  have hAd : ∀ k, k < 581 → s.heap.size ≤ g.2.1 k := fun k _ => by rw [hga]; exact Nat.le_add_right _ _
  have hl := lv_entry ([.ref b]) (n := 8) (Nat.le_of_ble_eq_true rfl)
  rw [lg_entry_eq]
  generalize (lg_sl ([.ref b]) ++ List.replicate (8 - (lg_sl ([.ref b])).length) Slot.unset).toArray = ls at hl ⊢
  have hl : lv_has ls 8 [(0, .ref b)] := hl
  have hS : va_S (fun q : Nat => s.heap.size ≤ q) s.heap s.heap [] := va_S.rf
  have hP : va_P g.1 zcl (([] : va_W) ++ []) s.heap := fun k q h => by simp at h
  have hD : va_D (fun q : Nat => s.heap.size ≤ q) (([] : va_W) ++ []) := ⟨fun i j x y hi => by simp at hi, fun k q h => by simp at h⟩
  have ga0 : g.2.1 0 = s.heap.size := hga 0
  have ga64 : g.2.1 64 = s.heap.size + 64 := hga 64
  have ga580 : g.2.1 580 = s.heap.size + 580 := hga 580
  refine zIn (N := 13) (ci := 9) (fs := [.null, .null, .null, .null, .null, .null, .null, .null, .null, .null, .int 0, .int 0, .int 0]) (b := s.heap.size) hC hAO uin_X9 tyX9 tyX9_ok mw_159 mw_160 mw_135 hP hD hS hBB (fun q h => h) rfl zfs_X9 rfl (ci_X9 hZ l (hBB _ (Nat.le_refl _)) (Nat.lt_succ_self _)) (hC.ml mw_161) yi_X9 hl.1 (Nat.le_of_ble_eq_true rfl) ⟨Nat.le_of_ble_eq_true rfl, Nat.le_of_ble_eq_true rfl⟩ ⟨Nat.le_of_ble_eq_true rfl, Nat.le_of_ble_eq_true rfl⟩ dL_law__0 dL_law__3 dL_law__4 (fun H locs hP hD hS hh => ?_)
  have hh : H.size = s.heap.size + 64 := hh
  refine W.widen (k := 64) (n := 6029) (Nat.le_of_ble_eq_true rfl) (Nat.le_of_ble_eq_true rfl) ?_
  have hP : va_P g.1 zcl (zX g (fun _ => 0) 0 0 0 0 0 0 (-1) (fun _ => 0) (fun _ => 0) (fun _ => 0) (fun _ _ => 0) 0 0 (zUk (fun _ => 0)) (zUv (fun _ => 0)) (fun _ => 0) (nI 5) (fun _ => 0) (fun _ => 0) (fun _ => 0) (fun _ => 0) (fun _ => 0) (fun _ => 0) (fun _ => 0) 0 0 100 (fun _ => 0) (fun _ => 0) (fun _ => 0) (fun _ => 0) (fun _ => 0) (fun _ => 0) 0 0 100 (fun _ => 0) (fun _ => 0) (fun _ => 0) (fun _ _ => 0) 0 0 (zUk (fun _ => 0)) (zUv (fun _ => 0)) (fun _ => 0) (nI 5) (fun _ => 0) (fun _ => 0) (fun _ => 0) 0 0 0 0 0 0 (fun _ => 0) (fun _ _ => 0) 0 0 (fun _ => 0) (fun _ => 0) (fun _ => 0) (fun _ => 0) (fun _ => 0) 0 0 0 0 0 0 0 0 0 ++ []) H := by
    rw [List.nil_append, List.nil_append, zX_eq ga0.symm (fun k v h => by rw [hga, h]; omega)] at hP
    rw [List.append_nil]
    exact hP
  have hD : va_D (fun q : Nat => s.heap.size ≤ q) (zX g (fun _ => 0) 0 0 0 0 0 0 (-1) (fun _ => 0) (fun _ => 0) (fun _ => 0) (fun _ _ => 0) 0 0 (zUk (fun _ => 0)) (zUv (fun _ => 0)) (fun _ => 0) (nI 5) (fun _ => 0) (fun _ => 0) (fun _ => 0) (fun _ => 0) (fun _ => 0) (fun _ => 0) (fun _ => 0) 0 0 100 (fun _ => 0) (fun _ => 0) (fun _ => 0) (fun _ => 0) (fun _ => 0) (fun _ => 0) 0 0 100 (fun _ => 0) (fun _ => 0) (fun _ => 0) (fun _ _ => 0) 0 0 (zUk (fun _ => 0)) (zUv (fun _ => 0)) (fun _ => 0) (nI 5) (fun _ => 0) (fun _ => 0) (fun _ => 0) 0 0 0 0 0 0 (fun _ => 0) (fun _ _ => 0) 0 0 (fun _ => 0) (fun _ => 0) (fun _ => 0) (fun _ => 0) (fun _ => 0) 0 0 0 0 0 0 0 0 0 ++ []) := by
    rw [List.nil_append, List.nil_append, zX_eq ga0.symm (fun k v h => by rw [hga, h]; omega)] at hD
    rw [List.append_nil]
    exact hD
  refine lv_astore_n (lv' := [(1, .ref s.heap.size), (0, .ref b)]) hx hb dL_law__7 rfl hl (by decide) rfl (fun ls hl => ?_)
  refine zIn (N := 42) (ci := 10) (fs := [.int 0, .int 0, .int 0, .int 0, .int 0, .int 0, .int 0, .int 0, .int 0, .null, .null, .null, .null, .null, .null, .null, .null, .null, .null, .int 0, .int 0, .null, .null, .null, .null, .null, .int 0, .null, .null, .null, .null, .int 0, .int 0, .int 0, .int 0, .int 0, .int 0, .null, .null, .null, .int 0, .int 0]) (b := g.2.1 64) (Fs := zM g 0 0 0 (-1) 0 0 0 0 0 (fun _ => 0) (fun _ => 0) rT td (fun _ _ => 0) bst (fun _ _ => 0) gte (fun _ _ => 0) lst (nI 0) 0 (fun _ _ => 0) (fun _ _ => 0) (fun _ => 0) (fun _ => 0) (fun _ _ => 0) 0 now (fun _ => 0) (fun _ _ => 0) (fun _ _ => 0) (nI 0) (nI 0) (nI 0) 0 0 0 (fun _ => 0) (fun _ => 0) (fun _ => 0) 0 0) (Rs := []) hC hAO uin_X10 tyX10 tyX10_ok mw_1371 mw_1372 mw_145 hP hD hS hBB (fun q h => by have := ga64; show s.heap.size ≤ q; omega) rfl zfs_X10 (by rw [hh, ga64]) (by rw [List.append_nil]; exact ci_X10 hZ l (hBB _ (hAd 64 (by omega))) hI hga (by rw [ga64]) ht hbg) (hC.ml mw_1373) yi_X10 hl.1 (Nat.le_of_ble_eq_true rfl) ⟨Nat.le_of_ble_eq_true rfl, Nat.le_of_ble_eq_true rfl⟩ ⟨Nat.le_of_ble_eq_true rfl, Nat.le_of_ble_eq_true rfl⟩ dL_law__8 dL_law__11 dL_law__12 (fun H locs hP hD hS hh => ?_)
  have hh : H.size = s.heap.size + 580 := by rw [hh, ga64]
  have hP : va_P g.1 zcl (zX g (fun _ => 0) 0 0 0 0 0 0 (-1) (fun _ => 0) (fun _ => 0) (fun _ => 0) (fun _ _ => 0) 0 0 (zUk (fun _ => 0)) (zUv (fun _ => 0)) (fun _ => 0) (nI 5) (fun _ => 0) (fun _ => 0) (fun _ => 0) (fun _ => 0) (fun _ => 0) (fun _ => 0) (fun _ => 0) 0 0 100 (fun _ => 0) (fun _ => 0) (fun _ => 0) (fun _ => 0) (fun _ => 0) (fun _ => 0) 0 0 100 (fun _ => 0) (fun _ => 0) (fun _ => 0) (fun _ _ => 0) 0 0 (zUk (fun _ => 0)) (zUv (fun _ => 0)) (fun _ => 0) (nI 5) (fun _ => 0) (fun _ => 0) (fun _ => 0) 0 0 0 0 0 0 (fun _ => 0) (fun _ _ => 0) 0 0 (fun _ => 0) (fun _ => 0) (fun _ => 0) (fun _ => 0) (fun _ => 0) 0 0 0 0 0 0 0 0 0 ++ zM g 0 0 0 (-1) 0 0 0 0 0 (fun _ => 0) (fun _ => 0) rT td (fun _ _ => 0) bst (fun _ _ => 0) gte (fun _ _ => 0) lst (nI 0) 0 (fun _ _ => 0) (fun _ _ => 0) (fun _ => 0) (fun _ => 0) (fun _ _ => 0) 0 now (fun _ => 0) (fun _ _ => 0) (fun _ _ => 0) (nI 0) (nI 0) (nI 0) 0 0 0 (fun _ => 0) (fun _ => 0) (fun _ => 0) 0 0) H := by
    rw [List.append_nil, List.append_nil] at hP
    exact hP
  refine W.widen (k := 580) (n := 12155) (Nat.le_of_ble_eq_true rfl) (Nat.le_of_ble_eq_true rfl) ?_
  refine lv_astore_n (lv' := [(2, .ref (g.2.1 64)), (1, .ref s.heap.size), (0, .ref b)]) hx hb dL_law__15 rfl hl (by decide) rfl (fun ls hl => ?_)
  refine lv_iconst (v := 1) hx hb dL_law__16 (by decide) ?_
  refine zNewL hC hP hS (n := 1) (N := 1) hh (by decide) (by decide) (by decide) (Nat.le_of_ble_eq_true rfl) (Nat.le_of_ble_eq_true rfl) dL_law__17 (fun H hP hS => ?_)
  refine W.widen (k := 581) (n := 12156) (Nat.le_of_ble_eq_true rfl) (Nat.le_of_ble_eq_true rfl) ?_
  refine lv_astore_n (lv' := [(3, .ref (s.heap.size + 580)), (2, .ref (g.2.1 64)), (1, .ref s.heap.size), (0, .ref b)]) hx hb dL_law__19 rfl hl (by decide) rfl (fun ls hl => ?_)
  refine lv_iconst (v := 0) hx hb dL_law__20 (by decide) ?_
  refine lv_istore (lv' := [(4, .int 0), (3, .ref (s.heap.size + 580)), (2, .ref (g.2.1 64)), (1, .ref s.heap.size), (0, .ref b)]) hx hb dL_law__21 hl (by decide) rfl (fun ls hl => ?_)
  have hl := lv_sub hl [4, 3, 2, 1, 0] rfl
  rw [← ga580, ← ga0] at hl
  refine mL_loop hl0 hI hC hX hbl ⟨Nat.le_of_ble_eq_true rfl, Nat.le_of_ble_eq_true rfl⟩ hBB hAd hL 70001 (fun _ => 0) hend 513 0 (fun _ => 0) 0 0 0 0 0 0 (-1) (fun _ => 0) (fun _ => 0) (fun _ => 0) (fun _ _ => 0) 0 0 (zUk (fun _ => 0)) (zUv (fun _ => 0)) (fun _ => 0) (nI 5) (fun _ => 0) (fun _ => 0) (fun _ => 0) (fun _ => 0) (fun _ => 0) (fun _ => 0) (fun _ => 0) 0 0 100 (fun _ => 0) (fun _ => 0) (fun _ => 0) (fun _ => 0) (fun _ => 0) (fun _ => 0) 0 0 100 (fun _ => 0) (fun _ => 0) (fun _ => 0) (fun _ _ => 0) 0 0 (zUk (fun _ => 0)) (zUv (fun _ => 0)) (nI 5) (fun _ => 0) (fun _ => 0) (fun _ => 0) 0 0 0 0 0 0 (fun _ => 0) (fun _ _ => 0) 0 0 (fun _ => 0) (fun _ => 0) (fun _ => 0) (fun _ => 0) (fun _ => 0) 0 0 0 0 0 0 0 0 0 0 0 0 (-1) 0 0 0 0 0 (fun _ => 0) (fun _ => 0) rT td (fun _ _ => 0) bst (fun _ _ => 0) gte (fun _ _ => 0) lst (nI 0) 0 (fun _ _ => 0) (fun _ _ => 0) (fun _ => 0) (fun _ => 0) (fun _ _ => 0) 0 now (fun _ => 0) (fun _ _ => 0) (fun _ _ => 0) (nI 0) (nI 0) (nI 0) 0 0 0 (fun _ => 0) (fun _ => 0) (fun _ => 0) 0 0 (fun _ => 0) 0 rfl (by omega) (jpL_loop (by omega) hL xs (fun _ => 0) 512 0 513 (fun _ => 0) 0 0 0 0 0 0 (-1) (fun _ => 0) (fun _ => 0) (fun _ => 0) (fun _ _ => 0) 0 0 (zUk (fun _ => 0)) (zUv (fun _ => 0)) (fun _ => 0) (nI 5) (fun _ => 0) (fun _ => 0) (fun _ => 0) (fun _ => 0) (fun _ => 0) (fun _ => 0) (fun _ => 0) 0 0 100 (fun _ => 0) (fun _ => 0) (fun _ => 0) (fun _ => 0) (fun _ => 0) (fun _ => 0) 0 0 100 (fun _ => 0) (fun _ => 0) (fun _ => 0) (fun _ _ => 0) 0 0 (zUk (fun _ => 0)) (zUv (fun _ => 0)) (nI 5) (fun _ => 0) (fun _ => 0) (fun _ => 0) 0 0 0 0 0 0 (fun _ => 0) (fun _ _ => 0) 0 0 (fun _ => 0) (fun _ => 0) (fun _ => 0) (fun _ => 0) (fun _ => 0) 0 0 0 0 0 0 0 0 0 0 0 0 (-1) 0 0 0 0 0 (fun _ => 0) (fun _ => 0) rT td (fun _ _ => 0) bst (fun _ _ => 0) gte (fun _ _ => 0) lst (nI 0) 0 (fun _ _ => 0) (fun _ _ => 0) (fun _ => 0) (fun _ => 0) (fun _ _ => 0) 0 now (fun _ => 0) (fun _ _ => 0) (fun _ _ => 0) (nI 0) (nI 0) (nI 0) 0 0 0 (fun _ => 0) (fun _ => 0) (fun _ => 0) 0 0 (fun _ => 0) (by omega) (by omega) (by omega) hJ) 581 12156 ⟨Nat.le_of_ble_eq_true rfl, Nat.le_of_ble_eq_true rfl⟩ H locs ls ⟨zleft (zleft hP), zright (zleft hP), ?_⟩ hS hl
  have h9 := zright hP
  unfold zO
  rw [ga580]
  exact h9
