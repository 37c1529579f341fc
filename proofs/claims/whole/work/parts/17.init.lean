/-! DRAFT, not yet compiled: rules for constructors; the addresses are known -/
section ZINI
variable {p : Program} {l : Launch} {e : Env} {R : Room} {s : State} {m : MethodId} {args : Array Value} {below : List Frame} {meth : Method} {c : Code} {H : Heap} {locs : List Loc} {cells slots : Nat} {Q : State → Prop}
variable {g : zG} {own : String} {cc : ByteArray} {nL : Nat} {ret : Option FieldType} {pc : Nat} {ls : Array Slot} {rest : List Value} {A : Nat → Prop} {ws : va_W} {H0 : Heap}
/-- the list's addresses: h0, then sz, sz+1, .. in the order of allocation -/
theorem zDseq {h0 sz n : Nat} (h : ws.map Prod.fst = h0 :: (List.range n).map (fun k => sz + k)) (hlt : h0 < sz) (hA0 : A h0) (hA : ∀ q, sz ≤ q → A q) : va_D A ws := by
  have hat : ∀ (k : Nat) (q : Nat × va_E), ws[k]? = some q → (k = 0 ∧ q.1 = h0) ∨ (∃ j, k = j + 1 ∧ q.1 = sz + j) := fun k q hq => by
    have h1 : (ws.map Prod.fst)[k]? = some q.1 := by rw [List.getElem?_map, hq]; rfl
    rw [h] at h1
    cases k with
    | zero => exact Or.inl ⟨rfl, (Option.some.inj h1).symm⟩
    | succ j =>
      rw [List.getElem?_cons_succ, List.getElem?_map] at h1
      by_cases hj : j < n
      · rw [List.getElem?_range hj] at h1
        exact Or.inr ⟨j, rfl, (Option.some.inj h1).symm⟩
      · rw [List.getElem?_eq_none (by simp; omega)] at h1
        cases h1
  refine ⟨fun i j x y hi hj e => ?_, fun k q hq => ?_⟩
  · rcases hat i x hi with ⟨a1, a2⟩ | ⟨i', a1, a2⟩ <;> rcases hat j y hj with ⟨b1, b2⟩ | ⟨j', b1, b2⟩ <;> omega
  · rcases hat k q hq with ⟨a1, a2⟩ | ⟨j, a1, a2⟩
    · rw [a2]; exact hA0
    · rw [a2]; exact hA _ (by omega)
/-- new int[n] -/
theorem zNewA (hC : zC g own cc nL ret p s m meth c args) (harr : (Cond.arrayClass .int).before args s = true) (hP : va_P g.1 zcl ws H) (hS : va_S A H0 H locs)
    {n : Int32} {N h : Nat} (hh : H.size = h) (hn : ¬ n < 0) (hN : n.toNatClampNeg = N) (hbytes : N * 4 ≤ 536870912) (hcells : cells + 1 ≤ R.cells) (hslots : slots + N ≤ R.slots) (hdg : decode cc pc = .ok (.newarray .int, 2))
    (kk : ∀ (H1 : Heap), va_P g.1 zcl (ws ++ [(h, .inl (g.2.2.1, N, .inl (fun _ => 0)))]) H1 → H1.size = h + 1 → va_S A H0 H1 locs → W p l e R s m args below meth c H1 locs (cells + 1) (slots + N) Q (F0 m (pc + 2) ls (.ref h :: rest))) : W p l e R s m args below meth c H locs cells slots Q (F0 m pc ls (.int n :: rest)) := by
  obtain ⟨hx, hb, hr, hml, hown, hts, hK, hlk, hST⟩ := id hC
  refine va_newaK (atype := .int) hx hb harr rfl hdg rfl hn hN hbytes hcells hslots hh fun H1 cA e1 z1 o1 hAr hNm => ?_
  have hk : ∀ (k : Nat) (x : Nat × va_E), ws[k]? = some x → H1[x.1]? = H[x.1]? := fun k x hx => o1 x.1 (by have := (hP k x hx).lt; omega)
  have hcA : cA = g.2.2.1 := Option.some.inj (hNm.symm.trans (hK.1.2 0 _ rfl).2)
  subst hcA
  refine kk H1 ((hP.kept hk).app (fun k x hx => ?_)) z1 ⟨Nat.le_trans hS.1 (by omega), fun x h1 h2 => (o1 x (Nat.lt_of_lt_of_le h1 (hh ▸ hS.1))).trans (hS.2.1 x h1 h2), hS.2.2⟩
  have hz : k < 1 := (List.getElem?_eq_some_iff.mp hx).1
  rw [show k = 0 by omega] at hx
  cases hx
  show H1[h]? = some (vp_cell _ _)
  rw [vp_cell_i]
  exact e1
/-- new C -/
theorem zNewO (hC : zC g own cc nL ret p s m meth c args) {C : String} {T : u_T} {N ci index : Nat} (hin : ∀ w ∈ u_ws C T N, w ∈ AW) (ty : Nat → FieldType) (hty : ∀ k, k < N → parseFieldDescriptor (T k).2.2.1 = some (ty k)) (hcl : (Cond.classLink own index C).before args s = true) (hinst : (Cond.instantiable C N).before args s = true) (hini : (Cond.initialized C).before args s = true)
    (hP : va_P g.1 zcl ws H) (hS : va_S A H0 H locs) (hc : zcl[ci]? = some (C, T, N)) {fs : List Value} (hfs : ∀ j, j < N → defaultValue (ty j) = vp_V fs j) {h : Nat} (hh : H.size = h) (hcells : cells + 1 ≤ R.cells) (hslots : slots + N ≤ R.slots) (hdg : decode cc pc = .ok (.new index, 3))
    (kk : ∀ (H1 : Heap), va_P g.1 zcl (ws ++ [(h, .inr (ci, fs))]) H1 → H1.size = h + 1 → va_S A H0 H1 locs → W p l e R s m args below meth c H1 locs (cells + 1) (slots + N) Q (F0 m (pc + 3) ls (.ref h :: rest))) : W p l e R s m args below meth c H locs cells slots Q (F0 m pc ls rest) := by
  obtain ⟨hx, hb, hr, hml, hown, hts, hK, hlk, hST⟩ := id hC
  subst hh
  have hKn := hK.1.1 ci _ hc
  refine W.newcK hx hb hown hcl hinst hini rfl hdg hcells hslots hKn.2.1 rfl fun H1 kC hkC e1 z1 o1 => ?_
  have hk : ∀ (k : Nat) (x : Nat × va_E), ws[k]? = some x → H1[x.1]? = H[x.1]? := fun k x hx => o1 x.1 ((hP k x hx).lt)
  refine kk H1 ((hP.kept hk).app (fun k x hx => ?_)) z1 ⟨Nat.le_trans hS.1 (by omega), fun x h1 h2 => (o1 x (Nat.lt_of_lt_of_le h1 hS.1)).trans (hS.2.1 x h1 h2), hS.2.2⟩
  have hz : k < 1 := (List.getElem?_eq_some_iff.mp hx).1
  rw [show k = 0 by omega] at hx
  cases hx
  exact ⟨_, hc, (u_born ty hts hin hKn hkC e1 hty).to hfs⟩
end ZINI
