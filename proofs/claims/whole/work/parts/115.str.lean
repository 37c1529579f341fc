/-! texts: length and charAt of the class file's own strings -/
abbrev cS_length : ByteArray := prog_22_method_54_code
def yS_length : MethodName := ⟨"java/lang/String", "length", "()I"⟩
abbrev cS_coder : ByteArray := prog_22_method_152_code
def yS_coder : MethodName := ⟨"java/lang/String", "coder", "()B"⟩
abbrev cS_charAt : ByteArray := prog_22_method_56_code
def yS_charAt : MethodName := ⟨"java/lang/String", "charAt", "(I)C"⟩
abbrev cS_isLatin1 : ByteArray := prog_22_method_154_code
def yS_isLatin1 : MethodName := ⟨"java/lang/String", "isLatin1", "()Z"⟩
abbrev cS_lcharAt : ByteArray := prog_23_method_2_code
def yS_lcharAt : MethodName := ⟨"java/lang/StringLatin1", "charAt", "([BI)C"⟩
abbrev cS_checkIndex : ByteArray := prog_22_method_155_code
def yS_checkIndex : MethodName := ⟨"java/lang/String", "checkIndex", "(II)V"⟩
abbrev cS_pci : ByteArray := prog_30_method_11_code
def yS_pci : MethodName := ⟨"jdk/internal/util/Preconditions", "checkIndex", "(IILjava/util/function/BiFunction;)I"⟩
theorem dS_length_0 : decode cS_length 0 = .ok (.aload_n 0, 1) := by decide +kernel
theorem dS_length_1 : decode cS_length 1 = .ok (.getfield 9, 3) := by decide +kernel
theorem dS_length_4 : decode cS_length 4 = .ok (.arraylength, 1) := by decide +kernel
theorem dS_length_5 : decode cS_length 5 = .ok (.aload_n 0, 1) := by decide +kernel
theorem dS_length_6 : decode cS_length 6 = .ok (.invokevirtual 335, 3) := by decide +kernel
theorem dS_length_9 : decode cS_length 9 = .ok (.ishr, 1) := by decide +kernel
theorem dS_length_10 : decode cS_length 10 = .ok (.ireturn, 1) := by decide +kernel
theorem dS_coder_0 : decode cS_coder 0 = .ok (.getstatic 38, 3) := by decide +kernel
theorem dS_coder_3 : decode cS_coder 3 = .ok (.ifCond .eq 10, 3) := by decide +kernel
theorem dS_coder_6 : decode cS_coder 6 = .ok (.aload_n 0, 1) := by decide +kernel
theorem dS_coder_7 : decode cS_coder 7 = .ok (.getfield 15, 3) := by decide +kernel
theorem dS_coder_10 : decode cS_coder 10 = .ok (.goto 4, 3) := by decide +kernel
theorem dS_coder_14 : decode cS_coder 14 = .ok (.ireturn, 1) := by decide +kernel
theorem dS_isLatin1_0 : decode cS_isLatin1 0 = .ok (.getstatic 38, 3) := by decide +kernel
theorem dS_isLatin1_3 : decode cS_isLatin1 3 = .ok (.ifCond .eq 14, 3) := by decide +kernel
theorem dS_isLatin1_6 : decode cS_isLatin1 6 = .ok (.aload_n 0, 1) := by decide +kernel
theorem dS_isLatin1_7 : decode cS_isLatin1 7 = .ok (.getfield 15, 3) := by decide +kernel
theorem dS_isLatin1_10 : decode cS_isLatin1 10 = .ok (.ifCond .ne 7, 3) := by decide +kernel
theorem dS_isLatin1_13 : decode cS_isLatin1 13 = .ok (.iconst 1, 1) := by decide +kernel
theorem dS_isLatin1_14 : decode cS_isLatin1 14 = .ok (.goto 4, 3) := by decide +kernel
theorem dS_isLatin1_18 : decode cS_isLatin1 18 = .ok (.ireturn, 1) := by decide +kernel
theorem dS_charAt_0 : decode cS_charAt 0 = .ok (.aload_n 0, 1) := by decide +kernel
theorem dS_charAt_1 : decode cS_charAt 1 = .ok (.invokevirtual 492, 3) := by decide +kernel
theorem dS_charAt_4 : decode cS_charAt 4 = .ok (.ifCond .eq 12, 3) := by decide +kernel
theorem dS_charAt_7 : decode cS_charAt 7 = .ok (.aload_n 0, 1) := by decide +kernel
theorem dS_charAt_8 : decode cS_charAt 8 = .ok (.getfield 9, 3) := by decide +kernel
theorem dS_charAt_11 : decode cS_charAt 11 = .ok (.iload_n 1, 1) := by decide +kernel
theorem dS_charAt_12 : decode cS_charAt 12 = .ok (.invokestatic 495, 3) := by decide +kernel
theorem dS_charAt_15 : decode cS_charAt 15 = .ok (.ireturn, 1) := by decide +kernel
theorem dS_lcharAt_0 : decode cS_lcharAt 0 = .ok (.iload_n 1, 1) := by decide +kernel
theorem dS_lcharAt_1 : decode cS_lcharAt 1 = .ok (.aload_n 0, 1) := by decide +kernel
theorem dS_lcharAt_2 : decode cS_lcharAt 2 = .ok (.arraylength, 1) := by decide +kernel
theorem dS_lcharAt_3 : decode cS_lcharAt 3 = .ok (.invokestatic 9, 3) := by decide +kernel
theorem dS_lcharAt_6 : decode cS_lcharAt 6 = .ok (.aload_n 0, 1) := by decide +kernel
theorem dS_lcharAt_7 : decode cS_lcharAt 7 = .ok (.iload_n 1, 1) := by decide +kernel
theorem dS_lcharAt_8 : decode cS_lcharAt 8 = .ok (.baload, 1) := by decide +kernel
theorem dS_lcharAt_9 : decode cS_lcharAt 9 = .ok (.sipush 255, 3) := by decide +kernel
theorem dS_lcharAt_12 : decode cS_lcharAt 12 = .ok (.iand, 1) := by decide +kernel
theorem dS_lcharAt_13 : decode cS_lcharAt 13 = .ok (.i2c, 1) := by decide +kernel
theorem dS_lcharAt_14 : decode cS_lcharAt 14 = .ok (.ireturn, 1) := by decide +kernel
theorem dS_checkIndex_0 : decode cS_checkIndex 0 = .ok (.iload_n 0, 1) := by decide +kernel
theorem dS_checkIndex_1 : decode cS_checkIndex 1 = .ok (.iload_n 1, 1) := by decide +kernel
theorem dS_checkIndex_2 : decode cS_checkIndex 2 = .ok (.getstatic 1053, 3) := by decide +kernel
theorem dS_checkIndex_5 : decode cS_checkIndex 5 = .ok (.invokestatic 1059, 3) := by decide +kernel
theorem dS_checkIndex_8 : decode cS_checkIndex 8 = .ok (.pop, 1) := by decide +kernel
theorem dS_checkIndex_9 : decode cS_checkIndex 9 = .ok (.return_, 1) := by decide +kernel
theorem dS_pci_0 : decode cS_pci 0 = .ok (.iload_n 0, 1) := by decide +kernel
theorem dS_pci_1 : decode cS_pci 1 = .ok (.ifCond .lt 8, 3) := by decide +kernel
theorem dS_pci_4 : decode cS_pci 4 = .ok (.iload_n 0, 1) := by decide +kernel
theorem dS_pci_5 : decode cS_pci 5 = .ok (.iload_n 1, 1) := by decide +kernel
theorem dS_pci_6 : decode cS_pci 6 = .ok (.if_icmp .lt 10, 3) := by decide +kernel
theorem dS_pci_16 : decode cS_pci 16 = .ok (.iload_n 0, 1) := by decide +kernel
theorem dS_pci_17 : decode cS_pci 17 = .ok (.ireturn, 1) := by decide +kernel
theorem yo_S_length : zYV yS_length cS_length 1 (some .int) 0 := ⟨mw_694, mw_695, mw_151, mw_696, by decide +kernel, by decide +kernel, by decide +kernel⟩
theorem yo_S_coder : zYV yS_coder cS_coder 1 (some .byte) 0 := ⟨mw_698, mw_699, mw_151, mw_700, by decide +kernel, by decide +kernel, by decide +kernel⟩
theorem yo_S_charAt : zYV yS_charAt cS_charAt 2 (some .char) 1 := ⟨mw_704, mw_705, mw_151, mw_706, by decide +kernel, by decide +kernel, by decide +kernel⟩
theorem yo_S_isLatin1 : zYV yS_isLatin1 cS_isLatin1 1 (some .boolean) 0 := ⟨mw_708, mw_709, mw_151, mw_710, by decide +kernel, by decide +kernel, by decide +kernel⟩
theorem yo_S_lcharAt : zYS yS_lcharAt cS_lcharAt 2 (some .char) 2 := ⟨mw_712, mw_152, mw_713, by decide +kernel, by decide +kernel, by decide +kernel⟩
theorem yo_S_checkIndex : zYS yS_checkIndex cS_checkIndex 2 none 2 := ⟨mw_715, mw_151, mw_716, by decide +kernel, by decide +kernel, by decide +kernel⟩
theorem yo_S_pci : zYS yS_pci cS_pci 3 (some .int) 3 := ⟨mw_720, mw_153, mw_721, by decide +kernel, by decide +kernel, by decide +kernel⟩
theorem zsl_small : ∀ w, w < 22 → (zslen.getD w 0 < 64) := by decide +kernel
theorem zsl_shr : ∀ w, w < 22 → zsl w >>> ((0 : Int32) &&& 31) = zsl w := by decide +kernel
theorem zsc_ok : ∀ w, w < 22 → ∀ j, j < 64 → ((((zsbyt.getD w []).getD j 0) &&& 255).toUInt32.toUInt16.toUInt32.toInt32 = (zsbyt.getD w []).getD j 0) := by decide +kernel
section ZSTR
variable {p : Program} {l : Launch} {e : Env} {R : Room} {s : State} {m : MethodId} {args : Array Value} {below : List Frame} {meth : Method} {c : Code} {H : Heap} {locs : List Loc} {cells slots : Nat} {Q : State → Prop}
variable {g : zG} {own : String} {cc : ByteArray} {nL : Nat} {ret0 : Option FieldType} {pc : Nat} {ls : Array Slot} {st0 rest As : List Value} {A0 : Nat → Prop}
variable {y : MethodName} {bytes : ByteArray} {maxL index n k : Nat} {ret : Option FieldType}
theorem zcallPV {r : Int32} {w : Nat} (hw0 : w < 22) (hC : zC g own cc nL ret0 p s m meth c args) (hS : va_S A0 s.heap H locs) (hB : ∀ q, A0 q → zB g q) (hM : zMp l y bytes maxL ret k g (.ref (g.2.2.2.2.2.1 w) :: As) r) (hl : zML own index y s) (hy : zYV y bytes maxL ret n) (hyc : y.cls = "java/lang/String") (hn : As.length = n) (hls : ls.size = nL) (hst : st0 = As.reverse ++ .ref (g.2.2.2.2.2.1 w) :: rest) (hw : (rest.map fun v => v.category).sum ≤ 8) (hR : k + 1 ≤ R.frames ∧ 8 + (maxL + 11) + 60 * k ≤ R.locals) (hcs : cells ≤ R.cells ∧ slots ≤ R.slots) (hdg : decode cc pc = .ok (.invokevirtual index, 3))
    (kk : ∀ (H1 : Heap) (locs1 : List Loc), (∀ (D : va_G) (cl : List vw_C) (w : va_W), va_P D cl w H → va_P D cl w H1) → va_S A0 s.heap H1 locs1 → H.size ≤ H1.size → W p l e R s m args below meth c H1 locs1 cells slots Q (F0 m (pc + 3) ls (.int r :: rest))) : W p l e R s m args below meth c H locs cells slots Q (F0 m pc ls st0) := by
  have hST := hC.2.2.2.2.2.2.2.2
  have hrecv := vk_recv (vk_S.narrow hST.2.1 hB) hw0 hS
  rw [← hyc] at hrecv
  refine va_calli (zrunV (As := As) (rest := rest) hC hM hl hy rfl rfl hR ⟨fun a U f mk h => ⟨h.1, h.2.1.calling, h.2.2.calling⟩, hrecv, fun U hU hW => ⟨rfl, hC.2.2.2.2.2.2.1.warm hW, hST.to hB hS hU hW⟩⟩ hn hls hst hw hdg hcs) hS (fun q _ h => h.elim) (fun q h => h.elim) (fun r1 u t H1 locs1 ht hv hp hb hz hk hS1 => ?_)
  subst hp
  exact kk H1 locs1 (fun D cl w hw => hw.kept (fun j q hj => hk q.1 ((hw j q hj).lt) (fun h => h))) hS1 hz
end ZSTR
set_option maxHeartbeats 4000000 in
theorem cS_c_coder (l : Launch) {g : zG} {w : Nat} (hw : w < 22) : zMp l yS_coder cS_coder 1 (some .byte) 1 g [.ref (g.2.2.2.2.2.1 w)] 0 := by
  refine Met.ofW (cc := cS_coder) (maxL := 1) (ret := (some .byte)) (by decide +kernel) rfl ?_
  intro p e s m args below meth c s₁ B hml hv
  obtain ⟨rfl, hK, hST⟩ := hv
  have hC := zstart (g := g) (own := _) rfl B hml hK hST
  have hl := lv_entry ([.ref (g.2.2.2.2.2.1 w)]) (n := 1) (Nat.le_of_ble_eq_true rfl)
  rw [lg_entry_eq]
  generalize (lg_sl ([.ref (g.2.2.2.2.2.1 w)]) ++ List.replicate (1 - (lg_sl ([.ref (g.2.2.2.2.2.1 w)])).length) Slot.unset).toArray = ls at hl ⊢
  obtain ⟨hx, hb, hr, hml, hown, hts, hK, hlk, hST⟩ := id hC
  have hS : va_S (fun _ => False) s.heap s.heap [] := va_S.rf
  have hBf : ∀ q, (fun _ : Nat => False) q → zB g q := fun q h => h.elim
  have hE := vk_S.narrow hST.2.1 hBf
  have hl : lv_has ls 1 [(0, .ref (g.2.2.2.2.2.1 w))] := hl
  refine va_gets hx hb (va_Z.narrow hST.2.2.2.1 hBf) hS hown (hts _ mw_701) (fun _ h9 => h9) dS_coder_0 ?_
  refine lv_if_eq (tgt := 13) hx hb dS_coder_3 (by decide) (fun hc => absurd hc (by decide)) (fun _ => ?_)
  refine lv_aload_n hx hb dS_coder_6 rfl (lv_at hl 0 rfl) ?_
  refine vk_getf hx hb (hE.1 w hw).2.1 hS hown (hts _ mw_1951) (fun _ h9 => h9) dS_coder_7 ?_
  refine lv_goto (tgt := 14) hx hb dS_coder_10 (by decide) ?_
  exact W.zret hx hb hr rfl (fun t ht hW => ⟨⟨_, (), rfl, rfl, trivial⟩, hS.F ht⟩) hS.2.2 dS_coder_14 hlk
set_option maxHeartbeats 4000000 in
theorem cS_c_isLatin1 (l : Launch) {g : zG} {w : Nat} (hw : w < 22) : zMp l yS_isLatin1 cS_isLatin1 1 (some .boolean) 1 g [.ref (g.2.2.2.2.2.1 w)] 1 := by
  refine Met.ofW (cc := cS_isLatin1) (maxL := 1) (ret := (some .boolean)) (by decide +kernel) rfl ?_
  intro p e s m args below meth c s₁ B hml hv
  obtain ⟨rfl, hK, hST⟩ := hv
  have hC := zstart (g := g) (own := _) rfl B hml hK hST
  have hl := lv_entry ([.ref (g.2.2.2.2.2.1 w)]) (n := 1) (Nat.le_of_ble_eq_true rfl)
  rw [lg_entry_eq]
  generalize (lg_sl ([.ref (g.2.2.2.2.2.1 w)]) ++ List.replicate (1 - (lg_sl ([.ref (g.2.2.2.2.2.1 w)])).length) Slot.unset).toArray = ls at hl ⊢
  obtain ⟨hx, hb, hr, hml, hown, hts, hK, hlk, hST⟩ := id hC
  have hS : va_S (fun _ => False) s.heap s.heap [] := va_S.rf
  have hBf : ∀ q, (fun _ : Nat => False) q → zB g q := fun q h => h.elim
  have hE := vk_S.narrow hST.2.1 hBf
  have hl : lv_has ls 1 [(0, .ref (g.2.2.2.2.2.1 w))] := hl
  refine va_gets hx hb (va_Z.narrow hST.2.2.2.1 hBf) hS hown (hts _ mw_701) (fun _ h9 => h9) dS_isLatin1_0 ?_
  refine lv_if_eq (tgt := 17) hx hb dS_isLatin1_3 (by decide) (fun hc => absurd hc (by decide)) (fun _ => ?_)
  refine lv_aload_n hx hb dS_isLatin1_6 rfl (lv_at hl 0 rfl) ?_
  refine vk_getf hx hb (hE.1 w hw).2.1 hS hown (hts _ mw_1951) (fun _ h9 => h9) dS_isLatin1_7 ?_
  refine lv_if_ne (tgt := 17) hx hb dS_isLatin1_10 (by decide) (fun hc => absurd rfl hc) (fun _ => ?_)
  refine lv_iconst (v := 1) hx hb dS_isLatin1_13 (by decide) ?_
  refine lv_goto (tgt := 18) hx hb dS_isLatin1_14 (by decide) ?_
  exact W.zret hx hb hr rfl (fun t ht hW => ⟨⟨_, (), rfl, rfl, trivial⟩, hS.F ht⟩) hS.2.2 dS_isLatin1_18 hlk
set_option maxHeartbeats 4000000 in
theorem cS_c_length (l : Launch) {g : zG} {w : Nat} (hw : w < 22) : zMp l yS_length cS_length 1 (some .int) 2 g [.ref (g.2.2.2.2.2.1 w)] (zsl w) := by
  refine Met.ofW (cc := cS_length) (maxL := 1) (ret := (some .int)) (by decide +kernel) rfl ?_
  intro p e s m args below meth c s₁ B hml hv
  obtain ⟨rfl, hK, hST⟩ := hv
  have hC := zstart (g := g) (own := _) rfl B hml hK hST
  have hl := lv_entry ([.ref (g.2.2.2.2.2.1 w)]) (n := 1) (Nat.le_of_ble_eq_true rfl)
  rw [lg_entry_eq]
  generalize (lg_sl ([.ref (g.2.2.2.2.2.1 w)]) ++ List.replicate (1 - (lg_sl ([.ref (g.2.2.2.2.2.1 w)])).length) Slot.unset).toArray = ls at hl ⊢
  obtain ⟨hx, hb, hr, hml, hown, hts, hK, hlk, hST⟩ := id hC
  have hS : va_S (fun _ => False) s.heap s.heap [] := va_S.rf
  have hBf : ∀ q, (fun _ : Nat => False) q → zB g q := fun q h => h.elim
  have hE := vk_S.narrow hST.2.1 hBf
  have hl : lv_has ls 1 [(0, .ref (g.2.2.2.2.2.1 w))] := hl
  refine lv_aload_n hx hb dS_length_0 rfl (lv_at hl 0 rfl) ?_
  refine vk_getf hx hb (hE.1 w hw).2.2.1 hS hown (hts _ mw_1950) (fun _ h9 => h9) dS_length_1 ?_
  refine va_tlen hx hb (hE.1 w hw).2.2.2 hS (v := zsl w) rfl dS_length_4 ?_
  refine lv_aload_n hx hb dS_length_5 rfl (lv_at hl 0 rfl) ?_
  refine zcallPV (As := []) (rest := [.int (zsl w)]) hw hC hS hBf (cS_c_coder l hw) (hC.ml mw_697) yo_S_coder rfl rfl hl.1 rfl (Nat.le_of_ble_eq_true rfl) ⟨Nat.le_of_ble_eq_true rfl, Nat.le_of_ble_eq_true rfl⟩ ⟨Nat.le_refl _, Nat.le_refl _⟩ dS_length_6 (fun H locs hPk hS _ => ?_)
  refine lv_ishr hx hb dS_length_9 ?_
  rw [zsl_shr w hw]
  exact W.iret hx hb hr (fun t ht hW => ⟨⟨_, (), rfl, rfl, trivial⟩, hS.F ht⟩) hS.2.2 dS_length_10 hlk
abbrev zMpv (l : Launch) (y : MethodName) (cc : ByteArray) (nL : Nat) (ret : Option FieldType) (k : Nat) (g : zG) (av : List Value) : Prop :=
  Met l y (zW y cc nL ret) (zR k) (va_Pc av (fun U => zK g U ∧ zST g U)) (va_Qv (fun (_ : Unit) => True) (fun _ _ => True) (fun _ => False)) 0 0 (fun _ => False)
section ZSTV
variable {p : Program} {l : Launch} {e : Env} {R : Room} {s : State} {m : MethodId} {args : Array Value} {below : List Frame} {meth : Method} {c : Code} {H : Heap} {locs : List Loc} {cells slots : Nat} {Q : State → Prop}
variable {g : zG} {own : String} {cc : ByteArray} {nL : Nat} {ret0 : Option FieldType} {pc : Nat} {ls : Array Slot} {st0 rest As : List Value} {A0 : Nat → Prop}
variable {y : MethodName} {bytes : ByteArray} {maxL index n k : Nat} {ret : Option FieldType}
theorem zcallPv (hC : zC g own cc nL ret0 p s m meth c args) (hS : va_S A0 s.heap H locs) (hB : ∀ q, A0 q → zB g q) (hM : zMpv l y bytes maxL ret k g As) (hl : zML own index y s) (hy : zYS y bytes maxL ret n) (hn : As.length = n) (hls : ls.size = nL) (hst : st0 = As.reverse ++ rest) (hw : (rest.map fun v => v.category).sum ≤ 8) (hR : k + 1 ≤ R.frames ∧ 8 + (maxL + 11) + 60 * k ≤ R.locals) (hcs : cells ≤ R.cells ∧ slots ≤ R.slots) (hdg : decode cc pc = .ok (.invokestatic index, 3))
    (kk : ∀ (H1 : Heap) (locs1 : List Loc), (∀ (D : va_G) (cl : List vw_C) (w : va_W), va_P D cl w H → va_P D cl w H1) → va_S A0 s.heap H1 locs1 → H.size ≤ H1.size → W p l e R s m args below meth c H1 locs1 cells slots Q (F0 m (pc + 3) ls rest)) : W p l e R s m args below meth c H locs cells slots Q (F0 m pc ls st0) := by
  refine va_callv (zrunS (As := As) (rest := rest) hC hM hl hy rfl rfl hR ⟨fun a U f mk h => ⟨h.1, h.2.1.calling, h.2.2.calling⟩, fun U hU hW => ⟨rfl, hC.2.2.2.2.2.2.1.warm hW, hC.2.2.2.2.2.2.2.2.to hB hS hU hW⟩⟩ hn hls hst hw hdg hcs) hS (fun q _ h => h.elim) (fun q h => h.elim) (fun u t H1 locs1 ht hv hp hb hz hk hS1 => ?_)
  exact kk H1 locs1 (fun D cl w hw => hw.kept (fun j q hj => hk q.1 ((hw j q hj).lt) (fun h => h))) hS1 hz
end ZSTV
set_option maxHeartbeats 4000000 in
theorem cS_c_pci0 (l : Launch) {g : zG} {i n : Int32} (h0 : ¬ i < 0) (h1 : i < n) : zMp l yS_pci cS_pci 3 (some .int) 1 g [.int i, .int n, .null] i := by
  refine Met.ofW (cc := cS_pci) (maxL := 3) (ret := (some .int)) (by decide +kernel) rfl ?_
  intro p e s m args below meth c s₁ B hml hv
  obtain ⟨rfl, hK, hST⟩ := hv
  have hC := zstart (g := g) (own := _) rfl B hml hK hST
  have hl := lv_entry ([.int i, .int n, .null]) (n := 3) (Nat.le_of_ble_eq_true rfl)
  rw [lg_entry_eq]
  generalize (lg_sl ([.int i, .int n, .null]) ++ List.replicate (3 - (lg_sl ([.int i, .int n, .null])).length) Slot.unset).toArray = ls at hl ⊢
  obtain ⟨hx, hb, hr, hml, hown, hts, hK, hlk, hST⟩ := id hC
  have hS : va_S (fun _ => False) s.heap s.heap [] := va_S.rf
  have hBf : ∀ q, (fun _ : Nat => False) q → zB g q := fun q h => h.elim
  have hE := vk_S.narrow hST.2.1 hBf
  have hl : lv_has ls 3 [(0, .int i), (1, .int n)] := lv_sub hl [0, 1] rfl
  refine lv_iload_n hx hb dS_pci_0 rfl (lv_at hl 0 rfl) ?_
  refine lv_if_lt (tgt := 9) hx hb dS_pci_1 (by decide) (fun hc => absurd hc h0) (fun _ => ?_)
  refine lv_iload_n hx hb dS_pci_4 rfl (lv_at hl 0 rfl) ?_
  refine lv_iload_n hx hb dS_pci_5 rfl (lv_at hl 1 rfl) ?_
  refine lv_icmp_lt (tgt := 16) hx hb dS_pci_6 (by decide) (fun _ => ?_) (fun hc => absurd h1 hc)
  refine lv_iload_n hx hb dS_pci_16 rfl (lv_at hl 0 rfl) ?_
  exact W.iret hx hb hr (fun t ht hW => ⟨⟨_, (), rfl, rfl, trivial⟩, hS.F ht⟩) hS.2.2 dS_pci_17 hlk
set_option maxHeartbeats 4000000 in
theorem cS_c_pci1 (l : Launch) {g : zG} {i n : Int32} {t : Nat} (h0 : ¬ i < 0) (h1 : i < n) : zMp l yS_pci cS_pci 3 (some .int) 1 g [.int i, .int n, .ref t] i := by
  refine Met.ofW (cc := cS_pci) (maxL := 3) (ret := (some .int)) (by decide +kernel) rfl ?_
  intro p e s m args below meth c s₁ B hml hv
  obtain ⟨rfl, hK, hST⟩ := hv
  have hC := zstart (g := g) (own := _) rfl B hml hK hST
  have hl := lv_entry ([.int i, .int n, .ref t]) (n := 3) (Nat.le_of_ble_eq_true rfl)
  rw [lg_entry_eq]
  generalize (lg_sl ([.int i, .int n, .ref t]) ++ List.replicate (3 - (lg_sl ([.int i, .int n, .ref t])).length) Slot.unset).toArray = ls at hl ⊢
  obtain ⟨hx, hb, hr, hml, hown, hts, hK, hlk, hST⟩ := id hC
  have hS : va_S (fun _ => False) s.heap s.heap [] := va_S.rf
  have hBf : ∀ q, (fun _ : Nat => False) q → zB g q := fun q h => h.elim
  have hE := vk_S.narrow hST.2.1 hBf
  have hl : lv_has ls 3 [(0, .int i), (1, .int n)] := lv_sub hl [0, 1] rfl
  refine lv_iload_n hx hb dS_pci_0 rfl (lv_at hl 0 rfl) ?_
  refine lv_if_lt (tgt := 9) hx hb dS_pci_1 (by decide) (fun hc => absurd hc h0) (fun _ => ?_)
  refine lv_iload_n hx hb dS_pci_4 rfl (lv_at hl 0 rfl) ?_
  refine lv_iload_n hx hb dS_pci_5 rfl (lv_at hl 1 rfl) ?_
  refine lv_icmp_lt (tgt := 16) hx hb dS_pci_6 (by decide) (fun _ => ?_) (fun hc => absurd h1 hc)
  refine lv_iload_n hx hb dS_pci_16 rfl (lv_at hl 0 rfl) ?_
  exact W.iret hx hb hr (fun t ht hW => ⟨⟨_, (), rfl, rfl, trivial⟩, hS.F ht⟩) hS.2.2 dS_pci_17 hlk
set_option maxHeartbeats 4000000 in
theorem cS_c_checkIndex (l : Launch) {g : zG} {i n : Int32} (h0 : ¬ i < 0) (h1 : i < n) : zMpv l yS_checkIndex cS_checkIndex 2 none 2 g [.int i, .int n] := by
  refine Met.ofW (cc := cS_checkIndex) (maxL := 2) (ret := none) (by decide +kernel) rfl ?_
  intro p e s m args below meth c s₁ B hml hv
  obtain ⟨rfl, hK, hST⟩ := hv
  have hC := zstart (g := g) (own := _) rfl B hml hK hST
  have hl := lv_entry ([.int i, .int n]) (n := 2) (Nat.le_of_ble_eq_true rfl)
  rw [lg_entry_eq]
  generalize (lg_sl ([.int i, .int n]) ++ List.replicate (2 - (lg_sl ([.int i, .int n])).length) Slot.unset).toArray = ls at hl ⊢
  obtain ⟨hx, hb, hr, hml, hown, hts, hK, hlk, hST⟩ := id hC
  have hS : va_S (fun _ => False) s.heap s.heap [] := va_S.rf
  have hBf : ∀ q, (fun _ : Nat => False) q → zB g q := fun q h => h.elim
  have hE := vk_S.narrow hST.2.1 hBf
  have hl : lv_has ls 2 [(0, .int i), (1, .int n)] := hl
  refine lv_iload_n hx hb dS_checkIndex_0 rfl (lv_at hl 0 rfl) ?_
  refine lv_iload_n hx hb dS_checkIndex_1 rfl (lv_at hl 1 rfl) ?_
  rcases hST.2.2.2.2.2.2.1 with hz | ⟨t, hz⟩
  · refine va_gets hx hb (va_Z.narrow hz hBf) hS hown (hts _ mw_717) (fun _ h9 => h9) dS_checkIndex_2 ?_
    refine zcallP (As := [.int i, .int n, .null]) (rest := []) hC hS hBf (cS_c_pci0 l h0 h1) (hC.ml mw_719) yo_S_pci rfl hl.1 rfl (Nat.le_of_ble_eq_true rfl) ⟨Nat.le_of_ble_eq_true rfl, Nat.le_of_ble_eq_true rfl⟩ ⟨Nat.le_refl _, Nat.le_refl _⟩ dS_checkIndex_5 (fun H locs hPk hS _ => ?_)
    refine lv_pop hx hb dS_checkIndex_8 rfl ?_
    exact W.vret hx hb hr (fun t ht hW => ⟨⟨(), rfl, trivial, trivial⟩, hS.F ht⟩) hS.2.2 dS_checkIndex_9 hlk
  · refine va_gets hx hb (va_Z.narrow hz hBf) hS hown (hts _ mw_717) (fun _ h9 => h9) dS_checkIndex_2 ?_
    refine zcallP (As := [.int i, .int n, .ref t]) (rest := []) hC hS hBf (cS_c_pci1 l h0 h1) (hC.ml mw_719) yo_S_pci rfl hl.1 rfl (Nat.le_of_ble_eq_true rfl) ⟨Nat.le_of_ble_eq_true rfl, Nat.le_of_ble_eq_true rfl⟩ ⟨Nat.le_refl _, Nat.le_refl _⟩ dS_checkIndex_5 (fun H locs hPk hS _ => ?_)
    refine lv_pop hx hb dS_checkIndex_8 rfl ?_
    exact W.vret hx hb hr (fun t ht hW => ⟨⟨(), rfl, trivial, trivial⟩, hS.F ht⟩) hS.2.2 dS_checkIndex_9 hlk
theorem zsc_nar : ∀ w, w < 22 → ∀ j, j < 64 → (((zsbyt.getD w []).getD j 0).toUInt32.toUInt16.toUInt32.toInt32 = (zsbyt.getD w []).getD j 0) := by decide +kernel
theorem zsl_lt {w : Nat} {i : Int32} (hw : w < 22) (hz : zin i (zslen.getD w 0) = true) : ¬ i < 0 ∧ i < zsl w := by
  have hs := zsl_small w hw
  have h1 := zin_lt hz
  simp only [zin, Bool.and_eq_true, decide_eq_true_eq] at hz
  have h2 := Int32.le_iff_toInt_le.mp hz.1
  have h3 : (i.toNatClampNeg : Int) = i.toInt := by
    show ((i.toInt.toNat : Nat) : Int) = i.toInt
    have : (0 : Int32).toInt = 0 := rfl
    omega
  refine ⟨fun q => ?_, Int32.lt_iff_toInt_lt.mpr ?_⟩
  · have := Int32.lt_iff_toInt_lt.mp q
    omega
  · rw [show (zsl w).toInt = ((zslen.getD w 0 : Nat) : Int) from nI_toInt (by omega)]
    omega
set_option maxHeartbeats 4000000 in
theorem cS_c_lcharAt (l : Launch) {g : zG} {w : Nat} {i : Int32} (hw : w < 22) (hz : zin i (zslen.getD w 0) = true) : zMp l yS_lcharAt cS_lcharAt 2 (some .char) 3 g [.ref (g.2.2.2.2.2.2.1 w), .int i] (zsc w i) := by
  refine Met.ofW (cc := cS_lcharAt) (maxL := 2) (ret := (some .char)) (by decide +kernel) rfl ?_
  intro p e s m args below meth c s₁ B hml hv
  obtain ⟨rfl, hK, hST⟩ := hv
  have hC := zstart (g := g) (own := _) rfl B hml hK hST
  have hl := lv_entry ([.ref (g.2.2.2.2.2.2.1 w), .int i]) (n := 2) (Nat.le_of_ble_eq_true rfl)
  rw [lg_entry_eq]
  generalize (lg_sl ([.ref (g.2.2.2.2.2.2.1 w), .int i]) ++ List.replicate (2 - (lg_sl ([.ref (g.2.2.2.2.2.2.1 w), .int i])).length) Slot.unset).toArray = ls at hl ⊢
  obtain ⟨hx, hb, hr, hml, hown, hts, hK, hlk, hST⟩ := id hC
  have hS : va_S (fun _ => False) s.heap s.heap [] := va_S.rf
  have hBf : ∀ q, (fun _ : Nat => False) q → zB g q := fun q h => h.elim
  have hE := vk_S.narrow hST.2.1 hBf
  have hl : lv_has ls 2 [(0, .ref (g.2.2.2.2.2.2.1 w)), (1, .int i)] := hl
  obtain ⟨h0, h1⟩ := zsl_lt hw hz
  refine lv_iload_n hx hb dS_lcharAt_0 rfl (lv_at hl 1 rfl) ?_
  refine lv_aload_n hx hb dS_lcharAt_1 rfl (lv_at hl 0 rfl) ?_
  refine va_tlen hx hb (hE.1 w hw).2.2.2 hS (v := zsl w) rfl dS_lcharAt_2 ?_
  refine zcallPv (As := [.int i, .int (zsl w)]) (rest := []) hC hS hBf (cS_c_checkIndex l h0 h1) (hC.ml mw_714) yo_S_checkIndex rfl hl.1 rfl (Nat.le_of_ble_eq_true rfl) ⟨Nat.le_of_ble_eq_true rfl, Nat.le_of_ble_eq_true rfl⟩ ⟨Nat.le_refl _, Nat.le_refl _⟩ dS_lcharAt_3 (fun H locs hPk hS _ => ?_)
  refine lv_aload_n hx hb dS_lcharAt_6 rfl (lv_at hl 0 rfl) ?_
  refine lv_iload_n hx hb dS_lcharAt_7 rfl (lv_at hl 1 rfl) ?_
  refine va_tb hx hb (hE.1 w hw).2.2.2 hS (zin_vp hz) (v := .int ((zsbyt.getD w []).getD i.toNatClampNeg 0)) rfl dS_lcharAt_8 ?_
  refine lv_sipush (v := 255) hx hb dS_lcharAt_9 (by decide) ?_
  refine lv_iand hx hb dS_lcharAt_12 ?_
  have hj : i.toNatClampNeg < 64 := Nat.lt_trans (zin_lt hz) (zsl_small w hw)
  refine lv_i2c (v := zsc w i) hx hb dS_lcharAt_13 (zsc_ok w hw _ hj) ?_
  exact W.zret hx hb hr (congrArg Value.int (zsc_nar w hw _ hj)) (fun t ht hW => ⟨⟨_, (), rfl, rfl, trivial⟩, hS.F ht⟩) hS.2.2 dS_lcharAt_14 hlk
set_option maxHeartbeats 4000000 in
theorem cS_c_charAt (l : Launch) {g : zG} {w : Nat} {i : Int32} (hw : w < 22) (hz : zin i (zslen.getD w 0) = true) : zMp l yS_charAt cS_charAt 2 (some .char) 4 g [.ref (g.2.2.2.2.2.1 w), .int i] (zsc w i) := by
  refine Met.ofW (cc := cS_charAt) (maxL := 2) (ret := (some .char)) (by decide +kernel) rfl ?_
  intro p e s m args below meth c s₁ B hml hv
  obtain ⟨rfl, hK, hST⟩ := hv
  have hC := zstart (g := g) (own := _) rfl B hml hK hST
  have hl := lv_entry ([.ref (g.2.2.2.2.2.1 w), .int i]) (n := 2) (Nat.le_of_ble_eq_true rfl)
  rw [lg_entry_eq]
  generalize (lg_sl ([.ref (g.2.2.2.2.2.1 w), .int i]) ++ List.replicate (2 - (lg_sl ([.ref (g.2.2.2.2.2.1 w), .int i])).length) Slot.unset).toArray = ls at hl ⊢
  obtain ⟨hx, hb, hr, hml, hown, hts, hK, hlk, hST⟩ := id hC
  have hS : va_S (fun _ => False) s.heap s.heap [] := va_S.rf
  have hBf : ∀ q, (fun _ : Nat => False) q → zB g q := fun q h => h.elim
  have hE := vk_S.narrow hST.2.1 hBf
  have hl : lv_has ls 2 [(0, .ref (g.2.2.2.2.2.1 w)), (1, .int i)] := hl
  refine lv_aload_n hx hb dS_charAt_0 rfl (lv_at hl 0 rfl) ?_
  refine zcallPV (As := []) (rest := []) hw hC hS hBf (cS_c_isLatin1 l hw) (hC.ml mw_707) yo_S_isLatin1 rfl rfl hl.1 rfl (Nat.le_of_ble_eq_true rfl) ⟨Nat.le_of_ble_eq_true rfl, Nat.le_of_ble_eq_true rfl⟩ ⟨Nat.le_refl _, Nat.le_refl _⟩ dS_charAt_1 (fun H locs hPk hS _ => ?_)
  refine lv_if_eq (tgt := 16) hx hb dS_charAt_4 (by decide) (fun hc => absurd hc (by decide)) (fun _ => ?_)
  refine lv_aload_n hx hb dS_charAt_7 rfl (lv_at hl 0 rfl) ?_
  refine vk_getf hx hb (hE.1 w hw).2.2.1 hS hown (hts _ mw_1950) (fun _ h9 => h9) dS_charAt_8 ?_
  refine lv_iload_n hx hb dS_charAt_11 rfl (lv_at hl 1 rfl) ?_
  refine zcallP (As := [.ref (g.2.2.2.2.2.2.1 w), .int i]) (rest := []) hC hS hBf (cS_c_lcharAt l hw hz) (hC.ml mw_711) yo_S_lcharAt rfl hl.1 rfl (Nat.le_of_ble_eq_true rfl) ⟨Nat.le_of_ble_eq_true rfl, Nat.le_of_ble_eq_true rfl⟩ ⟨Nat.le_refl _, Nat.le_refl _⟩ dS_charAt_12 (fun H locs hPk hS _ => ?_)
  exact W.zret hx hb hr (congrArg Value.int (zsc_nar w hw _ (Nat.lt_trans (zin_lt hz) (zsl_small w hw)))) (fun t ht hW => ⟨⟨_, (), rfl, rfl, trivial⟩, hS.F ht⟩) hS.2.2 dS_charAt_15 hlk
theorem zsr_0 {g : zG} {U : State} (h : zST g U) : vk_R "StripeTrade" 385 "an argument that the document does not allow" (g.2.2.2.2.2.1 0) U := h.2.2.1 ("StripeTrade", 385, "an argument that the document does not allow", 0) (List.mem_of_getElem? (i := 0) rfl)
theorem zsr_1 {g : zG} {U : State} (h : zST g U) : vk_R "StripeTrade$Book" 76 "beast" (g.2.2.2.2.2.1 1) U := h.2.2.1 ("StripeTrade$Book", 76, "beast", 1) (List.mem_of_getElem? (i := 1) rfl)
theorem zsr_2 {g : zG} {U : State} (h : zST g U) : vk_R "StripeTrade$Book" 82 "gate" (g.2.2.2.2.2.1 2) U := h.2.2.1 ("StripeTrade$Book", 82, "gate", 2) (List.mem_of_getElem? (i := 2) rfl)
theorem zsr_3 {g : zG} {U : State} (h : zST g U) : vk_R "StripeTrade$Book" 84 "list" (g.2.2.2.2.2.1 3) U := h.2.2.1 ("StripeTrade$Book", 84, "list", 3) (List.mem_of_getElem? (i := 3) rfl)
theorem zsr_4 {g : zG} {U : State} (h : zST g U) : vk_R "StripeTrade$Book" 86 "purse" (g.2.2.2.2.2.1 4) U := h.2.2.1 ("StripeTrade$Book", 86, "purse", 4) (List.mem_of_getElem? (i := 4) rfl)
theorem zsr_5 {g : zG} {U : State} (h : zST g U) : vk_R "StripeTrade$Law" 71 "least" (g.2.2.2.2.2.1 5) U := h.2.2.1 ("StripeTrade$Law", 71, "least", 5) (List.mem_of_getElem? (i := 5) rfl)
theorem zsr_6 {g : zG} {U : State} (h : zST g U) : vk_R "StripeTrade$Law" 81 "most" (g.2.2.2.2.2.1 6) U := h.2.2.1 ("StripeTrade$Law", 81, "most", 6) (List.mem_of_getElem? (i := 6) rfl)
theorem zsr_7 {g : zG} {U : State} (h : zST g U) : vk_R "StripeTrade$Law" 100 "toll" (g.2.2.2.2.2.1 7) U := h.2.2.1 ("StripeTrade$Law", 100, "toll", 7) (List.mem_of_getElem? (i := 7) rfl)
theorem zsr_8 {g : zG} {U : State} (h : zST g U) : vk_R "StripeTrade$Law" 102 "apart" (g.2.2.2.2.2.1 8) U := h.2.2.1 ("StripeTrade$Law", 102, "apart", 8) (List.mem_of_getElem? (i := 8) rfl)
theorem zsr_9 {g : zG} {U : State} (h : zST g U) : vk_R "StripeTrade$Law" 104 "marks" (g.2.2.2.2.2.1 9) U := h.2.2.1 ("StripeTrade$Law", 104, "marks", 9) (List.mem_of_getElem? (i := 9) rfl)
theorem zsr_10 {g : zG} {U : State} (h : zST g U) : vk_R "StripeTrade$Law" 106 "age" (g.2.2.2.2.2.1 10) U := h.2.2.1 ("StripeTrade$Law", 106, "age", 10) (List.mem_of_getElem? (i := 10) rfl)
theorem zsr_11 {g : zG} {U : State} (h : zST g U) : vk_R "StripeTrade$Law" 108 "gone" (g.2.2.2.2.2.1 11) U := h.2.2.1 ("StripeTrade$Law", 108, "gone", 11) (List.mem_of_getElem? (i := 11) rfl)
theorem zsr_12 {g : zG} {U : State} (h : zST g U) : vk_R "StripeTrade$Law" 110 "passed" (g.2.2.2.2.2.1 12) U := h.2.2.1 ("StripeTrade$Law", 110, "passed", 12) (List.mem_of_getElem? (i := 12) rfl)
theorem zsr_13 {g : zG} {U : State} (h : zST g U) : vk_R "StripeTrade$Law" 112 "number" (g.2.2.2.2.2.1 13) U := h.2.2.1 ("StripeTrade$Law", 112, "number", 13) (List.mem_of_getElem? (i := 13) rfl)
theorem zsr_14 {g : zG} {U : State} (h : zST g U) : vk_R "StripeTrade$Law" 114 "gate" (g.2.2.2.2.2.1 2) U := h.2.2.1 ("StripeTrade$Law", 114, "gate", 2) (List.mem_of_getElem? (i := 14) rfl)
theorem zsr_15 {g : zG} {U : State} (h : zST g U) : vk_R "StripeTrade$Plan" 76 "tar" (g.2.2.2.2.2.1 14) U := h.2.2.1 ("StripeTrade$Plan", 76, "tar", 14) (List.mem_of_getElem? (i := 15) rfl)
theorem zsr_16 {g : zG} {U : State} (h : zST g U) : vk_R "StripeTrade$Plan" 82 "rub" (g.2.2.2.2.2.1 15) U := h.2.2.1 ("StripeTrade$Plan", 82, "rub", 15) (List.mem_of_getElem? (i := 16) rfl)
theorem zsr_17 {g : zG} {U : State} (h : zST g U) : vk_R "StripeTrade$Plan" 84 "wash" (g.2.2.2.2.2.1 16) U := h.2.2.1 ("StripeTrade$Plan", 84, "wash", 16) (List.mem_of_getElem? (i := 17) rfl)
theorem zsr_18 {g : zG} {U : State} (h : zST g U) : vk_R "StripeTrade$Plan" 86 "pass" (g.2.2.2.2.2.1 17) U := h.2.2.1 ("StripeTrade$Plan", 86, "pass", 17) (List.mem_of_getElem? (i := 18) rfl)
theorem zsr_19 {g : zG} {U : State} (h : zST g U) : vk_R "StripeTrade$Plan" 88 "foal" (g.2.2.2.2.2.1 18) U := h.2.2.1 ("StripeTrade$Plan", 88, "foal", 18) (List.mem_of_getElem? (i := 19) rfl)
theorem zsr_20 {g : zG} {U : State} (h : zST g U) : vk_R "StripeTrade$Plan" 90 "year" (g.2.2.2.2.2.1 19) U := h.2.2.1 ("StripeTrade$Plan", 90, "year", 19) (List.mem_of_getElem? (i := 20) rfl)
theorem zsr_21 {g : zG} {U : State} (h : zST g U) : vk_R "StripeTrade$Plan" 92 "again" (g.2.2.2.2.2.1 20) U := h.2.2.1 ("StripeTrade$Plan", 92, "again", 20) (List.mem_of_getElem? (i := 21) rfl)
theorem zsr_22 {g : zG} {U : State} (h : zST g U) : vk_R "StripeTrade" 395 "no such beast or gate" (g.2.2.2.2.2.1 21) U := h.2.2.1 ("StripeTrade", 395, "no such beast or gate", 21) (List.mem_of_getElem? (i := 22) rfl)
