/-! the law's own row of one long; two worlds side by side -/
def zO (g : zG) (o : Nat → Int64) : va_W := [(g.2.1 580, .inl (g.2.2.2.2.1, 1, .inr (.inl o)))]
theorem zleft {D : va_G} {cl : List vw_C} {a b : va_W} {H : Heap} (h : va_P D cl (a ++ b) H) : va_P D cl a H := fun k q hk => h k q (by rw [List.getElem?_append_left (List.getElem?_eq_some_iff.mp hk).1]; exact hk)
theorem zright {D : va_G} {cl : List vw_C} {a b : va_W} {H : Heap} (h : va_P D cl (a ++ b) H) : va_P D cl b H := fun k q hk => h (a.length + k) q (by rw [List.getElem?_append_right (by omega), Nat.add_sub_cancel_left]; exact hk)
theorem zAd.len {g : zG} {lo n : Nat} {ws : va_W} (h : zAd g lo n ws) : ws.length = n := by
  have := congrArg List.length h
  simpa using this
theorem zkept {g : zG} {lo n lo' hi' N : Nat} {ws : va_W} {H H1 : Heap} (hI : zI g N) (h : zAd g lo n ws) (hd : lo + n ≤ lo' ∨ hi' ≤ lo) (hn : lo + n ≤ N) (hn' : hi' ≤ N) (hP : va_P g.1 zcl ws H) (hk : ∀ q : Nat, q < H.size → ¬ zF g lo' hi' H.size q → H1[q]? = H[q]?) : va_P g.1 zcl ws H1 := by
  refine hP.kept (fun k q hq => ?_)
  obtain ⟨h1, h2⟩ := h.at hq
  have hl := (hP k q hq).lt
  refine hk q.1 hl (fun z => ?_)
  rcases z with ⟨j, h3, h4, h5⟩ | z
  · have := hI.1 _ _ (by omega) (by omega) (h1.symm.trans h5)
    omega
  · omega
theorem zAdO {g : zG} {o : Nat → Int64} : zAd g 580 1 (zO g o) := rfl
abbrev zXO (g : zG) (tp_bytes : Nat → Int32) (tp_many : Int32) (tp_end : Int32) (tp_place : Int32) (tp_wordPlace : Int32) (tp_numberPlace : Int32) (tp_faultKind : Int32) (tp_faultPlace : Int32) (bk_forgives : Nat → Int32) (bk_tolls : Nat → Int32) (bk_lengths : Nat → Int32) (bk_numbers : Nat → Nat → Int32) (bk_gates : Int32) (bk_listedInAll : Int32) (lw_kinds : Nat → Int32) (lw_values : Nat → Int32) (lw_stack : Nat → Int32) (lw_length : Int32) (ru_facts : Nat → Int32) (st_now : Nat → Int32) (st_born : Nat → Int32) (st_age : Nat → Int32) (st_passed : Nat → Int32) (st_gone : Nat → Int32) (st_took : Nat → Int32) (st_beasts : Int32) (st_year : Int32) (st_coins : Int32) (tr_now : Nat → Int32) (tr_born : Nat → Int32) (tr_age : Nat → Int32) (tr_passed : Nat → Int32) (tr_gone : Nat → Int32) (tr_took : Nat → Int32) (tr_beasts : Int32) (tr_year : Int32) (tr_coins : Int32) (db_forgives : Nat → Int32) (db_tolls : Nat → Int32) (db_lengths : Nat → Int32) (db_numbers : Nat → Nat → Int32) (db_gates : Int32) (db_listedInAll : Int32) (dl_kinds : Nat → Int32) (dl_values : Nat → Int32) (dl_stack : Nat → Int32) (dl_length : Int32) (pl_kinds : Nat → Int32) (pl_firsts : Nat → Int32) (pl_seconds : Nat → Int32) (pl_length : Int32) (pl_beasts : Int32) (pl_gates : Int32) (pl_begun : Int32) (pl_done : Int32) (pl_refused : Int32) (me_past : Nat → Int32) (me_images : Nat → Nat → Int32) (me_works : Int32) (me_kept : Int32) (se_herdsWith : Nat → Int32) (se_tooNear : Nat → Int32) (se_least : Nat → Int32) (se_groups : Nat → Int32) (se_fees : Nat → Int32) (se_herds : Int32) (se_firstHerd : Int32) (se_sureBeasts : Int32) (dy_seed : Int32) (dy_passings : Int32) (dy_tars : Int32) (xx_refusedSteps : Int32) (xx_refusedElements : Int32) (xx_refusedArguments : Int32) (o_out : Nat → Int64) : va_W := zX g tp_bytes tp_many tp_end tp_place tp_wordPlace tp_numberPlace tp_faultKind tp_faultPlace bk_forgives bk_tolls bk_lengths bk_numbers bk_gates bk_listedInAll lw_kinds lw_values lw_stack lw_length ru_facts st_now st_born st_age st_passed st_gone st_took st_beasts st_year st_coins tr_now tr_born tr_age tr_passed tr_gone tr_took tr_beasts tr_year tr_coins db_forgives db_tolls db_lengths db_numbers db_gates db_listedInAll dl_kinds dl_values dl_stack dl_length pl_kinds pl_firsts pl_seconds pl_length pl_beasts pl_gates pl_begun pl_done pl_refused me_past me_images me_works me_kept se_herdsWith se_tooNear se_least se_groups se_fees se_herds se_firstHerd se_sureBeasts dy_seed dy_passings dy_tars xx_refusedSteps xx_refusedElements xx_refusedArguments ++ zO g o_out
def zFO (g : zG) (sz : Nat) : Nat → Prop := fun q => zF g 0 64 sz q ∨ zF g 580 581 sz q
theorem zFO.base {g : zG} {sz : Nat} (hI : zI g 581) (hs : g.2.2.2.2.2.2.2 ≤ sz) (q : Nat) (h : zFO g sz q) : zB g q := h.elim (zF.base hI (Nat.le_of_ble_eq_true rfl) hs q) (zF.base hI (Nat.le_of_ble_eq_true rfl) hs q)
theorem zDO {g : zG} {tp_bytes : Nat → Int32} {tp_many : Int32} {tp_end : Int32} {tp_place : Int32} {tp_wordPlace : Int32} {tp_numberPlace : Int32} {tp_faultKind : Int32} {tp_faultPlace : Int32} {bk_forgives : Nat → Int32} {bk_tolls : Nat → Int32} {bk_lengths : Nat → Int32} {bk_numbers : Nat → Nat → Int32} {bk_gates : Int32} {bk_listedInAll : Int32} {lw_kinds : Nat → Int32} {lw_values : Nat → Int32} {lw_stack : Nat → Int32} {lw_length : Int32} {ru_facts : Nat → Int32} {st_now : Nat → Int32} {st_born : Nat → Int32} {st_age : Nat → Int32} {st_passed : Nat → Int32} {st_gone : Nat → Int32} {st_took : Nat → Int32} {st_beasts : Int32} {st_year : Int32} {st_coins : Int32} {tr_now : Nat → Int32} {tr_born : Nat → Int32} {tr_age : Nat → Int32} {tr_passed : Nat → Int32} {tr_gone : Nat → Int32} {tr_took : Nat → Int32} {tr_beasts : Int32} {tr_year : Int32} {tr_coins : Int32} {db_forgives : Nat → Int32} {db_tolls : Nat → Int32} {db_lengths : Nat → Int32} {db_numbers : Nat → Nat → Int32} {db_gates : Int32} {db_listedInAll : Int32} {dl_kinds : Nat → Int32} {dl_values : Nat → Int32} {dl_stack : Nat → Int32} {dl_length : Int32} {pl_kinds : Nat → Int32} {pl_firsts : Nat → Int32} {pl_seconds : Nat → Int32} {pl_length : Int32} {pl_beasts : Int32} {pl_gates : Int32} {pl_begun : Int32} {pl_done : Int32} {pl_refused : Int32} {me_past : Nat → Int32} {me_images : Nat → Nat → Int32} {me_works : Int32} {me_kept : Int32} {se_herdsWith : Nat → Int32} {se_tooNear : Nat → Int32} {se_least : Nat → Int32} {se_groups : Nat → Int32} {se_fees : Nat → Int32} {se_herds : Int32} {se_firstHerd : Int32} {se_sureBeasts : Int32} {dy_seed : Int32} {dy_passings : Int32} {dy_tars : Int32} {xx_refusedSteps : Int32} {xx_refusedElements : Int32} {xx_refusedArguments : Int32} {o_out : Nat → Int64} (hI : zI g 581) {A : Nat → Prop} (hA : ∀ k, k < 64 → A (g.2.1 k)) (hO : A (g.2.1 580)) : va_D A (zXO g tp_bytes tp_many tp_end tp_place tp_wordPlace tp_numberPlace tp_faultKind tp_faultPlace bk_forgives bk_tolls bk_lengths bk_numbers bk_gates bk_listedInAll lw_kinds lw_values lw_stack lw_length ru_facts st_now st_born st_age st_passed st_gone st_took st_beasts st_year st_coins tr_now tr_born tr_age tr_passed tr_gone tr_took tr_beasts tr_year tr_coins db_forgives db_tolls db_lengths db_numbers db_gates db_listedInAll dl_kinds dl_values dl_stack dl_length pl_kinds pl_firsts pl_seconds pl_length pl_beasts pl_gates pl_begun pl_done pl_refused me_past me_images me_works me_kept se_herdsWith se_tooNear se_least se_groups se_fees se_herds se_firstHerd se_sureBeasts dy_seed dy_passings dy_tars xx_refusedSteps xx_refusedElements xx_refusedArguments o_out) := by
  refine va_D.app (zDX hI (fun k _ h => hA k h)) (zAdO.D hI (Nat.le_of_ble_eq_true rfl) (fun k h1 h2 => by rw [show k = 580 by omega]; exact hO)) (fun i j p q h1 h2 e => ?_)
  obtain ⟨a1, a2⟩ := zAdX.at h1
  obtain ⟨b1, b2⟩ := zAdO.at h2
  have := hI.1 _ _ (by omega) (by omega) (a1.symm.trans (e.trans b1))
  omega
def zWw (y : MethodName) (cc : ByteArray) (nL : Nat) (ret : Option FieldType) (hh : List (Nat × Nat × Nat × Nat)) : List Cond := .codeWith y cc nL ret hh :: AW
abbrev zMw (l : Launch) (y : MethodName) (cc : ByteArray) (nL : Nat) (ret : Option FieldType) (hh : List (Nat × Nat × Nat × Nat)) (k mc : Nat) (g : zG) (ws ws' : va_W) (sz : Nat) (A : Nat → Prop) (av : List Value) (r : Int32) : Prop :=
  Met l y (zWw y cc nL ret hh) (zRx k mc) (va_Pc av (zPre g ws sz)) (va_Qi (fun r' (_ : Unit) => r' = r) (fun _ t => va_P g.1 zcl ws' t.heap) A) mc (6 * mc) A
def zYW (y : MethodName) (cc : ByteArray) (nL : Nat) (ret : Option FieldType) (hh : List (Nat × Nat × Nat × Nat)) (n : Nat) : Prop := Cond.static y ∈ AW ∧ Cond.initialized y.cls ∈ AW ∧ Cond.codeWith y cc nL ret hh ∈ AW ∧ zyd y n
theorem zofWH {l : Launch} {y : MethodName} {rm : Room} {Pc : Array Value → State → Prop} {Qc : Array Value → State → Outcome → State → Prop} {mc ms : Nat} {free : Addr → Prop} {cc : ByteArray} {maxL : Nat} {ret : Option FieldType} {hh : List (Nat × Nat × Nat × Nat)}
    (hy : plainName y.cls = true) (body : ∀ p e s m args below meth c s₁, BodyLoose p l y (headSpec (zWw y cc maxL ret hh) rm) cc maxL ret e s m args below meth c s₁ → c.maxLocals = maxL → c.exceptionTable.toList = tableOf hh → Pc args s →
      W p l e (headSpec (zWw y cc maxL ret hh) rm).room s m args below meth c s.heap [] 0 0 (MQ below Qc args s mc ms free) (entryFrame m args maxL)) : Met l y (zWw y cc maxL ret hh) rm Pc Qc mc ms free := by
  refine MetFree.of_bodyS (code := cc) (maxLocals := maxL) (ret := ret) hy ?_ ?_
  · intro args s m h hn
    obtain ⟨m9, meth, c, hn9, h1, h2, h3, h4, -, h5, h6, -⟩ := Cond.codeWith_spec (atoms_spec (ws := zWw y cc maxL ret hh) h _ List.mem_cons_self)
    cases hn.symm.trans hn9
    exact ⟨meth, c, h1, h2, h3, h4, h5, h6⟩
  · intro p e s m args below meth c s₁ B hml hP _
    have hh0 : s₁.heap = s.heap := by rw [B.state]; rfl
    obtain ⟨t, a1, o, b1, b2, b3⟩ := body p e s m args below meth c s₁ B hml (vx_table (x := y) B (atoms_spec (ws := zWw y cc maxL ret hh) B.pre _ List.mem_cons_self)) hP s₁ hh0 (Stand.of_body B)
    exact ⟨t, o, a1, b1, b2, ⟨b3.1, b3.2⟩⟩
section ZWR
variable {p : Program} {l : Launch} {e : Env} {R : Room} {s : State} {m : MethodId} {args : Array Value} {below : List Frame} {meth : Method} {c : Code} {H : Heap} {locs : List Loc} {cells slots : Nat} {Q : State → Prop}
variable {g : zG} {own : String} {cc : ByteArray} {nL : Nat} {ret0 : Option FieldType} {pc : Nat} {ls : Array Slot} {st0 rest As : List Value} {A0 A1 : Nat → Prop} {ws ws' : va_W}
variable {y : MethodName} {bytes : ByteArray} {maxL index n k : Nat} {ret : Option FieldType} {hh : List (Nat × Nat × Nat × Nat)}
theorem zstartW {rm : Room} (ho : y.cls = own) {s₁ : State} (B : BodyLoose p l y (headSpec (zWw y bytes maxL ret hh) rm) bytes maxL ret e s m args below meth c s₁) (hml : c.maxLocals = maxL) (hK : zK g s) (hST : zST g s) : zC g own bytes maxL ret p s m meth c args := by
  have hts := atoms_spec (ws := zWw y bytes maxL ret hh) B.pre
  have h1 : s.vm.findClass y.cls = some m.cls := findClass_of_methodNamed B.named
  rw [ho] at h1
  exact ⟨B.exec, B.bytes, B.returns, hml, h1, fun w hw => hts w (List.mem_cons_of_mem _ hw), hK, B.notSynchronized, hST⟩
theorem zcallW {r : Int32} {mc : Nat} (hC : zC g own cc nL ret0 p s m meth c args) (hP : va_P g.1 zcl ws H) (hS : va_S A0 s.heap H locs) (hB : ∀ q, A0 q → zB g q) (hA : ∀ q, A1 q → A0 q) (hM : zMw l y bytes maxL ret hh k mc g ws ws' H.size A1 As r) (hl : (Cond.methodLink own index y).before args s = true) (hy : zYW y bytes maxL ret hh n) (hn : As.length = n) (hls : ls.size = nL) (hst : st0 = As.reverse ++ rest) (hw : (rest.map fun v => v.category).sum ≤ 8) (hR : k + 1 ≤ R.frames ∧ 8 + (maxL + 11) + 60 * k ≤ R.locals) (hcs : cells + mc ≤ R.cells ∧ slots + 6 * mc ≤ R.slots) (hdg : decode cc pc = .ok (.invokestatic index, 3))
    (kk : ∀ (H1 : Heap) (locs1 : List Loc), va_P g.1 zcl ws' H1 → va_S A0 s.heap H1 locs1 → H.size ≤ H1.size → (∀ q : Nat, q < H.size → ¬ A1 q → H1[q]? = H[q]?) → W p l e R s m args below meth c H1 locs1 (cells + mc) (slots + 6 * mc) Q (F0 m (pc + 3) ls (.int r :: rest))) : W p l e R s m args below meth c H locs cells slots Q (F0 m pc ls st0) := by
  have hpre := zpreS (As := As) hC hS hB hP
  obtain ⟨hx, hb, hr, hml, hown, hts, hK, hlk, hST⟩ := hC
  obtain ⟨y1, y3, y4, y5⟩ := hy
  have hG : GoodIn AW (zWw y bytes maxL ret hh) := by
    intro w hw
    rcases List.mem_cons.mp hw with rfl | hw
    · exact ⟨y4, zgood y4⟩
    · exact ⟨hw, zgood hw⟩
  have cw : vx_CSW R s args own index y bytes maxL ret hh (zWw y bytes maxL ret hh) (zRx k mc) mc (6 * mc) n := by
    refine ⟨⟨rfl, rfl, hR.1, hR.2, pay_in hts hG, List.mem_cons_self⟩, hts _ y4, hts _ y3, ⟨y5.1, y5.2.1⟩, fun sig h => ?_, hl, hts _ y1⟩
    have h2 := y5.2.2
    rw [h] at h2
    exact (Option.some.inj h2).symm
  refine va_calli (vx_runSW (As := As) (rest := rest) ⟨hx, hb, hml, hown, hts⟩ hM cw hpre rfl hn hls hst (lv_room hw) hdg hcs) hS (fun q _ h => hA q h) hA (fun r1 u t H1 locs1 ht hv hp hb hz hk hS1 => ?_)
  subst hp
  exact kk H1 locs1 (by rw [← ht]; exact hb) hS1 hz hk
theorem zlast {o : Nat → Int64} (hC : zC g own cc nL ret0 p s m meth c args) (hP : va_P g.1 zcl (ws ++ zO g o) H) (hD : va_D A0 (ws ++ zO g o)) (hS : va_S A0 s.heap H locs) {x : Int64} (hdg : decode cc pc = .ok (.lastore, 1))
    (kk : ∀ (H1 : Heap) (locs1 : List Loc), va_P g.1 zcl (ws ++ zO g (vp_updL o 0 x)) H1 → va_S A0 s.heap H1 locs1 → W p l e R s m args below meth c H1 locs1 cells slots Q (F0 m (pc + 1) ls rest)) : W p l e R s m args below meth c H locs cells slots Q (F0 m pc ls (.long x :: .int 0 :: .ref (g.2.1 580) :: rest)) := by
  refine va_last hC.1 hC.2.1 hC.2.2.2.2.2.2.1.1 hP hD hS ws.length 2 (f := o) (by rw [List.getElem?_append_right (Nat.le_refl _), Nat.sub_self]; rfl) rfl (zin_vp (i := 0) (by decide)) hdg (fun H1 locs1 h1 _ h2 => kk H1 locs1 ?_ h2)
  rw [List.set_append_right _ _ (Nat.le_refl _), Nat.sub_self] at h1
  exact h1
theorem zlald {o : Nat → Int64} (hC : zC g own cc nL ret0 p s m meth c args) (hP : va_P g.1 zcl (zO g o) H) (hdg : decode cc pc = .ok (.laload, 1))
    (kk : W p l e R s m args below meth c H locs cells slots Q (F0 m (pc + 1) ls (.long (o 0) :: rest))) : W p l e R s m args below meth c H locs cells slots Q (F0 m pc ls (.int 0 :: .ref (g.2.1 580) :: rest)) :=
  va_lald hC.1 hC.2.1 hC.2.2.2.2.2.2.1.1 hP 0 2 (f := o) rfl rfl (i := 0) (zin_vp (by decide)) hdg kk
end ZWR
theorem mcast_I : Cond.castable "java/lang/IllegalArgumentException" "java/lang/IllegalArgumentException" ∈ NWL := List.mem_filter.mpr ⟨zt2 (List.mem_of_getElem? (i := 213) (by rfl)), rfl⟩
theorem mcast_N : Cond.castable "java/util/NoSuchElementException" "java/util/NoSuchElementException" ∈ NWL := List.mem_filter.mpr ⟨zt4 (List.mem_of_getElem? (i := 157) (by rfl)), rfl⟩
