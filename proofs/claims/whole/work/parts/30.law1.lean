section XW1
theorem xd_l {A : Nat → Prop} {w1 w2 : va_W} (hD : va_D A (w1 ++ w2)) : va_D A w1 := by
  rw [xd_iff] at hD ⊢
  rw [List.map_append, List.nodup_append] at hD
  exact ⟨hD.1.1, fun q hq => hD.2 q (List.mem_append_left _ hq)⟩
theorem xC_fst (T : Nat → ClassId) (ad : Nat → Nat) (sc sc' : Nat → Nat → Int32) (M M' : XM) (h1 : mnw M' = mnw M) (h2 : mnp M' = mnp M) : (xC T ad sc' M').map Prod.fst = (xC T ad sc M).map Prod.fst := by
  unfold xC
  rw [h1, h2]
  simp only [List.map_append, List.map_cons, List.map_nil, List.map_flatMap, List.map_map, Function.comp_def]
theorem x_lget {w1 : va_W} {q : Nat × va_E} : (w1 ++ [q])[w1.length]? = some q := by
  rw [List.getElem?_append_right (Nat.le_refl _), Nat.sub_self]
  rfl
theorem x_lset {w1 : va_W} {q q' : Nat × va_E} : (w1 ++ [q]).set w1.length q' = w1 ++ [q'] := by
  rw [List.set_append_right _ _ (Nat.le_refl _), Nat.sub_self]
  rfl
/-- a method with handlers of its own that always returns -/
theorem x_ofWH {l : Launch} {y : MethodName} {ws ws' : List Cond} {rm : Room} {Pc : Array Value → State → Prop} {Qc : Array Value → State → Outcome → State → Prop} {mc ms : Nat} {free : Addr → Prop} {cc : ByteArray} {maxL : Nat} {ret : Option FieldType} {hh : List (Nat × Nat × Nat × Nat)}
    (hy : plainName y.cls = true) (hw : ws = Cond.codeWith y cc maxL ret hh :: ws')
    (body : ∀ p e s m args below meth c s₁, BodyLoose p l y (headSpec ws rm) cc maxL ret e s m args below meth c s₁ → c.maxLocals = maxL → Pc args s →
      W p l e (headSpec ws rm).room s m args below meth c s.heap [] 0 0 (MQ below Qc args s mc ms free) (entryFrame m args maxL)) : Met l y ws rm Pc Qc mc ms free := by
  refine MetFree.of_bodyS (code := cc) (maxLocals := maxL) (ret := ret) hy ?_ ?_
  · intro args s m h hn
    obtain ⟨m9, meth, c, hn9, h1, h2, h3, h4, -, h5, h6, -⟩ := Cond.codeWith_spec (atoms_spec (ws := ws) h _ (by rw [hw]; exact List.mem_cons_self))
    cases hn.symm.trans hn9
    exact ⟨meth, c, h1, h2, h3, h4, h5, h6⟩
  · intro p e s m args below meth c s₁ B hml hP _
    have hh0 : s₁.heap = s.heap := by rw [B.state]; rfl
    obtain ⟨t, a1, o, b1, b2, b3⟩ := body p e s m args below meth c s₁ B hml hP s₁ hh0 (Stand.of_body B)
    exact ⟨t, o, a1, b1, b2, b3.1, b3.2⟩

set_option maxHeartbeats 4000000 in
set_option maxRecDepth 100000 in
/-- the law's go -/
theorem c_L_go (l : Launch) (hsl : l.stackTraces = false) (G : va_G) (T : Nat → ClassId) (sz : Nat) (ad : Nat → Nat) (sc : Nat → Nat → Int32) (M : XM) (o0 : Nat) (h : Nat → Int64) (a b o : Int32) (hn4 : mnw M ≤ 4) : Met l yL_go wsL_go ({ frames := 8, cells := 1, slots := 6, locals := 130 }) (va_Pc [.ref (ad 0), .int a, .int b, .int o, .ref o0] (xPre G T (xC T ad sc M ++ [(o0, .inl (T 4, 1, .inr (.inl h)))]) sz)) (va_Qi (fun (r : Int32) (u : ((Nat → Nat) × (Nat → Nat → Int32) × (Nat → Int64))) => ((xwb a b = true ∧ r = nI 0 ∧ u.2.2 0 = Int32.toInt64 (mpk M (xpb (xka a) (xka b) 0))) ∨ (xwb a b = false ∧ r = nI 1)) ∧ u.1 0 = ad 0 ∧ va_D (va_A (xC T ad sc M ++ [(o0, .inl (T 4, 1, .inr (.inl h)))]) sz) (xC T u.1 u.2.1 (if xwb a b then (xMgo M (xka a) (xka b) o) else M) ++ [(o0, .inl (T 4, 1, .inr (.inl u.2.2)))])) (fun u t => va_P G vwCl (xC T u.1 u.2.1 (if xwb a b then (xMgo M (xka a) (xka b) o) else M) ++ [(o0, .inl (T 4, 1, .inr (.inl u.2.2)))]) t.heap) (va_A (xC T ad sc M ++ [(o0, .inl (T 4, 1, .inr (.inl h)))]) sz)) 1 6 (va_A (xC T ad sc M ++ [(o0, .inl (T 4, 1, .inr (.inl h)))]) sz) := by
  refine x_ofWH (hh := [(0, 12, 15, 13)]) (cc := cL_go) (maxL := 6) (ret := (some .int)) (by decide +kernel) rfl ?_
  intro p e s m args below meth c s₁ B hml hv
  obtain ⟨rfl, hsz, hP, hK, hD0, hXB, hZ⟩ := hv
  have hx := B.exec
  have hb := B.bytes
  have hr := B.returns
  have hts := atoms_spec (ws := wsL_go) B.pre
  have hown : s.vm.findClass RL = some m.cls := findClass_of_methodNamed B.named
  have hlocks := B.notSynchronized
  subst hsz
  have hD := hD0.self (sz := s.heap.size)
  generalize hAe : va_A (xC T ad sc M ++ [(o0, .inl (T 4, 1, .inr (.inl h)))]) s.heap.size = A at hD hZ ⊢
  have hA : ∀ q : Nat, s.heap.size ≤ q → A q := fun q h => by rw [← hAe]; exact Or.inr h
  have hS : va_S A s.heap s.heap [] := va_S.rf
  have hP : va_P G vwCl (xC T ad sc M ++ [(o0, .inl (T 4, 1, .inr (.inl h)))]) s.heap := hP
  have hl := lv_entry ([.ref (ad 0), .int a, .int b, .int o, .ref o0]) (n := 6) (Nat.le_of_ble_eq_true rfl)
  rw [lg_entry_eq]
  generalize (lg_sl ([.ref (ad 0), .int a, .int b, .int o, .ref o0]) ++ List.replicate (6 - (lg_sl ([.ref (ad 0), .int a, .int b, .int o, .ref o0])).length) Slot.unset).toArray = ls at hl ⊢
  have hl : lv_has ls 6 [(0, .ref (ad 0)), (1, .int a), (2, .int b), (3, .int o), (4, .ref o0)] := hl
  have htab := vx_table (x := yL_go) B (hts (.codeWith yL_go cL_go 6 (some .int) [(0, 12, 15, 13)]) (by decide +kernel))
  have htab : c.exceptionTable.toList = [⟨0, 12, 15, 13⟩] := htab
  refine lv_aload hx hb dL_go_0 (lv_at hl 4 rfl) ?_
  refine lv_iconst (v := nI 0) hx hb dL_go_2 (by decide) ?_
  refine lv_aload_n hx hb dL_go_3 rfl (lv_at hl 0 rfl) ?_
  refine lv_iload_n hx hb dL_go_4 rfl (lv_at hl 1 rfl) ?_
  refine lv_iload_n hx hb dL_go_5 rfl (lv_at hl 2 rfl) ?_
  refine lv_iload_n hx hb dL_go_6 rfl (lv_at hl 3 rfl) ?_
  refine x_xcalliA (vx_runV (As := [.int a, .int b, .int o]) (rest := [.int (nI 0), .ref o0]) ⟨hx, hb, hml, hown, hts⟩ (c_X3_go l hsl G T _ ad sc M a b o hn4) (cwV 3 hts gL_go_X3_go rfl rfl rfl (by decide +kernel) ⟨Nat.le_of_ble_eq_true rfl, Nat.le_of_ble_eq_true rfl⟩) (x_preVA (wc := (xC T ad sc M)) (wr := [(o0, .inl (T 4, 1, .inr (.inl h)))]) hK hP hD hS hA hXB hZ _ _ 0 3 rfl rfl) rfl rfl hl.1 rfl (lv_room (Nat.le_of_ble_eq_true rfl)) dL_go_7 ⟨Nat.le_of_ble_eq_true rfl, Nat.le_of_ble_eq_true rfl⟩) hP hD hS hA (fun _ _ _ => xd_self (xC_fst T ad sc _ M _ rfl rfl) (xd_l hD)) (fun E ce q9 H locs hE hP hS c1 c2 c3 => ?_) (fun r1 u1 H locs hw1 hP hD hS => ?_)
  · obtain ⟨hE, rfl⟩ := hE
    refine vx_catch hown [] ⟨0, 12, 15, 13⟩ [] htab (fun z hz => absurd hz List.not_mem_nil) (by decide) (by decide) (hts (.classLink RL 13 "java/lang/IllegalArgumentException") (by decide +kernel)) (va_Nw.use rfl (hXB.1 (.castable "java/lang/IllegalArgumentException" "java/lang/IllegalArgumentException") (by decide +kernel))) c1 c2 c3 ?_
    refine lv_astore (lv' := [(5, .ref q9), (0, .ref (ad 0)), (1, .int a), (2, .int b), (3, .int o), (4, .ref o0)]) hx hb dL_go_15 hl (by decide) rfl (fun ls hl => ?_)
    refine lv_iconst (v := nI 1) hx hb dL_go_17 (by decide) ?_
    exact W.iret (v := nI 1) hx hb hr (fun t9_ ht hW => ⟨⟨nI 1, ((ad, sc, h) : ((Nat → Nat) × (Nat → Nat → Int32) × (Nat → Int64))), rfl, ⟨Or.inr ⟨hE, rfl⟩, rfl, by rw [if_neg (fun e => by rw [hE] at e; exact Bool.false_ne_true e)]; exact hD⟩, x_at ht (by rw [if_neg (fun e => by rw [hE] at e; exact Bool.false_ne_true e)]; exact hP)⟩, hS.F ht⟩) hS.2.2 dL_go_18
  have hP : va_P G vwCl (xC T ad u1 (xMgo M (xka a) (xka b) o) ++ [(o0, .inl (T 4, 1, .inr (.inl h)))]) H := hP
  have hD : va_D A (xC T ad u1 (xMgo M (xka a) (xka b) o) ++ [(o0, .inl (T 4, 1, .inr (.inl h)))]) := hD
  refine lv_i2l hx hb dL_go_10 rfl ?_
  refine va_last hx hb hK hP hD hS (xC T ad u1 (xMgo M (xka a) (xka b) o)).length 4 x_lget rfl (vp_in_nI (n := 0) (N := 1) (by decide) (by decide)) dL_go_11 (fun H locs hP hD hS => ?_)
  rw [x_lset] at hP hD
  have hP : va_P G vwCl (xC T ad u1 (xMgo M (xka a) (xka b) o) ++ [(o0, .inl (T 4, 1, .inr (.inl (vp_updL h (nI 0).toNatClampNeg r1.toInt64))))]) H := hP
  have hD : va_D A (xC T ad u1 (xMgo M (xka a) (xka b) o) ++ [(o0, .inl (T 4, 1, .inr (.inl (vp_updL h (nI 0).toNatClampNeg r1.toInt64))))]) := hD
  refine lv_goto (tgt := 19) hx hb dL_go_12 (by decide) ?_
  refine lv_iconst (v := nI 0) hx hb dL_go_19 (by decide) ?_
  exact W.iret (v := nI 0) hx hb hr (fun t9_ ht hW => ⟨⟨nI 0, ((ad, u1, vp_updL h (nI 0).toNatClampNeg r1.toInt64) : ((Nat → Nat) × (Nat → Nat → Int32) × (Nat → Int64))), rfl, ⟨Or.inl ⟨hw1.1, rfl, by rw [← hw1.2]; rfl⟩, rfl, by rw [if_pos (hw1.1)]; exact hD⟩, x_at ht (by rw [if_pos (hw1.1)]; exact hP)⟩, hS.F ht⟩) hS.2.2 dL_go_20

set_option maxHeartbeats 4000000 in
set_option maxRecDepth 100000 in
/-- the law's falseCut -/
theorem c_L_falseCut (l : Launch) (hsl : l.stackTraces = false) (G : va_G) (T : Nat → ClassId) (sz : Nat) (ad : Nat → Nat) (sc : Nat → Nat → Int32) (M : XM) (o0 : Nat) (h : Nat → Int64) (a : Int32) (hn4 : mnw M ≤ 4) : Met l yL_falseCut wsL_falseCut ({ frames := 8, cells := 1, slots := 6, locals := 129 }) (va_Pc [.ref (ad 0), .int a, .ref o0] (xPre G T (xC T ad sc M ++ [(o0, .inl (T 4, 1, .inr (.inl h)))]) sz)) (va_Qi (fun (r : Int32) (u : ((Nat → Nat) × (Nat → Nat → Int32) × (Nat → Int64))) => ((xwb (nI 0) a = true ∧ r = nI 0 ∧ u.2.2 0 = Int32.toInt64 (nI (xct (fun w => decide (w < mnw M) && decide (msh M w = 0)) 4))) ∨ (xwb (nI 0) a = false ∧ r = nI 1)) ∧ u.1 0 = ad 0 ∧ va_D (va_A (xC T ad sc M ++ [(o0, .inl (T 4, 1, .inr (.inl h)))]) sz) (xC T u.1 u.2.1 (if xwb (nI 0) a then (xMfc M (xka a)) else M) ++ [(o0, .inl (T 4, 1, .inr (.inl u.2.2)))])) (fun u t => va_P G vwCl (xC T u.1 u.2.1 (if xwb (nI 0) a then (xMfc M (xka a)) else M) ++ [(o0, .inl (T 4, 1, .inr (.inl u.2.2)))]) t.heap) (va_A (xC T ad sc M ++ [(o0, .inl (T 4, 1, .inr (.inl h)))]) sz)) 1 6 (va_A (xC T ad sc M ++ [(o0, .inl (T 4, 1, .inr (.inl h)))]) sz) := by
  refine x_ofWH (hh := [(0, 9, 12, 13)]) (cc := cL_falseCut) (maxL := 4) (ret := (some .int)) (by decide +kernel) rfl ?_
  intro p e s m args below meth c s₁ B hml hv
  obtain ⟨rfl, hsz, hP, hK, hD0, hXB, hZ⟩ := hv
  have hx := B.exec
  have hb := B.bytes
  have hr := B.returns
  have hts := atoms_spec (ws := wsL_falseCut) B.pre
  have hown : s.vm.findClass RL = some m.cls := findClass_of_methodNamed B.named
  have hlocks := B.notSynchronized
  subst hsz
  have hD := hD0.self (sz := s.heap.size)
  generalize hAe : va_A (xC T ad sc M ++ [(o0, .inl (T 4, 1, .inr (.inl h)))]) s.heap.size = A at hD hZ ⊢
  have hA : ∀ q : Nat, s.heap.size ≤ q → A q := fun q h => by rw [← hAe]; exact Or.inr h
  have hS : va_S A s.heap s.heap [] := va_S.rf
  have hP : va_P G vwCl (xC T ad sc M ++ [(o0, .inl (T 4, 1, .inr (.inl h)))]) s.heap := hP
  have hl := lv_entry ([.ref (ad 0), .int a, .ref o0]) (n := 4) (Nat.le_of_ble_eq_true rfl)
  rw [lg_entry_eq]
  generalize (lg_sl ([.ref (ad 0), .int a, .ref o0]) ++ List.replicate (4 - (lg_sl ([.ref (ad 0), .int a, .ref o0])).length) Slot.unset).toArray = ls at hl ⊢
  have hl : lv_has ls 4 [(0, .ref (ad 0)), (1, .int a), (2, .ref o0)] := hl
  have htab := vx_table (x := yL_falseCut) B (hts (.codeWith yL_falseCut cL_falseCut 4 (some .int) [(0, 9, 12, 13)]) (by decide +kernel))
  have htab : c.exceptionTable.toList = [⟨0, 9, 12, 13⟩] := htab
  refine lv_aload_n hx hb dL_falseCut_0 rfl (lv_at hl 2 rfl) ?_
  refine lv_iconst (v := nI 0) hx hb dL_falseCut_1 (by decide) ?_
  refine lv_aload_n hx hb dL_falseCut_2 rfl (lv_at hl 0 rfl) ?_
  refine lv_iload_n hx hb dL_falseCut_3 rfl (lv_at hl 1 rfl) ?_
  refine x_xcalliA (vx_runV (As := [.int a]) (rest := [.int (nI 0), .ref o0]) ⟨hx, hb, hml, hown, hts⟩ (c_X3_falseCut l hsl G T _ ad sc M a hn4) (cwV 1 hts gL_falseCut_X3_falseCut rfl rfl rfl (by decide +kernel) ⟨Nat.le_of_ble_eq_true rfl, Nat.le_of_ble_eq_true rfl⟩) (x_preVA (wc := (xC T ad sc M)) (wr := [(o0, .inl (T 4, 1, .inr (.inl h)))]) hK hP hD hS hA hXB hZ _ _ 0 3 rfl rfl) rfl rfl hl.1 rfl (lv_room (Nat.le_of_ble_eq_true rfl)) dL_falseCut_4 ⟨Nat.le_of_ble_eq_true rfl, Nat.le_of_ble_eq_true rfl⟩) hP hD hS hA (fun _ _ _ => xd_self (xC_fst T ad sc _ M _ rfl rfl) (xd_l hD)) (fun E ce q9 H locs hE hP hS c1 c2 c3 => ?_) (fun r1 u1 H locs hw1 hP hD hS => ?_)
  · obtain ⟨hE, rfl⟩ := hE
    refine vx_catch hown [] ⟨0, 9, 12, 13⟩ [] htab (fun z hz => absurd hz List.not_mem_nil) (by decide) (by decide) (hts (.classLink RL 13 "java/lang/IllegalArgumentException") (by decide +kernel)) (va_Nw.use rfl (hXB.1 (.castable "java/lang/IllegalArgumentException" "java/lang/IllegalArgumentException") (by decide +kernel))) c1 c2 c3 ?_
    refine lv_astore_n (lv' := [(3, .ref q9), (0, .ref (ad 0)), (1, .int a), (2, .ref o0)]) hx hb dL_falseCut_12 rfl hl (by decide) rfl (fun ls hl => ?_)
    refine lv_iconst (v := nI 1) hx hb dL_falseCut_13 (by decide) ?_
    exact W.iret (v := nI 1) hx hb hr (fun t9_ ht hW => ⟨⟨nI 1, ((ad, sc, h) : ((Nat → Nat) × (Nat → Nat → Int32) × (Nat → Int64))), rfl, ⟨Or.inr ⟨hE, rfl⟩, rfl, by rw [if_neg (fun e => by rw [hE] at e; exact Bool.false_ne_true e)]; exact hD⟩, x_at ht (by rw [if_neg (fun e => by rw [hE] at e; exact Bool.false_ne_true e)]; exact hP)⟩, hS.F ht⟩) hS.2.2 dL_falseCut_14
  have hP : va_P G vwCl (xC T ad u1 (xMfc M (xka a)) ++ [(o0, .inl (T 4, 1, .inr (.inl h)))]) H := hP
  have hD : va_D A (xC T ad u1 (xMfc M (xka a)) ++ [(o0, .inl (T 4, 1, .inr (.inl h)))]) := hD
  refine lv_i2l hx hb dL_falseCut_7 rfl ?_
  refine va_last hx hb hK hP hD hS (xC T ad u1 (xMfc M (xka a))).length 4 x_lget rfl (vp_in_nI (n := 0) (N := 1) (by decide) (by decide)) dL_falseCut_8 (fun H locs hP hD hS => ?_)
  rw [x_lset] at hP hD
  have hP : va_P G vwCl (xC T ad u1 (xMfc M (xka a)) ++ [(o0, .inl (T 4, 1, .inr (.inl (vp_updL h (nI 0).toNatClampNeg r1.toInt64))))]) H := hP
  have hD : va_D A (xC T ad u1 (xMfc M (xka a)) ++ [(o0, .inl (T 4, 1, .inr (.inl (vp_updL h (nI 0).toNatClampNeg r1.toInt64))))]) := hD
  refine lv_goto (tgt := 15) hx hb dL_falseCut_9 (by decide) ?_
  refine lv_iconst (v := nI 0) hx hb dL_falseCut_15 (by decide) ?_
  exact W.iret (v := nI 0) hx hb hr (fun t9_ ht hW => ⟨⟨nI 0, ((ad, u1, vp_updL h (nI 0).toNatClampNeg r1.toInt64) : ((Nat → Nat) × (Nat → Nat → Int32) × (Nat → Int64))), rfl, ⟨Or.inl ⟨hw1.1, rfl, by rw [← hw1.2]; rfl⟩, rfl, by rw [if_pos (hw1.1)]; exact hD⟩, x_at ht (by rw [if_pos (hw1.1)]; exact hP)⟩, hS.F ht⟩) hS.2.2 dL_falseCut_16

set_option maxHeartbeats 4000000 in
set_option maxRecDepth 100000 in
/-- the law's comes -/
theorem c_L_comes (l : Launch) (hsl : l.stackTraces = false) (G : va_G) (T : Nat → ClassId) (sz : Nat) (ad : Nat → Nat) (sc : Nat → Nat → Int32) (M : XM) (o0 : Nat) (h : Nat → Int64) (a b x : Int32)  : Met l yL_comes wsL_comes ({ frames := 8, cells := 2, slots := 12, locals := 126 }) (va_Pc [.ref (ad 0), .int a, .int b, .int x, .ref o0] (xPre G T (xC T ad sc M ++ [(o0, .inl (T 4, 1, .inr (.inl h)))]) sz)) (va_Qi (fun (r : Int32) (u : ((Nat → Nat) × (Nat → Nat → Int32) × (Nat → Int64))) => (((xwb a b = true ∧ xvb 16 x = true) ∧ r = nI 0 ∧ u.2.2 0 = Int32.toInt64 (nI (xpa (xka a) (xka b) (xka x)))) ∨ (xwb a b = false ∧ r = nI 1) ∨ ((xwb a b = true ∧ xvb 16 x = false) ∧ r = nI 2)) ∧ u.1 0 = ad 0 ∧ va_D (va_A (xC T ad sc M ++ [(o0, .inl (T 4, 1, .inr (.inl h)))]) sz) (xC T u.1 u.2.1 M ++ [(o0, .inl (T 4, 1, .inr (.inl u.2.2)))])) (fun u t => va_P G vwCl (xC T u.1 u.2.1 M ++ [(o0, .inl (T 4, 1, .inr (.inl u.2.2)))]) t.heap) (va_A (xC T ad sc M ++ [(o0, .inl (T 4, 1, .inr (.inl h)))]) sz)) 2 12 (va_A (xC T ad sc M ++ [(o0, .inl (T 4, 1, .inr (.inl h)))]) sz) := by
  refine x_ofWH (hh := [(0, 12, 15, 13), (0, 12, 19, 23)]) (cc := cL_comes) (maxL := 6) (ret := (some .int)) (by decide +kernel) rfl ?_
  intro p e s m args below meth c s₁ B hml hv
  obtain ⟨rfl, hsz, hP, hK, hD0, hXB, hZ⟩ := hv
  have hx := B.exec
  have hb := B.bytes
  have hr := B.returns
  have hts := atoms_spec (ws := wsL_comes) B.pre
  have hown : s.vm.findClass RL = some m.cls := findClass_of_methodNamed B.named
  have hlocks := B.notSynchronized
  subst hsz
  have hD := hD0.self (sz := s.heap.size)
  generalize hAe : va_A (xC T ad sc M ++ [(o0, .inl (T 4, 1, .inr (.inl h)))]) s.heap.size = A at hD hZ ⊢
  have hA : ∀ q : Nat, s.heap.size ≤ q → A q := fun q h => by rw [← hAe]; exact Or.inr h
  have hS : va_S A s.heap s.heap [] := va_S.rf
  have hP : va_P G vwCl (xC T ad sc M ++ [(o0, .inl (T 4, 1, .inr (.inl h)))]) s.heap := hP
  have hl := lv_entry ([.ref (ad 0), .int a, .int b, .int x, .ref o0]) (n := 6) (Nat.le_of_ble_eq_true rfl)
  rw [lg_entry_eq]
  generalize (lg_sl ([.ref (ad 0), .int a, .int b, .int x, .ref o0]) ++ List.replicate (6 - (lg_sl ([.ref (ad 0), .int a, .int b, .int x, .ref o0])).length) Slot.unset).toArray = ls at hl ⊢
  have hl : lv_has ls 6 [(0, .ref (ad 0)), (1, .int a), (2, .int b), (3, .int x), (4, .ref o0)] := hl
  have htab := vx_table (x := yL_comes) B (hts (.codeWith yL_comes cL_comes 6 (some .int) [(0, 12, 15, 13), (0, 12, 19, 23)]) (by decide +kernel))
  have htab : c.exceptionTable.toList = [⟨0, 12, 15, 13⟩, ⟨0, 12, 19, 23⟩] := htab
  refine lv_aload hx hb dL_comes_0 (lv_at hl 4 rfl) ?_
  refine lv_iconst (v := nI 0) hx hb dL_comes_2 (by decide) ?_
  refine lv_aload_n hx hb dL_comes_3 rfl (lv_at hl 0 rfl) ?_
  refine lv_iload_n hx hb dL_comes_4 rfl (lv_at hl 1 rfl) ?_
  refine lv_iload_n hx hb dL_comes_5 rfl (lv_at hl 2 rfl) ?_
  refine lv_iload_n hx hb dL_comes_6 rfl (lv_at hl 3 rfl) ?_
  refine x_xcalliA (vx_runV (As := [.int a, .int b, .int x]) (rest := [.int (nI 0), .ref o0]) ⟨hx, hb, hml, hown, hts⟩ (c_X3_comes l hsl G T _ ad sc M a b x ) (cwV 3 hts gL_comes_X3_comes rfl rfl rfl (by decide +kernel) ⟨Nat.le_of_ble_eq_true rfl, Nat.le_of_ble_eq_true rfl⟩) (x_preVA (wc := (xC T ad sc M)) (wr := [(o0, .inl (T 4, 1, .inr (.inl h)))]) hK hP hD hS hA hXB hZ _ _ 0 3 rfl rfl) rfl rfl hl.1 rfl (lv_room (Nat.le_of_ble_eq_true rfl)) dL_comes_7 ⟨Nat.le_of_ble_eq_true rfl, Nat.le_of_ble_eq_true rfl⟩) hP hD hS hA (fun _ _ _ => (xd_l hD).self) (fun E ce q9 H locs hE hP hS c1 c2 c3 => ?_) (fun r1 u1 H locs hw1 hP hD hS => ?_)
  · rcases hE with ⟨hE, rfl⟩ | ⟨hE1, hE2, rfl⟩
    · refine vx_catch hown [] ⟨0, 12, 15, 13⟩ [⟨0, 12, 19, 23⟩] htab (fun z hz => absurd hz List.not_mem_nil) (by decide) (by decide) (hts (.classLink RL 13 "java/lang/IllegalArgumentException") (by decide +kernel)) (va_Nw.use rfl (hXB.1 (.castable "java/lang/IllegalArgumentException" "java/lang/IllegalArgumentException") (by decide +kernel))) c1 c2 c3 ?_
      refine lv_astore (lv' := [(5, .ref q9), (0, .ref (ad 0)), (1, .int a), (2, .int b), (3, .int x), (4, .ref o0)]) hx hb dL_comes_15 hl (by decide) rfl (fun ls hl => ?_)
      refine lv_iconst (v := nI 1) hx hb dL_comes_17 (by decide) ?_
      exact W.iret (v := nI 1) hx hb hr (fun t9_ ht hW => ⟨⟨nI 1, ((ad, sc, h) : ((Nat → Nat) × (Nat → Nat → Int32) × (Nat → Int64))), rfl, ⟨Or.inr (Or.inl ⟨hE, rfl⟩), rfl, by exact hD⟩, x_at ht (by exact hP)⟩, hS.F ht⟩) hS.2.2 dL_comes_18
    · refine vx_catch hown [⟨0, 12, 15, 13⟩] ⟨0, 12, 19, 23⟩ [] htab (fun z hz => by rw [List.mem_singleton.mp hz]; exact Or.inr ⟨(by decide : (13 : Nat) ≠ 0), "java/lang/IllegalArgumentException", hts (.classLink RL 13 "java/lang/IllegalArgumentException") (by decide +kernel), hXB.2.2.1 ("java/lang/IndexOutOfBoundsException", "java/lang/IllegalArgumentException") (by decide)⟩) (by decide) (by decide) (hts (.classLink RL 23 "java/lang/IndexOutOfBoundsException") (by decide +kernel)) (va_Nw.use rfl (hXB.1 (.castable "java/lang/IndexOutOfBoundsException" "java/lang/IndexOutOfBoundsException") (by decide +kernel))) c1 c2 c3 ?_
      refine lv_astore (lv' := [(5, .ref q9), (0, .ref (ad 0)), (1, .int a), (2, .int b), (3, .int x), (4, .ref o0)]) hx hb dL_comes_19 hl (by decide) rfl (fun ls hl => ?_)
      refine lv_iconst (v := nI 2) hx hb dL_comes_21 (by decide) ?_
      exact W.iret (v := nI 2) hx hb hr (fun t9_ ht hW => ⟨⟨nI 2, ((ad, sc, h) : ((Nat → Nat) × (Nat → Nat → Int32) × (Nat → Int64))), rfl, ⟨Or.inr (Or.inr ⟨⟨hE1, hE2⟩, rfl⟩), rfl, by exact hD⟩, x_at ht (by exact hP)⟩, hS.F ht⟩) hS.2.2 dL_comes_22
  have hP : va_P G vwCl (xC T ad sc M ++ [(o0, .inl (T 4, 1, .inr (.inl h)))]) H := hP
  have hD : va_D A (xC T ad sc M ++ [(o0, .inl (T 4, 1, .inr (.inl h)))]) := hD
  refine lv_i2l hx hb dL_comes_10 rfl ?_
  refine va_last hx hb hK hP hD hS (xC T ad sc M).length 4 x_lget rfl (vp_in_nI (n := 0) (N := 1) (by decide) (by decide)) dL_comes_11 (fun H locs hP hD hS => ?_)
  rw [x_lset] at hP hD
  have hP : va_P G vwCl (xC T ad sc M ++ [(o0, .inl (T 4, 1, .inr (.inl (vp_updL h (nI 0).toNatClampNeg r1.toInt64))))]) H := hP
  have hD : va_D A (xC T ad sc M ++ [(o0, .inl (T 4, 1, .inr (.inl (vp_updL h (nI 0).toNatClampNeg r1.toInt64))))]) := hD
  refine lv_goto (tgt := 23) hx hb dL_comes_12 (by decide) ?_
  refine lv_iconst (v := nI 0) hx hb dL_comes_23 (by decide) ?_
  exact W.iret (v := nI 0) hx hb hr (fun t9_ ht hW => ⟨⟨nI 0, ((ad, sc, vp_updL h (nI 0).toNatClampNeg r1.toInt64) : ((Nat → Nat) × (Nat → Nat → Int32) × (Nat → Int64))), rfl, ⟨Or.inl ⟨⟨hw1.1, hw1.2.1⟩, rfl, by rw [← hw1.2.2]; rfl⟩, rfl, by exact hD⟩, x_at ht (by exact hP)⟩, hS.F ht⟩) hS.2.2 dL_comes_24

set_option maxHeartbeats 4000000 in
set_option maxRecDepth 100000 in
/-- the law's card -/
theorem c_L_card (l : Launch) (hsl : l.stackTraces = false) (G : va_G) (T : Nat → ClassId) (sz : Nat) (ad : Nat → Nat) (sc : Nat → Nat → Int32) (M : XM) (o0 : Nat) (h : Nat → Int64) (x : Int32)  : Met l yL_card wsL_card ({ frames := 8, cells := 1, slots := 6, locals := 123 }) (va_Pc [.ref (ad 0), .int x, .ref o0] (xPre G T (xC T ad sc M ++ [(o0, .inl (T 4, 1, .inr (.inl h)))]) sz)) (va_Qi (fun (r : Int32) (u : ((Nat → Nat) × (Nat → Nat → Int32) × (Nat → Int64))) => ((xvb 16 x = true ∧ r = nI 0 ∧ u.2.2 0 = Int32.toInt64 (mpk M (xka x))) ∨ (xvb 16 x = false ∧ r = nI 1)) ∧ u.1 0 = ad 0 ∧ va_D (va_A (xC T ad sc M ++ [(o0, .inl (T 4, 1, .inr (.inl h)))]) sz) (xC T u.1 u.2.1 M ++ [(o0, .inl (T 4, 1, .inr (.inl u.2.2)))])) (fun u t => va_P G vwCl (xC T u.1 u.2.1 M ++ [(o0, .inl (T 4, 1, .inr (.inl u.2.2)))]) t.heap) (va_A (xC T ad sc M ++ [(o0, .inl (T 4, 1, .inr (.inl h)))]) sz)) 1 6 (va_A (xC T ad sc M ++ [(o0, .inl (T 4, 1, .inr (.inl h)))]) sz) := by
  refine x_ofWH (hh := [(0, 9, 12, 23)]) (cc := cL_card) (maxL := 4) (ret := (some .int)) (by decide +kernel) rfl ?_
  intro p e s m args below meth c s₁ B hml hv
  obtain ⟨rfl, hsz, hP, hK, hD0, hXB, hZ⟩ := hv
  have hx := B.exec
  have hb := B.bytes
  have hr := B.returns
  have hts := atoms_spec (ws := wsL_card) B.pre
  have hown : s.vm.findClass RL = some m.cls := findClass_of_methodNamed B.named
  have hlocks := B.notSynchronized
  subst hsz
  have hD := hD0.self (sz := s.heap.size)
  generalize hAe : va_A (xC T ad sc M ++ [(o0, .inl (T 4, 1, .inr (.inl h)))]) s.heap.size = A at hD hZ ⊢
  have hA : ∀ q : Nat, s.heap.size ≤ q → A q := fun q h => by rw [← hAe]; exact Or.inr h
  have hS : va_S A s.heap s.heap [] := va_S.rf
  have hP : va_P G vwCl (xC T ad sc M ++ [(o0, .inl (T 4, 1, .inr (.inl h)))]) s.heap := hP
  have hl := lv_entry ([.ref (ad 0), .int x, .ref o0]) (n := 4) (Nat.le_of_ble_eq_true rfl)
  rw [lg_entry_eq]
  generalize (lg_sl ([.ref (ad 0), .int x, .ref o0]) ++ List.replicate (4 - (lg_sl ([.ref (ad 0), .int x, .ref o0])).length) Slot.unset).toArray = ls at hl ⊢
  have hl : lv_has ls 4 [(0, .ref (ad 0)), (1, .int x), (2, .ref o0)] := hl
  have htab := vx_table (x := yL_card) B (hts (.codeWith yL_card cL_card 4 (some .int) [(0, 9, 12, 23)]) (by decide +kernel))
  have htab : c.exceptionTable.toList = [⟨0, 9, 12, 23⟩] := htab
  refine lv_aload_n hx hb dL_card_0 rfl (lv_at hl 2 rfl) ?_
  refine lv_iconst (v := nI 0) hx hb dL_card_1 (by decide) ?_
  refine lv_aload_n hx hb dL_card_2 rfl (lv_at hl 0 rfl) ?_
  refine lv_iload_n hx hb dL_card_3 rfl (lv_at hl 1 rfl) ?_
  refine x_xcalliA (vx_runV (As := [.int x]) (rest := [.int (nI 0), .ref o0]) ⟨hx, hb, hml, hown, hts⟩ (c_X3_card l hsl G T _ ad sc M x ) (cwV 1 hts gL_card_X3_card rfl rfl rfl (by decide +kernel) ⟨Nat.le_of_ble_eq_true rfl, Nat.le_of_ble_eq_true rfl⟩) (x_preVA (wc := (xC T ad sc M)) (wr := [(o0, .inl (T 4, 1, .inr (.inl h)))]) hK hP hD hS hA hXB hZ _ _ 0 3 rfl rfl) rfl rfl hl.1 rfl (lv_room (Nat.le_of_ble_eq_true rfl)) dL_card_4 ⟨Nat.le_of_ble_eq_true rfl, Nat.le_of_ble_eq_true rfl⟩) hP hD hS hA (fun _ _ _ => (xd_l hD).self) (fun E ce q9 H locs hE hP hS c1 c2 c3 => ?_) (fun r1 u1 H locs hw1 hP hD hS => ?_)
  · obtain ⟨hE, rfl⟩ := hE
    refine vx_catch hown [] ⟨0, 9, 12, 23⟩ [] htab (fun z hz => absurd hz List.not_mem_nil) (by decide) (by decide) (hts (.classLink RL 23 "java/lang/IndexOutOfBoundsException") (by decide +kernel)) (va_Nw.use rfl (hXB.1 (.castable "java/lang/IndexOutOfBoundsException" "java/lang/IndexOutOfBoundsException") (by decide +kernel))) c1 c2 c3 ?_
    refine lv_astore_n (lv' := [(3, .ref q9), (0, .ref (ad 0)), (1, .int x), (2, .ref o0)]) hx hb dL_card_12 rfl hl (by decide) rfl (fun ls hl => ?_)
    refine lv_iconst (v := nI 1) hx hb dL_card_13 (by decide) ?_
    exact W.iret (v := nI 1) hx hb hr (fun t9_ ht hW => ⟨⟨nI 1, ((ad, sc, h) : ((Nat → Nat) × (Nat → Nat → Int32) × (Nat → Int64))), rfl, ⟨Or.inr ⟨hE, rfl⟩, rfl, by exact hD⟩, x_at ht (by exact hP)⟩, hS.F ht⟩) hS.2.2 dL_card_14
  have hP : va_P G vwCl (xC T ad sc M ++ [(o0, .inl (T 4, 1, .inr (.inl h)))]) H := hP
  have hD : va_D A (xC T ad sc M ++ [(o0, .inl (T 4, 1, .inr (.inl h)))]) := hD
  refine lv_i2l hx hb dL_card_7 rfl ?_
  refine va_last hx hb hK hP hD hS (xC T ad sc M).length 4 x_lget rfl (vp_in_nI (n := 0) (N := 1) (by decide) (by decide)) dL_card_8 (fun H locs hP hD hS => ?_)
  rw [x_lset] at hP hD
  have hP : va_P G vwCl (xC T ad sc M ++ [(o0, .inl (T 4, 1, .inr (.inl (vp_updL h (nI 0).toNatClampNeg r1.toInt64))))]) H := hP
  have hD : va_D A (xC T ad sc M ++ [(o0, .inl (T 4, 1, .inr (.inl (vp_updL h (nI 0).toNatClampNeg r1.toInt64))))]) := hD
  refine lv_goto (tgt := 15) hx hb dL_card_9 (by decide) ?_
  refine lv_iconst (v := nI 0) hx hb dL_card_15 (by decide) ?_
  exact W.iret (v := nI 0) hx hb hr (fun t9_ ht hW => ⟨⟨nI 0, ((ad, sc, vp_updL h (nI 0).toNatClampNeg r1.toInt64) : ((Nat → Nat) × (Nat → Nat → Int32) × (Nat → Int64))), rfl, ⟨Or.inl ⟨hw1.1, rfl, by rw [← hw1.2]; rfl⟩, rfl, by exact hD⟩, x_at ht (by exact hP)⟩, hS.F ht⟩) hS.2.2 dL_card_16

set_option maxHeartbeats 4000000 in
set_option maxRecDepth 100000 in
/-- the law's find -/
theorem c_L_find (l : Launch) (hsl : l.stackTraces = false) (G : va_G) (T : Nat → ClassId) (sz : Nat) (ad : Nat → Nat) (sc : Nat → Nat → Int32) (M : XM) (o0 : Nat) (h : Nat → Int64) (x : Int32)  : Met l yL_find wsL_find ({ frames := 8, cells := 1, slots := 6, locals := 123 }) (va_Pc [.ref (ad 0), .int x, .ref o0] (xPre G T (xC T ad sc M ++ [(o0, .inl (T 4, 1, .inr (.inl h)))]) sz)) (va_Qi (fun (r : Int32) (u : ((Nat → Nat) × (Nat → Nat → Int32) × (Nat → Int64))) => ((xvb 16 x = true ∧ r = nI 0 ∧ u.2.2 0 = Int32.toInt64 (xfp (mpk M) x)) ∨ (xvb 16 x = false ∧ r = nI 1)) ∧ u.1 0 = ad 0 ∧ va_D (va_A (xC T ad sc M ++ [(o0, .inl (T 4, 1, .inr (.inl h)))]) sz) (xC T u.1 u.2.1 M ++ [(o0, .inl (T 4, 1, .inr (.inl u.2.2)))])) (fun u t => va_P G vwCl (xC T u.1 u.2.1 M ++ [(o0, .inl (T 4, 1, .inr (.inl u.2.2)))]) t.heap) (va_A (xC T ad sc M ++ [(o0, .inl (T 4, 1, .inr (.inl h)))]) sz)) 1 6 (va_A (xC T ad sc M ++ [(o0, .inl (T 4, 1, .inr (.inl h)))]) sz) := by
  refine x_ofWH (hh := [(0, 9, 12, 23)]) (cc := cL_find) (maxL := 4) (ret := (some .int)) (by decide +kernel) rfl ?_
  intro p e s m args below meth c s₁ B hml hv
  obtain ⟨rfl, hsz, hP, hK, hD0, hXB, hZ⟩ := hv
  have hx := B.exec
  have hb := B.bytes
  have hr := B.returns
  have hts := atoms_spec (ws := wsL_find) B.pre
  have hown : s.vm.findClass RL = some m.cls := findClass_of_methodNamed B.named
  have hlocks := B.notSynchronized
  subst hsz
  have hD := hD0.self (sz := s.heap.size)
  generalize hAe : va_A (xC T ad sc M ++ [(o0, .inl (T 4, 1, .inr (.inl h)))]) s.heap.size = A at hD hZ ⊢
  have hA : ∀ q : Nat, s.heap.size ≤ q → A q := fun q h => by rw [← hAe]; exact Or.inr h
  have hS : va_S A s.heap s.heap [] := va_S.rf
  have hP : va_P G vwCl (xC T ad sc M ++ [(o0, .inl (T 4, 1, .inr (.inl h)))]) s.heap := hP
  have hl := lv_entry ([.ref (ad 0), .int x, .ref o0]) (n := 4) (Nat.le_of_ble_eq_true rfl)
  rw [lg_entry_eq]
  generalize (lg_sl ([.ref (ad 0), .int x, .ref o0]) ++ List.replicate (4 - (lg_sl ([.ref (ad 0), .int x, .ref o0])).length) Slot.unset).toArray = ls at hl ⊢
  have hl : lv_has ls 4 [(0, .ref (ad 0)), (1, .int x), (2, .ref o0)] := hl
  have htab := vx_table (x := yL_find) B (hts (.codeWith yL_find cL_find 4 (some .int) [(0, 9, 12, 23)]) (by decide +kernel))
  have htab : c.exceptionTable.toList = [⟨0, 9, 12, 23⟩] := htab
  refine lv_aload_n hx hb dL_find_0 rfl (lv_at hl 2 rfl) ?_
  refine lv_iconst (v := nI 0) hx hb dL_find_1 (by decide) ?_
  refine lv_aload_n hx hb dL_find_2 rfl (lv_at hl 0 rfl) ?_
  refine lv_iload_n hx hb dL_find_3 rfl (lv_at hl 1 rfl) ?_
  refine x_xcalliA (vx_runV (As := [.int x]) (rest := [.int (nI 0), .ref o0]) ⟨hx, hb, hml, hown, hts⟩ (c_X3_find l hsl G T _ ad sc M x ) (cwV 1 hts gL_find_X3_find rfl rfl rfl (by decide +kernel) ⟨Nat.le_of_ble_eq_true rfl, Nat.le_of_ble_eq_true rfl⟩) (x_preVA (wc := (xC T ad sc M)) (wr := [(o0, .inl (T 4, 1, .inr (.inl h)))]) hK hP hD hS hA hXB hZ _ _ 0 3 rfl rfl) rfl rfl hl.1 rfl (lv_room (Nat.le_of_ble_eq_true rfl)) dL_find_4 ⟨Nat.le_of_ble_eq_true rfl, Nat.le_of_ble_eq_true rfl⟩) hP hD hS hA (fun _ _ _ => (xd_l hD).self) (fun E ce q9 H locs hE hP hS c1 c2 c3 => ?_) (fun r1 u1 H locs hw1 hP hD hS => ?_)
  · obtain ⟨hE, rfl⟩ := hE
    refine vx_catch hown [] ⟨0, 9, 12, 23⟩ [] htab (fun z hz => absurd hz List.not_mem_nil) (by decide) (by decide) (hts (.classLink RL 23 "java/lang/IndexOutOfBoundsException") (by decide +kernel)) (va_Nw.use rfl (hXB.1 (.castable "java/lang/IndexOutOfBoundsException" "java/lang/IndexOutOfBoundsException") (by decide +kernel))) c1 c2 c3 ?_
    refine lv_astore_n (lv' := [(3, .ref q9), (0, .ref (ad 0)), (1, .int x), (2, .ref o0)]) hx hb dL_find_12 rfl hl (by decide) rfl (fun ls hl => ?_)
    refine lv_iconst (v := nI 1) hx hb dL_find_13 (by decide) ?_
    exact W.iret (v := nI 1) hx hb hr (fun t9_ ht hW => ⟨⟨nI 1, ((ad, sc, h) : ((Nat → Nat) × (Nat → Nat → Int32) × (Nat → Int64))), rfl, ⟨Or.inr ⟨hE, rfl⟩, rfl, by exact hD⟩, x_at ht (by exact hP)⟩, hS.F ht⟩) hS.2.2 dL_find_14
  have hP : va_P G vwCl (xC T ad sc M ++ [(o0, .inl (T 4, 1, .inr (.inl h)))]) H := hP
  have hD : va_D A (xC T ad sc M ++ [(o0, .inl (T 4, 1, .inr (.inl h)))]) := hD
  refine lv_i2l hx hb dL_find_7 rfl ?_
  refine va_last hx hb hK hP hD hS (xC T ad sc M).length 4 x_lget rfl (vp_in_nI (n := 0) (N := 1) (by decide) (by decide)) dL_find_8 (fun H locs hP hD hS => ?_)
  rw [x_lset] at hP hD
  have hP : va_P G vwCl (xC T ad sc M ++ [(o0, .inl (T 4, 1, .inr (.inl (vp_updL h (nI 0).toNatClampNeg r1.toInt64))))]) H := hP
  have hD : va_D A (xC T ad sc M ++ [(o0, .inl (T 4, 1, .inr (.inl (vp_updL h (nI 0).toNatClampNeg r1.toInt64))))]) := hD
  refine lv_goto (tgt := 15) hx hb dL_find_9 (by decide) ?_
  refine lv_iconst (v := nI 0) hx hb dL_find_15 (by decide) ?_
  exact W.iret (v := nI 0) hx hb hr (fun t9_ ht hW => ⟨⟨nI 0, ((ad, sc, vp_updL h (nI 0).toNatClampNeg r1.toInt64) : ((Nat → Nat) × (Nat → Nat → Int32) × (Nat → Int64))), rfl, ⟨Or.inl ⟨hw1.1, rfl, by rw [← hw1.2]; rfl⟩, rfl, by exact hD⟩, x_at ht (by exact hP)⟩, hS.F ht⟩) hS.2.2 dL_find_16

set_option maxHeartbeats 4000000 in
set_option maxRecDepth 100000 in
/-- the law's watch -/
theorem c_L_watch (l : Launch) (hsl : l.stackTraces = false) (G : va_G) (T : Nat → ClassId) (sz : Nat) (ad : Nat → Nat) (sc : Nat → Nat → Int32) (M : XM) (o0 : Nat) (h : Nat → Int64) (sh1 : Int32) (hnr : narrow .boolean (.int sh1) = .int sh1) (hft : fits .boolean (.int sh1) = true) (hn4 : mnw M ≤ 4) (hm4 : mnp M ≤ 4) (hz : man M (mnw M) = 0 ∧ mgl M (mnw M) = 0) : Met l yL_watch wsL_watch ({ frames := 7, cells := 4, slots := 38, locals := 104 }) (va_Pc [.ref (ad 0), .int sh1, .ref o0] (xPre G T (xC T ad sc M ++ [(o0, .inl (T 4, 1, .inr (.inl h)))]) sz)) (va_Qi (fun (r : Int32) (u : ((Nat → Nat) × (Nat → Nat → Int32) × (Nat → Int64))) => ((mnw M < 4 ∧ r = nI 0 ∧ u.2.2 0 = Int32.toInt64 (nI (mnw M))) ∨ (mnw M = 4 ∧ r = nI 1)) ∧ u.1 0 = ad 0 ∧ va_D (va_A (xC T ad sc M ++ [(o0, .inl (T 4, 1, .inr (.inl h)))]) sz) (xC T u.1 u.2.1 (if mnw M < 4 then (xmk (mpk M) (va_up (mth M) (mnw M) (fun _ => nI 65535)) (upd (msh M) (mnw M) sh1) (man M) (mgl M) (mhb M) (mtk M) (mnw M + 1) (mnp M) (mle M) (mwy M) (mfc M) (mta M)) else M) ++ [(o0, .inl (T 4, 1, .inr (.inl u.2.2)))])) (fun u t => va_P G vwCl (xC T u.1 u.2.1 (if mnw M < 4 then (xmk (mpk M) (va_up (mth M) (mnw M) (fun _ => nI 65535)) (upd (msh M) (mnw M) sh1) (man M) (mgl M) (mhb M) (mtk M) (mnw M + 1) (mnp M) (mle M) (mwy M) (mfc M) (mta M)) else M) ++ [(o0, .inl (T 4, 1, .inr (.inl u.2.2)))]) t.heap) (va_A (xC T ad sc M ++ [(o0, .inl (T 4, 1, .inr (.inl h)))]) sz)) 4 38 (va_A (xC T ad sc M ++ [(o0, .inl (T 4, 1, .inr (.inl h)))]) sz) := by
  refine x_ofWH (hh := [(0, 9, 12, 35)]) (cc := cL_watch) (maxL := 4) (ret := (some .int)) (by decide +kernel) rfl ?_
  intro p e s m args below meth c s₁ B hml hv
  obtain ⟨rfl, hsz, hP, hK, hD0, hXB, hZ⟩ := hv
  have hx := B.exec
  have hb := B.bytes
  have hr := B.returns
  have hts := atoms_spec (ws := wsL_watch) B.pre
  have hown : s.vm.findClass RL = some m.cls := findClass_of_methodNamed B.named
  have hlocks := B.notSynchronized
  subst hsz
  have hD := hD0.self (sz := s.heap.size)
  generalize hAe : va_A (xC T ad sc M ++ [(o0, .inl (T 4, 1, .inr (.inl h)))]) s.heap.size = A at hD hZ ⊢
  have hA : ∀ q : Nat, s.heap.size ≤ q → A q := fun q h => by rw [← hAe]; exact Or.inr h
  have hS : va_S A s.heap s.heap [] := va_S.rf
  have hP : va_P G vwCl (xC T ad sc M ++ [(o0, .inl (T 4, 1, .inr (.inl h)))]) s.heap := hP
  have hl := lv_entry ([.ref (ad 0), .int sh1, .ref o0]) (n := 4) (Nat.le_of_ble_eq_true rfl)
  rw [lg_entry_eq]
  generalize (lg_sl ([.ref (ad 0), .int sh1, .ref o0]) ++ List.replicate (4 - (lg_sl ([.ref (ad 0), .int sh1, .ref o0])).length) Slot.unset).toArray = ls at hl ⊢
  have hl : lv_has ls 4 [(0, .ref (ad 0)), (1, .int sh1), (2, .ref o0)] := hl
  have htab := vx_table (x := yL_watch) B (hts (.codeWith yL_watch cL_watch 4 (some .int) [(0, 9, 12, 35)]) (by decide +kernel))
  have htab : c.exceptionTable.toList = [⟨0, 9, 12, 35⟩] := htab
  refine lv_aload_n hx hb dL_watch_0 rfl (lv_at hl 2 rfl) ?_
  refine lv_iconst (v := nI 0) hx hb dL_watch_1 (by decide) ?_
  refine lv_aload_n hx hb dL_watch_2 rfl (lv_at hl 0 rfl) ?_
  refine lv_iload_n hx hb dL_watch_3 rfl (lv_at hl 1 rfl) ?_
  refine x_xcalliA (vx_runV (As := [.int sh1]) (rest := [.int (nI 0), .ref o0]) ⟨hx, hb, hml, hown, hts⟩ (c_X3_watch l hsl G T _ ad sc M sh1 hnr hft hn4 hm4 hz) (cwV 1 hts gL_watch_X3_watch rfl rfl rfl (by decide +kernel) ⟨Nat.le_of_ble_eq_true rfl, Nat.le_of_ble_eq_true rfl⟩) (x_preVA (wc := (xC T ad sc M)) (wr := [(o0, .inl (T 4, 1, .inr (.inl h)))]) hK hP hD hS hA hXB hZ _ _ 0 3 rfl rfl) rfl rfl hl.1 rfl (lv_room (Nat.le_of_ble_eq_true rfl)) dL_watch_4 ⟨Nat.le_of_ble_eq_true rfl, Nat.le_of_ble_eq_true rfl⟩) hP hD hS hA (fun _ _ hw => hw.2.2.2) (fun E ce q9 H locs hE hP hS c1 c2 c3 => ?_) (fun r1 u1 H locs hw1 hP hD hS => ?_)
  · obtain ⟨hE, rfl⟩ := hE
    refine vx_catch hown [] ⟨0, 9, 12, 35⟩ [] htab (fun z hz => absurd hz List.not_mem_nil) (by decide) (by decide) (hts (.classLink RL 35 "java/lang/IllegalStateException") (by decide +kernel)) (va_Nw.use rfl (hXB.1 (.castable "java/lang/IllegalStateException" "java/lang/IllegalStateException") (by decide +kernel))) c1 c2 c3 ?_
    refine lv_astore_n (lv' := [(3, .ref q9), (0, .ref (ad 0)), (1, .int sh1), (2, .ref o0)]) hx hb dL_watch_12 rfl hl (by decide) rfl (fun ls hl => ?_)
    refine lv_iconst (v := nI 1) hx hb dL_watch_13 (by decide) ?_
    exact W.iret (v := nI 1) hx hb hr (fun t9_ ht hW => ⟨⟨nI 1, ((ad, sc, h) : ((Nat → Nat) × (Nat → Nat → Int32) × (Nat → Int64))), rfl, ⟨Or.inr ⟨hE, rfl⟩, rfl, by rw [if_neg (by omega)]; exact hD⟩, x_at ht (by rw [if_neg (by omega)]; exact hP)⟩, hS.F ht⟩) hS.2.2 dL_watch_14
  have hP : va_P G vwCl (xC T u1.1 u1.2 (xmk (mpk M) (va_up (mth M) (mnw M) (fun _ => nI 65535)) (upd (msh M) (mnw M) sh1) (man M) (mgl M) (mhb M) (mtk M) (mnw M + 1) (mnp M) (mle M) (mwy M) (mfc M) (mta M)) ++ [(o0, .inl (T 4, 1, .inr (.inl h)))]) H := hP
  have hD : va_D A (xC T u1.1 u1.2 (xmk (mpk M) (va_up (mth M) (mnw M) (fun _ => nI 65535)) (upd (msh M) (mnw M) sh1) (man M) (mgl M) (mhb M) (mtk M) (mnw M + 1) (mnp M) (mle M) (mwy M) (mfc M) (mta M)) ++ [(o0, .inl (T 4, 1, .inr (.inl h)))]) := hD
  refine lv_i2l hx hb dL_watch_7 rfl ?_
  refine va_last hx hb hK hP hD hS (xC T u1.1 u1.2 (xmk (mpk M) (va_up (mth M) (mnw M) (fun _ => nI 65535)) (upd (msh M) (mnw M) sh1) (man M) (mgl M) (mhb M) (mtk M) (mnw M + 1) (mnp M) (mle M) (mwy M) (mfc M) (mta M))).length 4 x_lget rfl (vp_in_nI (n := 0) (N := 1) (by decide) (by decide)) dL_watch_8 (fun H locs hP hD hS => ?_)
  rw [x_lset] at hP hD
  have hP : va_P G vwCl (xC T u1.1 u1.2 (xmk (mpk M) (va_up (mth M) (mnw M) (fun _ => nI 65535)) (upd (msh M) (mnw M) sh1) (man M) (mgl M) (mhb M) (mtk M) (mnw M + 1) (mnp M) (mle M) (mwy M) (mfc M) (mta M)) ++ [(o0, .inl (T 4, 1, .inr (.inl (vp_updL h (nI 0).toNatClampNeg r1.toInt64))))]) H := hP
  have hD : va_D A (xC T u1.1 u1.2 (xmk (mpk M) (va_up (mth M) (mnw M) (fun _ => nI 65535)) (upd (msh M) (mnw M) sh1) (man M) (mgl M) (mhb M) (mtk M) (mnw M + 1) (mnp M) (mle M) (mwy M) (mfc M) (mta M)) ++ [(o0, .inl (T 4, 1, .inr (.inl (vp_updL h (nI 0).toNatClampNeg r1.toInt64))))]) := hD
  refine lv_goto (tgt := 15) hx hb dL_watch_9 (by decide) ?_
  refine lv_iconst (v := nI 0) hx hb dL_watch_15 (by decide) ?_
  exact W.iret (v := nI 0) hx hb hr (fun t9_ ht hW => ⟨⟨nI 0, ((u1.1, u1.2, vp_updL h (nI 0).toNatClampNeg r1.toInt64) : ((Nat → Nat) × (Nat → Nat → Int32) × (Nat → Int64))), rfl, ⟨Or.inl ⟨hw1.1, rfl, by rw [← hw1.2.1]; rfl⟩, hw1.2.2.1, by rw [if_pos (hw1.1)]; exact hD⟩, x_at ht (by rw [if_pos (hw1.1)]; exact hP)⟩, hS.F ht⟩) hS.2.2 dL_watch_16

set_option maxHeartbeats 4000000 in
set_option maxRecDepth 100000 in
/-- the law's glimpse -/
theorem c_L_glimpse (l : Launch) (hsl : l.stackTraces = false) (G : va_G) (T : Nat → ClassId) (sz : Nat) (N : Nat) (hN : N = 257) (ad : Nat → Nat) (sc : Nat → Nat → Int32) (M : XM) (o0 : Nat) (h : Nat → Int64) (x y : Int32) (hn4 : mnw M ≤ 4) : Met l yL_glimpse wsL_glimpse ({ frames := 8, cells := 2, slots := 12, locals := 137 }) (va_Pc [.ref (ad 0), .int x, .int y, .ref o0] (xPre G T (xC T ad sc M ++ [(o0, .inl (T 4, 1, .inr (.inl h)))]) sz)) (va_Qi (fun (r : Int32) (u : ((Nat → Nat) × (Nat → Nat → Int32) × (Nat → Int64))) => (((xvb (mnw M) x && xvb 16 y) = true ∧ r = nI 0 ∧ u.2.2 0 = Int32.toInt64 (mpk M (xka y))) ∨ ((xvb (mnw M) x && xvb 16 y) = false ∧ r = nI 1)) ∧ u.1 0 = ad 0 ∧ va_D (va_A (xC T ad sc M ++ [(o0, .inl (T 4, 1, .inr (.inl h)))]) sz) (xC T u.1 u.2.1 (if (xvb (mnw M) x && xvb 16 y) then (xMg N M (xka x) (xka y)) else M) ++ [(o0, .inl (T 4, 1, .inr (.inl u.2.2)))])) (fun u t => va_P G vwCl (xC T u.1 u.2.1 (if (xvb (mnw M) x && xvb 16 y) then (xMg N M (xka x) (xka y)) else M) ++ [(o0, .inl (T 4, 1, .inr (.inl u.2.2)))]) t.heap) (va_A (xC T ad sc M ++ [(o0, .inl (T 4, 1, .inr (.inl h)))]) sz)) 2 12 (va_A (xC T ad sc M ++ [(o0, .inl (T 4, 1, .inr (.inl h)))]) sz) := by
  refine x_ofWH (hh := [(0, 10, 13, 23)]) (cc := cL_glimpse) (maxL := 5) (ret := (some .int)) (by decide +kernel) rfl ?_
  intro p e s m args below meth c s₁ B hml hv
  obtain ⟨rfl, hsz, hP, hK, hD0, hXB, hZ⟩ := hv
  have hx := B.exec
  have hb := B.bytes
  have hr := B.returns
  have hts := atoms_spec (ws := wsL_glimpse) B.pre
  have hown : s.vm.findClass RL = some m.cls := findClass_of_methodNamed B.named
  have hlocks := B.notSynchronized
  subst hsz
  have hD := hD0.self (sz := s.heap.size)
  generalize hAe : va_A (xC T ad sc M ++ [(o0, .inl (T 4, 1, .inr (.inl h)))]) s.heap.size = A at hD hZ ⊢
  have hA : ∀ q : Nat, s.heap.size ≤ q → A q := fun q h => by rw [← hAe]; exact Or.inr h
  have hS : va_S A s.heap s.heap [] := va_S.rf
  have hP : va_P G vwCl (xC T ad sc M ++ [(o0, .inl (T 4, 1, .inr (.inl h)))]) s.heap := hP
  have hl := lv_entry ([.ref (ad 0), .int x, .int y, .ref o0]) (n := 5) (Nat.le_of_ble_eq_true rfl)
  rw [lg_entry_eq]
  generalize (lg_sl ([.ref (ad 0), .int x, .int y, .ref o0]) ++ List.replicate (5 - (lg_sl ([.ref (ad 0), .int x, .int y, .ref o0])).length) Slot.unset).toArray = ls at hl ⊢
  have hl : lv_has ls 5 [(0, .ref (ad 0)), (1, .int x), (2, .int y), (3, .ref o0)] := hl
  have htab := vx_table (x := yL_glimpse) B (hts (.codeWith yL_glimpse cL_glimpse 5 (some .int) [(0, 10, 13, 23)]) (by decide +kernel))
  have htab : c.exceptionTable.toList = [⟨0, 10, 13, 23⟩] := htab
  refine lv_aload_n hx hb dL_glimpse_0 rfl (lv_at hl 3 rfl) ?_
  refine lv_iconst (v := nI 0) hx hb dL_glimpse_1 (by decide) ?_
  refine lv_aload_n hx hb dL_glimpse_2 rfl (lv_at hl 0 rfl) ?_
  refine lv_iload_n hx hb dL_glimpse_3 rfl (lv_at hl 1 rfl) ?_
  refine lv_iload_n hx hb dL_glimpse_4 rfl (lv_at hl 2 rfl) ?_
  refine x_xcalliA (vx_runV (As := [.int x, .int y]) (rest := [.int (nI 0), .ref o0]) ⟨hx, hb, hml, hown, hts⟩ (c_X3_glimpse l hsl G T _ N hN ad sc M x y hn4) (cwV 2 hts gL_glimpse_X3_glimpse rfl rfl rfl (by decide +kernel) ⟨Nat.le_of_ble_eq_true rfl, Nat.le_of_ble_eq_true rfl⟩) (x_preVA (wc := (xC T ad sc M)) (wr := [(o0, .inl (T 4, 1, .inr (.inl h)))]) hK hP hD hS hA hXB hZ _ _ 0 3 rfl rfl) rfl rfl hl.1 rfl (lv_room (Nat.le_of_ble_eq_true rfl)) dL_glimpse_5 ⟨Nat.le_of_ble_eq_true rfl, Nat.le_of_ble_eq_true rfl⟩) hP hD hS hA (fun _ _ _ => xd_self (xC_fst T ad sc _ M _ rfl rfl) (xd_l hD)) (fun E ce q9 H locs hE hP hS c1 c2 c3 => ?_) (fun r1 u1 H locs hw1 hP hD hS => ?_)
  · obtain ⟨hE, rfl⟩ := hE
    refine vx_catch hown [] ⟨0, 10, 13, 23⟩ [] htab (fun z hz => absurd hz List.not_mem_nil) (by decide) (by decide) (hts (.classLink RL 23 "java/lang/IndexOutOfBoundsException") (by decide +kernel)) (va_Nw.use rfl (hXB.1 (.castable "java/lang/IndexOutOfBoundsException" "java/lang/IndexOutOfBoundsException") (by decide +kernel))) c1 c2 c3 ?_
    refine lv_astore (lv' := [(4, .ref q9), (0, .ref (ad 0)), (1, .int x), (2, .int y), (3, .ref o0)]) hx hb dL_glimpse_13 hl (by decide) rfl (fun ls hl => ?_)
    refine lv_iconst (v := nI 1) hx hb dL_glimpse_15 (by decide) ?_
    exact W.iret (v := nI 1) hx hb hr (fun t9_ ht hW => ⟨⟨nI 1, ((ad, sc, h) : ((Nat → Nat) × (Nat → Nat → Int32) × (Nat → Int64))), rfl, ⟨Or.inr ⟨hE, rfl⟩, rfl, by rw [if_neg (fun e => by rw [hE] at e; exact Bool.false_ne_true e)]; exact hD⟩, x_at ht (by rw [if_neg (fun e => by rw [hE] at e; exact Bool.false_ne_true e)]; exact hP)⟩, hS.F ht⟩) hS.2.2 dL_glimpse_16
  have hP : va_P G vwCl (xC T ad u1 (xMg N M (xka x) (xka y)) ++ [(o0, .inl (T 4, 1, .inr (.inl h)))]) H := hP
  have hD : va_D A (xC T ad u1 (xMg N M (xka x) (xka y)) ++ [(o0, .inl (T 4, 1, .inr (.inl h)))]) := hD
  refine lv_i2l hx hb dL_glimpse_8 rfl ?_
  refine va_last hx hb hK hP hD hS (xC T ad u1 (xMg N M (xka x) (xka y))).length 4 x_lget rfl (vp_in_nI (n := 0) (N := 1) (by decide) (by decide)) dL_glimpse_9 (fun H locs hP hD hS => ?_)
  rw [x_lset] at hP hD
  have hP : va_P G vwCl (xC T ad u1 (xMg N M (xka x) (xka y)) ++ [(o0, .inl (T 4, 1, .inr (.inl (vp_updL h (nI 0).toNatClampNeg r1.toInt64))))]) H := hP
  have hD : va_D A (xC T ad u1 (xMg N M (xka x) (xka y)) ++ [(o0, .inl (T 4, 1, .inr (.inl (vp_updL h (nI 0).toNatClampNeg r1.toInt64))))]) := hD
  refine lv_goto (tgt := 17) hx hb dL_glimpse_10 (by decide) ?_
  refine lv_iconst (v := nI 0) hx hb dL_glimpse_17 (by decide) ?_
  exact W.iret (v := nI 0) hx hb hr (fun t9_ ht hW => ⟨⟨nI 0, ((ad, u1, vp_updL h (nI 0).toNatClampNeg r1.toInt64) : ((Nat → Nat) × (Nat → Nat → Int32) × (Nat → Int64))), rfl, ⟨Or.inl ⟨hw1.1, rfl, by rw [← hw1.2]; rfl⟩, rfl, by rw [if_pos (hw1.1)]; exact hD⟩, x_at ht (by rw [if_pos (hw1.1)]; exact hP)⟩, hS.F ht⟩) hS.2.2 dL_glimpse_18

set_option maxHeartbeats 4000000 in
set_option maxRecDepth 100000 in
/-- the law's thinks -/
theorem c_L_thinks (l : Launch) (hsl : l.stackTraces = false) (G : va_G) (T : Nat → ClassId) (sz : Nat) (ad : Nat → Nat) (sc : Nat → Nat → Int32) (M : XM) (o0 : Nat) (h : Nat → Int64) (x y : Int32) (hn4 : mnw M ≤ 4) : Met l yL_thinks wsL_thinks ({ frames := 8, cells := 2, slots := 12, locals := 127 }) (va_Pc [.ref (ad 0), .int x, .int y, .ref o0] (xPre G T (xC T ad sc M ++ [(o0, .inl (T 4, 1, .inr (.inl h)))]) sz)) (va_Qi (fun (r : Int32) (u : ((Nat → Nat) × (Nat → Nat → Int32) × (Nat → Int64))) => (((xvb (mnw M) x && xvb 16 y) = true ∧ r = nI 0 ∧ u.2.2 0 = Int32.toInt64 (mth M (xka x) (xka y))) ∨ ((xvb (mnw M) x && xvb 16 y) = false ∧ r = nI 1)) ∧ u.1 0 = ad 0 ∧ va_D (va_A (xC T ad sc M ++ [(o0, .inl (T 4, 1, .inr (.inl h)))]) sz) (xC T u.1 u.2.1 M ++ [(o0, .inl (T 4, 1, .inr (.inl u.2.2)))])) (fun u t => va_P G vwCl (xC T u.1 u.2.1 M ++ [(o0, .inl (T 4, 1, .inr (.inl u.2.2)))]) t.heap) (va_A (xC T ad sc M ++ [(o0, .inl (T 4, 1, .inr (.inl h)))]) sz)) 2 12 (va_A (xC T ad sc M ++ [(o0, .inl (T 4, 1, .inr (.inl h)))]) sz) := by
  refine x_ofWH (hh := [(0, 10, 13, 23)]) (cc := cL_thinks) (maxL := 5) (ret := (some .int)) (by decide +kernel) rfl ?_
  intro p e s m args below meth c s₁ B hml hv
  obtain ⟨rfl, hsz, hP, hK, hD0, hXB, hZ⟩ := hv
  have hx := B.exec
  have hb := B.bytes
  have hr := B.returns
  have hts := atoms_spec (ws := wsL_thinks) B.pre
  have hown : s.vm.findClass RL = some m.cls := findClass_of_methodNamed B.named
  have hlocks := B.notSynchronized
  subst hsz
  have hD := hD0.self (sz := s.heap.size)
  generalize hAe : va_A (xC T ad sc M ++ [(o0, .inl (T 4, 1, .inr (.inl h)))]) s.heap.size = A at hD hZ ⊢
  have hA : ∀ q : Nat, s.heap.size ≤ q → A q := fun q h => by rw [← hAe]; exact Or.inr h
  have hS : va_S A s.heap s.heap [] := va_S.rf
  have hP : va_P G vwCl (xC T ad sc M ++ [(o0, .inl (T 4, 1, .inr (.inl h)))]) s.heap := hP
  have hl := lv_entry ([.ref (ad 0), .int x, .int y, .ref o0]) (n := 5) (Nat.le_of_ble_eq_true rfl)
  rw [lg_entry_eq]
  generalize (lg_sl ([.ref (ad 0), .int x, .int y, .ref o0]) ++ List.replicate (5 - (lg_sl ([.ref (ad 0), .int x, .int y, .ref o0])).length) Slot.unset).toArray = ls at hl ⊢
  have hl : lv_has ls 5 [(0, .ref (ad 0)), (1, .int x), (2, .int y), (3, .ref o0)] := hl
  have htab := vx_table (x := yL_thinks) B (hts (.codeWith yL_thinks cL_thinks 5 (some .int) [(0, 10, 13, 23)]) (by decide +kernel))
  have htab : c.exceptionTable.toList = [⟨0, 10, 13, 23⟩] := htab
  refine lv_aload_n hx hb dL_thinks_0 rfl (lv_at hl 3 rfl) ?_
  refine lv_iconst (v := nI 0) hx hb dL_thinks_1 (by decide) ?_
  refine lv_aload_n hx hb dL_thinks_2 rfl (lv_at hl 0 rfl) ?_
  refine lv_iload_n hx hb dL_thinks_3 rfl (lv_at hl 1 rfl) ?_
  refine lv_iload_n hx hb dL_thinks_4 rfl (lv_at hl 2 rfl) ?_
  refine x_xcalliA (vx_runV (As := [.int x, .int y]) (rest := [.int (nI 0), .ref o0]) ⟨hx, hb, hml, hown, hts⟩ (c_X3_thinks l hsl G T _ ad sc M x y hn4) (cwV 2 hts gL_thinks_X3_thinks rfl rfl rfl (by decide +kernel) ⟨Nat.le_of_ble_eq_true rfl, Nat.le_of_ble_eq_true rfl⟩) (x_preVA (wc := (xC T ad sc M)) (wr := [(o0, .inl (T 4, 1, .inr (.inl h)))]) hK hP hD hS hA hXB hZ _ _ 0 3 rfl rfl) rfl rfl hl.1 rfl (lv_room (Nat.le_of_ble_eq_true rfl)) dL_thinks_5 ⟨Nat.le_of_ble_eq_true rfl, Nat.le_of_ble_eq_true rfl⟩) hP hD hS hA (fun _ _ _ => (xd_l hD).self) (fun E ce q9 H locs hE hP hS c1 c2 c3 => ?_) (fun r1 u1 H locs hw1 hP hD hS => ?_)
  · obtain ⟨hE, rfl⟩ := hE
    refine vx_catch hown [] ⟨0, 10, 13, 23⟩ [] htab (fun z hz => absurd hz List.not_mem_nil) (by decide) (by decide) (hts (.classLink RL 23 "java/lang/IndexOutOfBoundsException") (by decide +kernel)) (va_Nw.use rfl (hXB.1 (.castable "java/lang/IndexOutOfBoundsException" "java/lang/IndexOutOfBoundsException") (by decide +kernel))) c1 c2 c3 ?_
    refine lv_astore (lv' := [(4, .ref q9), (0, .ref (ad 0)), (1, .int x), (2, .int y), (3, .ref o0)]) hx hb dL_thinks_13 hl (by decide) rfl (fun ls hl => ?_)
    refine lv_iconst (v := nI 1) hx hb dL_thinks_15 (by decide) ?_
    exact W.iret (v := nI 1) hx hb hr (fun t9_ ht hW => ⟨⟨nI 1, ((ad, sc, h) : ((Nat → Nat) × (Nat → Nat → Int32) × (Nat → Int64))), rfl, ⟨Or.inr ⟨hE, rfl⟩, rfl, by exact hD⟩, x_at ht (by exact hP)⟩, hS.F ht⟩) hS.2.2 dL_thinks_16
  have hP : va_P G vwCl (xC T ad sc M ++ [(o0, .inl (T 4, 1, .inr (.inl h)))]) H := hP
  have hD : va_D A (xC T ad sc M ++ [(o0, .inl (T 4, 1, .inr (.inl h)))]) := hD
  refine lv_i2l hx hb dL_thinks_8 rfl ?_
  refine va_last hx hb hK hP hD hS (xC T ad sc M).length 4 x_lget rfl (vp_in_nI (n := 0) (N := 1) (by decide) (by decide)) dL_thinks_9 (fun H locs hP hD hS => ?_)
  rw [x_lset] at hP hD
  have hP : va_P G vwCl (xC T ad sc M ++ [(o0, .inl (T 4, 1, .inr (.inl (vp_updL h (nI 0).toNatClampNeg r1.toInt64))))]) H := hP
  have hD : va_D A (xC T ad sc M ++ [(o0, .inl (T 4, 1, .inr (.inl (vp_updL h (nI 0).toNatClampNeg r1.toInt64))))]) := hD
  refine lv_goto (tgt := 17) hx hb dL_thinks_10 (by decide) ?_
  refine lv_iconst (v := nI 0) hx hb dL_thinks_17 (by decide) ?_
  exact W.iret (v := nI 0) hx hb hr (fun t9_ ht hW => ⟨⟨nI 0, ((ad, sc, vp_updL h (nI 0).toNatClampNeg r1.toInt64) : ((Nat → Nat) × (Nat → Nat → Int32) × (Nat → Int64))), rfl, ⟨Or.inl ⟨hw1.1, rfl, by rw [← hw1.2]; rfl⟩, rfl, by exact hD⟩, x_at ht (by exact hP)⟩, hS.F ht⟩) hS.2.2 dL_thinks_18

set_option maxHeartbeats 4000000 in
set_option maxRecDepth 100000 in
/-- the law's sure -/
theorem c_L_sure (l : Launch) (hsl : l.stackTraces = false) (G : va_G) (T : Nat → ClassId) (sz : Nat) (ad : Nat → Nat) (sc : Nat → Nat → Int32) (M : XM) (o0 : Nat) (h : Nat → Int64) (x y : Int32) (hn4 : mnw M ≤ 4) : Met l yL_sure wsL_sure ({ frames := 8, cells := 2, slots := 12, locals := 127 }) (va_Pc [.ref (ad 0), .int x, .int y, .ref o0] (xPre G T (xC T ad sc M ++ [(o0, .inl (T 4, 1, .inr (.inl h)))]) sz)) (va_Qi (fun (r : Int32) (u : ((Nat → Nat) × (Nat → Nat → Int32) × (Nat → Int64))) => (((xvb (mnw M) x && xvb 16 y) = true ∧ r = nI 0 ∧ u.2.2 0 = Int32.toInt64 (xfp (mth M (xka x)) (xso y))) ∨ ((xvb (mnw M) x && xvb 16 y) = false ∧ r = nI 1)) ∧ u.1 0 = ad 0 ∧ va_D (va_A (xC T ad sc M ++ [(o0, .inl (T 4, 1, .inr (.inl h)))]) sz) (xC T u.1 u.2.1 M ++ [(o0, .inl (T 4, 1, .inr (.inl u.2.2)))])) (fun u t => va_P G vwCl (xC T u.1 u.2.1 M ++ [(o0, .inl (T 4, 1, .inr (.inl u.2.2)))]) t.heap) (va_A (xC T ad sc M ++ [(o0, .inl (T 4, 1, .inr (.inl h)))]) sz)) 2 12 (va_A (xC T ad sc M ++ [(o0, .inl (T 4, 1, .inr (.inl h)))]) sz) := by
  refine x_ofWH (hh := [(0, 10, 13, 23)]) (cc := cL_sure) (maxL := 5) (ret := (some .int)) (by decide +kernel) rfl ?_
  intro p e s m args below meth c s₁ B hml hv
  obtain ⟨rfl, hsz, hP, hK, hD0, hXB, hZ⟩ := hv
  have hx := B.exec
  have hb := B.bytes
  have hr := B.returns
  have hts := atoms_spec (ws := wsL_sure) B.pre
  have hown : s.vm.findClass RL = some m.cls := findClass_of_methodNamed B.named
  have hlocks := B.notSynchronized
  subst hsz
  have hD := hD0.self (sz := s.heap.size)
  generalize hAe : va_A (xC T ad sc M ++ [(o0, .inl (T 4, 1, .inr (.inl h)))]) s.heap.size = A at hD hZ ⊢
  have hA : ∀ q : Nat, s.heap.size ≤ q → A q := fun q h => by rw [← hAe]; exact Or.inr h
  have hS : va_S A s.heap s.heap [] := va_S.rf
  have hP : va_P G vwCl (xC T ad sc M ++ [(o0, .inl (T 4, 1, .inr (.inl h)))]) s.heap := hP
  have hl := lv_entry ([.ref (ad 0), .int x, .int y, .ref o0]) (n := 5) (Nat.le_of_ble_eq_true rfl)
  rw [lg_entry_eq]
  generalize (lg_sl ([.ref (ad 0), .int x, .int y, .ref o0]) ++ List.replicate (5 - (lg_sl ([.ref (ad 0), .int x, .int y, .ref o0])).length) Slot.unset).toArray = ls at hl ⊢
  have hl : lv_has ls 5 [(0, .ref (ad 0)), (1, .int x), (2, .int y), (3, .ref o0)] := hl
  have htab := vx_table (x := yL_sure) B (hts (.codeWith yL_sure cL_sure 5 (some .int) [(0, 10, 13, 23)]) (by decide +kernel))
  have htab : c.exceptionTable.toList = [⟨0, 10, 13, 23⟩] := htab
  refine lv_aload_n hx hb dL_sure_0 rfl (lv_at hl 3 rfl) ?_
  refine lv_iconst (v := nI 0) hx hb dL_sure_1 (by decide) ?_
  refine lv_aload_n hx hb dL_sure_2 rfl (lv_at hl 0 rfl) ?_
  refine lv_iload_n hx hb dL_sure_3 rfl (lv_at hl 1 rfl) ?_
  refine lv_iload_n hx hb dL_sure_4 rfl (lv_at hl 2 rfl) ?_
  refine x_xcalliA (vx_runV (As := [.int x, .int y]) (rest := [.int (nI 0), .ref o0]) ⟨hx, hb, hml, hown, hts⟩ (c_X3_sure l hsl G T _ ad sc M x y hn4) (cwV 2 hts gL_sure_X3_sure rfl rfl rfl (by decide +kernel) ⟨Nat.le_of_ble_eq_true rfl, Nat.le_of_ble_eq_true rfl⟩) (x_preVA (wc := (xC T ad sc M)) (wr := [(o0, .inl (T 4, 1, .inr (.inl h)))]) hK hP hD hS hA hXB hZ _ _ 0 3 rfl rfl) rfl rfl hl.1 rfl (lv_room (Nat.le_of_ble_eq_true rfl)) dL_sure_5 ⟨Nat.le_of_ble_eq_true rfl, Nat.le_of_ble_eq_true rfl⟩) hP hD hS hA (fun _ _ _ => (xd_l hD).self) (fun E ce q9 H locs hE hP hS c1 c2 c3 => ?_) (fun r1 u1 H locs hw1 hP hD hS => ?_)
  · obtain ⟨hE, rfl⟩ := hE
    refine vx_catch hown [] ⟨0, 10, 13, 23⟩ [] htab (fun z hz => absurd hz List.not_mem_nil) (by decide) (by decide) (hts (.classLink RL 23 "java/lang/IndexOutOfBoundsException") (by decide +kernel)) (va_Nw.use rfl (hXB.1 (.castable "java/lang/IndexOutOfBoundsException" "java/lang/IndexOutOfBoundsException") (by decide +kernel))) c1 c2 c3 ?_
    refine lv_astore (lv' := [(4, .ref q9), (0, .ref (ad 0)), (1, .int x), (2, .int y), (3, .ref o0)]) hx hb dL_sure_13 hl (by decide) rfl (fun ls hl => ?_)
    refine lv_iconst (v := nI 1) hx hb dL_sure_15 (by decide) ?_
    exact W.iret (v := nI 1) hx hb hr (fun t9_ ht hW => ⟨⟨nI 1, ((ad, sc, h) : ((Nat → Nat) × (Nat → Nat → Int32) × (Nat → Int64))), rfl, ⟨Or.inr ⟨hE, rfl⟩, rfl, by exact hD⟩, x_at ht (by exact hP)⟩, hS.F ht⟩) hS.2.2 dL_sure_16
  have hP : va_P G vwCl (xC T ad sc M ++ [(o0, .inl (T 4, 1, .inr (.inl h)))]) H := hP
  have hD : va_D A (xC T ad sc M ++ [(o0, .inl (T 4, 1, .inr (.inl h)))]) := hD
  refine lv_i2l hx hb dL_sure_8 rfl ?_
  refine va_last hx hb hK hP hD hS (xC T ad sc M).length 4 x_lget rfl (vp_in_nI (n := 0) (N := 1) (by decide) (by decide)) dL_sure_9 (fun H locs hP hD hS => ?_)
  rw [x_lset] at hP hD
  have hP : va_P G vwCl (xC T ad sc M ++ [(o0, .inl (T 4, 1, .inr (.inl (vp_updL h (nI 0).toNatClampNeg r1.toInt64))))]) H := hP
  have hD : va_D A (xC T ad sc M ++ [(o0, .inl (T 4, 1, .inr (.inl (vp_updL h (nI 0).toNatClampNeg r1.toInt64))))]) := hD
  refine lv_goto (tgt := 17) hx hb dL_sure_10 (by decide) ?_
  refine lv_iconst (v := nI 0) hx hb dL_sure_17 (by decide) ?_
  exact W.iret (v := nI 0) hx hb hr (fun t9_ ht hW => ⟨⟨nI 0, ((ad, sc, vp_updL h (nI 0).toNatClampNeg r1.toInt64) : ((Nat → Nat) × (Nat → Nat → Int32) × (Nat → Int64))), rfl, ⟨Or.inl ⟨hw1.1, rfl, by rw [← hw1.2]; rfl⟩, rfl, by exact hD⟩, x_at ht (by exact hP)⟩, hS.F ht⟩) hS.2.2 dL_sure_18

set_option maxHeartbeats 4000000 in
set_option maxRecDepth 100000 in
/-- the law's watcher -/
theorem c_L_watcher (l : Launch) (hsl : l.stackTraces = false) (G : va_G) (T : Nat → ClassId) (sz : Nat) (ad : Nat → Nat) (sc : Nat → Nat → Int32) (M : XM) (o0 : Nat) (h : Nat → Int64) (x y : Int32) (hn4 : mnw M ≤ 4) (hsh : ∀ q, q < mnw M → msh M q = nI 0 ∨ msh M q = nI 1) : Met l yL_watcher wsL_watcher ({ frames := 8, cells := 2, slots := 12, locals := 127 }) (va_Pc [.ref (ad 0), .int x, .int y, .ref o0] (xPre G T (xC T ad sc M ++ [(o0, .inl (T 4, 1, .inr (.inl h)))]) sz)) (va_Qi (fun (r : Int32) (u : ((Nat → Nat) × (Nat → Nat → Int32) × (Nat → Int64))) => (((xvb (mnw M) x && xvb 6 y) = true ∧ r = nI 0 ∧ u.2.2 0 = Int32.toInt64 (xtold M (xka x) (xka y))) ∨ ((xvb (mnw M) x && xvb 6 y) = false ∧ r = nI 1)) ∧ u.1 0 = ad 0 ∧ va_D (va_A (xC T ad sc M ++ [(o0, .inl (T 4, 1, .inr (.inl h)))]) sz) (xC T u.1 u.2.1 M ++ [(o0, .inl (T 4, 1, .inr (.inl u.2.2)))])) (fun u t => va_P G vwCl (xC T u.1 u.2.1 M ++ [(o0, .inl (T 4, 1, .inr (.inl u.2.2)))]) t.heap) (va_A (xC T ad sc M ++ [(o0, .inl (T 4, 1, .inr (.inl h)))]) sz)) 2 12 (va_A (xC T ad sc M ++ [(o0, .inl (T 4, 1, .inr (.inl h)))]) sz) := by
  refine x_ofWH (hh := [(0, 10, 13, 23)]) (cc := cL_watcher) (maxL := 5) (ret := (some .int)) (by decide +kernel) rfl ?_
  intro p e s m args below meth c s₁ B hml hv
  obtain ⟨rfl, hsz, hP, hK, hD0, hXB, hZ⟩ := hv
  have hx := B.exec
  have hb := B.bytes
  have hr := B.returns
  have hts := atoms_spec (ws := wsL_watcher) B.pre
  have hown : s.vm.findClass RL = some m.cls := findClass_of_methodNamed B.named
  have hlocks := B.notSynchronized
  subst hsz
  have hD := hD0.self (sz := s.heap.size)
  generalize hAe : va_A (xC T ad sc M ++ [(o0, .inl (T 4, 1, .inr (.inl h)))]) s.heap.size = A at hD hZ ⊢
  have hA : ∀ q : Nat, s.heap.size ≤ q → A q := fun q h => by rw [← hAe]; exact Or.inr h
  have hS : va_S A s.heap s.heap [] := va_S.rf
  have hP : va_P G vwCl (xC T ad sc M ++ [(o0, .inl (T 4, 1, .inr (.inl h)))]) s.heap := hP
  have hl := lv_entry ([.ref (ad 0), .int x, .int y, .ref o0]) (n := 5) (Nat.le_of_ble_eq_true rfl)
  rw [lg_entry_eq]
  generalize (lg_sl ([.ref (ad 0), .int x, .int y, .ref o0]) ++ List.replicate (5 - (lg_sl ([.ref (ad 0), .int x, .int y, .ref o0])).length) Slot.unset).toArray = ls at hl ⊢
  have hl : lv_has ls 5 [(0, .ref (ad 0)), (1, .int x), (2, .int y), (3, .ref o0)] := hl
  have htab := vx_table (x := yL_watcher) B (hts (.codeWith yL_watcher cL_watcher 5 (some .int) [(0, 10, 13, 23)]) (by decide +kernel))
  have htab : c.exceptionTable.toList = [⟨0, 10, 13, 23⟩] := htab
  refine lv_aload_n hx hb dL_watcher_0 rfl (lv_at hl 3 rfl) ?_
  refine lv_iconst (v := nI 0) hx hb dL_watcher_1 (by decide) ?_
  refine lv_aload_n hx hb dL_watcher_2 rfl (lv_at hl 0 rfl) ?_
  refine lv_iload_n hx hb dL_watcher_3 rfl (lv_at hl 1 rfl) ?_
  refine lv_iload_n hx hb dL_watcher_4 rfl (lv_at hl 2 rfl) ?_
  refine x_xcalliA (vx_runV (As := [.int x, .int y]) (rest := [.int (nI 0), .ref o0]) ⟨hx, hb, hml, hown, hts⟩ (c_X3_watcher l hsl G T _ ad sc M x y hn4 hsh) (cwV 2 hts gL_watcher_X3_watcher rfl rfl rfl (by decide +kernel) ⟨Nat.le_of_ble_eq_true rfl, Nat.le_of_ble_eq_true rfl⟩) (x_preVA (wc := (xC T ad sc M)) (wr := [(o0, .inl (T 4, 1, .inr (.inl h)))]) hK hP hD hS hA hXB hZ _ _ 0 3 rfl rfl) rfl rfl hl.1 rfl (lv_room (Nat.le_of_ble_eq_true rfl)) dL_watcher_5 ⟨Nat.le_of_ble_eq_true rfl, Nat.le_of_ble_eq_true rfl⟩) hP hD hS hA (fun _ _ _ => (xd_l hD).self) (fun E ce q9 H locs hE hP hS c1 c2 c3 => ?_) (fun r1 u1 H locs hw1 hP hD hS => ?_)
  · obtain ⟨hE, rfl⟩ := hE
    refine vx_catch hown [] ⟨0, 10, 13, 23⟩ [] htab (fun z hz => absurd hz List.not_mem_nil) (by decide) (by decide) (hts (.classLink RL 23 "java/lang/IndexOutOfBoundsException") (by decide +kernel)) (va_Nw.use rfl (hXB.1 (.castable "java/lang/IndexOutOfBoundsException" "java/lang/IndexOutOfBoundsException") (by decide +kernel))) c1 c2 c3 ?_
    refine lv_astore (lv' := [(4, .ref q9), (0, .ref (ad 0)), (1, .int x), (2, .int y), (3, .ref o0)]) hx hb dL_watcher_13 hl (by decide) rfl (fun ls hl => ?_)
    refine lv_iconst (v := nI 1) hx hb dL_watcher_15 (by decide) ?_
    exact W.iret (v := nI 1) hx hb hr (fun t9_ ht hW => ⟨⟨nI 1, ((ad, sc, h) : ((Nat → Nat) × (Nat → Nat → Int32) × (Nat → Int64))), rfl, ⟨Or.inr ⟨hE, rfl⟩, rfl, by exact hD⟩, x_at ht (by exact hP)⟩, hS.F ht⟩) hS.2.2 dL_watcher_16
  have hP : va_P G vwCl (xC T ad sc M ++ [(o0, .inl (T 4, 1, .inr (.inl h)))]) H := hP
  have hD : va_D A (xC T ad sc M ++ [(o0, .inl (T 4, 1, .inr (.inl h)))]) := hD
  refine lv_i2l hx hb dL_watcher_8 rfl ?_
  refine va_last hx hb hK hP hD hS (xC T ad sc M).length 4 x_lget rfl (vp_in_nI (n := 0) (N := 1) (by decide) (by decide)) dL_watcher_9 (fun H locs hP hD hS => ?_)
  rw [x_lset] at hP hD
  have hP : va_P G vwCl (xC T ad sc M ++ [(o0, .inl (T 4, 1, .inr (.inl (vp_updL h (nI 0).toNatClampNeg r1.toInt64))))]) H := hP
  have hD : va_D A (xC T ad sc M ++ [(o0, .inl (T 4, 1, .inr (.inl (vp_updL h (nI 0).toNatClampNeg r1.toInt64))))]) := hD
  refine lv_goto (tgt := 17) hx hb dL_watcher_10 (by decide) ?_
  refine lv_iconst (v := nI 0) hx hb dL_watcher_17 (by decide) ?_
  exact W.iret (v := nI 0) hx hb hr (fun t9_ ht hW => ⟨⟨nI 0, ((ad, sc, vp_updL h (nI 0).toNatClampNeg r1.toInt64) : ((Nat → Nat) × (Nat → Nat → Int32) × (Nat → Int64))), rfl, ⟨Or.inl ⟨hw1.1, rfl, by rw [← hw1.2]; rfl⟩, rfl, by exact hD⟩, x_at ht (by exact hP)⟩, hS.F ht⟩) hS.2.2 dL_watcher_18

set_option maxHeartbeats 4000000 in
set_option maxRecDepth 100000 in
/-- the law's sit -/
theorem c_L_sit (l : Launch) (hsl : l.stackTraces = false) (G : va_G) (T : Nat → ClassId) (sz : Nat) (ad : Nat → Nat) (sc : Nat → Nat → Int32) (M : XM) (o0 : Nat) (h : Nat → Int64) (x : Int32) (hn4 : mnw M ≤ 4) (hm4 : mnp M ≤ 4) : Met l yL_sit wsL_sit ({ frames := 8, cells := 2, slots := 12, locals := 124 }) (va_Pc [.ref (ad 0), .int x, .ref o0] (xPre G T (xC T ad sc M ++ [(o0, .inl (T 4, 1, .inr (.inl h)))]) sz)) (va_Qi (fun (r : Int32) (u : ((Nat → Nat) × (Nat → Nat → Int32) × (Nat → Int64))) => (((xvb 16 x = true ∧ mnp M < 4) ∧ r = nI 0 ∧ u.2.2 0 = Int32.toInt64 (nI (mnp M))) ∨ (xvb 16 x = false ∧ r = nI 1) ∨ ((xvb 16 x = true ∧ mnp M = 4) ∧ r = nI 2)) ∧ u.1 0 = ad 0 ∧ va_D (va_A (xC T ad sc M ++ [(o0, .inl (T 4, 1, .inr (.inl h)))]) sz) (xC T u.1 u.2.1 (if xvb 16 x = true ∧ mnp M < 4 then (xmk (mpk M) (mth M) (msh M) (man M) (mgl M) (upd (mhb M) (mnp M) x) (upd (mtk M) (mnp M) (-1)) (mnw M) (mnp M + 1) (mle M) (mwy M) (mfc M) (mta M)) else M) ++ [(o0, .inl (T 4, 1, .inr (.inl u.2.2)))])) (fun u t => va_P G vwCl (xC T u.1 u.2.1 (if xvb 16 x = true ∧ mnp M < 4 then (xmk (mpk M) (mth M) (msh M) (man M) (mgl M) (upd (mhb M) (mnp M) x) (upd (mtk M) (mnp M) (-1)) (mnw M) (mnp M + 1) (mle M) (mwy M) (mfc M) (mta M)) else M) ++ [(o0, .inl (T 4, 1, .inr (.inl u.2.2)))]) t.heap) (va_A (xC T ad sc M ++ [(o0, .inl (T 4, 1, .inr (.inl h)))]) sz)) 2 12 (va_A (xC T ad sc M ++ [(o0, .inl (T 4, 1, .inr (.inl h)))]) sz) := by
  refine x_ofWH (hh := [(0, 9, 12, 13), (0, 9, 15, 35)]) (cc := cL_sit) (maxL := 4) (ret := (some .int)) (by decide +kernel) rfl ?_
  intro p e s m args below meth c s₁ B hml hv
  obtain ⟨rfl, hsz, hP, hK, hD0, hXB, hZ⟩ := hv
  have hx := B.exec
  have hb := B.bytes
  have hr := B.returns
  have hts := atoms_spec (ws := wsL_sit) B.pre
  have hown : s.vm.findClass RL = some m.cls := findClass_of_methodNamed B.named
  have hlocks := B.notSynchronized
  subst hsz
  have hD := hD0.self (sz := s.heap.size)
  generalize hAe : va_A (xC T ad sc M ++ [(o0, .inl (T 4, 1, .inr (.inl h)))]) s.heap.size = A at hD hZ ⊢
  have hA : ∀ q : Nat, s.heap.size ≤ q → A q := fun q h => by rw [← hAe]; exact Or.inr h
  have hS : va_S A s.heap s.heap [] := va_S.rf
  have hP : va_P G vwCl (xC T ad sc M ++ [(o0, .inl (T 4, 1, .inr (.inl h)))]) s.heap := hP
  have hl := lv_entry ([.ref (ad 0), .int x, .ref o0]) (n := 4) (Nat.le_of_ble_eq_true rfl)
  rw [lg_entry_eq]
  generalize (lg_sl ([.ref (ad 0), .int x, .ref o0]) ++ List.replicate (4 - (lg_sl ([.ref (ad 0), .int x, .ref o0])).length) Slot.unset).toArray = ls at hl ⊢
  have hl : lv_has ls 4 [(0, .ref (ad 0)), (1, .int x), (2, .ref o0)] := hl
  have htab := vx_table (x := yL_sit) B (hts (.codeWith yL_sit cL_sit 4 (some .int) [(0, 9, 12, 13), (0, 9, 15, 35)]) (by decide +kernel))
  have htab : c.exceptionTable.toList = [⟨0, 9, 12, 13⟩, ⟨0, 9, 15, 35⟩] := htab
  refine lv_aload_n hx hb dL_sit_0 rfl (lv_at hl 2 rfl) ?_
  refine lv_iconst (v := nI 0) hx hb dL_sit_1 (by decide) ?_
  refine lv_aload_n hx hb dL_sit_2 rfl (lv_at hl 0 rfl) ?_
  refine lv_iload_n hx hb dL_sit_3 rfl (lv_at hl 1 rfl) ?_
  refine x_xcalliA (vx_runV (As := [.int x]) (rest := [.int (nI 0), .ref o0]) ⟨hx, hb, hml, hown, hts⟩ (c_X3_sit l hsl G T _ ad sc M x hn4 hm4) (cwV 1 hts gL_sit_X3_sit rfl rfl rfl (by decide +kernel) ⟨Nat.le_of_ble_eq_true rfl, Nat.le_of_ble_eq_true rfl⟩) (x_preVA (wc := (xC T ad sc M)) (wr := [(o0, .inl (T 4, 1, .inr (.inl h)))]) hK hP hD hS hA hXB hZ _ _ 0 3 rfl rfl) rfl rfl hl.1 rfl (lv_room (Nat.le_of_ble_eq_true rfl)) dL_sit_4 ⟨Nat.le_of_ble_eq_true rfl, Nat.le_of_ble_eq_true rfl⟩) hP hD hS hA (fun _ _ hw => hw.2.2.2.2) (fun E ce q9 H locs hE hP hS c1 c2 c3 => ?_) (fun r1 u1 H locs hw1 hP hD hS => ?_)
  · rcases hE with ⟨hE, rfl⟩ | ⟨hE1, hE2, rfl⟩
    · refine vx_catch hown [] ⟨0, 9, 12, 13⟩ [⟨0, 9, 15, 35⟩] htab (fun z hz => absurd hz List.not_mem_nil) (by decide) (by decide) (hts (.classLink RL 13 "java/lang/IllegalArgumentException") (by decide +kernel)) (va_Nw.use rfl (hXB.1 (.castable "java/lang/IllegalArgumentException" "java/lang/IllegalArgumentException") (by decide +kernel))) c1 c2 c3 ?_
      refine lv_astore_n (lv' := [(3, .ref q9), (0, .ref (ad 0)), (1, .int x), (2, .ref o0)]) hx hb dL_sit_12 rfl hl (by decide) rfl (fun ls hl => ?_)
      refine lv_iconst (v := nI 1) hx hb dL_sit_13 (by decide) ?_
      exact W.iret (v := nI 1) hx hb hr (fun t9_ ht hW => ⟨⟨nI 1, ((ad, sc, h) : ((Nat → Nat) × (Nat → Nat → Int32) × (Nat → Int64))), rfl, ⟨Or.inr (Or.inl ⟨hE, rfl⟩), rfl, by rw [if_neg (fun e => by rw [hE] at e; exact Bool.false_ne_true e.1)]; exact hD⟩, x_at ht (by rw [if_neg (fun e => by rw [hE] at e; exact Bool.false_ne_true e.1)]; exact hP)⟩, hS.F ht⟩) hS.2.2 dL_sit_14
    · refine vx_catch hown [⟨0, 9, 12, 13⟩] ⟨0, 9, 15, 35⟩ [] htab (fun z hz => by rw [List.mem_singleton.mp hz]; exact Or.inr ⟨(by decide : (13 : Nat) ≠ 0), "java/lang/IllegalArgumentException", hts (.classLink RL 13 "java/lang/IllegalArgumentException") (by decide +kernel), hXB.2.2.1 ("java/lang/IllegalStateException", "java/lang/IllegalArgumentException") (by decide)⟩) (by decide) (by decide) (hts (.classLink RL 35 "java/lang/IllegalStateException") (by decide +kernel)) (va_Nw.use rfl (hXB.1 (.castable "java/lang/IllegalStateException" "java/lang/IllegalStateException") (by decide +kernel))) c1 c2 c3 ?_
      refine lv_astore_n (lv' := [(3, .ref q9), (0, .ref (ad 0)), (1, .int x), (2, .ref o0)]) hx hb dL_sit_15 rfl hl (by decide) rfl (fun ls hl => ?_)
      refine lv_iconst (v := nI 2) hx hb dL_sit_16 (by decide) ?_
      exact W.iret (v := nI 2) hx hb hr (fun t9_ ht hW => ⟨⟨nI 2, ((ad, sc, h) : ((Nat → Nat) × (Nat → Nat → Int32) × (Nat → Int64))), rfl, ⟨Or.inr (Or.inr ⟨⟨hE1, hE2⟩, rfl⟩), rfl, by rw [if_neg (fun e => by omega)]; exact hD⟩, x_at ht (by rw [if_neg (fun e => by omega)]; exact hP)⟩, hS.F ht⟩) hS.2.2 dL_sit_17
  have hP : va_P G vwCl (xC T u1 sc (xmk (mpk M) (mth M) (msh M) (man M) (mgl M) (upd (mhb M) (mnp M) x) (upd (mtk M) (mnp M) (-1)) (mnw M) (mnp M + 1) (mle M) (mwy M) (mfc M) (mta M)) ++ [(o0, .inl (T 4, 1, .inr (.inl h)))]) H := hP
  have hD : va_D A (xC T u1 sc (xmk (mpk M) (mth M) (msh M) (man M) (mgl M) (upd (mhb M) (mnp M) x) (upd (mtk M) (mnp M) (-1)) (mnw M) (mnp M + 1) (mle M) (mwy M) (mfc M) (mta M)) ++ [(o0, .inl (T 4, 1, .inr (.inl h)))]) := hD
  refine lv_i2l hx hb dL_sit_7 rfl ?_
  refine va_last hx hb hK hP hD hS (xC T u1 sc (xmk (mpk M) (mth M) (msh M) (man M) (mgl M) (upd (mhb M) (mnp M) x) (upd (mtk M) (mnp M) (-1)) (mnw M) (mnp M + 1) (mle M) (mwy M) (mfc M) (mta M))).length 4 x_lget rfl (vp_in_nI (n := 0) (N := 1) (by decide) (by decide)) dL_sit_8 (fun H locs hP hD hS => ?_)
  rw [x_lset] at hP hD
  have hP : va_P G vwCl (xC T u1 sc (xmk (mpk M) (mth M) (msh M) (man M) (mgl M) (upd (mhb M) (mnp M) x) (upd (mtk M) (mnp M) (-1)) (mnw M) (mnp M + 1) (mle M) (mwy M) (mfc M) (mta M)) ++ [(o0, .inl (T 4, 1, .inr (.inl (vp_updL h (nI 0).toNatClampNeg r1.toInt64))))]) H := hP
  have hD : va_D A (xC T u1 sc (xmk (mpk M) (mth M) (msh M) (man M) (mgl M) (upd (mhb M) (mnp M) x) (upd (mtk M) (mnp M) (-1)) (mnw M) (mnp M + 1) (mle M) (mwy M) (mfc M) (mta M)) ++ [(o0, .inl (T 4, 1, .inr (.inl (vp_updL h (nI 0).toNatClampNeg r1.toInt64))))]) := hD
  refine lv_goto (tgt := 18) hx hb dL_sit_9 (by decide) ?_
  refine lv_iconst (v := nI 0) hx hb dL_sit_18 (by decide) ?_
  exact W.iret (v := nI 0) hx hb hr (fun t9_ ht hW => ⟨⟨nI 0, ((u1, sc, vp_updL h (nI 0).toNatClampNeg r1.toInt64) : ((Nat → Nat) × (Nat → Nat → Int32) × (Nat → Int64))), rfl, ⟨Or.inl ⟨⟨hw1.1, hw1.2.1⟩, rfl, by rw [← hw1.2.2.1]; rfl⟩, hw1.2.2.2.1, by rw [if_pos (⟨hw1.1, hw1.2.1⟩)]; exact hD⟩, x_at ht (by rw [if_pos (⟨hw1.1, hw1.2.1⟩)]; exact hP)⟩, hS.F ht⟩) hS.2.2 dL_sit_19

set_option maxHeartbeats 4000000 in
set_option maxRecDepth 100000 in
/-- the law's fan -/
theorem c_L_fan (l : Launch) (hsl : l.stackTraces = false) (G : va_G) (T : Nat → ClassId) (sz : Nat) (ad : Nat → Nat) (sc : Nat → Nat → Int32) (M : XM) (o0 : Nat) (h : Nat → Int64) (x : Int32)  : Met l yL_fan wsL_fan ({ frames := 8, cells := 1, slots := 6, locals := 124 }) (va_Pc [.ref (ad 0), .int x, .ref o0] (xPre G T (xC T ad sc M ++ [(o0, .inl (T 4, 1, .inr (.inl h)))]) sz)) (va_Qi (fun (r : Int32) (u : ((Nat → Nat) × (Nat → Nat → Int32) × (Nat → Int64))) => ((xvb 16 x = true ∧ r = nI 0 ∧ u.2.2 0 = Int32.toInt64 (mle M)) ∨ (xvb 16 x = false ∧ r = nI 1)) ∧ u.1 0 = ad 0 ∧ va_D (va_A (xC T ad sc M ++ [(o0, .inl (T 4, 1, .inr (.inl h)))]) sz) (xC T u.1 u.2.1 (if xvb 16 x then (xmk (mpk M) (mth M) (msh M) (man M) (mgl M) (mhb M) (mtk M) (mnw M) (mnp M) x (mwy M) (mfc M) (mta M)) else M) ++ [(o0, .inl (T 4, 1, .inr (.inl u.2.2)))])) (fun u t => va_P G vwCl (xC T u.1 u.2.1 (if xvb 16 x then (xmk (mpk M) (mth M) (msh M) (man M) (mgl M) (mhb M) (mtk M) (mnw M) (mnp M) x (mwy M) (mfc M) (mta M)) else M) ++ [(o0, .inl (T 4, 1, .inr (.inl u.2.2)))]) t.heap) (va_A (xC T ad sc M ++ [(o0, .inl (T 4, 1, .inr (.inl h)))]) sz)) 1 6 (va_A (xC T ad sc M ++ [(o0, .inl (T 4, 1, .inr (.inl h)))]) sz) := by
  refine x_ofWH (hh := [(0, 9, 12, 13)]) (cc := cL_fan) (maxL := 4) (ret := (some .int)) (by decide +kernel) rfl ?_
  intro p e s m args below meth c s₁ B hml hv
  obtain ⟨rfl, hsz, hP, hK, hD0, hXB, hZ⟩ := hv
  have hx := B.exec
  have hb := B.bytes
  have hr := B.returns
  have hts := atoms_spec (ws := wsL_fan) B.pre
  have hown : s.vm.findClass RL = some m.cls := findClass_of_methodNamed B.named
  have hlocks := B.notSynchronized
  subst hsz
  have hD := hD0.self (sz := s.heap.size)
  generalize hAe : va_A (xC T ad sc M ++ [(o0, .inl (T 4, 1, .inr (.inl h)))]) s.heap.size = A at hD hZ ⊢
  have hA : ∀ q : Nat, s.heap.size ≤ q → A q := fun q h => by rw [← hAe]; exact Or.inr h
  have hS : va_S A s.heap s.heap [] := va_S.rf
  have hP : va_P G vwCl (xC T ad sc M ++ [(o0, .inl (T 4, 1, .inr (.inl h)))]) s.heap := hP
  have hl := lv_entry ([.ref (ad 0), .int x, .ref o0]) (n := 4) (Nat.le_of_ble_eq_true rfl)
  rw [lg_entry_eq]
  generalize (lg_sl ([.ref (ad 0), .int x, .ref o0]) ++ List.replicate (4 - (lg_sl ([.ref (ad 0), .int x, .ref o0])).length) Slot.unset).toArray = ls at hl ⊢
  have hl : lv_has ls 4 [(0, .ref (ad 0)), (1, .int x), (2, .ref o0)] := hl
  have htab := vx_table (x := yL_fan) B (hts (.codeWith yL_fan cL_fan 4 (some .int) [(0, 9, 12, 13)]) (by decide +kernel))
  have htab : c.exceptionTable.toList = [⟨0, 9, 12, 13⟩] := htab
  refine lv_aload_n hx hb dL_fan_0 rfl (lv_at hl 2 rfl) ?_
  refine lv_iconst (v := nI 0) hx hb dL_fan_1 (by decide) ?_
  refine lv_aload_n hx hb dL_fan_2 rfl (lv_at hl 0 rfl) ?_
  refine lv_iload_n hx hb dL_fan_3 rfl (lv_at hl 1 rfl) ?_
  refine x_xcalliA (vx_runV (As := [.int x]) (rest := [.int (nI 0), .ref o0]) ⟨hx, hb, hml, hown, hts⟩ (c_X3_fan l hsl G T _ ad sc M x ) (cwV 1 hts gL_fan_X3_fan rfl rfl rfl (by decide +kernel) ⟨Nat.le_of_ble_eq_true rfl, Nat.le_of_ble_eq_true rfl⟩) (x_preVA (wc := (xC T ad sc M)) (wr := [(o0, .inl (T 4, 1, .inr (.inl h)))]) hK hP hD hS hA hXB hZ _ _ 0 3 rfl rfl) rfl rfl hl.1 rfl (lv_room (Nat.le_of_ble_eq_true rfl)) dL_fan_4 ⟨Nat.le_of_ble_eq_true rfl, Nat.le_of_ble_eq_true rfl⟩) hP hD hS hA (fun _ _ _ => xd_self (xC_fst T ad sc _ M _ rfl rfl) (xd_l hD)) (fun E ce q9 H locs hE hP hS c1 c2 c3 => ?_) (fun r1 u1 H locs hw1 hP hD hS => ?_)
  · obtain ⟨hE, rfl⟩ := hE
    refine vx_catch hown [] ⟨0, 9, 12, 13⟩ [] htab (fun z hz => absurd hz List.not_mem_nil) (by decide) (by decide) (hts (.classLink RL 13 "java/lang/IllegalArgumentException") (by decide +kernel)) (va_Nw.use rfl (hXB.1 (.castable "java/lang/IllegalArgumentException" "java/lang/IllegalArgumentException") (by decide +kernel))) c1 c2 c3 ?_
    refine lv_astore_n (lv' := [(3, .ref q9), (0, .ref (ad 0)), (1, .int x), (2, .ref o0)]) hx hb dL_fan_12 rfl hl (by decide) rfl (fun ls hl => ?_)
    refine lv_iconst (v := nI 1) hx hb dL_fan_13 (by decide) ?_
    exact W.iret (v := nI 1) hx hb hr (fun t9_ ht hW => ⟨⟨nI 1, ((ad, sc, h) : ((Nat → Nat) × (Nat → Nat → Int32) × (Nat → Int64))), rfl, ⟨Or.inr ⟨hE, rfl⟩, rfl, by rw [if_neg (fun e => by rw [hE] at e; exact Bool.false_ne_true e)]; exact hD⟩, x_at ht (by rw [if_neg (fun e => by rw [hE] at e; exact Bool.false_ne_true e)]; exact hP)⟩, hS.F ht⟩) hS.2.2 dL_fan_14
  have hP : va_P G vwCl (xC T ad sc (xmk (mpk M) (mth M) (msh M) (man M) (mgl M) (mhb M) (mtk M) (mnw M) (mnp M) x (mwy M) (mfc M) (mta M)) ++ [(o0, .inl (T 4, 1, .inr (.inl h)))]) H := hP
  have hD : va_D A (xC T ad sc (xmk (mpk M) (mth M) (msh M) (man M) (mgl M) (mhb M) (mtk M) (mnw M) (mnp M) x (mwy M) (mfc M) (mta M)) ++ [(o0, .inl (T 4, 1, .inr (.inl h)))]) := hD
  refine lv_i2l hx hb dL_fan_7 rfl ?_
  refine va_last hx hb hK hP hD hS (xC T ad sc (xmk (mpk M) (mth M) (msh M) (man M) (mgl M) (mhb M) (mtk M) (mnw M) (mnp M) x (mwy M) (mfc M) (mta M))).length 4 x_lget rfl (vp_in_nI (n := 0) (N := 1) (by decide) (by decide)) dL_fan_8 (fun H locs hP hD hS => ?_)
  rw [x_lset] at hP hD
  have hP : va_P G vwCl (xC T ad sc (xmk (mpk M) (mth M) (msh M) (man M) (mgl M) (mhb M) (mtk M) (mnw M) (mnp M) x (mwy M) (mfc M) (mta M)) ++ [(o0, .inl (T 4, 1, .inr (.inl (vp_updL h (nI 0).toNatClampNeg r1.toInt64))))]) H := hP
  have hD : va_D A (xC T ad sc (xmk (mpk M) (mth M) (msh M) (man M) (mgl M) (mhb M) (mtk M) (mnw M) (mnp M) x (mwy M) (mfc M) (mta M)) ++ [(o0, .inl (T 4, 1, .inr (.inl (vp_updL h (nI 0).toNatClampNeg r1.toInt64))))]) := hD
  refine lv_goto (tgt := 15) hx hb dL_fan_9 (by decide) ?_
  refine lv_iconst (v := nI 0) hx hb dL_fan_15 (by decide) ?_
  exact W.iret (v := nI 0) hx hb hr (fun t9_ ht hW => ⟨⟨nI 0, ((ad, sc, vp_updL h (nI 0).toNatClampNeg r1.toInt64) : ((Nat → Nat) × (Nat → Nat → Int32) × (Nat → Int64))), rfl, ⟨Or.inl ⟨hw1.1, rfl, by rw [← hw1.2]; rfl⟩, rfl, by rw [if_pos (hw1.1)]; exact hD⟩, x_at ht (by rw [if_pos (hw1.1)]; exact hP)⟩, hS.F ht⟩) hS.2.2 dL_fan_16

set_option maxHeartbeats 4000000 in
set_option maxRecDepth 100000 in
/-- the law's take -/
theorem c_L_take (l : Launch) (hsl : l.stackTraces = false) (G : va_G) (T : Nat → ClassId) (sz : Nat) (ad : Nat → Nat) (sc : Nat → Nat → Int32) (M : XM) (o0 : Nat) (h : Nat → Int64) (x : Int32) (hn4 : mnw M ≤ 4) (hm4 : mnp M ≤ 4) (hhb : ∀ q, q < mnp M → ∃ h, h < 16 ∧ mhb M q = nI h) (hle : ∃ v, v < 16 ∧ mle M = nI v) (hta : mta M ≤ 512) : Met l yL_take wsL_take ({ frames := 8, cells := 1, slots := 6, locals := 127 }) (va_Pc [.ref (ad 0), .int x, .ref o0] (xPre G T (xC T ad sc M ++ [(o0, .inl (T 4, 1, .inr (.inl h)))]) sz)) (va_Qi (fun (r : Int32) (u : ((Nat → Nat) × (Nat → Nat → Int32) × (Nat → Int64))) => ((xvb (mnp M) x = true ∧ r = nI 0 ∧ u.2.2 0 = Int32.toInt64 (xtk M (xka x))) ∨ (xvb (mnp M) x = false ∧ r = nI 1)) ∧ u.1 0 = ad 0 ∧ va_D (va_A (xC T ad sc M ++ [(o0, .inl (T 4, 1, .inr (.inl h)))]) sz) (xC T u.1 u.2.1 (if xvb (mnp M) x then (xMt M (xka x)) else M) ++ [(o0, .inl (T 4, 1, .inr (.inl u.2.2)))])) (fun u t => va_P G vwCl (xC T u.1 u.2.1 (if xvb (mnp M) x then (xMt M (xka x)) else M) ++ [(o0, .inl (T 4, 1, .inr (.inl u.2.2)))]) t.heap) (va_A (xC T ad sc M ++ [(o0, .inl (T 4, 1, .inr (.inl h)))]) sz)) 1 6 (va_A (xC T ad sc M ++ [(o0, .inl (T 4, 1, .inr (.inl h)))]) sz) := by
  refine x_ofWH (hh := [(0, 9, 12, 23)]) (cc := cL_take) (maxL := 4) (ret := (some .int)) (by decide +kernel) rfl ?_
  intro p e s m args below meth c s₁ B hml hv
  obtain ⟨rfl, hsz, hP, hK, hD0, hXB, hZ⟩ := hv
  have hx := B.exec
  have hb := B.bytes
  have hr := B.returns
  have hts := atoms_spec (ws := wsL_take) B.pre
  have hown : s.vm.findClass RL = some m.cls := findClass_of_methodNamed B.named
  have hlocks := B.notSynchronized
  subst hsz
  have hD := hD0.self (sz := s.heap.size)
  generalize hAe : va_A (xC T ad sc M ++ [(o0, .inl (T 4, 1, .inr (.inl h)))]) s.heap.size = A at hD hZ ⊢
  have hA : ∀ q : Nat, s.heap.size ≤ q → A q := fun q h => by rw [← hAe]; exact Or.inr h
  have hS : va_S A s.heap s.heap [] := va_S.rf
  have hP : va_P G vwCl (xC T ad sc M ++ [(o0, .inl (T 4, 1, .inr (.inl h)))]) s.heap := hP
  have hl := lv_entry ([.ref (ad 0), .int x, .ref o0]) (n := 4) (Nat.le_of_ble_eq_true rfl)
  rw [lg_entry_eq]
  generalize (lg_sl ([.ref (ad 0), .int x, .ref o0]) ++ List.replicate (4 - (lg_sl ([.ref (ad 0), .int x, .ref o0])).length) Slot.unset).toArray = ls at hl ⊢
  have hl : lv_has ls 4 [(0, .ref (ad 0)), (1, .int x), (2, .ref o0)] := hl
  have htab := vx_table (x := yL_take) B (hts (.codeWith yL_take cL_take 4 (some .int) [(0, 9, 12, 23)]) (by decide +kernel))
  have htab : c.exceptionTable.toList = [⟨0, 9, 12, 23⟩] := htab
  refine lv_aload_n hx hb dL_take_0 rfl (lv_at hl 2 rfl) ?_
  refine lv_iconst (v := nI 0) hx hb dL_take_1 (by decide) ?_
  refine lv_aload_n hx hb dL_take_2 rfl (lv_at hl 0 rfl) ?_
  refine lv_iload_n hx hb dL_take_3 rfl (lv_at hl 1 rfl) ?_
  refine x_xcalliA (vx_runV (As := [.int x]) (rest := [.int (nI 0), .ref o0]) ⟨hx, hb, hml, hown, hts⟩ (c_X3_take l hsl G T _ ad sc M x hn4 hm4 hhb hle hta) (cwV 1 hts gL_take_X3_take rfl rfl rfl (by decide +kernel) ⟨Nat.le_of_ble_eq_true rfl, Nat.le_of_ble_eq_true rfl⟩) (x_preVA (wc := (xC T ad sc M)) (wr := [(o0, .inl (T 4, 1, .inr (.inl h)))]) hK hP hD hS hA hXB hZ _ _ 0 3 rfl rfl) rfl rfl hl.1 rfl (lv_room (Nat.le_of_ble_eq_true rfl)) dL_take_4 ⟨Nat.le_of_ble_eq_true rfl, Nat.le_of_ble_eq_true rfl⟩) hP hD hS hA (fun _ _ _ => xd_self (xC_fst T ad sc _ M _ rfl rfl) (xd_l hD)) (fun E ce q9 H locs hE hP hS c1 c2 c3 => ?_) (fun r1 u1 H locs hw1 hP hD hS => ?_)
  · obtain ⟨hE, rfl⟩ := hE
    refine vx_catch hown [] ⟨0, 9, 12, 23⟩ [] htab (fun z hz => absurd hz List.not_mem_nil) (by decide) (by decide) (hts (.classLink RL 23 "java/lang/IndexOutOfBoundsException") (by decide +kernel)) (va_Nw.use rfl (hXB.1 (.castable "java/lang/IndexOutOfBoundsException" "java/lang/IndexOutOfBoundsException") (by decide +kernel))) c1 c2 c3 ?_
    refine lv_astore_n (lv' := [(3, .ref q9), (0, .ref (ad 0)), (1, .int x), (2, .ref o0)]) hx hb dL_take_12 rfl hl (by decide) rfl (fun ls hl => ?_)
    refine lv_iconst (v := nI 1) hx hb dL_take_13 (by decide) ?_
    exact W.iret (v := nI 1) hx hb hr (fun t9_ ht hW => ⟨⟨nI 1, ((ad, sc, h) : ((Nat → Nat) × (Nat → Nat → Int32) × (Nat → Int64))), rfl, ⟨Or.inr ⟨hE, rfl⟩, rfl, by rw [if_neg (fun e => by rw [hE] at e; exact Bool.false_ne_true e)]; exact hD⟩, x_at ht (by rw [if_neg (fun e => by rw [hE] at e; exact Bool.false_ne_true e)]; exact hP)⟩, hS.F ht⟩) hS.2.2 dL_take_14
  have hP : va_P G vwCl (xC T ad sc (xMt M (xka x)) ++ [(o0, .inl (T 4, 1, .inr (.inl h)))]) H := hP
  have hD : va_D A (xC T ad sc (xMt M (xka x)) ++ [(o0, .inl (T 4, 1, .inr (.inl h)))]) := hD
  refine lv_i2l hx hb dL_take_7 rfl ?_
  refine va_last hx hb hK hP hD hS (xC T ad sc (xMt M (xka x))).length 4 x_lget rfl (vp_in_nI (n := 0) (N := 1) (by decide) (by decide)) dL_take_8 (fun H locs hP hD hS => ?_)
  rw [x_lset] at hP hD
  have hP : va_P G vwCl (xC T ad sc (xMt M (xka x)) ++ [(o0, .inl (T 4, 1, .inr (.inl (vp_updL h (nI 0).toNatClampNeg r1.toInt64))))]) H := hP
  have hD : va_D A (xC T ad sc (xMt M (xka x)) ++ [(o0, .inl (T 4, 1, .inr (.inl (vp_updL h (nI 0).toNatClampNeg r1.toInt64))))]) := hD
  refine lv_goto (tgt := 15) hx hb dL_take_9 (by decide) ?_
  refine lv_iconst (v := nI 0) hx hb dL_take_15 (by decide) ?_
  exact W.iret (v := nI 0) hx hb hr (fun t9_ ht hW => ⟨⟨nI 0, ((ad, sc, vp_updL h (nI 0).toNatClampNeg r1.toInt64) : ((Nat → Nat) × (Nat → Nat → Int32) × (Nat → Int64))), rfl, ⟨Or.inl ⟨hw1.1, rfl, by rw [← hw1.2]; rfl⟩, rfl, by rw [if_pos (hw1.1)]; exact hD⟩, x_at ht (by rw [if_pos (hw1.1)]; exact hP)⟩, hS.F ht⟩) hS.2.2 dL_take_16

set_option maxHeartbeats 4000000 in
set_option maxRecDepth 100000 in
/-- the law's force -/
theorem c_L_force (l : Launch) (hsl : l.stackTraces = false) (G : va_G) (T : Nat → ClassId) (sz : Nat) (ad : Nat → Nat) (sc : Nat → Nat → Int32) (M : XM) (o0 : Nat) (h : Nat → Int64) (x y : Int32) (hn4 : mnw M ≤ 4) (hm4 : mnp M ≤ 4) : Met l yL_force wsL_force ({ frames := 8, cells := 2, slots := 12, locals := 127 }) (va_Pc [.ref (ad 0), .int x, .int y, .ref o0] (xPre G T (xC T ad sc M ++ [(o0, .inl (T 4, 1, .inr (.inl h)))]) sz)) (va_Qi (fun (r : Int32) (u : ((Nat → Nat) × (Nat → Nat → Int32) × (Nat → Int64))) => (((xvb (mnp M) x && xvb 16 y) = true ∧ r = nI 0 ∧ u.2.2 0 = Int32.toInt64 (xfm (xfp (mpk M) y - mhb M (xka x) - nI (mta M)))) ∨ ((xvb (mnp M) x && xvb 16 y) = false ∧ r = nI 1)) ∧ u.1 0 = ad 0 ∧ va_D (va_A (xC T ad sc M ++ [(o0, .inl (T 4, 1, .inr (.inl h)))]) sz) (xC T u.1 u.2.1 M ++ [(o0, .inl (T 4, 1, .inr (.inl u.2.2)))])) (fun u t => va_P G vwCl (xC T u.1 u.2.1 M ++ [(o0, .inl (T 4, 1, .inr (.inl u.2.2)))]) t.heap) (va_A (xC T ad sc M ++ [(o0, .inl (T 4, 1, .inr (.inl h)))]) sz)) 2 12 (va_A (xC T ad sc M ++ [(o0, .inl (T 4, 1, .inr (.inl h)))]) sz) := by
  refine x_ofWH (hh := [(0, 10, 13, 23)]) (cc := cL_force) (maxL := 5) (ret := (some .int)) (by decide +kernel) rfl ?_
  intro p e s m args below meth c s₁ B hml hv
  obtain ⟨rfl, hsz, hP, hK, hD0, hXB, hZ⟩ := hv
  have hx := B.exec
  have hb := B.bytes
  have hr := B.returns
  have hts := atoms_spec (ws := wsL_force) B.pre
  have hown : s.vm.findClass RL = some m.cls := findClass_of_methodNamed B.named
  have hlocks := B.notSynchronized
  subst hsz
  have hD := hD0.self (sz := s.heap.size)
  generalize hAe : va_A (xC T ad sc M ++ [(o0, .inl (T 4, 1, .inr (.inl h)))]) s.heap.size = A at hD hZ ⊢
  have hA : ∀ q : Nat, s.heap.size ≤ q → A q := fun q h => by rw [← hAe]; exact Or.inr h
  have hS : va_S A s.heap s.heap [] := va_S.rf
  have hP : va_P G vwCl (xC T ad sc M ++ [(o0, .inl (T 4, 1, .inr (.inl h)))]) s.heap := hP
  have hl := lv_entry ([.ref (ad 0), .int x, .int y, .ref o0]) (n := 5) (Nat.le_of_ble_eq_true rfl)
  rw [lg_entry_eq]
  generalize (lg_sl ([.ref (ad 0), .int x, .int y, .ref o0]) ++ List.replicate (5 - (lg_sl ([.ref (ad 0), .int x, .int y, .ref o0])).length) Slot.unset).toArray = ls at hl ⊢
  have hl : lv_has ls 5 [(0, .ref (ad 0)), (1, .int x), (2, .int y), (3, .ref o0)] := hl
  have htab := vx_table (x := yL_force) B (hts (.codeWith yL_force cL_force 5 (some .int) [(0, 10, 13, 23)]) (by decide +kernel))
  have htab : c.exceptionTable.toList = [⟨0, 10, 13, 23⟩] := htab
  refine lv_aload_n hx hb dL_force_0 rfl (lv_at hl 3 rfl) ?_
  refine lv_iconst (v := nI 0) hx hb dL_force_1 (by decide) ?_
  refine lv_aload_n hx hb dL_force_2 rfl (lv_at hl 0 rfl) ?_
  refine lv_iload_n hx hb dL_force_3 rfl (lv_at hl 1 rfl) ?_
  refine lv_iload_n hx hb dL_force_4 rfl (lv_at hl 2 rfl) ?_
  refine x_xcalliA (vx_runV (As := [.int x, .int y]) (rest := [.int (nI 0), .ref o0]) ⟨hx, hb, hml, hown, hts⟩ (c_X3_force l hsl G T _ ad sc M x y hn4 hm4) (cwV 2 hts gL_force_X3_force rfl rfl rfl (by decide +kernel) ⟨Nat.le_of_ble_eq_true rfl, Nat.le_of_ble_eq_true rfl⟩) (x_preVA (wc := (xC T ad sc M)) (wr := [(o0, .inl (T 4, 1, .inr (.inl h)))]) hK hP hD hS hA hXB hZ _ _ 0 3 rfl rfl) rfl rfl hl.1 rfl (lv_room (Nat.le_of_ble_eq_true rfl)) dL_force_5 ⟨Nat.le_of_ble_eq_true rfl, Nat.le_of_ble_eq_true rfl⟩) hP hD hS hA (fun _ _ _ => (xd_l hD).self) (fun E ce q9 H locs hE hP hS c1 c2 c3 => ?_) (fun r1 u1 H locs hw1 hP hD hS => ?_)
  · obtain ⟨hE, rfl⟩ := hE
    refine vx_catch hown [] ⟨0, 10, 13, 23⟩ [] htab (fun z hz => absurd hz List.not_mem_nil) (by decide) (by decide) (hts (.classLink RL 23 "java/lang/IndexOutOfBoundsException") (by decide +kernel)) (va_Nw.use rfl (hXB.1 (.castable "java/lang/IndexOutOfBoundsException" "java/lang/IndexOutOfBoundsException") (by decide +kernel))) c1 c2 c3 ?_
    refine lv_astore (lv' := [(4, .ref q9), (0, .ref (ad 0)), (1, .int x), (2, .int y), (3, .ref o0)]) hx hb dL_force_13 hl (by decide) rfl (fun ls hl => ?_)
    refine lv_iconst (v := nI 1) hx hb dL_force_15 (by decide) ?_
    exact W.iret (v := nI 1) hx hb hr (fun t9_ ht hW => ⟨⟨nI 1, ((ad, sc, h) : ((Nat → Nat) × (Nat → Nat → Int32) × (Nat → Int64))), rfl, ⟨Or.inr ⟨hE, rfl⟩, rfl, by exact hD⟩, x_at ht (by exact hP)⟩, hS.F ht⟩) hS.2.2 dL_force_16
  have hP : va_P G vwCl (xC T ad sc M ++ [(o0, .inl (T 4, 1, .inr (.inl h)))]) H := hP
  have hD : va_D A (xC T ad sc M ++ [(o0, .inl (T 4, 1, .inr (.inl h)))]) := hD
  refine lv_i2l hx hb dL_force_8 rfl ?_
  refine va_last hx hb hK hP hD hS (xC T ad sc M).length 4 x_lget rfl (vp_in_nI (n := 0) (N := 1) (by decide) (by decide)) dL_force_9 (fun H locs hP hD hS => ?_)
  rw [x_lset] at hP hD
  have hP : va_P G vwCl (xC T ad sc M ++ [(o0, .inl (T 4, 1, .inr (.inl (vp_updL h (nI 0).toNatClampNeg r1.toInt64))))]) H := hP
  have hD : va_D A (xC T ad sc M ++ [(o0, .inl (T 4, 1, .inr (.inl (vp_updL h (nI 0).toNatClampNeg r1.toInt64))))]) := hD
  refine lv_goto (tgt := 17) hx hb dL_force_10 (by decide) ?_
  refine lv_iconst (v := nI 0) hx hb dL_force_17 (by decide) ?_
  exact W.iret (v := nI 0) hx hb hr (fun t9_ ht hW => ⟨⟨nI 0, ((ad, sc, vp_updL h (nI 0).toNatClampNeg r1.toInt64) : ((Nat → Nat) × (Nat → Nat → Int32) × (Nat → Int64))), rfl, ⟨Or.inl ⟨hw1.1, rfl, by rw [← hw1.2]; rfl⟩, rfl, by exact hD⟩, x_at ht (by exact hP)⟩, hS.F ht⟩) hS.2.2 dL_force_18

set_option maxHeartbeats 4000000 in
set_option maxRecDepth 100000 in
/-- the law's took -/
theorem c_L_took (l : Launch) (hsl : l.stackTraces = false) (G : va_G) (T : Nat → ClassId) (sz : Nat) (ad : Nat → Nat) (sc : Nat → Nat → Int32) (M : XM) (o0 : Nat) (h : Nat → Int64) (x : Int32) (hn4 : mnw M ≤ 4) (hm4 : mnp M ≤ 4) : Met l yL_took wsL_took ({ frames := 8, cells := 1, slots := 6, locals := 125 }) (va_Pc [.ref (ad 0), .int x, .ref o0] (xPre G T (xC T ad sc M ++ [(o0, .inl (T 4, 1, .inr (.inl h)))]) sz)) (va_Qi (fun (r : Int32) (u : ((Nat → Nat) × (Nat → Nat → Int32) × (Nat → Int64))) => ((xvb (mnp M) x = true ∧ r = nI 0 ∧ u.2.2 0 = Int32.toInt64 (mtk M (xka x))) ∨ (xvb (mnp M) x = false ∧ r = nI 1)) ∧ u.1 0 = ad 0 ∧ va_D (va_A (xC T ad sc M ++ [(o0, .inl (T 4, 1, .inr (.inl h)))]) sz) (xC T u.1 u.2.1 M ++ [(o0, .inl (T 4, 1, .inr (.inl u.2.2)))])) (fun u t => va_P G vwCl (xC T u.1 u.2.1 M ++ [(o0, .inl (T 4, 1, .inr (.inl u.2.2)))]) t.heap) (va_A (xC T ad sc M ++ [(o0, .inl (T 4, 1, .inr (.inl h)))]) sz)) 1 6 (va_A (xC T ad sc M ++ [(o0, .inl (T 4, 1, .inr (.inl h)))]) sz) := by
  refine x_ofWH (hh := [(0, 9, 12, 23)]) (cc := cL_took) (maxL := 4) (ret := (some .int)) (by decide +kernel) rfl ?_
  intro p e s m args below meth c s₁ B hml hv
  obtain ⟨rfl, hsz, hP, hK, hD0, hXB, hZ⟩ := hv
  have hx := B.exec
  have hb := B.bytes
  have hr := B.returns
  have hts := atoms_spec (ws := wsL_took) B.pre
  have hown : s.vm.findClass RL = some m.cls := findClass_of_methodNamed B.named
  have hlocks := B.notSynchronized
  subst hsz
  have hD := hD0.self (sz := s.heap.size)
  generalize hAe : va_A (xC T ad sc M ++ [(o0, .inl (T 4, 1, .inr (.inl h)))]) s.heap.size = A at hD hZ ⊢
  have hA : ∀ q : Nat, s.heap.size ≤ q → A q := fun q h => by rw [← hAe]; exact Or.inr h
  have hS : va_S A s.heap s.heap [] := va_S.rf
  have hP : va_P G vwCl (xC T ad sc M ++ [(o0, .inl (T 4, 1, .inr (.inl h)))]) s.heap := hP
  have hl := lv_entry ([.ref (ad 0), .int x, .ref o0]) (n := 4) (Nat.le_of_ble_eq_true rfl)
  rw [lg_entry_eq]
  generalize (lg_sl ([.ref (ad 0), .int x, .ref o0]) ++ List.replicate (4 - (lg_sl ([.ref (ad 0), .int x, .ref o0])).length) Slot.unset).toArray = ls at hl ⊢
  have hl : lv_has ls 4 [(0, .ref (ad 0)), (1, .int x), (2, .ref o0)] := hl
  have htab := vx_table (x := yL_took) B (hts (.codeWith yL_took cL_took 4 (some .int) [(0, 9, 12, 23)]) (by decide +kernel))
  have htab : c.exceptionTable.toList = [⟨0, 9, 12, 23⟩] := htab
  refine lv_aload_n hx hb dL_took_0 rfl (lv_at hl 2 rfl) ?_
  refine lv_iconst (v := nI 0) hx hb dL_took_1 (by decide) ?_
  refine lv_aload_n hx hb dL_took_2 rfl (lv_at hl 0 rfl) ?_
  refine lv_iload_n hx hb dL_took_3 rfl (lv_at hl 1 rfl) ?_
  refine x_xcalliA (vx_runV (As := [.int x]) (rest := [.int (nI 0), .ref o0]) ⟨hx, hb, hml, hown, hts⟩ (c_X3_took l hsl G T _ ad sc M x hn4 hm4) (cwV 1 hts gL_took_X3_took rfl rfl rfl (by decide +kernel) ⟨Nat.le_of_ble_eq_true rfl, Nat.le_of_ble_eq_true rfl⟩) (x_preVA (wc := (xC T ad sc M)) (wr := [(o0, .inl (T 4, 1, .inr (.inl h)))]) hK hP hD hS hA hXB hZ _ _ 0 3 rfl rfl) rfl rfl hl.1 rfl (lv_room (Nat.le_of_ble_eq_true rfl)) dL_took_4 ⟨Nat.le_of_ble_eq_true rfl, Nat.le_of_ble_eq_true rfl⟩) hP hD hS hA (fun _ _ _ => (xd_l hD).self) (fun E ce q9 H locs hE hP hS c1 c2 c3 => ?_) (fun r1 u1 H locs hw1 hP hD hS => ?_)
  · obtain ⟨hE, rfl⟩ := hE
    refine vx_catch hown [] ⟨0, 9, 12, 23⟩ [] htab (fun z hz => absurd hz List.not_mem_nil) (by decide) (by decide) (hts (.classLink RL 23 "java/lang/IndexOutOfBoundsException") (by decide +kernel)) (va_Nw.use rfl (hXB.1 (.castable "java/lang/IndexOutOfBoundsException" "java/lang/IndexOutOfBoundsException") (by decide +kernel))) c1 c2 c3 ?_
    refine lv_astore_n (lv' := [(3, .ref q9), (0, .ref (ad 0)), (1, .int x), (2, .ref o0)]) hx hb dL_took_12 rfl hl (by decide) rfl (fun ls hl => ?_)
    refine lv_iconst (v := nI 1) hx hb dL_took_13 (by decide) ?_
    exact W.iret (v := nI 1) hx hb hr (fun t9_ ht hW => ⟨⟨nI 1, ((ad, sc, h) : ((Nat → Nat) × (Nat → Nat → Int32) × (Nat → Int64))), rfl, ⟨Or.inr ⟨hE, rfl⟩, rfl, by exact hD⟩, x_at ht (by exact hP)⟩, hS.F ht⟩) hS.2.2 dL_took_14
  have hP : va_P G vwCl (xC T ad sc M ++ [(o0, .inl (T 4, 1, .inr (.inl h)))]) H := hP
  have hD : va_D A (xC T ad sc M ++ [(o0, .inl (T 4, 1, .inr (.inl h)))]) := hD
  refine lv_i2l hx hb dL_took_7 rfl ?_
  refine va_last hx hb hK hP hD hS (xC T ad sc M).length 4 x_lget rfl (vp_in_nI (n := 0) (N := 1) (by decide) (by decide)) dL_took_8 (fun H locs hP hD hS => ?_)
  rw [x_lset] at hP hD
  have hP : va_P G vwCl (xC T ad sc M ++ [(o0, .inl (T 4, 1, .inr (.inl (vp_updL h (nI 0).toNatClampNeg r1.toInt64))))]) H := hP
  have hD : va_D A (xC T ad sc M ++ [(o0, .inl (T 4, 1, .inr (.inl (vp_updL h (nI 0).toNatClampNeg r1.toInt64))))]) := hD
  refine lv_goto (tgt := 15) hx hb dL_took_9 (by decide) ?_
  refine lv_iconst (v := nI 0) hx hb dL_took_15 (by decide) ?_
  exact W.iret (v := nI 0) hx hb hr (fun t9_ ht hW => ⟨⟨nI 0, ((ad, sc, vp_updL h (nI 0).toNatClampNeg r1.toInt64) : ((Nat → Nat) × (Nat → Nat → Int32) × (Nat → Int64))), rfl, ⟨Or.inl ⟨hw1.1, rfl, by rw [← hw1.2]; rfl⟩, rfl, by exact hD⟩, x_at ht (by exact hP)⟩, hS.F ht⟩) hS.2.2 dL_took_16

set_option maxHeartbeats 4000000 in
set_option maxRecDepth 100000 in
/-- the law's count -/
theorem c_L_count (l : Launch) (hsl : l.stackTraces = false) (G : va_G) (T : Nat → ClassId) (sz : Nat) (ad : Nat → Nat) (sc : Nat → Nat → Int32) (M : XM) (o0 : Nat) (h : Nat → Int64) (x : Int32)  : Met l yL_count wsL_count ({ frames := 7, cells := 1, slots := 6, locals := 103 }) (va_Pc [.ref (ad 0), .int x, .ref o0] (xPre G T (xC T ad sc M ++ [(o0, .inl (T 4, 1, .inr (.inl h)))]) sz)) (va_Qi (fun (r : Int32) (u : ((Nat → Nat) × (Nat → Nat → Int32) × (Nat → Int64))) => ((xvb 7 x = true ∧ r = nI 0 ∧ u.2.2 0 = Int32.toInt64 (xcnt M (xka x))) ∨ (xvb 7 x = false ∧ r = nI 1)) ∧ u.1 0 = ad 0 ∧ va_D (va_A (xC T ad sc M ++ [(o0, .inl (T 4, 1, .inr (.inl h)))]) sz) (xC T u.1 u.2.1 M ++ [(o0, .inl (T 4, 1, .inr (.inl u.2.2)))])) (fun u t => va_P G vwCl (xC T u.1 u.2.1 M ++ [(o0, .inl (T 4, 1, .inr (.inl u.2.2)))]) t.heap) (va_A (xC T ad sc M ++ [(o0, .inl (T 4, 1, .inr (.inl h)))]) sz)) 1 6 (va_A (xC T ad sc M ++ [(o0, .inl (T 4, 1, .inr (.inl h)))]) sz) := by
  refine x_ofWH (hh := [(0, 9, 12, 23)]) (cc := cL_count) (maxL := 4) (ret := (some .int)) (by decide +kernel) rfl ?_
  intro p e s m args below meth c s₁ B hml hv
  obtain ⟨rfl, hsz, hP, hK, hD0, hXB, hZ⟩ := hv
  have hx := B.exec
  have hb := B.bytes
  have hr := B.returns
  have hts := atoms_spec (ws := wsL_count) B.pre
  have hown : s.vm.findClass RL = some m.cls := findClass_of_methodNamed B.named
  have hlocks := B.notSynchronized
  subst hsz
  have hD := hD0.self (sz := s.heap.size)
  generalize hAe : va_A (xC T ad sc M ++ [(o0, .inl (T 4, 1, .inr (.inl h)))]) s.heap.size = A at hD hZ ⊢
  have hA : ∀ q : Nat, s.heap.size ≤ q → A q := fun q h => by rw [← hAe]; exact Or.inr h
  have hS : va_S A s.heap s.heap [] := va_S.rf
  have hP : va_P G vwCl (xC T ad sc M ++ [(o0, .inl (T 4, 1, .inr (.inl h)))]) s.heap := hP
  have hl := lv_entry ([.ref (ad 0), .int x, .ref o0]) (n := 4) (Nat.le_of_ble_eq_true rfl)
  rw [lg_entry_eq]
  generalize (lg_sl ([.ref (ad 0), .int x, .ref o0]) ++ List.replicate (4 - (lg_sl ([.ref (ad 0), .int x, .ref o0])).length) Slot.unset).toArray = ls at hl ⊢
  have hl : lv_has ls 4 [(0, .ref (ad 0)), (1, .int x), (2, .ref o0)] := hl
  have htab := vx_table (x := yL_count) B (hts (.codeWith yL_count cL_count 4 (some .int) [(0, 9, 12, 23)]) (by decide +kernel))
  have htab : c.exceptionTable.toList = [⟨0, 9, 12, 23⟩] := htab
  refine lv_aload_n hx hb dL_count_0 rfl (lv_at hl 2 rfl) ?_
  refine lv_iconst (v := nI 0) hx hb dL_count_1 (by decide) ?_
  refine lv_aload_n hx hb dL_count_2 rfl (lv_at hl 0 rfl) ?_
  refine lv_iload_n hx hb dL_count_3 rfl (lv_at hl 1 rfl) ?_
  refine x_xcalliA (vx_runV (As := [.int x]) (rest := [.int (nI 0), .ref o0]) ⟨hx, hb, hml, hown, hts⟩ (c_X3_count l hsl G T _ ad sc M x ) (cwV 1 hts gL_count_X3_count rfl rfl rfl (by decide +kernel) ⟨Nat.le_of_ble_eq_true rfl, Nat.le_of_ble_eq_true rfl⟩) (x_preVA (wc := (xC T ad sc M)) (wr := [(o0, .inl (T 4, 1, .inr (.inl h)))]) hK hP hD hS hA hXB hZ _ _ 0 3 rfl rfl) rfl rfl hl.1 rfl (lv_room (Nat.le_of_ble_eq_true rfl)) dL_count_4 ⟨Nat.le_of_ble_eq_true rfl, Nat.le_of_ble_eq_true rfl⟩) hP hD hS hA (fun _ _ _ => (xd_l hD).self) (fun E ce q9 H locs hE hP hS c1 c2 c3 => ?_) (fun r1 u1 H locs hw1 hP hD hS => ?_)
  · obtain ⟨hE, rfl⟩ := hE
    refine vx_catch hown [] ⟨0, 9, 12, 23⟩ [] htab (fun z hz => absurd hz List.not_mem_nil) (by decide) (by decide) (hts (.classLink RL 23 "java/lang/IndexOutOfBoundsException") (by decide +kernel)) (va_Nw.use rfl (hXB.1 (.castable "java/lang/IndexOutOfBoundsException" "java/lang/IndexOutOfBoundsException") (by decide +kernel))) c1 c2 c3 ?_
    refine lv_astore_n (lv' := [(3, .ref q9), (0, .ref (ad 0)), (1, .int x), (2, .ref o0)]) hx hb dL_count_12 rfl hl (by decide) rfl (fun ls hl => ?_)
    refine lv_iconst (v := nI 1) hx hb dL_count_13 (by decide) ?_
    exact W.iret (v := nI 1) hx hb hr (fun t9_ ht hW => ⟨⟨nI 1, ((ad, sc, h) : ((Nat → Nat) × (Nat → Nat → Int32) × (Nat → Int64))), rfl, ⟨Or.inr ⟨hE, rfl⟩, rfl, by exact hD⟩, x_at ht (by exact hP)⟩, hS.F ht⟩) hS.2.2 dL_count_14
  have hP : va_P G vwCl (xC T ad sc M ++ [(o0, .inl (T 4, 1, .inr (.inl h)))]) H := hP
  have hD : va_D A (xC T ad sc M ++ [(o0, .inl (T 4, 1, .inr (.inl h)))]) := hD
  refine lv_i2l hx hb dL_count_7 rfl ?_
  refine va_last hx hb hK hP hD hS (xC T ad sc M).length 4 x_lget rfl (vp_in_nI (n := 0) (N := 1) (by decide) (by decide)) dL_count_8 (fun H locs hP hD hS => ?_)
  rw [x_lset] at hP hD
  have hP : va_P G vwCl (xC T ad sc M ++ [(o0, .inl (T 4, 1, .inr (.inl (vp_updL h (nI 0).toNatClampNeg r1.toInt64))))]) H := hP
  have hD : va_D A (xC T ad sc M ++ [(o0, .inl (T 4, 1, .inr (.inl (vp_updL h (nI 0).toNatClampNeg r1.toInt64))))]) := hD
  refine lv_goto (tgt := 15) hx hb dL_count_9 (by decide) ?_
  refine lv_iconst (v := nI 0) hx hb dL_count_15 (by decide) ?_
  exact W.iret (v := nI 0) hx hb hr (fun t9_ ht hW => ⟨⟨nI 0, ((ad, sc, vp_updL h (nI 0).toNatClampNeg r1.toInt64) : ((Nat → Nat) × (Nat → Nat → Int32) × (Nat → Int64))), rfl, ⟨Or.inl ⟨hw1.1, rfl, by rw [← hw1.2]; rfl⟩, rfl, by exact hD⟩, x_at ht (by exact hP)⟩, hS.F ht⟩) hS.2.2 dL_count_16

set_option maxHeartbeats 4000000 in
set_option maxRecDepth 100000 in
/-- the law's back -/
theorem c_L_back (l : Launch) (hsl : l.stackTraces = false) (G : va_G) (T : Nat → ClassId) (sz : Nat) (ad : Nat → Nat) (sc : Nat → Nat → Int32) (M : XM) (o0 : Nat) (h : Nat → Int64) (a b : Int32)  : Met l yL_back wsL_back ({ frames := 8, cells := 1, slots := 6, locals := 126 }) (va_Pc [.ref (ad 0), .int a, .int b, .ref o0] (xPre G T (xC T ad sc M ++ [(o0, .inl (T 4, 1, .inr (.inl h)))]) sz)) (va_Qi (fun (r : Int32) (u : ((Nat → Nat) × (Nat → Nat → Int32) × (Nat → Int64))) => ((xwb a b = true ∧ r = nI 0 ∧ u.2.2 0 = Int32.toInt64 (nI (xord (xka a) (xka b)))) ∨ (xwb a b = false ∧ r = nI 1)) ∧ u.1 0 = ad 0 ∧ va_D (va_A (xC T ad sc M ++ [(o0, .inl (T 4, 1, .inr (.inl h)))]) sz) (xC T u.1 u.2.1 M ++ [(o0, .inl (T 4, 1, .inr (.inl u.2.2)))])) (fun u t => va_P G vwCl (xC T u.1 u.2.1 M ++ [(o0, .inl (T 4, 1, .inr (.inl u.2.2)))]) t.heap) (va_A (xC T ad sc M ++ [(o0, .inl (T 4, 1, .inr (.inl h)))]) sz)) 1 6 (va_A (xC T ad sc M ++ [(o0, .inl (T 4, 1, .inr (.inl h)))]) sz) := by
  refine x_ofWH (hh := [(0, 10, 13, 13)]) (cc := cL_back) (maxL := 5) (ret := (some .int)) (by decide +kernel) rfl ?_
  intro p e s m args below meth c s₁ B hml hv
  obtain ⟨rfl, hsz, hP, hK, hD0, hXB, hZ⟩ := hv
  have hx := B.exec
  have hb := B.bytes
  have hr := B.returns
  have hts := atoms_spec (ws := wsL_back) B.pre
  have hown : s.vm.findClass RL = some m.cls := findClass_of_methodNamed B.named
  have hlocks := B.notSynchronized
  subst hsz
  have hD := hD0.self (sz := s.heap.size)
  generalize hAe : va_A (xC T ad sc M ++ [(o0, .inl (T 4, 1, .inr (.inl h)))]) s.heap.size = A at hD hZ ⊢
  have hA : ∀ q : Nat, s.heap.size ≤ q → A q := fun q h => by rw [← hAe]; exact Or.inr h
  have hS : va_S A s.heap s.heap [] := va_S.rf
  have hP : va_P G vwCl (xC T ad sc M ++ [(o0, .inl (T 4, 1, .inr (.inl h)))]) s.heap := hP
  have hl := lv_entry ([.ref (ad 0), .int a, .int b, .ref o0]) (n := 5) (Nat.le_of_ble_eq_true rfl)
  rw [lg_entry_eq]
  generalize (lg_sl ([.ref (ad 0), .int a, .int b, .ref o0]) ++ List.replicate (5 - (lg_sl ([.ref (ad 0), .int a, .int b, .ref o0])).length) Slot.unset).toArray = ls at hl ⊢
  have hl : lv_has ls 5 [(0, .ref (ad 0)), (1, .int a), (2, .int b), (3, .ref o0)] := hl
  have htab := vx_table (x := yL_back) B (hts (.codeWith yL_back cL_back 5 (some .int) [(0, 10, 13, 13)]) (by decide +kernel))
  have htab : c.exceptionTable.toList = [⟨0, 10, 13, 13⟩] := htab
  refine lv_aload_n hx hb dL_back_0 rfl (lv_at hl 3 rfl) ?_
  refine lv_iconst (v := nI 0) hx hb dL_back_1 (by decide) ?_
  refine lv_aload_n hx hb dL_back_2 rfl (lv_at hl 0 rfl) ?_
  refine lv_iload_n hx hb dL_back_3 rfl (lv_at hl 1 rfl) ?_
  refine lv_iload_n hx hb dL_back_4 rfl (lv_at hl 2 rfl) ?_
  refine x_xcalliA (vx_runV (As := [.int a, .int b]) (rest := [.int (nI 0), .ref o0]) ⟨hx, hb, hml, hown, hts⟩ (c_X3_back l hsl G T _ ad sc M a b ) (cwV 2 hts gL_back_X3_back rfl rfl rfl (by decide +kernel) ⟨Nat.le_of_ble_eq_true rfl, Nat.le_of_ble_eq_true rfl⟩) (x_preVA (wc := (xC T ad sc M)) (wr := [(o0, .inl (T 4, 1, .inr (.inl h)))]) hK hP hD hS hA hXB hZ _ _ 0 3 rfl rfl) rfl rfl hl.1 rfl (lv_room (Nat.le_of_ble_eq_true rfl)) dL_back_5 ⟨Nat.le_of_ble_eq_true rfl, Nat.le_of_ble_eq_true rfl⟩) hP hD hS hA (fun _ _ _ => xd_self (xC_fst T ad sc _ M _ rfl rfl) (xd_l hD)) (fun E ce q9 H locs hE hP hS c1 c2 c3 => ?_) (fun r1 u1 H locs hw1 hP hD hS => ?_)
  · obtain ⟨hE, rfl⟩ := hE
    refine vx_catch hown [] ⟨0, 10, 13, 13⟩ [] htab (fun z hz => absurd hz List.not_mem_nil) (by decide) (by decide) (hts (.classLink RL 13 "java/lang/IllegalArgumentException") (by decide +kernel)) (va_Nw.use rfl (hXB.1 (.castable "java/lang/IllegalArgumentException" "java/lang/IllegalArgumentException") (by decide +kernel))) c1 c2 c3 ?_
    refine lv_astore (lv' := [(4, .ref q9), (0, .ref (ad 0)), (1, .int a), (2, .int b), (3, .ref o0)]) hx hb dL_back_13 hl (by decide) rfl (fun ls hl => ?_)
    refine lv_iconst (v := nI 1) hx hb dL_back_15 (by decide) ?_
    exact W.iret (v := nI 1) hx hb hr (fun t9_ ht hW => ⟨⟨nI 1, ((ad, sc, h) : ((Nat → Nat) × (Nat → Nat → Int32) × (Nat → Int64))), rfl, ⟨Or.inr ⟨hE, rfl⟩, rfl, by exact hD⟩, x_at ht (by exact hP)⟩, hS.F ht⟩) hS.2.2 dL_back_16
  have hP : va_P G vwCl (xC T ad u1 M ++ [(o0, .inl (T 4, 1, .inr (.inl h)))]) H := hP
  have hD : va_D A (xC T ad u1 M ++ [(o0, .inl (T 4, 1, .inr (.inl h)))]) := hD
  refine lv_i2l hx hb dL_back_8 rfl ?_
  refine va_last hx hb hK hP hD hS (xC T ad u1 M).length 4 x_lget rfl (vp_in_nI (n := 0) (N := 1) (by decide) (by decide)) dL_back_9 (fun H locs hP hD hS => ?_)
  rw [x_lset] at hP hD
  have hP : va_P G vwCl (xC T ad u1 M ++ [(o0, .inl (T 4, 1, .inr (.inl (vp_updL h (nI 0).toNatClampNeg r1.toInt64))))]) H := hP
  have hD : va_D A (xC T ad u1 M ++ [(o0, .inl (T 4, 1, .inr (.inl (vp_updL h (nI 0).toNatClampNeg r1.toInt64))))]) := hD
  refine lv_goto (tgt := 17) hx hb dL_back_10 (by decide) ?_
  refine lv_iconst (v := nI 0) hx hb dL_back_17 (by decide) ?_
  exact W.iret (v := nI 0) hx hb hr (fun t9_ ht hW => ⟨⟨nI 0, ((ad, u1, vp_updL h (nI 0).toNatClampNeg r1.toInt64) : ((Nat → Nat) × (Nat → Nat → Int32) × (Nat → Int64))), rfl, ⟨Or.inl ⟨hw1.1, rfl, by rw [← hw1.2]; rfl⟩, rfl, by exact hD⟩, x_at ht (by exact hP)⟩, hS.F ht⟩) hS.2.2 dL_back_18

set_option maxHeartbeats 4000000 in
set_option maxRecDepth 100000 in
/-- the law's bring -/
theorem c_L_bring (l : Launch) (hsl : l.stackTraces = false) (G : va_G) (T : Nat → ClassId) (sz : Nat) (ad : Nat → Nat) (sc : Nat → Nat → Int32) (M : XM) (o0 : Nat) (h : Nat → Int64) (x y : Int32) (hsur : ∀ c, c < 16 → ∃ j, j < 16 ∧ mpk M j = nI c) : Met l yL_bring wsL_bring ({ frames := 8, cells := 2, slots := 12, locals := 127 }) (va_Pc [.ref (ad 0), .int x, .int y, .ref o0] (xPre G T (xC T ad sc M ++ [(o0, .inl (T 4, 1, .inr (.inl h)))]) sz)) (va_Qi (fun (r : Int32) (u : ((Nat → Nat) × (Nat → Nat → Int32) × (Nat → Int64))) => (((xvb 16 x && xvb 16 y) = true ∧ r = nI 0 ∧ u.2.2 0 = Int32.toInt64 (nI (xbr (xka (xfp (mpk M) x)) (xka y)))) ∨ ((xvb 16 x && xvb 16 y) = false ∧ r = nI 1)) ∧ u.1 0 = ad 0 ∧ va_D (va_A (xC T ad sc M ++ [(o0, .inl (T 4, 1, .inr (.inl h)))]) sz) (xC T u.1 u.2.1 M ++ [(o0, .inl (T 4, 1, .inr (.inl u.2.2)))])) (fun u t => va_P G vwCl (xC T u.1 u.2.1 M ++ [(o0, .inl (T 4, 1, .inr (.inl u.2.2)))]) t.heap) (va_A (xC T ad sc M ++ [(o0, .inl (T 4, 1, .inr (.inl h)))]) sz)) 2 12 (va_A (xC T ad sc M ++ [(o0, .inl (T 4, 1, .inr (.inl h)))]) sz) := by
  refine x_ofWH (hh := [(0, 10, 13, 23)]) (cc := cL_bring) (maxL := 5) (ret := (some .int)) (by decide +kernel) rfl ?_
  intro p e s m args below meth c s₁ B hml hv
  obtain ⟨rfl, hsz, hP, hK, hD0, hXB, hZ⟩ := hv
  have hx := B.exec
  have hb := B.bytes
  have hr := B.returns
  have hts := atoms_spec (ws := wsL_bring) B.pre
  have hown : s.vm.findClass RL = some m.cls := findClass_of_methodNamed B.named
  have hlocks := B.notSynchronized
  subst hsz
  have hD := hD0.self (sz := s.heap.size)
  generalize hAe : va_A (xC T ad sc M ++ [(o0, .inl (T 4, 1, .inr (.inl h)))]) s.heap.size = A at hD hZ ⊢
  have hA : ∀ q : Nat, s.heap.size ≤ q → A q := fun q h => by rw [← hAe]; exact Or.inr h
  have hS : va_S A s.heap s.heap [] := va_S.rf
  have hP : va_P G vwCl (xC T ad sc M ++ [(o0, .inl (T 4, 1, .inr (.inl h)))]) s.heap := hP
  have hl := lv_entry ([.ref (ad 0), .int x, .int y, .ref o0]) (n := 5) (Nat.le_of_ble_eq_true rfl)
  rw [lg_entry_eq]
  generalize (lg_sl ([.ref (ad 0), .int x, .int y, .ref o0]) ++ List.replicate (5 - (lg_sl ([.ref (ad 0), .int x, .int y, .ref o0])).length) Slot.unset).toArray = ls at hl ⊢
  have hl : lv_has ls 5 [(0, .ref (ad 0)), (1, .int x), (2, .int y), (3, .ref o0)] := hl
  have htab := vx_table (x := yL_bring) B (hts (.codeWith yL_bring cL_bring 5 (some .int) [(0, 10, 13, 23)]) (by decide +kernel))
  have htab : c.exceptionTable.toList = [⟨0, 10, 13, 23⟩] := htab
  refine lv_aload_n hx hb dL_bring_0 rfl (lv_at hl 3 rfl) ?_
  refine lv_iconst (v := nI 0) hx hb dL_bring_1 (by decide) ?_
  refine lv_aload_n hx hb dL_bring_2 rfl (lv_at hl 0 rfl) ?_
  refine lv_iload_n hx hb dL_bring_3 rfl (lv_at hl 1 rfl) ?_
  refine lv_iload_n hx hb dL_bring_4 rfl (lv_at hl 2 rfl) ?_
  refine x_xcalliA (vx_runV (As := [.int x, .int y]) (rest := [.int (nI 0), .ref o0]) ⟨hx, hb, hml, hown, hts⟩ (c_X3_bring l hsl G T _ ad sc M x y hsur) (cwV 2 hts gL_bring_X3_bring rfl rfl rfl (by decide +kernel) ⟨Nat.le_of_ble_eq_true rfl, Nat.le_of_ble_eq_true rfl⟩) (x_preVA (wc := (xC T ad sc M)) (wr := [(o0, .inl (T 4, 1, .inr (.inl h)))]) hK hP hD hS hA hXB hZ _ _ 0 3 rfl rfl) rfl rfl hl.1 rfl (lv_room (Nat.le_of_ble_eq_true rfl)) dL_bring_5 ⟨Nat.le_of_ble_eq_true rfl, Nat.le_of_ble_eq_true rfl⟩) hP hD hS hA (fun _ _ _ => (xd_l hD).self) (fun E ce q9 H locs hE hP hS c1 c2 c3 => ?_) (fun r1 u1 H locs hw1 hP hD hS => ?_)
  · obtain ⟨hE, rfl⟩ := hE
    refine vx_catch hown [] ⟨0, 10, 13, 23⟩ [] htab (fun z hz => absurd hz List.not_mem_nil) (by decide) (by decide) (hts (.classLink RL 23 "java/lang/IndexOutOfBoundsException") (by decide +kernel)) (va_Nw.use rfl (hXB.1 (.castable "java/lang/IndexOutOfBoundsException" "java/lang/IndexOutOfBoundsException") (by decide +kernel))) c1 c2 c3 ?_
    refine lv_astore (lv' := [(4, .ref q9), (0, .ref (ad 0)), (1, .int x), (2, .int y), (3, .ref o0)]) hx hb dL_bring_13 hl (by decide) rfl (fun ls hl => ?_)
    refine lv_iconst (v := nI 1) hx hb dL_bring_15 (by decide) ?_
    exact W.iret (v := nI 1) hx hb hr (fun t9_ ht hW => ⟨⟨nI 1, ((ad, sc, h) : ((Nat → Nat) × (Nat → Nat → Int32) × (Nat → Int64))), rfl, ⟨Or.inr ⟨hE, rfl⟩, rfl, by exact hD⟩, x_at ht (by exact hP)⟩, hS.F ht⟩) hS.2.2 dL_bring_16
  have hP : va_P G vwCl (xC T ad sc M ++ [(o0, .inl (T 4, 1, .inr (.inl h)))]) H := hP
  have hD : va_D A (xC T ad sc M ++ [(o0, .inl (T 4, 1, .inr (.inl h)))]) := hD
  refine lv_i2l hx hb dL_bring_8 rfl ?_
  refine va_last hx hb hK hP hD hS (xC T ad sc M).length 4 x_lget rfl (vp_in_nI (n := 0) (N := 1) (by decide) (by decide)) dL_bring_9 (fun H locs hP hD hS => ?_)
  rw [x_lset] at hP hD
  have hP : va_P G vwCl (xC T ad sc M ++ [(o0, .inl (T 4, 1, .inr (.inl (vp_updL h (nI 0).toNatClampNeg r1.toInt64))))]) H := hP
  have hD : va_D A (xC T ad sc M ++ [(o0, .inl (T 4, 1, .inr (.inl (vp_updL h (nI 0).toNatClampNeg r1.toInt64))))]) := hD
  refine lv_goto (tgt := 17) hx hb dL_bring_10 (by decide) ?_
  refine lv_iconst (v := nI 0) hx hb dL_bring_17 (by decide) ?_
  exact W.iret (v := nI 0) hx hb hr (fun t9_ ht hW => ⟨⟨nI 0, ((ad, sc, vp_updL h (nI 0).toNatClampNeg r1.toInt64) : ((Nat → Nat) × (Nat → Nat → Int32) × (Nat → Int64))), rfl, ⟨Or.inl ⟨hw1.1, rfl, by rw [← hw1.2]; rfl⟩, rfl, by exact hD⟩, x_at ht (by exact hP)⟩, hS.F ht⟩) hS.2.2 dL_bring_18

set_option maxHeartbeats 4000000 in
set_option maxRecDepth 100000 in
/-- the law's riffles -/
theorem c_L_riffles (l : Launch) (hsl : l.stackTraces = false) (G : va_G) (T : Nat → ClassId) (sz : Nat) (ad : Nat → Nat) (sc : Nat → Nat → Int32) (M : XM) (o0 : Nat) (h : Nat → Int64) (x y : Int32) (hsur : ∀ c, c < 16 → ∃ j, j < 16 ∧ mpk M j = nI c) : Met l yL_riffles wsL_riffles ({ frames := 8, cells := 2, slots := 12, locals := 128 }) (va_Pc [.ref (ad 0), .int x, .int y, .ref o0] (xPre G T (xC T ad sc M ++ [(o0, .inl (T 4, 1, .inr (.inl h)))]) sz)) (va_Qi (fun (r : Int32) (u : ((Nat → Nat) × (Nat → Nat → Int32) × (Nat → Int64))) => (((xvb 16 x && xvb 16 y) = true ∧ r = nI 0 ∧ u.2.2 0 = Int32.toInt64 (nI (xrf (xka (xfp (mpk M) x)) (xka y)))) ∨ ((xvb 16 x && xvb 16 y) = false ∧ r = nI 1)) ∧ u.1 0 = ad 0 ∧ va_D (va_A (xC T ad sc M ++ [(o0, .inl (T 4, 1, .inr (.inl h)))]) sz) (xC T u.1 u.2.1 M ++ [(o0, .inl (T 4, 1, .inr (.inl u.2.2)))])) (fun u t => va_P G vwCl (xC T u.1 u.2.1 M ++ [(o0, .inl (T 4, 1, .inr (.inl u.2.2)))]) t.heap) (va_A (xC T ad sc M ++ [(o0, .inl (T 4, 1, .inr (.inl h)))]) sz)) 2 12 (va_A (xC T ad sc M ++ [(o0, .inl (T 4, 1, .inr (.inl h)))]) sz) := by
  refine x_ofWH (hh := [(0, 10, 13, 23)]) (cc := cL_riffles) (maxL := 5) (ret := (some .int)) (by decide +kernel) rfl ?_
  intro p e s m args below meth c s₁ B hml hv
  obtain ⟨rfl, hsz, hP, hK, hD0, hXB, hZ⟩ := hv
  have hx := B.exec
  have hb := B.bytes
  have hr := B.returns
  have hts := atoms_spec (ws := wsL_riffles) B.pre
  have hown : s.vm.findClass RL = some m.cls := findClass_of_methodNamed B.named
  have hlocks := B.notSynchronized
  subst hsz
  have hD := hD0.self (sz := s.heap.size)
  generalize hAe : va_A (xC T ad sc M ++ [(o0, .inl (T 4, 1, .inr (.inl h)))]) s.heap.size = A at hD hZ ⊢
  have hA : ∀ q : Nat, s.heap.size ≤ q → A q := fun q h => by rw [← hAe]; exact Or.inr h
  have hS : va_S A s.heap s.heap [] := va_S.rf
  have hP : va_P G vwCl (xC T ad sc M ++ [(o0, .inl (T 4, 1, .inr (.inl h)))]) s.heap := hP
  have hl := lv_entry ([.ref (ad 0), .int x, .int y, .ref o0]) (n := 5) (Nat.le_of_ble_eq_true rfl)
  rw [lg_entry_eq]
  generalize (lg_sl ([.ref (ad 0), .int x, .int y, .ref o0]) ++ List.replicate (5 - (lg_sl ([.ref (ad 0), .int x, .int y, .ref o0])).length) Slot.unset).toArray = ls at hl ⊢
  have hl : lv_has ls 5 [(0, .ref (ad 0)), (1, .int x), (2, .int y), (3, .ref o0)] := hl
  have htab := vx_table (x := yL_riffles) B (hts (.codeWith yL_riffles cL_riffles 5 (some .int) [(0, 10, 13, 23)]) (by decide +kernel))
  have htab : c.exceptionTable.toList = [⟨0, 10, 13, 23⟩] := htab
  refine lv_aload_n hx hb dL_riffles_0 rfl (lv_at hl 3 rfl) ?_
  refine lv_iconst (v := nI 0) hx hb dL_riffles_1 (by decide) ?_
  refine lv_aload_n hx hb dL_riffles_2 rfl (lv_at hl 0 rfl) ?_
  refine lv_iload_n hx hb dL_riffles_3 rfl (lv_at hl 1 rfl) ?_
  refine lv_iload_n hx hb dL_riffles_4 rfl (lv_at hl 2 rfl) ?_
  refine x_xcalliA (vx_runV (As := [.int x, .int y]) (rest := [.int (nI 0), .ref o0]) ⟨hx, hb, hml, hown, hts⟩ (c_X3_riffles l hsl G T _ ad sc M x y hsur) (cwV 2 hts gL_riffles_X3_riffles rfl rfl rfl (by decide +kernel) ⟨Nat.le_of_ble_eq_true rfl, Nat.le_of_ble_eq_true rfl⟩) (x_preVA (wc := (xC T ad sc M)) (wr := [(o0, .inl (T 4, 1, .inr (.inl h)))]) hK hP hD hS hA hXB hZ _ _ 0 3 rfl rfl) rfl rfl hl.1 rfl (lv_room (Nat.le_of_ble_eq_true rfl)) dL_riffles_5 ⟨Nat.le_of_ble_eq_true rfl, Nat.le_of_ble_eq_true rfl⟩) hP hD hS hA (fun _ _ _ => (xd_l hD).self) (fun E ce q9 H locs hE hP hS c1 c2 c3 => ?_) (fun r1 u1 H locs hw1 hP hD hS => ?_)
  · obtain ⟨hE, rfl⟩ := hE
    refine vx_catch hown [] ⟨0, 10, 13, 23⟩ [] htab (fun z hz => absurd hz List.not_mem_nil) (by decide) (by decide) (hts (.classLink RL 23 "java/lang/IndexOutOfBoundsException") (by decide +kernel)) (va_Nw.use rfl (hXB.1 (.castable "java/lang/IndexOutOfBoundsException" "java/lang/IndexOutOfBoundsException") (by decide +kernel))) c1 c2 c3 ?_
    refine lv_astore (lv' := [(4, .ref q9), (0, .ref (ad 0)), (1, .int x), (2, .int y), (3, .ref o0)]) hx hb dL_riffles_13 hl (by decide) rfl (fun ls hl => ?_)
    refine lv_iconst (v := nI 1) hx hb dL_riffles_15 (by decide) ?_
    exact W.iret (v := nI 1) hx hb hr (fun t9_ ht hW => ⟨⟨nI 1, ((ad, sc, h) : ((Nat → Nat) × (Nat → Nat → Int32) × (Nat → Int64))), rfl, ⟨Or.inr ⟨hE, rfl⟩, rfl, by exact hD⟩, x_at ht (by exact hP)⟩, hS.F ht⟩) hS.2.2 dL_riffles_16
  have hP : va_P G vwCl (xC T ad sc M ++ [(o0, .inl (T 4, 1, .inr (.inl h)))]) H := hP
  have hD : va_D A (xC T ad sc M ++ [(o0, .inl (T 4, 1, .inr (.inl h)))]) := hD
  refine lv_i2l hx hb dL_riffles_8 rfl ?_
  refine va_last hx hb hK hP hD hS (xC T ad sc M).length 4 x_lget rfl (vp_in_nI (n := 0) (N := 1) (by decide) (by decide)) dL_riffles_9 (fun H locs hP hD hS => ?_)
  rw [x_lset] at hP hD
  have hP : va_P G vwCl (xC T ad sc M ++ [(o0, .inl (T 4, 1, .inr (.inl (vp_updL h (nI 0).toNatClampNeg r1.toInt64))))]) H := hP
  have hD : va_D A (xC T ad sc M ++ [(o0, .inl (T 4, 1, .inr (.inl (vp_updL h (nI 0).toNatClampNeg r1.toInt64))))]) := hD
  refine lv_goto (tgt := 17) hx hb dL_riffles_10 (by decide) ?_
  refine lv_iconst (v := nI 0) hx hb dL_riffles_17 (by decide) ?_
  exact W.iret (v := nI 0) hx hb hr (fun t9_ ht hW => ⟨⟨nI 0, ((ad, sc, vp_updL h (nI 0).toNatClampNeg r1.toInt64) : ((Nat → Nat) × (Nat → Nat → Int32) × (Nat → Int64))), rfl, ⟨Or.inl ⟨hw1.1, rfl, by rw [← hw1.2]; rfl⟩, rfl, by exact hD⟩, x_at ht (by exact hP)⟩, hS.F ht⟩) hS.2.2 dL_riffles_18
end XW1
