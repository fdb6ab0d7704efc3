section XF2
set_option maxHeartbeats 4000000 in
set_option maxRecDepth 100000 in
/-- thinks -/
theorem c_X3_thinks (l : Launch) (hsl : l.stackTraces = false) (G : va_G) (T : Nat → ClassId) (sz : Nat) (ad : Nat → Nat) (sc : Nat → Nat → Int32) (M : XM) (x y : Int32) (hn4 : mnw M ≤ 4) : vx_Met l yX3_thinks wsX3_thinks ({ frames := 7, cells := 2, slots := 12, locals := 104 }) (va_Pc [.ref (ad 0), .int x, .int y] (xPre G T (xC T ad sc M) sz)) (va_Qi (fun (r : Int32) (u : Unit) => (xvb (mnw M) x && xvb 16 y) = true ∧ r = mth M (xka x) (xka y)) (fun u t => va_P G vwCl (xC T ad sc M) t.heap) (va_A (xC T ad sc M) sz)) (vx_X (fun _ : Unit => True) (fun E _ t => (fun E => (xvb (mnw M) x && xvb 16 y) = false ∧ E = "java/lang/IndexOutOfBoundsException") E ∧ va_P G vwCl (xC T ad sc M) t.heap) (va_A (xC T ad sc M) sz)) 2 12 (va_A (xC T ad sc M) sz) := by
  refine vx_ofW (cc := cX3_thinks) (maxL := 4) (ret := (some .int)) (by decide) rfl ?_
  intro p e s m args below meth c s₁ B hml hx0 hv
  obtain ⟨rfl, hsz, hP, hK, hD0, hXB, hZ⟩ := hv
  have hx := B.exec
  have hb := B.bytes
  have hr := B.returns
  have hts := atoms_spec (ws := wsX3_thinks) B.pre
  have hown : s.vm.findClass RX3 = some m.cls := findClass_of_methodNamed B.named
  have hlocks := B.notSynchronized
  subst hsz
  have hD := hD0.self (sz := s.heap.size)
  generalize hAe : va_A (xC T ad sc M) s.heap.size = A at hD hZ ⊢
  have hA : ∀ q : Nat, s.heap.size ≤ q → A q := fun q h => by rw [← hAe]; exact Or.inr h
  have hS : va_S A s.heap s.heap [] := va_S.rf
  have hP : va_P G vwCl (xC T ad sc M) s.heap := hP
  have hiX3 : ∀ w ∈ u_ws RX3 TX3 10, w ∈ wsX3_thinks := by decide +kernel
  have hiX2 : ∀ w ∈ u_ws RX2 TX2 4, w ∈ wsX3_thinks := by decide +kernel
  have hiX1 : ∀ w ∈ u_ws RX1 TX1 2, w ∈ wsX3_thinks := by decide +kernel
  have hl := lv_entry ([.ref (ad 0), .int x, .int y]) (n := 4) (Nat.le_of_ble_eq_true rfl)
  rw [lg_entry_eq]
  generalize (lg_sl ([.ref (ad 0), .int x, .int y]) ++ List.replicate (4 - (lg_sl ([.ref (ad 0), .int x, .int y])).length) Slot.unset).toArray = ls at hl ⊢
  have hl : lv_has ls 4 [(0, .ref (ad 0)), (1, .int x), (2, .int y)] := hl
  refine lv_aload_n hx hb dX3_thinks_0 rfl (lv_at hl 0 rfl) ?_
  refine lv_iload_n hx hb dX3_thinks_1 rfl (lv_at hl 1 rfl) ?_
  refine x_xcallqW (vx_runV (As := [.int x]) (rest := []) ⟨hx, hb, hml, hown, hts⟩ (c_X3_watcherOf l hsl G T _ ad sc M x hn4) (cwV 1 hts gX3_thinks_X3_watcherOf rfl rfl rfl (by decide +kernel) ⟨Nat.le_of_ble_eq_true rfl, Nat.le_of_ble_eq_true rfl⟩) (x_preVW (wc := (xC T ad sc M)) hK hP hD hS hA hXB hZ _ _ 0 3 rfl rfl) rfl rfl hl.1 rfl (lv_room (Nat.le_of_ble_eq_true rfl)) dX3_thinks_2 ⟨Nat.le_of_ble_eq_true rfl, Nat.le_of_ble_eq_true rfl⟩) hP hD hS hA (fun _ _ _ => hD.self) (fun E ce q9 H locs hE hP hS c1 c2 c3 => ?_) (fun r9 u9 H locs hw9 hP hD hS => ?_)
  · exact x_out hx0 hlocks (⟨by rw [hE.1, Bool.false_and], hE.2⟩) hP hS c1 c2 c3 (by decide) (by decide)
  have hP : va_P G vwCl (xC T ad sc M) H := hP
  have hD : va_D A (xC T ad sc M) := hD
  obtain ⟨hv1, rfl⟩ := hw9
  refine lv_astore_n (lv' := [(3, .ref (ad (9 + 4 * xka x))), (0, .ref (ad 0)), (1, .int x), (2, .int y)]) hx hb dX3_thinks_5 rfl hl (by decide) rfl (fun ls hl => ?_)
  refine lv_iload_n hx hb dX3_thinks_6 rfl (lv_at hl 3 rfl) ?_
  refine x_xcallv (vx_runS (As := [.int y]) (rest := []) ⟨hx, hb, hml, hown, hts⟩ (c_X3_requirePlace l hsl G T _ y) (va_cwS 1 hts gX3_thinks_X3_requirePlace rfl rfl rfl (by decide +kernel) ⟨Nat.le_of_ble_eq_true rfl, Nat.le_of_ble_eq_true rfl⟩) (x_preS (wc := []) hK hP hD hS hA hXB hZ [] rfl rfl _) rfl rfl hl.1 rfl (lv_room (Nat.le_of_ble_eq_true rfl)) dX3_thinks_7 ⟨Nat.le_of_ble_eq_true rfl, Nat.le_of_ble_eq_true rfl⟩) hP hD hS hA [] rfl rfl (fun _ _ => rfl) (fun E ce q9 H locs hE hP hS c1 c2 c3 => ?_) (fun u1 H locs hv2 hP hD hS => ?_)
  · exact x_out hx0 hlocks (⟨by rw [hE.1, Bool.and_false], hE.2⟩) hP hS c1 c2 c3 (by decide) (by decide)
  have hP : va_P G vwCl (xC T ad sc M) H := hP
  have hD : va_D A (xC T ad sc M) := hD
  have hv12 : (xvb (mnw M) x && xvb 16 y) = true := by rw [hv1, hv2]; rfl
  obtain ⟨k, hk, rfl⟩ := (xvb_iff (n := mnw M) (by omega)).mp hv1
  try rw [xka_n (show k < 2 ^ 31 by omega)] at hl
  rw [xka_n (show k < 2 ^ 31 by omega)]
  obtain ⟨j, hj, rfl⟩ := (xvb_iff (n := 16) (by decide)).mp (hv2)
  refine lv_aload_n hx hb dX3_thinks_10 rfl (lv_at hl 0 rfl) ?_
  refine va_getN (D := G) (ci := 2) (v := .ref (ad (10 + 4 * k))) (C := RX2) (T := TX2) (N := 4) hx hb hts hiX2 hown hK hP (9 + 4 * k) (xC_w0 T ad sc M hn4 hk) rfl 1 (by decide) (va_Nw.use rfl (hXB.1 (.fieldLinkNest RX3 93 RX2 "thoughts" "LCardFans$Row;" "CardFans") (by decide +kernel))) (fun _ h9 => h9) rfl dX3_thinks_11 ?_
  refine lv_iload_n hx hb dX3_thinks_14 rfl (lv_at hl 3 rfl) ?_
  refine x_calli (va_runV (As := [.int (nI j)]) (rest := []) ⟨hx, hb, hml, hown, hts⟩ (c_X1_at l G T _ (ad (10 + 4 * k)) (ad (11 + 4 * k)) (ad (12 + 4 * k)) (mth M k) (sc (k + 3)) j hj) (cwV 1 hts gX3_thinks_X1_at rfl rfl rfl (by decide +kernel) ⟨Nat.le_of_ble_eq_true rfl, Nat.le_of_ble_eq_true rfl⟩) (x_preV (wc := [((ad (10 + 4 * k)), .inr (1, [.ref (ad (11 + 4 * k)), .ref (ad (12 + 4 * k))])), ((ad (11 + 4 * k)), .inl (T 0, 16, .inl (mth M k))), ((ad (12 + 4 * k)), .inl (T 0, 16, .inl (sc (k + 3))))]) hK hP hD hS hA hXB hZ [10 + 4 * k, 11 + 4 * k, 12 + 4 * k] (xC_wis3 T ad sc M hn4 hk) (xC_wn3 (Nat.lt_of_lt_of_le hk hn4)) _ _ (10 + 4 * k) 1 (xC_w1 T ad sc M hn4 hk) rfl) rfl rfl hl.1 rfl (lv_room (Nat.le_of_ble_eq_true rfl)) dX3_thinks_15 ⟨Nat.le_of_ble_eq_true rfl, Nat.le_of_ble_eq_true rfl⟩) hP hD hS hA [10 + 4 * k, 11 + 4 * k, 12 + 4 * k] (xC_wis3 T ad sc M hn4 hk) (fun _ _ _ => rfl) (fun r1 u H locs hw1 hP hD hS => ?_)
  rw [xrep_same _ _ _ (xC_wis3 T ad sc M hn4 hk)] at hP hD
  have hP : va_P G vwCl (xC T ad sc M) H := hP
  have hD : va_D A (xC T ad sc M) := hD
  refine vx_ret ?_
  exact W.iret (v := r1) hx hb hr (fun t9_ ht hW => ⟨⟨r1, (), rfl, ⟨hv12, by first | (rw [hw1]; done) | (rw [hw1, xka_n (by omega)]; done)⟩, x_at ht hP⟩, hS.F ht⟩) hS.2.2 dX3_thinks_18

set_option maxHeartbeats 4000000 in
set_option maxRecDepth 100000 in
/-- sure -/
theorem c_X3_sure (l : Launch) (hsl : l.stackTraces = false) (G : va_G) (T : Nat → ClassId) (sz : Nat) (ad : Nat → Nat) (sc : Nat → Nat → Int32) (M : XM) (x y : Int32) (hn4 : mnw M ≤ 4) : vx_Met l yX3_sure wsX3_sure ({ frames := 7, cells := 2, slots := 12, locals := 104 }) (va_Pc [.ref (ad 0), .int x, .int y] (xPre G T (xC T ad sc M) sz)) (va_Qi (fun (r : Int32) (u : Unit) => (xvb (mnw M) x && xvb 16 y) = true ∧ r = xfp (mth M (xka x)) (xso y)) (fun u t => va_P G vwCl (xC T ad sc M) t.heap) (va_A (xC T ad sc M) sz)) (vx_X (fun _ : Unit => True) (fun E _ t => (fun E => (xvb (mnw M) x && xvb 16 y) = false ∧ E = "java/lang/IndexOutOfBoundsException") E ∧ va_P G vwCl (xC T ad sc M) t.heap) (va_A (xC T ad sc M) sz)) 2 12 (va_A (xC T ad sc M) sz) := by
  refine vx_ofW (cc := cX3_sure) (maxL := 4) (ret := (some .int)) (by decide) rfl ?_
  intro p e s m args below meth c s₁ B hml hx0 hv
  obtain ⟨rfl, hsz, hP, hK, hD0, hXB, hZ⟩ := hv
  have hx := B.exec
  have hb := B.bytes
  have hr := B.returns
  have hts := atoms_spec (ws := wsX3_sure) B.pre
  have hown : s.vm.findClass RX3 = some m.cls := findClass_of_methodNamed B.named
  have hlocks := B.notSynchronized
  subst hsz
  have hD := hD0.self (sz := s.heap.size)
  generalize hAe : va_A (xC T ad sc M) s.heap.size = A at hD hZ ⊢
  have hA : ∀ q : Nat, s.heap.size ≤ q → A q := fun q h => by rw [← hAe]; exact Or.inr h
  have hS : va_S A s.heap s.heap [] := va_S.rf
  have hP : va_P G vwCl (xC T ad sc M) s.heap := hP
  have hiX3 : ∀ w ∈ u_ws RX3 TX3 10, w ∈ wsX3_sure := by decide +kernel
  have hiX2 : ∀ w ∈ u_ws RX2 TX2 4, w ∈ wsX3_sure := by decide +kernel
  have hiX1 : ∀ w ∈ u_ws RX1 TX1 2, w ∈ wsX3_sure := by decide +kernel
  have hl := lv_entry ([.ref (ad 0), .int x, .int y]) (n := 4) (Nat.le_of_ble_eq_true rfl)
  rw [lg_entry_eq]
  generalize (lg_sl ([.ref (ad 0), .int x, .int y]) ++ List.replicate (4 - (lg_sl ([.ref (ad 0), .int x, .int y])).length) Slot.unset).toArray = ls at hl ⊢
  have hl : lv_has ls 4 [(0, .ref (ad 0)), (1, .int x), (2, .int y)] := hl
  refine lv_aload_n hx hb dX3_sure_0 rfl (lv_at hl 0 rfl) ?_
  refine lv_iload_n hx hb dX3_sure_1 rfl (lv_at hl 1 rfl) ?_
  refine x_xcallqW (vx_runV (As := [.int x]) (rest := []) ⟨hx, hb, hml, hown, hts⟩ (c_X3_watcherOf l hsl G T _ ad sc M x hn4) (cwV 1 hts gX3_sure_X3_watcherOf rfl rfl rfl (by decide +kernel) ⟨Nat.le_of_ble_eq_true rfl, Nat.le_of_ble_eq_true rfl⟩) (x_preVW (wc := (xC T ad sc M)) hK hP hD hS hA hXB hZ _ _ 0 3 rfl rfl) rfl rfl hl.1 rfl (lv_room (Nat.le_of_ble_eq_true rfl)) dX3_sure_2 ⟨Nat.le_of_ble_eq_true rfl, Nat.le_of_ble_eq_true rfl⟩) hP hD hS hA (fun _ _ _ => hD.self) (fun E ce q9 H locs hE hP hS c1 c2 c3 => ?_) (fun r9 u9 H locs hw9 hP hD hS => ?_)
  · exact x_out hx0 hlocks (⟨by rw [hE.1, Bool.false_and], hE.2⟩) hP hS c1 c2 c3 (by decide) (by decide)
  have hP : va_P G vwCl (xC T ad sc M) H := hP
  have hD : va_D A (xC T ad sc M) := hD
  obtain ⟨hv1, rfl⟩ := hw9
  refine lv_astore_n (lv' := [(3, .ref (ad (9 + 4 * xka x))), (0, .ref (ad 0)), (1, .int x), (2, .int y)]) hx hb dX3_sure_5 rfl hl (by decide) rfl (fun ls hl => ?_)
  refine lv_iload_n hx hb dX3_sure_6 rfl (lv_at hl 3 rfl) ?_
  refine x_xcallv (vx_runS (As := [.int y]) (rest := []) ⟨hx, hb, hml, hown, hts⟩ (c_X3_requireCard l hsl G T _ y) (va_cwS 1 hts gX3_sure_X3_requireCard rfl rfl rfl (by decide +kernel) ⟨Nat.le_of_ble_eq_true rfl, Nat.le_of_ble_eq_true rfl⟩) (x_preS (wc := []) hK hP hD hS hA hXB hZ [] rfl rfl _) rfl rfl hl.1 rfl (lv_room (Nat.le_of_ble_eq_true rfl)) dX3_sure_7 ⟨Nat.le_of_ble_eq_true rfl, Nat.le_of_ble_eq_true rfl⟩) hP hD hS hA [] rfl rfl (fun _ _ => rfl) (fun E ce q9 H locs hE hP hS c1 c2 c3 => ?_) (fun u1 H locs hv2 hP hD hS => ?_)
  · exact x_out hx0 hlocks (⟨by rw [hE.1, Bool.and_false], hE.2⟩) hP hS c1 c2 c3 (by decide) (by decide)
  have hP : va_P G vwCl (xC T ad sc M) H := hP
  have hD : va_D A (xC T ad sc M) := hD
  have hv12 : (xvb (mnw M) x && xvb 16 y) = true := by rw [hv1, hv2]; rfl
  obtain ⟨k, hk, rfl⟩ := (xvb_iff (n := mnw M) (by omega)).mp hv1
  try rw [xka_n (show k < 2 ^ 31 by omega)] at hl
  rw [xka_n (show k < 2 ^ 31 by omega)]
  refine lv_aload_n hx hb dX3_sure_10 rfl (lv_at hl 0 rfl) ?_
  refine va_getN (D := G) (ci := 2) (v := .ref (ad (10 + 4 * k))) (C := RX2) (T := TX2) (N := 4) hx hb hts hiX2 hown hK hP (9 + 4 * k) (xC_w0 T ad sc M hn4 hk) rfl 1 (by decide) (va_Nw.use rfl (hXB.1 (.fieldLinkNest RX3 93 RX2 "thoughts" "LCardFans$Row;" "CardFans") (by decide +kernel))) (fun _ h9 => h9) rfl dX3_sure_11 ?_
  refine lv_iload_n hx hb dX3_sure_14 rfl (lv_at hl 3 rfl) ?_
  refine x_calli (va_runS (As := [.int y]) (rest := [.ref (ad (10 + 4 * k))]) ⟨hx, hb, hml, hown, hts⟩ (c_X3_setOf l G T _ y) (va_cwS 1 hts gX3_sure_X3_setOf rfl rfl rfl (by decide +kernel) ⟨Nat.le_of_ble_eq_true rfl, Nat.le_of_ble_eq_true rfl⟩) (x_preS (wc := []) hK hP hD hS hA hXB hZ [] rfl rfl _) rfl rfl hl.1 rfl (lv_room (Nat.le_of_ble_eq_true rfl)) dX3_sure_15 ⟨Nat.le_of_ble_eq_true rfl, Nat.le_of_ble_eq_true rfl⟩) hP hD hS hA [] rfl (fun _ _ _ => rfl) (fun r2 u H locs hw2 hP hD hS => ?_)
  have hP : va_P G vwCl (xC T ad sc M) H := hP
  have hD : va_D A (xC T ad sc M) := hD
  subst hw2
  refine x_calli (va_runV (As := [.int (xso y)]) (rest := []) ⟨hx, hb, hml, hown, hts⟩ (c_X1_firstPlaceOf l G T _ (ad (10 + 4 * k)) (ad (11 + 4 * k)) (ad (12 + 4 * k)) (mth M k) (sc (k + 3)) (xso y)) (cwV 1 hts gX3_sure_X1_firstPlaceOf rfl rfl rfl (by decide +kernel) ⟨Nat.le_of_ble_eq_true rfl, Nat.le_of_ble_eq_true rfl⟩) (x_preV (wc := [((ad (10 + 4 * k)), .inr (1, [.ref (ad (11 + 4 * k)), .ref (ad (12 + 4 * k))])), ((ad (11 + 4 * k)), .inl (T 0, 16, .inl (mth M k))), ((ad (12 + 4 * k)), .inl (T 0, 16, .inl (sc (k + 3))))]) hK hP hD hS hA hXB hZ [10 + 4 * k, 11 + 4 * k, 12 + 4 * k] (xC_wis3 T ad sc M hn4 hk) (xC_wn3 (Nat.lt_of_lt_of_le hk hn4)) _ _ (10 + 4 * k) 1 (xC_w1 T ad sc M hn4 hk) rfl) rfl rfl hl.1 rfl (lv_room (Nat.le_of_ble_eq_true rfl)) dX3_sure_18 ⟨Nat.le_of_ble_eq_true rfl, Nat.le_of_ble_eq_true rfl⟩) hP hD hS hA [10 + 4 * k, 11 + 4 * k, 12 + 4 * k] (xC_wis3 T ad sc M hn4 hk) (fun _ _ _ => rfl) (fun r1 u H locs hw1 hP hD hS => ?_)
  rw [xrep_same _ _ _ (xC_wis3 T ad sc M hn4 hk)] at hP hD
  have hP : va_P G vwCl (xC T ad sc M) H := hP
  have hD : va_D A (xC T ad sc M) := hD
  refine vx_ret ?_
  exact W.iret (v := r1) hx hb hr (fun t9_ ht hW => ⟨⟨r1, (), rfl, ⟨hv12, hw1⟩, x_at ht hP⟩, hS.F ht⟩) hS.2.2 dX3_sure_21

set_option maxHeartbeats 4000000 in
set_option maxRecDepth 100000 in
/-- took -/
theorem c_X3_took (l : Launch) (hsl : l.stackTraces = false) (G : va_G) (T : Nat → ClassId) (sz : Nat) (ad : Nat → Nat) (sc : Nat → Nat → Int32) (M : XM) (x : Int32) (hn4 : mnw M ≤ 4) (hm4 : mnp M ≤ 4) : vx_Met l yX3_took wsX3_took ({ frames := 7, cells := 1, slots := 6, locals := 104 }) (va_Pc [.ref (ad 0), .int x] (xPre G T (xC T ad sc M) sz)) (va_Qi (fun (r : Int32) (u : Unit) => xvb (mnp M) x = true ∧ r = mtk M (xka x)) (fun u t => va_P G vwCl (xC T ad sc M) t.heap) (va_A (xC T ad sc M) sz)) (vx_X (fun _ : Unit => True) (fun E _ t => (fun E => xvb (mnp M) x = false ∧ E = "java/lang/IndexOutOfBoundsException") E ∧ va_P G vwCl (xC T ad sc M) t.heap) (va_A (xC T ad sc M) sz)) 1 6 (va_A (xC T ad sc M) sz) := by
  refine vx_ofW (cc := cX3_took) (maxL := 2) (ret := (some .int)) (by decide) rfl ?_
  intro p e s m args below meth c s₁ B hml hx0 hv
  obtain ⟨rfl, hsz, hP, hK, hD0, hXB, hZ⟩ := hv
  have hx := B.exec
  have hb := B.bytes
  have hr := B.returns
  have hts := atoms_spec (ws := wsX3_took) B.pre
  have hown : s.vm.findClass RX3 = some m.cls := findClass_of_methodNamed B.named
  have hlocks := B.notSynchronized
  subst hsz
  have hD := hD0.self (sz := s.heap.size)
  generalize hAe : va_A (xC T ad sc M) s.heap.size = A at hD hZ ⊢
  have hA : ∀ q : Nat, s.heap.size ≤ q → A q := fun q h => by rw [← hAe]; exact Or.inr h
  have hS : va_S A s.heap s.heap [] := va_S.rf
  have hP : va_P G vwCl (xC T ad sc M) s.heap := hP
  have hiX0 : ∀ w ∈ u_ws RX0 TX0 2, w ∈ wsX3_took := by decide +kernel
  have hl := lv_entry ([.ref (ad 0), .int x]) (n := 2) (Nat.le_of_ble_eq_true rfl)
  rw [lg_entry_eq]
  generalize (lg_sl ([.ref (ad 0), .int x]) ++ List.replicate (2 - (lg_sl ([.ref (ad 0), .int x])).length) Slot.unset).toArray = ls at hl ⊢
  have hl : lv_has ls 2 [(0, .ref (ad 0)), (1, .int x)] := hl
  refine lv_aload_n hx hb dX3_took_0 rfl (lv_at hl 0 rfl) ?_
  refine lv_iload_n hx hb dX3_took_1 rfl (lv_at hl 1 rfl) ?_
  refine x_xcallqW (vx_runV (As := [.int x]) (rest := []) ⟨hx, hb, hml, hown, hts⟩ (c_X3_playerOf l hsl G T _ ad sc M x hm4) (cwV 1 hts gX3_took_X3_playerOf rfl rfl rfl (by decide +kernel) ⟨Nat.le_of_ble_eq_true rfl, Nat.le_of_ble_eq_true rfl⟩) (x_preVW (wc := (xC T ad sc M)) hK hP hD hS hA hXB hZ _ _ 0 3 rfl rfl) rfl rfl hl.1 rfl (lv_room (Nat.le_of_ble_eq_true rfl)) dX3_took_2 ⟨Nat.le_of_ble_eq_true rfl, Nat.le_of_ble_eq_true rfl⟩) hP hD hS hA (fun _ _ _ => hD.self) (fun E ce q9 H locs hE hP hS c1 c2 c3 => ?_) (fun r9 u9 H locs hw9 hP hD hS => ?_)
  · exact x_out hx0 hlocks (hE) hP hS c1 c2 c3 (by decide) (by decide)
  have hP : va_P G vwCl (xC T ad sc M) H := hP
  have hD : va_D A (xC T ad sc M) := hD
  obtain ⟨hv1, rfl⟩ := hw9
  obtain ⟨k, hk, rfl⟩ := (xvb_iff (n := mnp M) (by omega)).mp hv1
  try rw [xka_n (show k < 2 ^ 31 by omega)] at hl
  rw [xka_n (show k < 2 ^ 31 by omega)]
  refine va_getN (D := G) (ci := 0) (v := .int (mtk M k)) (C := RX0) (T := TX0) (N := 2) hx hb hts hiX0 hown hK hP (9 + 4 * mnw M + k) (xC_p T ad sc M hn4 hm4 hk) rfl 1 (by decide) (va_Nw.use rfl (hXB.1 (.fieldLinkNest RX3 150 RX0 "latestCard" "I" "CardFans") (by decide +kernel))) (fun _ h9 => h9) rfl dX3_took_5 ?_
  refine vx_ret ?_
  exact W.iret (v := mtk M k) hx hb hr (fun t9_ ht hW => ⟨⟨mtk M k, (), rfl, ⟨hv1, rfl⟩, x_at ht hP⟩, hS.F ht⟩) hS.2.2 dX3_took_8

set_option maxHeartbeats 4000000 in
set_option maxRecDepth 100000 in
/-- force -/
theorem c_X3_force (l : Launch) (hsl : l.stackTraces = false) (G : va_G) (T : Nat → ClassId) (sz : Nat) (ad : Nat → Nat) (sc : Nat → Nat → Int32) (M : XM) (x y : Int32) (hn4 : mnw M ≤ 4) (hm4 : mnp M ≤ 4) : vx_Met l yX3_force wsX3_force ({ frames := 7, cells := 2, slots := 12, locals := 104 }) (va_Pc [.ref (ad 0), .int x, .int y] (xPre G T (xC T ad sc M) sz)) (va_Qi (fun (r : Int32) (u : Unit) => (xvb (mnp M) x && xvb 16 y) = true ∧ r = xfm (xfp (mpk M) y - mhb M (xka x) - nI (mta M))) (fun u t => va_P G vwCl (xC T ad sc M) t.heap) (va_A (xC T ad sc M) sz)) (vx_X (fun _ : Unit => True) (fun E _ t => (fun E => (xvb (mnp M) x && xvb 16 y) = false ∧ E = "java/lang/IndexOutOfBoundsException") E ∧ va_P G vwCl (xC T ad sc M) t.heap) (va_A (xC T ad sc M) sz)) 2 12 (va_A (xC T ad sc M) sz) := by
  refine vx_ofW (cc := cX3_force) (maxL := 4) (ret := (some .int)) (by decide) rfl ?_
  intro p e s m args below meth c s₁ B hml hx0 hv
  obtain ⟨rfl, hsz, hP, hK, hD0, hXB, hZ⟩ := hv
  have hx := B.exec
  have hb := B.bytes
  have hr := B.returns
  have hts := atoms_spec (ws := wsX3_force) B.pre
  have hown : s.vm.findClass RX3 = some m.cls := findClass_of_methodNamed B.named
  have hlocks := B.notSynchronized
  subst hsz
  have hD := hD0.self (sz := s.heap.size)
  generalize hAe : va_A (xC T ad sc M) s.heap.size = A at hD hZ ⊢
  have hA : ∀ q : Nat, s.heap.size ≤ q → A q := fun q h => by rw [← hAe]; exact Or.inr h
  have hS : va_S A s.heap s.heap [] := va_S.rf
  have hP : va_P G vwCl (xC T ad sc M) s.heap := hP
  have hiX3 : ∀ w ∈ u_ws RX3 TX3 10, w ∈ wsX3_force := by decide +kernel
  have hiX0 : ∀ w ∈ u_ws RX0 TX0 2, w ∈ wsX3_force := by decide +kernel
  have hl := lv_entry ([.ref (ad 0), .int x, .int y]) (n := 4) (Nat.le_of_ble_eq_true rfl)
  rw [lg_entry_eq]
  generalize (lg_sl ([.ref (ad 0), .int x, .int y]) ++ List.replicate (4 - (lg_sl ([.ref (ad 0), .int x, .int y])).length) Slot.unset).toArray = ls at hl ⊢
  have hl : lv_has ls 4 [(0, .ref (ad 0)), (1, .int x), (2, .int y)] := hl
  refine lv_aload_n hx hb dX3_force_0 rfl (lv_at hl 0 rfl) ?_
  refine lv_iload_n hx hb dX3_force_1 rfl (lv_at hl 1 rfl) ?_
  refine x_xcallqW (vx_runV (As := [.int x]) (rest := []) ⟨hx, hb, hml, hown, hts⟩ (c_X3_playerOf l hsl G T _ ad sc M x hm4) (cwV 1 hts gX3_force_X3_playerOf rfl rfl rfl (by decide +kernel) ⟨Nat.le_of_ble_eq_true rfl, Nat.le_of_ble_eq_true rfl⟩) (x_preVW (wc := (xC T ad sc M)) hK hP hD hS hA hXB hZ _ _ 0 3 rfl rfl) rfl rfl hl.1 rfl (lv_room (Nat.le_of_ble_eq_true rfl)) dX3_force_2 ⟨Nat.le_of_ble_eq_true rfl, Nat.le_of_ble_eq_true rfl⟩) hP hD hS hA (fun _ _ _ => hD.self) (fun E ce q9 H locs hE hP hS c1 c2 c3 => ?_) (fun r9 u9 H locs hw9 hP hD hS => ?_)
  · exact x_out hx0 hlocks (⟨by rw [hE.1, Bool.false_and], hE.2⟩) hP hS c1 c2 c3 (by decide) (by decide)
  have hP : va_P G vwCl (xC T ad sc M) H := hP
  have hD : va_D A (xC T ad sc M) := hD
  obtain ⟨hv1, rfl⟩ := hw9
  refine lv_astore_n (lv' := [(3, .ref (ad (xka x + 25))), (0, .ref (ad 0)), (1, .int x), (2, .int y)]) hx hb dX3_force_5 rfl hl (by decide) rfl (fun ls hl => ?_)
  refine lv_iload_n hx hb dX3_force_6 rfl (lv_at hl 3 rfl) ?_
  refine x_xcallv (vx_runS (As := [.int y]) (rest := []) ⟨hx, hb, hml, hown, hts⟩ (c_X3_requireCard l hsl G T _ y) (va_cwS 1 hts gX3_force_X3_requireCard rfl rfl rfl (by decide +kernel) ⟨Nat.le_of_ble_eq_true rfl, Nat.le_of_ble_eq_true rfl⟩) (x_preS (wc := []) hK hP hD hS hA hXB hZ [] rfl rfl _) rfl rfl hl.1 rfl (lv_room (Nat.le_of_ble_eq_true rfl)) dX3_force_7 ⟨Nat.le_of_ble_eq_true rfl, Nat.le_of_ble_eq_true rfl⟩) hP hD hS hA [] rfl rfl (fun _ _ => rfl) (fun E ce q9 H locs hE hP hS c1 c2 c3 => ?_) (fun u1 H locs hv2 hP hD hS => ?_)
  · exact x_out hx0 hlocks (⟨by rw [hE.1, Bool.and_false], hE.2⟩) hP hS c1 c2 c3 (by decide) (by decide)
  have hP : va_P G vwCl (xC T ad sc M) H := hP
  have hD : va_D A (xC T ad sc M) := hD
  have hv12 : (xvb (mnp M) x && xvb 16 y) = true := by rw [hv1, hv2]; rfl
  obtain ⟨k, hk, rfl⟩ := (xvb_iff (n := mnp M) (by omega)).mp hv1
  try rw [xka_n (show k < 2 ^ 31 by omega)] at hl
  rw [xka_n (show k < 2 ^ 31 by omega)]
  refine lv_aload_n hx hb dX3_force_10 rfl (lv_at hl 1 rfl) ?_
  refine va_get (D := G) (ci := 3) (v := .ref (ad 1)) (C := RX3) (T := TX3) (N := 10) hx hb hts hiX3 hown hK hP 0 rfl rfl 0 (by decide) (hts (.fieldLink RX3 12 "CardFans" "pack" "LCardFans$Row;") (by decide +kernel)) (fun _ h9 => h9) rfl dX3_force_11 ?_
  refine lv_iload_n hx hb dX3_force_14 rfl (lv_at hl 3 rfl) ?_
  refine x_calli (va_runV (As := [.int y]) (rest := []) ⟨hx, hb, hml, hown, hts⟩ (c_X1_firstPlaceOf l G T _ (ad 1) (ad 2) (ad 3) (mpk M) (sc 0) y) (cwV 1 hts gX3_force_X1_firstPlaceOf rfl rfl rfl (by decide +kernel) ⟨Nat.le_of_ble_eq_true rfl, Nat.le_of_ble_eq_true rfl⟩) (x_preV (wc := [(ad 1, .inr (1, [.ref (ad 2), .ref (ad 3)])), (ad 2, .inl (T 0, 16, .inl (mpk M))), (ad 3, .inl (T 0, 16, .inl (sc 0)))]) hK hP hD hS hA hXB hZ [1, 2, 3] rfl rfl _ _ 1 1 rfl rfl) rfl rfl hl.1 rfl (lv_room (Nat.le_of_ble_eq_true rfl)) dX3_force_15 ⟨Nat.le_of_ble_eq_true rfl, Nat.le_of_ble_eq_true rfl⟩) hP hD hS hA [1, 2, 3] rfl (fun _ _ _ => rfl) (fun r1 u H locs hw1 hP hD hS => ?_)
  have hP : va_P G vwCl (xC T ad sc M) H := hP
  have hD : va_D A (xC T ad sc M) := hD
  subst hw1
  refine lv_aload_n hx hb dX3_force_18 rfl (lv_at hl 0 rfl) ?_
  refine va_getN (D := G) (ci := 0) (v := .int (mhb M k)) (C := RX0) (T := TX0) (N := 2) hx hb hts hiX0 hown hK hP (9 + 4 * mnw M + k) (xC_p T ad sc M hn4 hm4 hk) rfl 0 (by decide) (va_Nw.use rfl (hXB.1 (.fieldLinkNest RX3 138 RX0 "habit" "I" "CardFans") (by decide +kernel))) (fun _ h9 => h9) rfl dX3_force_19 ?_
  refine lv_isub hx hb dX3_force_22 ?_
  refine lv_aload_n hx hb dX3_force_23 rfl (lv_at hl 1 rfl) ?_
  refine va_get (D := G) (ci := 3) (v := .int (nI (mta M))) (C := RX3) (T := TX3) (N := 10) hx hb hts hiX3 hown hK hP 0 rfl rfl 9 (by decide) (hts (.fieldLink RX3 141 "CardFans" "cardsTaken" "I") (by decide +kernel)) (fun _ h9 => h9) rfl dX3_force_24 ?_
  refine lv_isub hx hb dX3_force_27 ?_
  refine lv_bipush (v := nI 16) hx hb dX3_force_28 (by decide) ?_
  refine x_calli (va_runS (As := [.int (((xfp (mpk M) y) - mhb M k) - nI (mta M)), .int (nI 16)]) (rest := []) ⟨hx, hb, hml, hown, hts⟩ (c_J9_floorMod_7cf53 l G T _ (xfp (mpk M) y - mhb M k - nI (mta M))) (va_cwS 2 hts gX3_force_J9_floorMod_7cf53 rfl rfl rfl (by decide +kernel) ⟨Nat.le_of_ble_eq_true rfl, Nat.le_of_ble_eq_true rfl⟩) (x_preS (wc := []) hK hP hD hS hA hXB hZ [] rfl rfl _) rfl rfl hl.1 rfl (lv_room (Nat.le_of_ble_eq_true rfl)) dX3_force_30 ⟨Nat.le_of_ble_eq_true rfl, Nat.le_of_ble_eq_true rfl⟩) hP hD hS hA [] rfl (fun _ _ _ => rfl) (fun r2 u H locs hw2 hP hD hS => ?_)
  have hP : va_P G vwCl (xC T ad sc M) H := hP
  have hD : va_D A (xC T ad sc M) := hD
  refine vx_ret ?_
  exact W.iret (v := r2) hx hb hr (fun t9_ ht hW => ⟨⟨r2, (), rfl, ⟨hv12, hw2⟩, x_at ht hP⟩, hS.F ht⟩) hS.2.2 dX3_force_33

/-- the card that a player takes, and the state then -/
def xtk (M : XM) (k : Nat) : Int32 := mpk M (xka (xfm (mhb M k + mle M + nI (mta M))))
def xMt (M : XM) (k : Nat) : XM := xmk (mpk M) (mth M) (msh M) (man M) (mgl M) (mhb M) (upd (mtk M) k (xtk M k)) (mnw M) (mnp M) (mle M) (mwy M) (mfc M) (mta M + 1)

set_option maxHeartbeats 4000000 in
set_option maxRecDepth 100000 in
/-- take -/
theorem c_X3_take (l : Launch) (hsl : l.stackTraces = false) (G : va_G) (T : Nat → ClassId) (sz : Nat) (ad : Nat → Nat) (sc : Nat → Nat → Int32) (M : XM) (x : Int32) (hn4 : mnw M ≤ 4) (hm4 : mnp M ≤ 4) (hhb : ∀ q, q < mnp M → ∃ h, h < 16 ∧ mhb M q = nI h) (hle : ∃ v, v < 16 ∧ mle M = nI v) (hta : mta M ≤ 512) : vx_Met l yX3_take wsX3_take ({ frames := 7, cells := 1, slots := 6, locals := 104 }) (va_Pc [.ref (ad 0), .int x] (xPre G T (xC T ad sc M) sz)) (va_Qi (fun (r : Int32) (u : Unit) => xvb (mnp M) x = true ∧ r = xtk M (xka x)) (fun u t => va_P G vwCl (xC T ad sc (xMt M (xka x))) t.heap) (va_A (xC T ad sc M) sz)) (vx_X (fun _ : Unit => True) (fun E _ t => (fun E => xvb (mnp M) x = false ∧ E = "java/lang/IndexOutOfBoundsException") E ∧ va_P G vwCl (xC T ad sc M) t.heap) (va_A (xC T ad sc M) sz)) 1 6 (va_A (xC T ad sc M) sz) := by
  refine vx_ofW (cc := cX3_take) (maxL := 4) (ret := (some .int)) (by decide) rfl ?_
  intro p e s m args below meth c s₁ B hml hx0 hv
  obtain ⟨rfl, hsz, hP, hK, hD0, hXB, hZ⟩ := hv
  have hx := B.exec
  have hb := B.bytes
  have hr := B.returns
  have hts := atoms_spec (ws := wsX3_take) B.pre
  have hown : s.vm.findClass RX3 = some m.cls := findClass_of_methodNamed B.named
  have hlocks := B.notSynchronized
  subst hsz
  have hD := hD0.self (sz := s.heap.size)
  generalize hAe : va_A (xC T ad sc M) s.heap.size = A at hD hZ ⊢
  have hA : ∀ q : Nat, s.heap.size ≤ q → A q := fun q h => by rw [← hAe]; exact Or.inr h
  have hS : va_S A s.heap s.heap [] := va_S.rf
  have hP : va_P G vwCl (xC T ad sc M) s.heap := hP
  have hiX3 : ∀ w ∈ u_ws RX3 TX3 10, w ∈ wsX3_take := by decide +kernel
  have hiX0 : ∀ w ∈ u_ws RX0 TX0 2, w ∈ wsX3_take := by decide +kernel
  have hl := lv_entry ([.ref (ad 0), .int x]) (n := 4) (Nat.le_of_ble_eq_true rfl)
  rw [lg_entry_eq]
  generalize (lg_sl ([.ref (ad 0), .int x]) ++ List.replicate (4 - (lg_sl ([.ref (ad 0), .int x])).length) Slot.unset).toArray = ls at hl ⊢
  have hl : lv_has ls 4 [(0, .ref (ad 0)), (1, .int x)] := hl
  refine lv_aload_n hx hb dX3_take_0 rfl (lv_at hl 0 rfl) ?_
  refine lv_iload_n hx hb dX3_take_1 rfl (lv_at hl 1 rfl) ?_
  refine x_xcallqW (vx_runV (As := [.int x]) (rest := []) ⟨hx, hb, hml, hown, hts⟩ (c_X3_playerOf l hsl G T _ ad sc M x hm4) (cwV 1 hts gX3_take_X3_playerOf rfl rfl rfl (by decide +kernel) ⟨Nat.le_of_ble_eq_true rfl, Nat.le_of_ble_eq_true rfl⟩) (x_preVW (wc := (xC T ad sc M)) hK hP hD hS hA hXB hZ _ _ 0 3 rfl rfl) rfl rfl hl.1 rfl (lv_room (Nat.le_of_ble_eq_true rfl)) dX3_take_2 ⟨Nat.le_of_ble_eq_true rfl, Nat.le_of_ble_eq_true rfl⟩) hP hD hS hA (fun _ _ _ => hD.self) (fun E ce q9 H locs hE hP hS c1 c2 c3 => ?_) (fun r9 u9 H locs hw9 hP hD hS => ?_)
  · exact x_out hx0 hlocks (hE) hP hS c1 c2 c3 (by decide) (by decide)
  have hP : va_P G vwCl (xC T ad sc M) H := hP
  have hD : va_D A (xC T ad sc M) := hD
  obtain ⟨hv1, rfl⟩ := hw9
  obtain ⟨k, hk, rfl⟩ := (xvb_iff (n := mnp M) (by omega)).mp hv1
  try rw [xka_n (show k < 2 ^ 31 by omega)] at hl
  rw [xka_n (show k < 2 ^ 31 by omega)]
  refine lv_astore_n (lv' := [(2, .ref (ad (k + 25))), (0, .ref (ad 0)), (1, .int (nI k))]) hx hb dX3_take_5 rfl hl (by decide) rfl (fun ls hl => ?_)
  refine lv_aload_n hx hb dX3_take_6 rfl (lv_at hl 0 rfl) ?_
  refine va_getN (D := G) (ci := 0) (v := .int (mhb M k)) (C := RX0) (T := TX0) (N := 2) hx hb hts hiX0 hown hK hP (9 + 4 * mnw M + k) (xC_p T ad sc M hn4 hm4 hk) rfl 0 (by decide) (va_Nw.use rfl (hXB.1 (.fieldLinkNest RX3 138 RX0 "habit" "I" "CardFans") (by decide +kernel))) (fun _ h9 => h9) rfl dX3_take_7 ?_
  refine lv_aload_n hx hb dX3_take_10 rfl (lv_at hl 1 rfl) ?_
  refine va_get (D := G) (ci := 3) (v := .int (mle M)) (C := RX3) (T := TX3) (N := 10) hx hb hts hiX3 hown hK hP 0 rfl rfl 8 (by decide) (hts (.fieldLink RX3 131 "CardFans" "leanOfFan" "I") (by decide +kernel)) (fun _ h9 => h9) rfl dX3_take_11 ?_
  refine lv_iadd hx hb dX3_take_14 ?_
  refine lv_aload_n hx hb dX3_take_15 rfl (lv_at hl 1 rfl) ?_
  refine va_get (D := G) (ci := 3) (v := .int (nI (mta M))) (C := RX3) (T := TX3) (N := 10) hx hb hts hiX3 hown hK hP 0 rfl rfl 9 (by decide) (hts (.fieldLink RX3 141 "CardFans" "cardsTaken" "I") (by decide +kernel)) (fun _ h9 => h9) rfl dX3_take_16 ?_
  refine lv_iadd hx hb dX3_take_19 ?_
  refine lv_bipush (v := nI 16) hx hb dX3_take_20 (by decide) ?_
  obtain ⟨h, hh, ehb⟩ := hhb k hk
  obtain ⟨v, hv, ele⟩ := hle
  have esum : mhb M k + mle M + nI (mta M) = nI (h + v + mta M) := by rw [ehb, ele, nI_add, nI_add]
  refine x_calli (va_runS (As := [.int ((mhb M k + mle M) + nI (mta M)), .int (nI 16)]) (rest := []) ⟨hx, hb, hml, hown, hts⟩ (c_J9_floorMod_7cf53 l G T _ (mhb M k + mle M + nI (mta M))) (va_cwS 2 hts gX3_take_J9_floorMod_7cf53 rfl rfl rfl (by decide +kernel) ⟨Nat.le_of_ble_eq_true rfl, Nat.le_of_ble_eq_true rfl⟩) (x_preS (wc := []) hK hP hD hS hA hXB hZ [] rfl rfl _) rfl rfl hl.1 rfl (lv_room (Nat.le_of_ble_eq_true rfl)) dX3_take_22 ⟨Nat.le_of_ble_eq_true rfl, Nat.le_of_ble_eq_true rfl⟩) hP hD hS hA [] rfl (fun _ _ _ => rfl) (fun r2 u H locs hw2 hP hD hS => ?_)
  have hP : va_P G vwCl (xC T ad sc M) H := hP
  have hD : va_D A (xC T ad sc M) := hD
  have er : r2 = nI (xka (xfm (mhb M k + mle M + nI (mta M)))) ∧ xka (xfm (mhb M k + mle M + nI (mta M))) < 16 := by rw [hw2, esum, xfm_n (by omega), xka_n (by omega)]; exact ⟨rfl, Nat.mod_lt _ (by decide)⟩
  generalize ej : xka (xfm (mhb M k + mle M + nI (mta M))) = j at er
  obtain ⟨rfl, hj⟩ := er
  refine lv_istore_n (lv' := [(3, .int (nI j)), (2, .ref (ad (k + 25))), (0, .ref (ad 0)), (1, .int (nI k))]) hx hb dX3_take_25 rfl hl (by decide) rfl (fun ls hl => ?_)
  refine lv_aload_n hx hb dX3_take_26 rfl (lv_at hl 1 rfl) ?_
  refine lv_aload_n hx hb dX3_take_27 rfl (lv_at hl 2 rfl) ?_
  refine va_get (D := G) (ci := 3) (v := .ref (ad 1)) (C := RX3) (T := TX3) (N := 10) hx hb hts hiX3 hown hK hP 0 rfl rfl 0 (by decide) (hts (.fieldLink RX3 12 "CardFans" "pack" "LCardFans$Row;") (by decide +kernel)) (fun _ h9 => h9) rfl dX3_take_28 ?_
  refine lv_iload_n hx hb dX3_take_31 rfl (lv_at hl 0 rfl) ?_
  refine x_calli (va_runV (As := [.int (nI j)]) (rest := [.ref (ad (k + 25))]) ⟨hx, hb, hml, hown, hts⟩ (c_X1_at l G T _ (ad 1) (ad 2) (ad 3) (mpk M) (sc 0) j hj) (cwV 1 hts gX3_take_X1_at rfl rfl rfl (by decide +kernel) ⟨Nat.le_of_ble_eq_true rfl, Nat.le_of_ble_eq_true rfl⟩) (x_preV (wc := [(ad 1, .inr (1, [.ref (ad 2), .ref (ad 3)])), (ad 2, .inl (T 0, 16, .inl (mpk M))), (ad 3, .inl (T 0, 16, .inl (sc 0)))]) hK hP hD hS hA hXB hZ [1, 2, 3] rfl rfl _ _ 1 1 rfl rfl) rfl rfl hl.1 rfl (lv_room (Nat.le_of_ble_eq_true rfl)) dX3_take_32 ⟨Nat.le_of_ble_eq_true rfl, Nat.le_of_ble_eq_true rfl⟩) hP hD hS hA [1, 2, 3] rfl (fun _ _ _ => rfl) (fun r1 u H locs hw1 hP hD hS => ?_)
  have hP : va_P G vwCl (xC T ad sc M) H := hP
  have hD : va_D A (xC T ad sc M) := hD
  subst hw1
  refine va_putN (D := G) (ci := 0) (v := .int (mpk M j)) (ty := .int) (C := RX0) (T := TX0) (N := 2) hx hb hts hiX0 tyX0 tyX0_ok nmX0 hown hK hP hD hS (9 + 4 * mnw M + k) (xC_p T ad sc M hn4 hm4 hk) rfl 1 (by decide) (va_Nw.use rfl (hXB.1 (.fieldLinkNest RX3 150 RX0 "latestCard" "I" "CardFans") (by decide +kernel))) (fun _ h9 => h9) rfl (by decide +kernel) rfl rfl (Nat.le_of_ble_eq_true rfl) dX3_take_35 (fun H locs hP hD hS => ?_)
  have hP : va_P G vwCl ((xC T ad sc M).set (9 + 4 * mnw M + k) (ad (k + 25), .inr (0, [.int (mhb M k), .int (mpk M j)]))) H := hP
  have hD : va_D A ((xC T ad sc M).set (9 + 4 * mnw M + k) (ad (k + 25), .inr (0, [.int (mhb M k), .int (mpk M j)]))) := hD
  rw [xC_pset T ad sc M hn4 hm4 hk] at hP hD
  refine lv_aload_n hx hb dX3_take_38 rfl (lv_at hl 2 rfl) ?_
  refine lv_dup hx hb dX3_take_39 rfl ?_
  refine va_get (D := G) (ci := 3) (v := .int (nI (mta (xMp M k (mpk M j))))) (C := RX3) (T := TX3) (N := 10) hx hb hts hiX3 hown hK hP 0 rfl rfl 9 (by decide) (hts (.fieldLink RX3 141 "CardFans" "cardsTaken" "I") (by decide +kernel)) (fun _ h9 => h9) rfl dX3_take_40 ?_
  refine lv_iconst (v := nI 1) hx hb dX3_take_43 (by decide) ?_
  refine lv_iadd hx hb dX3_take_44 ?_
  refine x_topi (y := nI (mta M + 1)) (nI_1 _) ?_
  refine va_put (D := G) (ci := 3) (v := .int (nI (mta M + 1))) (ty := .int) (C := RX3) (T := TX3) (N := 10) hx hb hts hiX3 tyX3 tyX3_ok nmX3 hown hK hP hD hS 0 rfl rfl 9 (by decide) (hts (.fieldLink RX3 141 "CardFans" "cardsTaken" "I") (by decide +kernel)) (fun _ h9 => h9) rfl (by decide +kernel) rfl rfl (Nat.le_of_ble_eq_true rfl) dX3_take_45 (fun H locs hP hD hS => ?_)
  have hP : va_P G vwCl (xC T ad sc (xmk (mpk M) (mth M) (msh M) (man M) (mgl M) (mhb M) (upd (mtk M) k (mpk M j)) (mnw M) (mnp M) (mle M) (mwy M) (mfc M) (mta M + 1))) H := hP
  have hD : va_D A (xC T ad sc (xmk (mpk M) (mth M) (msh M) (man M) (mgl M) (mhb M) (upd (mtk M) k (mpk M j)) (mnw M) (mnp M) (mle M) (mwy M) (mfc M) (mta M + 1))) := hD
  have eM : xMt M k = (xmk (mpk M) (mth M) (msh M) (man M) (mgl M) (mhb M) (upd (mtk M) k (mpk M j)) (mnw M) (mnp M) (mle M) (mwy M) (mfc M) (mta M + 1)) := by unfold xMt xtk; rw [ej]
  rw [← eM] at hP hD
  refine lv_aload_n hx hb dX3_take_48 rfl (lv_at hl 1 rfl) ?_
  refine va_getN (D := G) (ci := 0) (v := .int (upd (mtk M) k (xtk M k) k)) (C := RX0) (T := TX0) (N := 2) hx hb hts hiX0 hown hK hP (9 + 4 * mnw (xMt M k) + k) (xC_p T ad sc (xMt M k) hn4 hm4 hk) rfl 1 (by decide) (va_Nw.use rfl (hXB.1 (.fieldLinkNest RX3 150 RX0 "latestCard" "I" "CardFans") (by decide +kernel))) (fun _ h9 => h9) rfl dX3_take_49 ?_
  refine vx_ret ?_
  exact W.iret (v := upd (mtk M) k (xtk M k) k) hx hb hr (fun t9_ ht hW => ⟨⟨upd (mtk M) k (xtk M k) k, (), rfl, ⟨hv1, by rw [pk_us]⟩, x_at ht hP⟩, hS.F ht⟩) hS.2.2 dX3_take_52

set_option maxHeartbeats 4000000 in
set_option maxRecDepth 100000 in
/-- watcher -/
theorem c_X3_watcher (l : Launch) (hsl : l.stackTraces = false) (G : va_G) (T : Nat → ClassId) (sz : Nat) (ad : Nat → Nat) (sc : Nat → Nat → Int32) (M : XM) (x y : Int32) (hn4 : mnw M ≤ 4) (hsh : ∀ q, q < mnw M → msh M q = nI 0 ∨ msh M q = nI 1) : vx_Met l yX3_watcher wsX3_watcher ({ frames := 7, cells := 2, slots := 12, locals := 104 }) (va_Pc [.ref (ad 0), .int x, .int y] (xPre G T (xC T ad sc M) sz)) (va_Qi (fun (r : Int32) (u : Unit) => (xvb (mnw M) x && xvb 6 y) = true ∧ r = xtold M (xka x) (xka y)) (fun u t => va_P G vwCl (xC T ad sc M) t.heap) (va_A (xC T ad sc M) sz)) (vx_X (fun _ : Unit => True) (fun E _ t => (fun E => (xvb (mnw M) x && xvb 6 y) = false ∧ E = "java/lang/IndexOutOfBoundsException") E ∧ va_P G vwCl (xC T ad sc M) t.heap) (va_A (xC T ad sc M) sz)) 2 12 (va_A (xC T ad sc M) sz) := by
  refine vx_ofW (cc := cX3_watcher) (maxL := 4) (ret := (some .int)) (by decide) rfl ?_
  intro p e s m args below meth c s₁ B hml hx0 hv
  obtain ⟨rfl, hsz, hP, hK, hD0, hXB, hZ⟩ := hv
  have hx := B.exec
  have hb := B.bytes
  have hr := B.returns
  have hts := atoms_spec (ws := wsX3_watcher) B.pre
  have hown : s.vm.findClass RX3 = some m.cls := findClass_of_methodNamed B.named
  have hlocks := B.notSynchronized
  subst hsz
  have hD := hD0.self (sz := s.heap.size)
  generalize hAe : va_A (xC T ad sc M) s.heap.size = A at hD hZ ⊢
  have hA : ∀ q : Nat, s.heap.size ≤ q → A q := fun q h => by rw [← hAe]; exact Or.inr h
  have hS : va_S A s.heap s.heap [] := va_S.rf
  have hP : va_P G vwCl (xC T ad sc M) s.heap := hP
  have hiX3 : ∀ w ∈ u_ws RX3 TX3 10, w ∈ wsX3_watcher := by decide +kernel
  have hiX2 : ∀ w ∈ u_ws RX2 TX2 4, w ∈ wsX3_watcher := by decide +kernel
  have hl := lv_entry ([.ref (ad 0), .int x, .int y]) (n := 4) (Nat.le_of_ble_eq_true rfl)
  rw [lg_entry_eq]
  generalize (lg_sl ([.ref (ad 0), .int x, .int y]) ++ List.replicate (4 - (lg_sl ([.ref (ad 0), .int x, .int y])).length) Slot.unset).toArray = ls at hl ⊢
  have hl : lv_has ls 4 [(0, .ref (ad 0)), (1, .int x), (2, .int y)] := hl
  refine lv_aload_n hx hb dX3_watcher_0 rfl (lv_at hl 0 rfl) ?_
  refine lv_iload_n hx hb dX3_watcher_1 rfl (lv_at hl 1 rfl) ?_
  refine x_xcallqW (vx_runV (As := [.int x]) (rest := []) ⟨hx, hb, hml, hown, hts⟩ (c_X3_watcherOf l hsl G T _ ad sc M x hn4) (cwV 1 hts gX3_watcher_X3_watcherOf rfl rfl rfl (by decide +kernel) ⟨Nat.le_of_ble_eq_true rfl, Nat.le_of_ble_eq_true rfl⟩) (x_preVW (wc := (xC T ad sc M)) hK hP hD hS hA hXB hZ _ _ 0 3 rfl rfl) rfl rfl hl.1 rfl (lv_room (Nat.le_of_ble_eq_true rfl)) dX3_watcher_2 ⟨Nat.le_of_ble_eq_true rfl, Nat.le_of_ble_eq_true rfl⟩) hP hD hS hA (fun _ _ _ => hD.self) (fun E ce q9 H locs hE hP hS c1 c2 c3 => ?_) (fun r9 u9 H locs hw9 hP hD hS => ?_)
  · exact x_out hx0 hlocks (⟨by rw [hE.1, Bool.false_and], hE.2⟩) hP hS c1 c2 c3 (by decide) (by decide)
  have hP : va_P G vwCl (xC T ad sc M) H := hP
  have hD : va_D A (xC T ad sc M) := hD
  obtain ⟨hv1, rfl⟩ := hw9
  refine lv_astore_n (lv' := [(3, .ref (ad (9 + 4 * xka x))), (0, .ref (ad 0)), (1, .int x), (2, .int y)]) hx hb dX3_watcher_5 rfl hl (by decide) rfl (fun ls hl => ?_)
  refine lv_iload_n hx hb dX3_watcher_6 rfl (lv_at hl 3 rfl) ?_
  by_cases h : y.toInt < 0 ∨ 5 < y.toInt
  · refine lv_tableOut (tgt := 90) hx hb dX3_watcher_7 (h) (by decide) ?_
    exact x_throw (cls := "java/lang/IndexOutOfBoundsException") (text := "what is not 0 to 5") (ik := 116) (is := 118) (ic := 120) hx hb hsl hown hts (by decide +kernel) (by decide +kernel) (by decide +kernel) (by decide +kernel) (by decide +kernel) (by decide +kernel) (by decide +kernel) hXB hZ hS (hl.1.trans hml.symm) hx0 hlocks dX3_watcher_90 dX3_watcher_93 dX3_watcher_94 dX3_watcher_96 dX3_watcher_99 (Nat.le_of_ble_eq_true rfl) (Nat.le_of_ble_eq_true rfl) (Nat.le_of_ble_eq_true rfl) (Nat.le_of_ble_eq_true rfl) (Nat.le_of_ble_eq_true rfl) (Nat.le_of_ble_eq_true rfl) (⟨by rw [xvb_out (by decide) h, Bool.and_false], rfl⟩) hP
  · rcases xcase6 h with rfl | rfl | rfl | rfl | rfl | rfl
    · have hv12 : (xvb (mnw M) x && xvb 6 (nI 0)) = true := by rw [hv1]; rfl
      obtain ⟨k, hk, rfl⟩ := (xvb_iff (n := mnw M) (by omega)).mp hv1
      try rw [xka_n (show k < 2 ^ 31 by omega)] at hl
      rw [xka_n (show k < 2 ^ 31 by omega)]
      refine lv_tableIn (off := 37) (tgt := 44) hx hb dX3_watcher_7 (by decide) (by decide) (by decide) (by decide) ?_
      refine lv_aload_n hx hb dX3_watcher_44 rfl (lv_at hl 0 rfl) ?_
      refine va_getN (D := G) (ci := 2) (v := .int (msh M k)) (C := RX2) (T := TX2) (N := 4) hx hb hts hiX2 hown hK hP (9 + 4 * k) (xC_w0 T ad sc M hn4 hk) rfl 0 (by decide) (va_Nw.use rfl (hXB.1 (.fieldLinkNest RX3 52 RX2 "isSharp" "Z" "CardFans") (by decide +kernel))) (fun _ h9 => h9) rfl dX3_watcher_45 ?_
      refine lv_if_eq (tgt := 55) hx hb dX3_watcher_48 (by decide) (fun c1 => ?_) (fun c1 => ?_)
      · refine lv_iconst (v := nI 0) hx hb dX3_watcher_55 (by decide) ?_
        refine vx_ret ?_
        refine W.widen (k := 2) (n := 12) (by omega) (by omega) ?_
        exact W.iret (v := nI 0) hx hb hr (fun t9_ ht hW => ⟨⟨nI 0, (), rfl, ⟨hv12, by show _ = msh M k; exact c1.symm⟩, x_at ht hP⟩, hS.F ht⟩) hS.2.2 dX3_watcher_56
      · refine lv_iconst (v := nI 1) hx hb dX3_watcher_51 (by decide) ?_
        refine lv_goto (tgt := 56) hx hb dX3_watcher_52 (by decide) ?_
        refine vx_ret ?_
        refine W.widen (k := 2) (n := 12) (by omega) (by omega) ?_
        exact W.iret (v := nI 1) hx hb hr (fun t9_ ht hW => ⟨⟨nI 1, (), rfl, ⟨hv12, by show _ = msh M k; exact ((hsh k hk).resolve_left c1).symm⟩, x_at ht hP⟩, hS.F ht⟩) hS.2.2 dX3_watcher_56
    · have hv12 : (xvb (mnw M) x && xvb 6 (nI 1)) = true := by rw [hv1]; rfl
      obtain ⟨k, hk, rfl⟩ := (xvb_iff (n := mnw M) (by omega)).mp hv1
      try rw [xka_n (show k < 2 ^ 31 by omega)] at hl
      rw [xka_n (show k < 2 ^ 31 by omega)]
      refine lv_tableIn (off := 50) (tgt := 57) hx hb dX3_watcher_7 (by decide) (by decide) (by decide) (by decide) ?_
      refine lv_aload_n hx hb dX3_watcher_57 rfl (lv_at hl 0 rfl) ?_
      refine lv_aload_n hx hb dX3_watcher_58 rfl (lv_at hl 1 rfl) ?_
      refine va_get (D := G) (ci := 3) (v := .ref (ad 1)) (C := RX3) (T := TX3) (N := 10) hx hb hts hiX3 hown hK hP 0 rfl rfl 0 (by decide) (hts (.fieldLink RX3 12 "CardFans" "pack" "LCardFans$Row;") (by decide +kernel)) (fun _ h9 => h9) rfl dX3_watcher_59 ?_
      refine x_calli (va_runV (As := [.ref (ad 1)]) (rest := []) ⟨hx, hb, hml, hown, hts⟩ (c_X2_placesHeldPossible l G T _ (ad (9 + 4 * k)) (ad (10 + 4 * k)) (ad (11 + 4 * k)) (ad (12 + 4 * k)) (msh M k) (man M k) (mgl M k) (mth M k) (sc (k + 3)) (ad 1) (ad 2) (ad 3) (mpk M) (sc 0)) (cwV 1 hts gX3_watcher_X2_placesHeldPossible rfl rfl rfl (by decide +kernel) ⟨Nat.le_of_ble_eq_true rfl, Nat.le_of_ble_eq_true rfl⟩) (x_preV (wc := [((ad (9 + 4 * k)), .inr (2, [.int (msh M k), .ref (ad (10 + 4 * k)), .int (man M k), .int (mgl M k)])), ((ad (10 + 4 * k)), .inr (1, [.ref (ad (11 + 4 * k)), .ref (ad (12 + 4 * k))])), ((ad (11 + 4 * k)), .inl (T 0, 16, .inl (mth M k))), ((ad (12 + 4 * k)), .inl (T 0, 16, .inl (sc (k + 3)))), (ad 1, .inr (1, [.ref (ad 2), .ref (ad 3)])), (ad 2, .inl (T 0, 16, .inl (mpk M))), (ad 3, .inl (T 0, 16, .inl (sc 0)))]) hK hP hD hS hA hXB hZ [9 + 4 * k, 10 + 4 * k, 11 + 4 * k, 12 + 4 * k, 1, 2, 3] (xC_wis2 T ad sc M hn4 hk) (xC_wn2 (Nat.lt_of_lt_of_le hk hn4)) _ _ (9 + 4 * k) 2 (xC_w0 T ad sc M hn4 hk) rfl) rfl rfl hl.1 rfl (lv_room (Nat.le_of_ble_eq_true rfl)) dX3_watcher_62 ⟨Nat.le_of_ble_eq_true rfl, Nat.le_of_ble_eq_true rfl⟩) hP hD hS hA [9 + 4 * k, 10 + 4 * k, 11 + 4 * k, 12 + 4 * k, 1, 2, 3] (xC_wis2 T ad sc M hn4 hk) (fun _ _ _ => rfl) (fun r1 u H locs hw1 hP hD hS => ?_)
      rw [xrep_same _ _ _ (xC_wis2 T ad sc M hn4 hk)] at hP hD
      have hP : va_P G vwCl (xC T ad sc M) H := hP
      have hD : va_D A (xC T ad sc M) := hD
      refine vx_ret ?_
      refine W.widen (k := 2) (n := 12) (by omega) (by omega) ?_
      exact W.iret (v := r1) hx hb hr (fun t9_ ht hW => ⟨⟨r1, (), rfl, ⟨hv12, by first | (rw [hw1]; rfl) | (rw [hw1, xka_n (by omega)]; rfl)⟩, x_at ht hP⟩, hS.F ht⟩) hS.2.2 dX3_watcher_65
    · have hv12 : (xvb (mnw M) x && xvb 6 (nI 2)) = true := by rw [hv1]; rfl
      obtain ⟨k, hk, rfl⟩ := (xvb_iff (n := mnw M) (by omega)).mp hv1
      try rw [xka_n (show k < 2 ^ 31 by omega)] at hl
      rw [xka_n (show k < 2 ^ 31 by omega)]
      refine lv_tableIn (off := 59) (tgt := 66) hx hb dX3_watcher_7 (by decide) (by decide) (by decide) (by decide) ?_
      refine lv_aload_n hx hb dX3_watcher_66 rfl (lv_at hl 0 rfl) ?_
      refine x_calli (va_runV (As := []) (rest := []) ⟨hx, hb, hml, hown, hts⟩ (c_X2_placesSettled l G T _ (ad (9 + 4 * k)) (ad (10 + 4 * k)) (ad (11 + 4 * k)) (ad (12 + 4 * k)) (msh M k) (man M k) (mgl M k) (mth M k) (sc (k + 3))) (cwV 0 hts gX3_watcher_X2_placesSettled rfl rfl rfl (by decide +kernel) ⟨Nat.le_of_ble_eq_true rfl, Nat.le_of_ble_eq_true rfl⟩) (x_preV (wc := [((ad (9 + 4 * k)), .inr (2, [.int (msh M k), .ref (ad (10 + 4 * k)), .int (man M k), .int (mgl M k)])), ((ad (10 + 4 * k)), .inr (1, [.ref (ad (11 + 4 * k)), .ref (ad (12 + 4 * k))])), ((ad (11 + 4 * k)), .inl (T 0, 16, .inl (mth M k))), ((ad (12 + 4 * k)), .inl (T 0, 16, .inl (sc (k + 3))))]) hK hP hD hS hA hXB hZ [9 + 4 * k, 10 + 4 * k, 11 + 4 * k, 12 + 4 * k] (xC_wis T ad sc M hn4 hk) (xC_wn (Nat.lt_of_lt_of_le hk hn4)) _ _ (9 + 4 * k) 2 (xC_w0 T ad sc M hn4 hk) rfl) rfl rfl hl.1 rfl (lv_room (Nat.le_of_ble_eq_true rfl)) dX3_watcher_67 ⟨Nat.le_of_ble_eq_true rfl, Nat.le_of_ble_eq_true rfl⟩) hP hD hS hA [9 + 4 * k, 10 + 4 * k, 11 + 4 * k, 12 + 4 * k] (xC_wis T ad sc M hn4 hk) (fun _ _ _ => rfl) (fun r1 u H locs hw1 hP hD hS => ?_)
      rw [xrep_same _ _ _ (xC_wis T ad sc M hn4 hk)] at hP hD
      have hP : va_P G vwCl (xC T ad sc M) H := hP
      have hD : va_D A (xC T ad sc M) := hD
      refine vx_ret ?_
      refine W.widen (k := 2) (n := 12) (by omega) (by omega) ?_
      exact W.iret (v := r1) hx hb hr (fun t9_ ht hW => ⟨⟨r1, (), rfl, ⟨hv12, by first | (rw [hw1]; rfl) | (rw [hw1, xka_n (by omega)]; rfl)⟩, x_at ht hP⟩, hS.F ht⟩) hS.2.2 dX3_watcher_70
    · have hv12 : (xvb (mnw M) x && xvb 6 (nI 3)) = true := by rw [hv1]; rfl
      obtain ⟨k, hk, rfl⟩ := (xvb_iff (n := mnw M) (by omega)).mp hv1
      try rw [xka_n (show k < 2 ^ 31 by omega)] at hl
      rw [xka_n (show k < 2 ^ 31 by omega)]
      refine lv_tableIn (off := 64) (tgt := 71) hx hb dX3_watcher_7 (by decide) (by decide) (by decide) (by decide) ?_
      refine lv_aload_n hx hb dX3_watcher_71 rfl (lv_at hl 0 rfl) ?_
      refine lv_aload_n hx hb dX3_watcher_72 rfl (lv_at hl 1 rfl) ?_
      refine va_get (D := G) (ci := 3) (v := .ref (ad 1)) (C := RX3) (T := TX3) (N := 10) hx hb hts hiX3 hown hK hP 0 rfl rfl 0 (by decide) (hts (.fieldLink RX3 12 "CardFans" "pack" "LCardFans$Row;") (by decide +kernel)) (fun _ h9 => h9) rfl dX3_watcher_73 ?_
      refine x_calli (va_runV (As := [.ref (ad 1)]) (rest := []) ⟨hx, hb, hml, hown, hts⟩ (c_X2_placesSettledRightly l G T _ (ad (9 + 4 * k)) (ad (10 + 4 * k)) (ad (11 + 4 * k)) (ad (12 + 4 * k)) (msh M k) (man M k) (mgl M k) (mth M k) (sc (k + 3)) (ad 1) (ad 2) (ad 3) (mpk M) (sc 0)) (cwV 1 hts gX3_watcher_X2_placesSettledRightly rfl rfl rfl (by decide +kernel) ⟨Nat.le_of_ble_eq_true rfl, Nat.le_of_ble_eq_true rfl⟩) (x_preV (wc := [((ad (9 + 4 * k)), .inr (2, [.int (msh M k), .ref (ad (10 + 4 * k)), .int (man M k), .int (mgl M k)])), ((ad (10 + 4 * k)), .inr (1, [.ref (ad (11 + 4 * k)), .ref (ad (12 + 4 * k))])), ((ad (11 + 4 * k)), .inl (T 0, 16, .inl (mth M k))), ((ad (12 + 4 * k)), .inl (T 0, 16, .inl (sc (k + 3)))), (ad 1, .inr (1, [.ref (ad 2), .ref (ad 3)])), (ad 2, .inl (T 0, 16, .inl (mpk M))), (ad 3, .inl (T 0, 16, .inl (sc 0)))]) hK hP hD hS hA hXB hZ [9 + 4 * k, 10 + 4 * k, 11 + 4 * k, 12 + 4 * k, 1, 2, 3] (xC_wis2 T ad sc M hn4 hk) (xC_wn2 (Nat.lt_of_lt_of_le hk hn4)) _ _ (9 + 4 * k) 2 (xC_w0 T ad sc M hn4 hk) rfl) rfl rfl hl.1 rfl (lv_room (Nat.le_of_ble_eq_true rfl)) dX3_watcher_76 ⟨Nat.le_of_ble_eq_true rfl, Nat.le_of_ble_eq_true rfl⟩) hP hD hS hA [9 + 4 * k, 10 + 4 * k, 11 + 4 * k, 12 + 4 * k, 1, 2, 3] (xC_wis2 T ad sc M hn4 hk) (fun _ _ _ => rfl) (fun r1 u H locs hw1 hP hD hS => ?_)
      rw [xrep_same _ _ _ (xC_wis2 T ad sc M hn4 hk)] at hP hD
      have hP : va_P G vwCl (xC T ad sc M) H := hP
      have hD : va_D A (xC T ad sc M) := hD
      refine vx_ret ?_
      refine W.widen (k := 2) (n := 12) (by omega) (by omega) ?_
      exact W.iret (v := r1) hx hb hr (fun t9_ ht hW => ⟨⟨r1, (), rfl, ⟨hv12, by first | (rw [hw1]; rfl) | (rw [hw1, xka_n (by omega)]; rfl)⟩, x_at ht hP⟩, hS.F ht⟩) hS.2.2 dX3_watcher_79
    · have hv12 : (xvb (mnw M) x && xvb 6 (nI 4)) = true := by rw [hv1]; rfl
      obtain ⟨k, hk, rfl⟩ := (xvb_iff (n := mnw M) (by omega)).mp hv1
      try rw [xka_n (show k < 2 ^ 31 by omega)] at hl
      rw [xka_n (show k < 2 ^ 31 by omega)]
      refine lv_tableIn (off := 73) (tgt := 80) hx hb dX3_watcher_7 (by decide) (by decide) (by decide) (by decide) ?_
      refine lv_aload_n hx hb dX3_watcher_80 rfl (lv_at hl 0 rfl) ?_
      refine va_getN (D := G) (ci := 2) (v := .int (man M k)) (C := RX2) (T := TX2) (N := 4) hx hb hts hiX2 hown hK hP (9 + 4 * k) (xC_w0 T ad sc M hn4 hk) rfl 2 (by decide) (va_Nw.use rfl (hXB.1 (.fieldLinkNest RX3 110 RX2 "timesAnew" "I" "CardFans") (by decide +kernel))) (fun _ h9 => h9) rfl dX3_watcher_81 ?_
      refine vx_ret ?_
      refine W.widen (k := 2) (n := 12) (by omega) (by omega) ?_
      exact W.iret (v := man M k) hx hb hr (fun t9_ ht hW => ⟨⟨man M k, (), rfl, ⟨hv12, rfl⟩, x_at ht hP⟩, hS.F ht⟩) hS.2.2 dX3_watcher_84
    · have hv12 : (xvb (mnw M) x && xvb 6 (nI 5)) = true := by rw [hv1]; rfl
      obtain ⟨k, hk, rfl⟩ := (xvb_iff (n := mnw M) (by omega)).mp hv1
      try rw [xka_n (show k < 2 ^ 31 by omega)] at hl
      rw [xka_n (show k < 2 ^ 31 by omega)]
      refine lv_tableIn (off := 78) (tgt := 85) hx hb dX3_watcher_7 (by decide) (by decide) (by decide) (by decide) ?_
      refine lv_aload_n hx hb dX3_watcher_85 rfl (lv_at hl 0 rfl) ?_
      refine va_getN (D := G) (ci := 2) (v := .int (mgl M k)) (C := RX2) (T := TX2) (N := 4) hx hb hts hiX2 hown hK hP (9 + 4 * k) (xC_w0 T ad sc M hn4 hk) rfl 3 (by decide) (va_Nw.use rfl (hXB.1 (.fieldLinkNest RX3 113 RX2 "glimpses" "I" "CardFans") (by decide +kernel))) (fun _ h9 => h9) rfl dX3_watcher_86 ?_
      refine vx_ret ?_
      refine W.widen (k := 2) (n := 12) (by omega) (by omega) ?_
      exact W.iret (v := mgl M k) hx hb hr (fun t9_ ht hW => ⟨⟨mgl M k, (), rfl, ⟨hv12, rfl⟩, x_at ht hP⟩, hS.F ht⟩) hS.2.2 dX3_watcher_89

/-- a watcher glimpses -/
def xMg (N : Nat) (M : XM) (k j : Nat) : XM := xMw M k (if (xcl N (upd (mth M k) j (xso (mpk M j)))).1 then man M k else man M k + nI 1) (mgl M k + nI 1) (xgl N (mth M k) j (xso (mpk M j)))

set_option maxHeartbeats 4000000 in
set_option maxRecDepth 100000 in
/-- glimpse -/
theorem c_X3_glimpse (l : Launch) (hsl : l.stackTraces = false) (G : va_G) (T : Nat → ClassId) (sz : Nat) (N : Nat) (hN : N = 257) (ad : Nat → Nat) (sc : Nat → Nat → Int32) (M : XM) (x y : Int32) (hn4 : mnw M ≤ 4) : vx_Met l yX3_glimpse wsX3_glimpse ({ frames := 7, cells := 2, slots := 12, locals := 113 }) (va_Pc [.ref (ad 0), .int x, .int y] (xPre G T (xC T ad sc M) sz)) (va_Qi (fun (r : Int32) (u : Nat → Nat → Int32) => (xvb (mnw M) x && xvb 16 y) = true ∧ r = mpk M (xka y)) (fun u t => va_P G vwCl (xC T ad u (xMg N M (xka x) (xka y))) t.heap) (va_A (xC T ad sc M) sz)) (vx_X (fun _ : Unit => True) (fun E _ t => (fun E => (xvb (mnw M) x && xvb 16 y) = false ∧ E = "java/lang/IndexOutOfBoundsException") E ∧ va_P G vwCl (xC T ad sc M) t.heap) (va_A (xC T ad sc M) sz)) 2 12 (va_A (xC T ad sc M) sz) := by
  refine vx_ofW (cc := cX3_glimpse) (maxL := 5) (ret := (some .int)) (by decide) rfl ?_
  intro p e s m args below meth c s₁ B hml hx0 hv
  obtain ⟨rfl, hsz, hP, hK, hD0, hXB, hZ⟩ := hv
  have hx := B.exec
  have hb := B.bytes
  have hr := B.returns
  have hts := atoms_spec (ws := wsX3_glimpse) B.pre
  have hown : s.vm.findClass RX3 = some m.cls := findClass_of_methodNamed B.named
  have hlocks := B.notSynchronized
  subst hsz
  have hD := hD0.self (sz := s.heap.size)
  generalize hAe : va_A (xC T ad sc M) s.heap.size = A at hD hZ ⊢
  have hA : ∀ q : Nat, s.heap.size ≤ q → A q := fun q h => by rw [← hAe]; exact Or.inr h
  have hS : va_S A s.heap s.heap [] := va_S.rf
  have hP : va_P G vwCl (xC T ad sc M) s.heap := hP
  have hiX3 : ∀ w ∈ u_ws RX3 TX3 10, w ∈ wsX3_glimpse := by decide +kernel
  have hiX2 : ∀ w ∈ u_ws RX2 TX2 4, w ∈ wsX3_glimpse := by decide +kernel
  have hl := lv_entry ([.ref (ad 0), .int x, .int y]) (n := 5) (Nat.le_of_ble_eq_true rfl)
  rw [lg_entry_eq]
  generalize (lg_sl ([.ref (ad 0), .int x, .int y]) ++ List.replicate (5 - (lg_sl ([.ref (ad 0), .int x, .int y])).length) Slot.unset).toArray = ls at hl ⊢
  have hl : lv_has ls 5 [(0, .ref (ad 0)), (1, .int x), (2, .int y)] := hl
  refine lv_aload_n hx hb dX3_glimpse_0 rfl (lv_at hl 0 rfl) ?_
  refine lv_iload_n hx hb dX3_glimpse_1 rfl (lv_at hl 1 rfl) ?_
  refine x_xcallqW (vx_runV (As := [.int x]) (rest := []) ⟨hx, hb, hml, hown, hts⟩ (c_X3_watcherOf l hsl G T _ ad sc M x hn4) (cwV 1 hts gX3_glimpse_X3_watcherOf rfl rfl rfl (by decide +kernel) ⟨Nat.le_of_ble_eq_true rfl, Nat.le_of_ble_eq_true rfl⟩) (x_preVW (wc := (xC T ad sc M)) hK hP hD hS hA hXB hZ _ _ 0 3 rfl rfl) rfl rfl hl.1 rfl (lv_room (Nat.le_of_ble_eq_true rfl)) dX3_glimpse_2 ⟨Nat.le_of_ble_eq_true rfl, Nat.le_of_ble_eq_true rfl⟩) hP hD hS hA (fun _ _ _ => hD.self) (fun E ce q9 H locs hE hP hS c1 c2 c3 => ?_) (fun r9 u9 H locs hw9 hP hD hS => ?_)
  · exact x_out hx0 hlocks (⟨by rw [hE.1, Bool.false_and], hE.2⟩) hP hS c1 c2 c3 (by decide) (by decide)
  have hP : va_P G vwCl (xC T ad sc M) H := hP
  have hD : va_D A (xC T ad sc M) := hD
  obtain ⟨hv1, rfl⟩ := hw9
  refine lv_astore_n (lv' := [(3, .ref (ad (9 + 4 * xka x))), (0, .ref (ad 0)), (1, .int x), (2, .int y)]) hx hb dX3_glimpse_5 rfl hl (by decide) rfl (fun ls hl => ?_)
  refine lv_iload_n hx hb dX3_glimpse_6 rfl (lv_at hl 3 rfl) ?_
  refine x_xcallv (vx_runS (As := [.int y]) (rest := []) ⟨hx, hb, hml, hown, hts⟩ (c_X3_requirePlace l hsl G T _ y) (va_cwS 1 hts gX3_glimpse_X3_requirePlace rfl rfl rfl (by decide +kernel) ⟨Nat.le_of_ble_eq_true rfl, Nat.le_of_ble_eq_true rfl⟩) (x_preS (wc := []) hK hP hD hS hA hXB hZ [] rfl rfl _) rfl rfl hl.1 rfl (lv_room (Nat.le_of_ble_eq_true rfl)) dX3_glimpse_7 ⟨Nat.le_of_ble_eq_true rfl, Nat.le_of_ble_eq_true rfl⟩) hP hD hS hA [] rfl rfl (fun _ _ => rfl) (fun E ce q9 H locs hE hP hS c1 c2 c3 => ?_) (fun u1 H locs hv2 hP hD hS => ?_)
  · exact x_out hx0 hlocks (⟨by rw [hE.1, Bool.and_false], hE.2⟩) hP hS c1 c2 c3 (by decide) (by decide)
  have hP : va_P G vwCl (xC T ad sc M) H := hP
  have hD : va_D A (xC T ad sc M) := hD
  have hv12 : (xvb (mnw M) x && xvb 16 y) = true := by rw [hv1, hv2]; rfl
  obtain ⟨k, hk, rfl⟩ := (xvb_iff (n := mnw M) (by omega)).mp hv1
  try rw [xka_n (show k < 2 ^ 31 by omega)] at hl
  rw [xka_n (show k < 2 ^ 31 by omega)]
  obtain ⟨j, hj, rfl⟩ := (xvb_iff (n := 16) (by decide)).mp (hv2)
  refine lv_aload_n hx hb dX3_glimpse_10 rfl (lv_at hl 1 rfl) ?_
  refine va_get (D := G) (ci := 3) (v := .ref (ad 1)) (C := RX3) (T := TX3) (N := 10) hx hb hts hiX3 hown hK hP 0 rfl rfl 0 (by decide) (hts (.fieldLink RX3 12 "CardFans" "pack" "LCardFans$Row;") (by decide +kernel)) (fun _ h9 => h9) rfl dX3_glimpse_11 ?_
  refine lv_iload_n hx hb dX3_glimpse_14 rfl (lv_at hl 3 rfl) ?_
  refine x_calli (va_runV (As := [.int (nI j)]) (rest := []) ⟨hx, hb, hml, hown, hts⟩ (c_X1_at l G T _ (ad 1) (ad 2) (ad 3) (mpk M) (sc 0) j hj) (cwV 1 hts gX3_glimpse_X1_at rfl rfl rfl (by decide +kernel) ⟨Nat.le_of_ble_eq_true rfl, Nat.le_of_ble_eq_true rfl⟩) (x_preV (wc := [(ad 1, .inr (1, [.ref (ad 2), .ref (ad 3)])), (ad 2, .inl (T 0, 16, .inl (mpk M))), (ad 3, .inl (T 0, 16, .inl (sc 0)))]) hK hP hD hS hA hXB hZ [1, 2, 3] rfl rfl _ _ 1 1 rfl rfl) rfl rfl hl.1 rfl (lv_room (Nat.le_of_ble_eq_true rfl)) dX3_glimpse_15 ⟨Nat.le_of_ble_eq_true rfl, Nat.le_of_ble_eq_true rfl⟩) hP hD hS hA [1, 2, 3] rfl (fun _ _ _ => rfl) (fun r1 u H locs hw1 hP hD hS => ?_)
  have hP : va_P G vwCl (xC T ad sc M) H := hP
  have hD : va_D A (xC T ad sc M) := hD
  subst hw1
  refine lv_istore (lv' := [(4, .int (mpk M j)), (3, .ref (ad (9 + 4 * k))), (0, .ref (ad 0)), (1, .int (nI k)), (2, .int (nI j))]) hx hb dX3_glimpse_18 hl (by decide) rfl (fun ls hl => ?_)
  refine lv_aload_n hx hb dX3_glimpse_20 rfl (lv_at hl 1 rfl) ?_
  refine lv_iload_n hx hb dX3_glimpse_21 rfl (lv_at hl 4 rfl) ?_
  refine lv_iload hx hb dX3_glimpse_22 (lv_at hl 0 rfl) ?_
  refine x_callv (va_runV (As := [.int (nI j), .int (mpk M j)]) (rest := []) ⟨hx, hb, hml, hown, hts⟩ (c_X2_see l G T _ N hN (ad (9 + 4 * k)) (ad (10 + 4 * k)) (ad (11 + 4 * k)) (ad (12 + 4 * k)) (msh M k) (man M k) (mgl M k) (mth M k) (sc (k + 3)) j hj (mpk M j)) (cwV 2 hts gX3_glimpse_X2_see rfl rfl rfl (by decide +kernel) ⟨Nat.le_of_ble_eq_true rfl, Nat.le_of_ble_eq_true rfl⟩) (x_preV (wc := [((ad (9 + 4 * k)), .inr (2, [.int (msh M k), .ref (ad (10 + 4 * k)), .int (man M k), .int (mgl M k)])), ((ad (10 + 4 * k)), .inr (1, [.ref (ad (11 + 4 * k)), .ref (ad (12 + 4 * k))])), ((ad (11 + 4 * k)), .inl (T 0, 16, .inl (mth M k))), ((ad (12 + 4 * k)), .inl (T 0, 16, .inl (sc (k + 3))))]) hK hP hD hS hA hXB hZ [9 + 4 * k, 10 + 4 * k, 11 + 4 * k, 12 + 4 * k] (xC_wis T ad sc M hn4 hk) (xC_wn (Nat.lt_of_lt_of_le hk hn4)) _ _ (9 + 4 * k) 2 (xC_w0 T ad sc M hn4 hk) rfl) rfl rfl hl.1 rfl (lv_room (Nat.le_of_ble_eq_true rfl)) dX3_glimpse_24 ⟨Nat.le_of_ble_eq_true rfl, Nat.le_of_ble_eq_true rfl⟩) hP hD hS hA [9 + 4 * k, 10 + 4 * k, 11 + 4 * k, 12 + 4 * k] (xC_wis T ad sc M hn4 hk) (fun _ _ => rfl) (fun u2 H locs _ hP hD hS => ?_)
  rw [xC_wrep T ad sc M hn4 hk _ _ _ _] at hP hD
  have hP : va_P G vwCl (xC T ad (va_up sc (k + 3) (sc (k + 3))) (xMg N M k j)) H := hP
  have hD : va_D A (xC T ad (va_up sc (k + 3) (sc (k + 3))) (xMg N M k j)) := hD
  refine lv_iload hx hb dX3_glimpse_27 (lv_at hl 0 rfl) ?_
  refine vx_ret ?_
  exact W.iret (v := (mpk M j)) hx hb hr (fun t9_ ht hW => ⟨⟨(mpk M j), (va_up sc (k + 3) (sc (k + 3))), rfl, ⟨hv12, by rw [xka_n (by omega)]⟩, x_at ht (by rw [xka_n (show j < 2 ^ 31 by omega)]; exact hP)⟩, hS.F ht⟩) hS.2.2 dX3_glimpse_29
end XF2
