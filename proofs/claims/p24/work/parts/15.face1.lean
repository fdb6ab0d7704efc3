section XF1
set_option maxHeartbeats 4000000 in
set_option maxRecDepth 100000 in
/-- requireWay -/
theorem c_X3_requireWay (l : Launch) (hsl : l.stackTraces = false) (G : va_G) (T : Nat → ClassId) (sz : Nat) (x y : Int32) : vx_Met l yX3_requireWay wsX3_requireWay ({ frames := 6, cells := 1, slots := 6, locals := 82 }) (va_Pc [.int x, .int y] (xPre G T ([]) sz)) (va_Qv (fun (u : Unit) => xwb x y = true) (fun u t => va_P G vwCl ([]) t.heap) (va_A ([]) sz)) (vx_X (fun _ : Unit => True) (fun E _ t => (fun E => xwb x y = false ∧ E = "java/lang/IllegalArgumentException") E ∧ va_P G vwCl ([]) t.heap) (va_A ([]) sz)) 1 6 (va_A ([]) sz) := by
  refine vx_ofW (cc := cX3_requireWay) (maxL := 2) (ret := none) (by decide) rfl ?_
  intro p e s m args below meth c s₁ B hml hx0 hv
  obtain ⟨rfl, hsz, hP, hK, hD0, hXB, hZ⟩ := hv
  have hx := B.exec
  have hb := B.bytes
  have hr := B.returns
  have hts := atoms_spec (ws := wsX3_requireWay) B.pre
  have hown : s.vm.findClass RX3 = some m.cls := findClass_of_methodNamed B.named
  have hlocks := B.notSynchronized
  subst hsz
  have hD := hD0.self (sz := s.heap.size)
  generalize hAe : va_A ([]) s.heap.size = A at hD hZ ⊢
  have hA : ∀ q : Nat, s.heap.size ≤ q → A q := fun q h => by rw [← hAe]; exact Or.inr h
  have hS : va_S A s.heap s.heap [] := va_S.rf
  have hP : va_P G vwCl ([]) s.heap := hP
  have hl := lv_entry ([.int x, .int y]) (n := 2) (Nat.le_of_ble_eq_true rfl)
  rw [lg_entry_eq]
  generalize (lg_sl ([.int x, .int y]) ++ List.replicate (2 - (lg_sl ([.int x, .int y])).length) Slot.unset).toArray = ls at hl ⊢
  have hl : lv_has ls 2 [(0, .int x), (1, .int y)] := hl
  refine lv_iload_n hx hb dX3_requireWay_0 rfl (lv_at hl 0 rfl) ?_
  refine lv_iload_n hx hb dX3_requireWay_1 rfl (lv_at hl 1 rfl) ?_
  refine x_calli (va_runS (As := [.int x, .int y]) (rest := []) ⟨hx, hb, hml, hown, hts⟩ (c_X3_isWay l G T _ x y) (va_cwS 2 hts gX3_requireWay_X3_isWay rfl rfl rfl (by decide +kernel) ⟨Nat.le_of_ble_eq_true rfl, Nat.le_of_ble_eq_true rfl⟩) (x_preS (wc := []) hK hP hD hS hA hXB hZ [] rfl rfl _) rfl rfl hl.1 rfl (lv_room (Nat.le_of_ble_eq_true rfl)) dX3_requireWay_2 ⟨Nat.le_of_ble_eq_true rfl, Nat.le_of_ble_eq_true rfl⟩) hP hD hS hA [] rfl (fun _ _ _ => rfl) (fun r1 u H locs hw1 hP hD hS => ?_)
  have hP : va_P G vwCl ([]) H := hP
  have hD : va_D A ([]) := hD
  refine lv_if_ne (tgt := 18) hx hb dX3_requireWay_5 (by decide) (fun c1 => ?_) (fun c1 => ?_)
  · refine vx_ret ?_
    refine W.widen (k := 1) (n := 6) (by omega) (by omega) ?_
    exact W.vret hx hb hr (fun t9_ ht hW => ⟨⟨(), rfl, xb_of_ne hw1 c1, x_at ht hP⟩, hS.F ht⟩) hS.2.2 dX3_requireWay_18
  · exact x_throw (cls := "java/lang/IllegalArgumentException") (text := "no such way") (ik := 196) (is := 198) (ic := 200) hx hb hsl hown hts (by decide +kernel) (by decide +kernel) (by decide +kernel) (by decide +kernel) (by decide +kernel) (by decide +kernel) (by decide +kernel) hXB hZ hS (hl.1.trans hml.symm) hx0 hlocks dX3_requireWay_8 dX3_requireWay_11 dX3_requireWay_12 dX3_requireWay_14 dX3_requireWay_17 (Nat.le_of_ble_eq_true rfl) (Nat.le_of_ble_eq_true rfl) (Nat.le_of_ble_eq_true rfl) (Nat.le_of_ble_eq_true rfl) (Nat.le_of_ble_eq_true rfl) (Nat.le_of_ble_eq_true rfl) (⟨xb_of_eq hw1 c1, rfl⟩) hP

set_option maxHeartbeats 4000000 in
set_option maxRecDepth 100000 in
/-- X3_requirePlace -/
theorem c_X3_requirePlace (l : Launch) (hsl : l.stackTraces = false) (G : va_G) (T : Nat → ClassId) (sz : Nat) (x : Int32) : vx_Met l yX3_requirePlace wsX3_requirePlace ({ frames := 6, cells := 1, slots := 6, locals := 82 }) (va_Pc [.int x] (xPre G T ([]) sz)) (va_Qv (fun (u : Unit) => xvb 16 x = true) (fun u t => va_P G vwCl ([]) t.heap) (va_A ([]) sz)) (vx_X (fun _ : Unit => True) (fun E _ t => (fun E => xvb 16 x = false ∧ E = "java/lang/IndexOutOfBoundsException") E ∧ va_P G vwCl ([]) t.heap) (va_A ([]) sz)) 1 6 (va_A ([]) sz) := by
  refine vx_ofW (cc := cX3_requirePlace) (maxL := 1) (ret := none) (by decide) rfl ?_
  intro p e s m args below meth c s₁ B hml hx0 hv
  obtain ⟨rfl, hsz, hP, hK, hD0, hXB, hZ⟩ := hv
  have hx := B.exec
  have hb := B.bytes
  have hr := B.returns
  have hts := atoms_spec (ws := wsX3_requirePlace) B.pre
  have hown : s.vm.findClass RX3 = some m.cls := findClass_of_methodNamed B.named
  have hlocks := B.notSynchronized
  subst hsz
  have hD := hD0.self (sz := s.heap.size)
  generalize hAe : va_A ([]) s.heap.size = A at hD hZ ⊢
  have hA : ∀ q : Nat, s.heap.size ≤ q → A q := fun q h => by rw [← hAe]; exact Or.inr h
  have hS : va_S A s.heap s.heap [] := va_S.rf
  have hP : va_P G vwCl ([]) s.heap := hP
  have hl := lv_entry ([.int x]) (n := 1) (Nat.le_of_ble_eq_true rfl)
  rw [lg_entry_eq]
  generalize (lg_sl ([.int x]) ++ List.replicate (1 - (lg_sl ([.int x])).length) Slot.unset).toArray = ls at hl ⊢
  have hl : lv_has ls 1 [(0, .int x)] := hl
  refine lv_iload_n hx hb dX3_requirePlace_0 rfl (lv_at hl 0 rfl) ?_
  refine x_calli (va_runS (As := [.int x]) (rest := []) ⟨hx, hb, hml, hown, hts⟩ (c_X3_isSixteenth l G T _ x) (va_cwS 1 hts gX3_requirePlace_X3_isSixteenth rfl rfl rfl (by decide +kernel) ⟨Nat.le_of_ble_eq_true rfl, Nat.le_of_ble_eq_true rfl⟩) (x_preS (wc := []) hK hP hD hS hA hXB hZ [] rfl rfl _) rfl rfl hl.1 rfl (lv_room (Nat.le_of_ble_eq_true rfl)) dX3_requirePlace_1 ⟨Nat.le_of_ble_eq_true rfl, Nat.le_of_ble_eq_true rfl⟩) hP hD hS hA [] rfl (fun _ _ _ => rfl) (fun r1 u H locs hw1 hP hD hS => ?_)
  have hP : va_P G vwCl ([]) H := hP
  have hD : va_D A ([]) := hD
  refine lv_if_ne (tgt := 17) hx hb dX3_requirePlace_4 (by decide) (fun c1 => ?_) (fun c1 => ?_)
  · refine vx_ret ?_
    refine W.widen (k := 1) (n := 6) (by omega) (by omega) ?_
    exact W.vret hx hb hr (fun t9_ ht hW => ⟨⟨(), rfl, xb_of_ne hw1 c1, x_at ht hP⟩, hS.F ht⟩) hS.2.2 dX3_requirePlace_17
  · exact x_throw (cls := "java/lang/IndexOutOfBoundsException") (text := "place is not 0 to 15") (ik := 116) (is := 205) (ic := 120) hx hb hsl hown hts (by decide +kernel) (by decide +kernel) (by decide +kernel) (by decide +kernel) (by decide +kernel) (by decide +kernel) (by decide +kernel) hXB hZ hS (hl.1.trans hml.symm) hx0 hlocks dX3_requirePlace_7 dX3_requirePlace_10 dX3_requirePlace_11 dX3_requirePlace_13 dX3_requirePlace_16 (Nat.le_of_ble_eq_true rfl) (Nat.le_of_ble_eq_true rfl) (Nat.le_of_ble_eq_true rfl) (Nat.le_of_ble_eq_true rfl) (Nat.le_of_ble_eq_true rfl) (Nat.le_of_ble_eq_true rfl) (⟨xb_of_eq hw1 c1, rfl⟩) hP

set_option maxHeartbeats 4000000 in
set_option maxRecDepth 100000 in
/-- X3_requireCard -/
theorem c_X3_requireCard (l : Launch) (hsl : l.stackTraces = false) (G : va_G) (T : Nat → ClassId) (sz : Nat) (x : Int32) : vx_Met l yX3_requireCard wsX3_requireCard ({ frames := 6, cells := 1, slots := 6, locals := 82 }) (va_Pc [.int x] (xPre G T ([]) sz)) (va_Qv (fun (u : Unit) => xvb 16 x = true) (fun u t => va_P G vwCl ([]) t.heap) (va_A ([]) sz)) (vx_X (fun _ : Unit => True) (fun E _ t => (fun E => xvb 16 x = false ∧ E = "java/lang/IndexOutOfBoundsException") E ∧ va_P G vwCl ([]) t.heap) (va_A ([]) sz)) 1 6 (va_A ([]) sz) := by
  refine vx_ofW (cc := cX3_requireCard) (maxL := 1) (ret := none) (by decide) rfl ?_
  intro p e s m args below meth c s₁ B hml hx0 hv
  obtain ⟨rfl, hsz, hP, hK, hD0, hXB, hZ⟩ := hv
  have hx := B.exec
  have hb := B.bytes
  have hr := B.returns
  have hts := atoms_spec (ws := wsX3_requireCard) B.pre
  have hown : s.vm.findClass RX3 = some m.cls := findClass_of_methodNamed B.named
  have hlocks := B.notSynchronized
  subst hsz
  have hD := hD0.self (sz := s.heap.size)
  generalize hAe : va_A ([]) s.heap.size = A at hD hZ ⊢
  have hA : ∀ q : Nat, s.heap.size ≤ q → A q := fun q h => by rw [← hAe]; exact Or.inr h
  have hS : va_S A s.heap s.heap [] := va_S.rf
  have hP : va_P G vwCl ([]) s.heap := hP
  have hl := lv_entry ([.int x]) (n := 1) (Nat.le_of_ble_eq_true rfl)
  rw [lg_entry_eq]
  generalize (lg_sl ([.int x]) ++ List.replicate (1 - (lg_sl ([.int x])).length) Slot.unset).toArray = ls at hl ⊢
  have hl : lv_has ls 1 [(0, .int x)] := hl
  refine lv_iload_n hx hb dX3_requireCard_0 rfl (lv_at hl 0 rfl) ?_
  refine x_calli (va_runS (As := [.int x]) (rest := []) ⟨hx, hb, hml, hown, hts⟩ (c_X3_isSixteenth l G T _ x) (va_cwS 1 hts gX3_requireCard_X3_isSixteenth rfl rfl rfl (by decide +kernel) ⟨Nat.le_of_ble_eq_true rfl, Nat.le_of_ble_eq_true rfl⟩) (x_preS (wc := []) hK hP hD hS hA hXB hZ [] rfl rfl _) rfl rfl hl.1 rfl (lv_room (Nat.le_of_ble_eq_true rfl)) dX3_requireCard_1 ⟨Nat.le_of_ble_eq_true rfl, Nat.le_of_ble_eq_true rfl⟩) hP hD hS hA [] rfl (fun _ _ _ => rfl) (fun r1 u H locs hw1 hP hD hS => ?_)
  have hP : va_P G vwCl ([]) H := hP
  have hD : va_D A ([]) := hD
  refine lv_if_ne (tgt := 17) hx hb dX3_requireCard_4 (by decide) (fun c1 => ?_) (fun c1 => ?_)
  · refine vx_ret ?_
    refine W.widen (k := 1) (n := 6) (by omega) (by omega) ?_
    exact W.vret hx hb hr (fun t9_ ht hW => ⟨⟨(), rfl, xb_of_ne hw1 c1, x_at ht hP⟩, hS.F ht⟩) hS.2.2 dX3_requireCard_17
  · exact x_throw (cls := "java/lang/IndexOutOfBoundsException") (text := "card is not 0 to 15") (ik := 116) (is := 207) (ic := 120) hx hb hsl hown hts (by decide +kernel) (by decide +kernel) (by decide +kernel) (by decide +kernel) (by decide +kernel) (by decide +kernel) (by decide +kernel) hXB hZ hS (hl.1.trans hml.symm) hx0 hlocks dX3_requireCard_7 dX3_requireCard_10 dX3_requireCard_11 dX3_requireCard_13 dX3_requireCard_16 (Nat.le_of_ble_eq_true rfl) (Nat.le_of_ble_eq_true rfl) (Nat.le_of_ble_eq_true rfl) (Nat.le_of_ble_eq_true rfl) (Nat.le_of_ble_eq_true rfl) (Nat.le_of_ble_eq_true rfl) (⟨xb_of_eq hw1 c1, rfl⟩) hP

set_option maxHeartbeats 4000000 in
set_option maxRecDepth 100000 in
/-- X3_requireSixteenth -/
theorem c_X3_requireSixteenth (l : Launch) (hsl : l.stackTraces = false) (G : va_G) (T : Nat → ClassId) (sz : Nat) (x : Int32) : vx_Met l yX3_requireSixteenth wsX3_requireSixteenth ({ frames := 6, cells := 1, slots := 6, locals := 82 }) (va_Pc [.int x] (xPre G T ([]) sz)) (va_Qv (fun (u : Unit) => xvb 16 x = true) (fun u t => va_P G vwCl ([]) t.heap) (va_A ([]) sz)) (vx_X (fun _ : Unit => True) (fun E _ t => (fun E => xvb 16 x = false ∧ E = "java/lang/IllegalArgumentException") E ∧ va_P G vwCl ([]) t.heap) (va_A ([]) sz)) 1 6 (va_A ([]) sz) := by
  refine vx_ofW (cc := cX3_requireSixteenth) (maxL := 1) (ret := none) (by decide) rfl ?_
  intro p e s m args below meth c s₁ B hml hx0 hv
  obtain ⟨rfl, hsz, hP, hK, hD0, hXB, hZ⟩ := hv
  have hx := B.exec
  have hb := B.bytes
  have hr := B.returns
  have hts := atoms_spec (ws := wsX3_requireSixteenth) B.pre
  have hown : s.vm.findClass RX3 = some m.cls := findClass_of_methodNamed B.named
  have hlocks := B.notSynchronized
  subst hsz
  have hD := hD0.self (sz := s.heap.size)
  generalize hAe : va_A ([]) s.heap.size = A at hD hZ ⊢
  have hA : ∀ q : Nat, s.heap.size ≤ q → A q := fun q h => by rw [← hAe]; exact Or.inr h
  have hS : va_S A s.heap s.heap [] := va_S.rf
  have hP : va_P G vwCl ([]) s.heap := hP
  have hl := lv_entry ([.int x]) (n := 1) (Nat.le_of_ble_eq_true rfl)
  rw [lg_entry_eq]
  generalize (lg_sl ([.int x]) ++ List.replicate (1 - (lg_sl ([.int x])).length) Slot.unset).toArray = ls at hl ⊢
  have hl : lv_has ls 1 [(0, .int x)] := hl
  refine lv_iload_n hx hb dX3_requireSixteenth_0 rfl (lv_at hl 0 rfl) ?_
  refine x_calli (va_runS (As := [.int x]) (rest := []) ⟨hx, hb, hml, hown, hts⟩ (c_X3_isSixteenth l G T _ x) (va_cwS 1 hts gX3_requireSixteenth_X3_isSixteenth rfl rfl rfl (by decide +kernel) ⟨Nat.le_of_ble_eq_true rfl, Nat.le_of_ble_eq_true rfl⟩) (x_preS (wc := []) hK hP hD hS hA hXB hZ [] rfl rfl _) rfl rfl hl.1 rfl (lv_room (Nat.le_of_ble_eq_true rfl)) dX3_requireSixteenth_1 ⟨Nat.le_of_ble_eq_true rfl, Nat.le_of_ble_eq_true rfl⟩) hP hD hS hA [] rfl (fun _ _ _ => rfl) (fun r1 u H locs hw1 hP hD hS => ?_)
  have hP : va_P G vwCl ([]) H := hP
  have hD : va_D A ([]) := hD
  refine lv_if_ne (tgt := 17) hx hb dX3_requireSixteenth_4 (by decide) (fun c1 => ?_) (fun c1 => ?_)
  · refine vx_ret ?_
    refine W.widen (k := 1) (n := 6) (by omega) (by omega) ?_
    exact W.vret hx hb hr (fun t9_ ht hW => ⟨⟨(), rfl, xb_of_ne hw1 c1, x_at ht hP⟩, hS.F ht⟩) hS.2.2 dX3_requireSixteenth_17
  · exact x_throw (cls := "java/lang/IllegalArgumentException") (text := "number is not 0 to 15") (ik := 196) (is := 209) (ic := 200) hx hb hsl hown hts (by decide +kernel) (by decide +kernel) (by decide +kernel) (by decide +kernel) (by decide +kernel) (by decide +kernel) (by decide +kernel) hXB hZ hS (hl.1.trans hml.symm) hx0 hlocks dX3_requireSixteenth_7 dX3_requireSixteenth_10 dX3_requireSixteenth_11 dX3_requireSixteenth_13 dX3_requireSixteenth_16 (Nat.le_of_ble_eq_true rfl) (Nat.le_of_ble_eq_true rfl) (Nat.le_of_ble_eq_true rfl) (Nat.le_of_ble_eq_true rfl) (Nat.le_of_ble_eq_true rfl) (Nat.le_of_ble_eq_true rfl) (⟨xb_of_eq hw1 c1, rfl⟩) hP

set_option maxHeartbeats 4000000 in
set_option maxRecDepth 100000 in
/-- card -/
theorem c_X3_card (l : Launch) (hsl : l.stackTraces = false) (G : va_G) (T : Nat → ClassId) (sz : Nat) (ad : Nat → Nat) (sc : Nat → Nat → Int32) (M : XM) (x : Int32) : vx_Met l yX3_card wsX3_card ({ frames := 7, cells := 1, slots := 6, locals := 102 }) (va_Pc [.ref (ad 0), .int x] (xPre G T (xC T ad sc M) sz)) (va_Qi (fun (r : Int32) (u : Unit) => xvb 16 x = true ∧ r = mpk M (xka x)) (fun u t => va_P G vwCl (xC T ad sc M) t.heap) (va_A (xC T ad sc M) sz)) (vx_X (fun _ : Unit => True) (fun E _ t => (fun E => xvb 16 x = false ∧ E = "java/lang/IndexOutOfBoundsException") E ∧ va_P G vwCl (xC T ad sc M) t.heap) (va_A (xC T ad sc M) sz)) 1 6 (va_A (xC T ad sc M) sz) := by
  refine vx_ofW (cc := cX3_card) (maxL := 2) (ret := (some .int)) (by decide) rfl ?_
  intro p e s m args below meth c s₁ B hml hx0 hv
  obtain ⟨rfl, hsz, hP, hK, hD0, hXB, hZ⟩ := hv
  have hx := B.exec
  have hb := B.bytes
  have hr := B.returns
  have hts := atoms_spec (ws := wsX3_card) B.pre
  have hown : s.vm.findClass RX3 = some m.cls := findClass_of_methodNamed B.named
  have hlocks := B.notSynchronized
  subst hsz
  have hD := hD0.self (sz := s.heap.size)
  generalize hAe : va_A (xC T ad sc M) s.heap.size = A at hD hZ ⊢
  have hA : ∀ q : Nat, s.heap.size ≤ q → A q := fun q h => by rw [← hAe]; exact Or.inr h
  have hS : va_S A s.heap s.heap [] := va_S.rf
  have hP : va_P G vwCl (xC T ad sc M) s.heap := hP
  have hiX3 : ∀ w ∈ u_ws RX3 TX3 10, w ∈ wsX3_card := by decide +kernel
  have hl := lv_entry ([.ref (ad 0), .int x]) (n := 2) (Nat.le_of_ble_eq_true rfl)
  rw [lg_entry_eq]
  generalize (lg_sl ([.ref (ad 0), .int x]) ++ List.replicate (2 - (lg_sl ([.ref (ad 0), .int x])).length) Slot.unset).toArray = ls at hl ⊢
  have hl : lv_has ls 2 [(0, .ref (ad 0)), (1, .int x)] := hl
  refine lv_iload_n hx hb dX3_card_0 rfl (lv_at hl 1 rfl) ?_
  refine x_xcallv (vx_runS (As := [.int x]) (rest := []) ⟨hx, hb, hml, hown, hts⟩ (c_X3_requirePlace l hsl G T _ x) (va_cwS 1 hts gX3_card_X3_requirePlace rfl rfl rfl (by decide +kernel) ⟨Nat.le_of_ble_eq_true rfl, Nat.le_of_ble_eq_true rfl⟩) (x_preS (wc := []) hK hP hD hS hA hXB hZ [] rfl rfl _) rfl rfl hl.1 rfl (lv_room (Nat.le_of_ble_eq_true rfl)) dX3_card_1 ⟨Nat.le_of_ble_eq_true rfl, Nat.le_of_ble_eq_true rfl⟩) hP hD hS hA [] rfl rfl (fun _ _ => rfl) (fun E ce q9 H locs hE hP hS c1 c2 c3 => ?_) (fun u1 H locs hv1 hP hD hS => ?_)
  · exact x_out hx0 hlocks (hE) hP hS c1 c2 c3 (by decide) (by decide)
  have hP : va_P G vwCl (xC T ad sc M) H := hP
  have hD : va_D A (xC T ad sc M) := hD
  obtain ⟨k, hk, rfl⟩ := (xvb_iff (n := 16) (by decide)).mp (hv1)
  refine lv_aload_n hx hb dX3_card_4 rfl (lv_at hl 0 rfl) ?_
  refine va_get (D := G) (ci := 3) (v := .ref (ad 1)) (C := RX3) (T := TX3) (N := 10) hx hb hts hiX3 hown hK hP 0 rfl rfl 0 (by decide) (hts (.fieldLink RX3 12 "CardFans" "pack" "LCardFans$Row;") (by decide +kernel)) (fun _ h9 => h9) rfl dX3_card_5 ?_
  refine lv_iload_n hx hb dX3_card_8 rfl (lv_at hl 1 rfl) ?_
  refine x_calli (va_runV (As := [.int (nI k)]) (rest := []) ⟨hx, hb, hml, hown, hts⟩ (c_X1_at l G T _ (ad 1) (ad 2) (ad 3) (mpk M) (sc 0) k hk) (cwV 1 hts gX3_card_X1_at rfl rfl rfl (by decide +kernel) ⟨Nat.le_of_ble_eq_true rfl, Nat.le_of_ble_eq_true rfl⟩) (x_preV (wc := [(ad 1, .inr (1, [.ref (ad 2), .ref (ad 3)])), (ad 2, .inl (T 0, 16, .inl (mpk M))), (ad 3, .inl (T 0, 16, .inl (sc 0)))]) hK hP hD hS hA hXB hZ [1, 2, 3] rfl rfl _ _ 1 1 rfl rfl) rfl rfl hl.1 rfl (lv_room (Nat.le_of_ble_eq_true rfl)) dX3_card_9 ⟨Nat.le_of_ble_eq_true rfl, Nat.le_of_ble_eq_true rfl⟩) hP hD hS hA [1, 2, 3] rfl (fun _ _ _ => rfl) (fun r1 u H locs hw1 hP hD hS => ?_)
  have hP : va_P G vwCl (xC T ad sc M) H := hP
  have hD : va_D A (xC T ad sc M) := hD
  refine vx_ret ?_
  exact W.iret (v := r1) hx hb hr (fun t9_ ht hW => ⟨⟨r1, (), rfl, ⟨hv1, by rw [hw1, xka_n (by omega)]⟩, x_at ht hP⟩, hS.F ht⟩) hS.2.2 dX3_card_12

set_option maxHeartbeats 4000000 in
set_option maxRecDepth 100000 in
/-- find -/
theorem c_X3_find (l : Launch) (hsl : l.stackTraces = false) (G : va_G) (T : Nat → ClassId) (sz : Nat) (ad : Nat → Nat) (sc : Nat → Nat → Int32) (M : XM) (x : Int32) : vx_Met l yX3_find wsX3_find ({ frames := 7, cells := 1, slots := 6, locals := 102 }) (va_Pc [.ref (ad 0), .int x] (xPre G T (xC T ad sc M) sz)) (va_Qi (fun (r : Int32) (u : Unit) => xvb 16 x = true ∧ r = xfp (mpk M) x) (fun u t => va_P G vwCl (xC T ad sc M) t.heap) (va_A (xC T ad sc M) sz)) (vx_X (fun _ : Unit => True) (fun E _ t => (fun E => xvb 16 x = false ∧ E = "java/lang/IndexOutOfBoundsException") E ∧ va_P G vwCl (xC T ad sc M) t.heap) (va_A (xC T ad sc M) sz)) 1 6 (va_A (xC T ad sc M) sz) := by
  refine vx_ofW (cc := cX3_find) (maxL := 2) (ret := (some .int)) (by decide) rfl ?_
  intro p e s m args below meth c s₁ B hml hx0 hv
  obtain ⟨rfl, hsz, hP, hK, hD0, hXB, hZ⟩ := hv
  have hx := B.exec
  have hb := B.bytes
  have hr := B.returns
  have hts := atoms_spec (ws := wsX3_find) B.pre
  have hown : s.vm.findClass RX3 = some m.cls := findClass_of_methodNamed B.named
  have hlocks := B.notSynchronized
  subst hsz
  have hD := hD0.self (sz := s.heap.size)
  generalize hAe : va_A (xC T ad sc M) s.heap.size = A at hD hZ ⊢
  have hA : ∀ q : Nat, s.heap.size ≤ q → A q := fun q h => by rw [← hAe]; exact Or.inr h
  have hS : va_S A s.heap s.heap [] := va_S.rf
  have hP : va_P G vwCl (xC T ad sc M) s.heap := hP
  have hiX3 : ∀ w ∈ u_ws RX3 TX3 10, w ∈ wsX3_find := by decide +kernel
  have hl := lv_entry ([.ref (ad 0), .int x]) (n := 2) (Nat.le_of_ble_eq_true rfl)
  rw [lg_entry_eq]
  generalize (lg_sl ([.ref (ad 0), .int x]) ++ List.replicate (2 - (lg_sl ([.ref (ad 0), .int x])).length) Slot.unset).toArray = ls at hl ⊢
  have hl : lv_has ls 2 [(0, .ref (ad 0)), (1, .int x)] := hl
  refine lv_iload_n hx hb dX3_find_0 rfl (lv_at hl 1 rfl) ?_
  refine x_xcallv (vx_runS (As := [.int x]) (rest := []) ⟨hx, hb, hml, hown, hts⟩ (c_X3_requireCard l hsl G T _ x) (va_cwS 1 hts gX3_find_X3_requireCard rfl rfl rfl (by decide +kernel) ⟨Nat.le_of_ble_eq_true rfl, Nat.le_of_ble_eq_true rfl⟩) (x_preS (wc := []) hK hP hD hS hA hXB hZ [] rfl rfl _) rfl rfl hl.1 rfl (lv_room (Nat.le_of_ble_eq_true rfl)) dX3_find_1 ⟨Nat.le_of_ble_eq_true rfl, Nat.le_of_ble_eq_true rfl⟩) hP hD hS hA [] rfl rfl (fun _ _ => rfl) (fun E ce q9 H locs hE hP hS c1 c2 c3 => ?_) (fun u1 H locs hv1 hP hD hS => ?_)
  · exact x_out hx0 hlocks (hE) hP hS c1 c2 c3 (by decide) (by decide)
  have hP : va_P G vwCl (xC T ad sc M) H := hP
  have hD : va_D A (xC T ad sc M) := hD
  refine lv_aload_n hx hb dX3_find_4 rfl (lv_at hl 0 rfl) ?_
  refine va_get (D := G) (ci := 3) (v := .ref (ad 1)) (C := RX3) (T := TX3) (N := 10) hx hb hts hiX3 hown hK hP 0 rfl rfl 0 (by decide) (hts (.fieldLink RX3 12 "CardFans" "pack" "LCardFans$Row;") (by decide +kernel)) (fun _ h9 => h9) rfl dX3_find_5 ?_
  refine lv_iload_n hx hb dX3_find_8 rfl (lv_at hl 1 rfl) ?_
  refine x_calli (va_runV (As := [.int x]) (rest := []) ⟨hx, hb, hml, hown, hts⟩ (c_X1_firstPlaceOf l G T _ (ad 1) (ad 2) (ad 3) (mpk M) (sc 0) x) (cwV 1 hts gX3_find_X1_firstPlaceOf rfl rfl rfl (by decide +kernel) ⟨Nat.le_of_ble_eq_true rfl, Nat.le_of_ble_eq_true rfl⟩) (x_preV (wc := [(ad 1, .inr (1, [.ref (ad 2), .ref (ad 3)])), (ad 2, .inl (T 0, 16, .inl (mpk M))), (ad 3, .inl (T 0, 16, .inl (sc 0)))]) hK hP hD hS hA hXB hZ [1, 2, 3] rfl rfl _ _ 1 1 rfl rfl) rfl rfl hl.1 rfl (lv_room (Nat.le_of_ble_eq_true rfl)) dX3_find_9 ⟨Nat.le_of_ble_eq_true rfl, Nat.le_of_ble_eq_true rfl⟩) hP hD hS hA [1, 2, 3] rfl (fun _ _ _ => rfl) (fun r1 u H locs hw1 hP hD hS => ?_)
  have hP : va_P G vwCl (xC T ad sc M) H := hP
  have hD : va_D A (xC T ad sc M) := hD
  refine vx_ret ?_
  exact W.iret (v := r1) hx hb hr (fun t9_ ht hW => ⟨⟨r1, (), rfl, ⟨hv1, hw1⟩, x_at ht hP⟩, hS.F ht⟩) hS.2.2 dX3_find_12

set_option maxHeartbeats 4000000 in
set_option maxRecDepth 100000 in
/-- comes -/
theorem c_X3_comes (l : Launch) (hsl : l.stackTraces = false) (G : va_G) (T : Nat → ClassId) (sz : Nat) (ad : Nat → Nat) (sc : Nat → Nat → Int32) (M : XM) (a b x : Int32) : vx_Met l yX3_comes wsX3_comes ({ frames := 7, cells := 2, slots := 12, locals := 103 }) (va_Pc [.ref (ad 0), .int a, .int b, .int x] (xPre G T (xC T ad sc M) sz)) (va_Qi (fun (r : Int32) (u : Unit) => xwb a b = true ∧ xvb 16 x = true ∧ r = nI (xpa (xka a) (xka b) (xka x))) (fun u t => va_P G vwCl (xC T ad sc M) t.heap) (va_A (xC T ad sc M) sz)) (vx_X (fun _ : Unit => True) (fun E _ t => (fun E => (xwb a b = false ∧ E = "java/lang/IllegalArgumentException") ∨ (xwb a b = true ∧ xvb 16 x = false ∧ E = "java/lang/IndexOutOfBoundsException")) E ∧ va_P G vwCl (xC T ad sc M) t.heap) (va_A (xC T ad sc M) sz)) 2 12 (va_A (xC T ad sc M) sz) := by
  refine vx_ofW (cc := cX3_comes) (maxL := 4) (ret := (some .int)) (by decide) rfl ?_
  intro p e s m args below meth c s₁ B hml hx0 hv
  obtain ⟨rfl, hsz, hP, hK, hD0, hXB, hZ⟩ := hv
  have hx := B.exec
  have hb := B.bytes
  have hr := B.returns
  have hts := atoms_spec (ws := wsX3_comes) B.pre
  have hown : s.vm.findClass RX3 = some m.cls := findClass_of_methodNamed B.named
  have hlocks := B.notSynchronized
  subst hsz
  have hD := hD0.self (sz := s.heap.size)
  generalize hAe : va_A (xC T ad sc M) s.heap.size = A at hD hZ ⊢
  have hA : ∀ q : Nat, s.heap.size ≤ q → A q := fun q h => by rw [← hAe]; exact Or.inr h
  have hS : va_S A s.heap s.heap [] := va_S.rf
  have hP : va_P G vwCl (xC T ad sc M) s.heap := hP
  have hl := lv_entry ([.ref (ad 0), .int a, .int b, .int x]) (n := 4) (Nat.le_of_ble_eq_true rfl)
  rw [lg_entry_eq]
  generalize (lg_sl ([.ref (ad 0), .int a, .int b, .int x]) ++ List.replicate (4 - (lg_sl ([.ref (ad 0), .int a, .int b, .int x])).length) Slot.unset).toArray = ls at hl ⊢
  have hl : lv_has ls 4 [(0, .ref (ad 0)), (1, .int a), (2, .int b), (3, .int x)] := hl
  refine lv_iload_n hx hb dX3_comes_0 rfl (lv_at hl 1 rfl) ?_
  refine lv_iload_n hx hb dX3_comes_1 rfl (lv_at hl 2 rfl) ?_
  refine x_xcallv (vx_runS (As := [.int a, .int b]) (rest := []) ⟨hx, hb, hml, hown, hts⟩ (c_X3_requireWay l hsl G T _ a b) (va_cwS 2 hts gX3_comes_X3_requireWay rfl rfl rfl (by decide +kernel) ⟨Nat.le_of_ble_eq_true rfl, Nat.le_of_ble_eq_true rfl⟩) (x_preS (wc := []) hK hP hD hS hA hXB hZ [] rfl rfl _) rfl rfl hl.1 rfl (lv_room (Nat.le_of_ble_eq_true rfl)) dX3_comes_2 ⟨Nat.le_of_ble_eq_true rfl, Nat.le_of_ble_eq_true rfl⟩) hP hD hS hA [] rfl rfl (fun _ _ => rfl) (fun E ce q9 H locs hE hP hS c1 c2 c3 => ?_) (fun u1 H locs hv1 hP hD hS => ?_)
  · exact x_out hx0 hlocks (Or.inl hE) hP hS c1 c2 c3 (by decide) (by decide)
  have hP : va_P G vwCl (xC T ad sc M) H := hP
  have hD : va_D A (xC T ad sc M) := hD
  refine lv_iload_n hx hb dX3_comes_5 rfl (lv_at hl 3 rfl) ?_
  refine x_xcallv (vx_runS (As := [.int x]) (rest := []) ⟨hx, hb, hml, hown, hts⟩ (c_X3_requirePlace l hsl G T _ x) (va_cwS 1 hts gX3_comes_X3_requirePlace rfl rfl rfl (by decide +kernel) ⟨Nat.le_of_ble_eq_true rfl, Nat.le_of_ble_eq_true rfl⟩) (x_preS (wc := []) hK hP hD hS hA hXB hZ [] rfl rfl _) rfl rfl hl.1 rfl (lv_room (Nat.le_of_ble_eq_true rfl)) dX3_comes_6 ⟨Nat.le_of_ble_eq_true rfl, Nat.le_of_ble_eq_true rfl⟩) hP hD hS hA [] rfl rfl (fun _ _ => rfl) (fun E ce q9 H locs hE hP hS c1 c2 c3 => ?_) (fun u1 H locs hv2 hP hD hS => ?_)
  · exact x_out hx0 hlocks (Or.inr ⟨hv1, hE⟩) hP hS c1 c2 c3 (by decide) (by decide)
  have hP : va_P G vwCl (xC T ad sc M) H := hP
  have hD : va_D A (xC T ad sc M) := hD
  obtain ⟨k, n, hkn, rfl, rfl⟩ := xwb_iff.mp hv1
  obtain ⟨q, hq, rfl⟩ := (xvb_iff (n := 16) (by decide)).mp (hv2)
  refine lv_iload_n hx hb dX3_comes_9 rfl (lv_at hl 1 rfl) ?_
  refine lv_iload_n hx hb dX3_comes_10 rfl (lv_at hl 2 rfl) ?_
  refine lv_iload_n hx hb dX3_comes_11 rfl (lv_at hl 3 rfl) ?_
  refine x_calli (va_runS (As := [.int (nI k), .int (nI n), .int (nI q)]) (rest := []) ⟨hx, hb, hml, hown, hts⟩ (c_X3_placeAfter l G T _ k n q hkn hq) (va_cwS 3 hts gX3_comes_X3_placeAfter rfl rfl rfl (by decide +kernel) ⟨Nat.le_of_ble_eq_true rfl, Nat.le_of_ble_eq_true rfl⟩) (x_preS (wc := []) hK hP hD hS hA hXB hZ [] rfl rfl _) rfl rfl hl.1 rfl (lv_room (Nat.le_of_ble_eq_true rfl)) dX3_comes_12 ⟨Nat.le_of_ble_eq_true rfl, Nat.le_of_ble_eq_true rfl⟩) hP hD hS hA [] rfl (fun _ _ _ => rfl) (fun r1 u H locs hw1 hP hD hS => ?_)
  have hP : va_P G vwCl (xC T ad sc M) H := hP
  have hD : va_D A (xC T ad sc M) := hD
  have hb5 := xwn_lt hkn
  refine vx_ret ?_
  exact W.iret (v := r1) hx hb hr (fun t9_ ht hW => ⟨⟨r1, (), rfl, ⟨hv1, hv2, by rw [hw1, xka_n (by omega), xka_n (by omega), xka_n (by omega)]⟩, x_at ht hP⟩, hS.F ht⟩) hS.2.2 dX3_comes_15

set_option maxHeartbeats 4000000 in
set_option maxRecDepth 100000 in
/-- fan -/
theorem c_X3_fan (l : Launch) (hsl : l.stackTraces = false) (G : va_G) (T : Nat → ClassId) (sz : Nat) (ad : Nat → Nat) (sc : Nat → Nat → Int32) (M : XM) (x : Int32) : vx_Met l yX3_fan wsX3_fan ({ frames := 7, cells := 1, slots := 6, locals := 102 }) (va_Pc [.ref (ad 0), .int x] (xPre G T (xC T ad sc M) sz)) (va_Qi (fun (r : Int32) (u : Unit) => xvb 16 x = true ∧ r = mle M) (fun u t => va_P G vwCl (xC T ad sc (xmk (mpk M) (mth M) (msh M) (man M) (mgl M) (mhb M) (mtk M) (mnw M) (mnp M) x (mwy M) (mfc M) (mta M))) t.heap) (va_A (xC T ad sc M) sz)) (vx_X (fun _ : Unit => True) (fun E _ t => (fun E => xvb 16 x = false ∧ E = "java/lang/IllegalArgumentException") E ∧ va_P G vwCl (xC T ad sc M) t.heap) (va_A (xC T ad sc M) sz)) 1 6 (va_A (xC T ad sc M) sz) := by
  refine vx_ofW (cc := cX3_fan) (maxL := 3) (ret := (some .int)) (by decide) rfl ?_
  intro p e s m args below meth c s₁ B hml hx0 hv
  obtain ⟨rfl, hsz, hP, hK, hD0, hXB, hZ⟩ := hv
  have hx := B.exec
  have hb := B.bytes
  have hr := B.returns
  have hts := atoms_spec (ws := wsX3_fan) B.pre
  have hown : s.vm.findClass RX3 = some m.cls := findClass_of_methodNamed B.named
  have hlocks := B.notSynchronized
  subst hsz
  have hD := hD0.self (sz := s.heap.size)
  generalize hAe : va_A (xC T ad sc M) s.heap.size = A at hD hZ ⊢
  have hA : ∀ q : Nat, s.heap.size ≤ q → A q := fun q h => by rw [← hAe]; exact Or.inr h
  have hS : va_S A s.heap s.heap [] := va_S.rf
  have hP : va_P G vwCl (xC T ad sc M) s.heap := hP
  have hiX3 : ∀ w ∈ u_ws RX3 TX3 10, w ∈ wsX3_fan := by decide +kernel
  have hl := lv_entry ([.ref (ad 0), .int x]) (n := 3) (Nat.le_of_ble_eq_true rfl)
  rw [lg_entry_eq]
  generalize (lg_sl ([.ref (ad 0), .int x]) ++ List.replicate (3 - (lg_sl ([.ref (ad 0), .int x])).length) Slot.unset).toArray = ls at hl ⊢
  have hl : lv_has ls 3 [(0, .ref (ad 0)), (1, .int x)] := hl
  refine lv_iload_n hx hb dX3_fan_0 rfl (lv_at hl 1 rfl) ?_
  refine x_xcallv (vx_runS (As := [.int x]) (rest := []) ⟨hx, hb, hml, hown, hts⟩ (c_X3_requireSixteenth l hsl G T _ x) (va_cwS 1 hts gX3_fan_X3_requireSixteenth rfl rfl rfl (by decide +kernel) ⟨Nat.le_of_ble_eq_true rfl, Nat.le_of_ble_eq_true rfl⟩) (x_preS (wc := []) hK hP hD hS hA hXB hZ [] rfl rfl _) rfl rfl hl.1 rfl (lv_room (Nat.le_of_ble_eq_true rfl)) dX3_fan_1 ⟨Nat.le_of_ble_eq_true rfl, Nat.le_of_ble_eq_true rfl⟩) hP hD hS hA [] rfl rfl (fun _ _ => rfl) (fun E ce q9 H locs hE hP hS c1 c2 c3 => ?_) (fun u1 H locs hv1 hP hD hS => ?_)
  · exact x_out hx0 hlocks (hE) hP hS c1 c2 c3 (by decide) (by decide)
  have hP : va_P G vwCl (xC T ad sc M) H := hP
  have hD : va_D A (xC T ad sc M) := hD
  refine lv_aload_n hx hb dX3_fan_4 rfl (lv_at hl 0 rfl) ?_
  refine va_get (D := G) (ci := 3) (v := .int (mle M)) (C := RX3) (T := TX3) (N := 10) hx hb hts hiX3 hown hK hP 0 rfl rfl 8 (by decide) (hts (.fieldLink RX3 131 "CardFans" "leanOfFan" "I") (by decide +kernel)) (fun _ h9 => h9) rfl dX3_fan_5 ?_
  refine lv_istore_n (lv' := [(2, .int (mle M)), (0, .ref (ad 0)), (1, .int x)]) hx hb dX3_fan_8 rfl hl (by decide) rfl (fun ls hl => ?_)
  refine lv_aload_n hx hb dX3_fan_9 rfl (lv_at hl 1 rfl) ?_
  refine lv_iload_n hx hb dX3_fan_10 rfl (lv_at hl 2 rfl) ?_
  refine va_put (D := G) (ci := 3) (v := .int x) (ty := .int) (C := RX3) (T := TX3) (N := 10) hx hb hts hiX3 tyX3 tyX3_ok nmX3 hown hK hP hD hS 0 rfl rfl 8 (by decide) (hts (.fieldLink RX3 131 "CardFans" "leanOfFan" "I") (by decide +kernel)) (fun _ h9 => h9) rfl (by decide +kernel) rfl rfl (Nat.le_of_ble_eq_true rfl) dX3_fan_11 (fun H locs hP hD hS => ?_)
  have hP : va_P G vwCl (xC T ad sc (xmk (mpk M) (mth M) (msh M) (man M) (mgl M) (mhb M) (mtk M) (mnw M) (mnp M) x (mwy M) (mfc M) (mta M))) H := hP
  have hD : va_D A (xC T ad sc (xmk (mpk M) (mth M) (msh M) (man M) (mgl M) (mhb M) (mtk M) (mnw M) (mnp M) x (mwy M) (mfc M) (mta M))) := hD
  refine lv_iload_n hx hb dX3_fan_14 rfl (lv_at hl 0 rfl) ?_
  refine vx_ret ?_
  exact W.iret (v := mle M) hx hb hr (fun t9_ ht hW => ⟨⟨mle M, (), rfl, ⟨hv1, rfl⟩, x_at ht hP⟩, hS.F ht⟩) hS.2.2 dX3_fan_15

theorem xvb_out {n : Nat} {x : Int32} (hn : n + 1 < 2 ^ 31) (h : x.toInt < 0 ∨ (n : Int) < x.toInt) : xvb (n + 1) x = false := by
  rcases h with h | h
  · exact xvb_lt (by rw [xI0]; exact h)
  · exact xvb_ge (by rw [xIle, nI_toInt hn]; omega)
theorem xcase7 {x : Int32} (h : ¬ (x.toInt < 0 ∨ 6 < x.toInt)) : x = nI 0 ∨ x = nI 1 ∨ x = nI 2 ∨ x = nI 3 ∨ x = nI 4 ∨ x = nI 5 ∨ x = nI 6 := by
  obtain ⟨j, hj, rfl⟩ := nI_of (x := x) (by rw [xI0]; omega)
  rw [nI_toInt hj] at h
  rcases (show j = 0 ∨ j = 1 ∨ j = 2 ∨ j = 3 ∨ j = 4 ∨ j = 5 ∨ j = 6 by omega) with rfl | rfl | rfl | rfl | rfl | rfl | rfl <;> simp
theorem xcase6 {x : Int32} (h : ¬ (x.toInt < 0 ∨ 5 < x.toInt)) : x = nI 0 ∨ x = nI 1 ∨ x = nI 2 ∨ x = nI 3 ∨ x = nI 4 ∨ x = nI 5 := by
  obtain ⟨j, hj, rfl⟩ := nI_of (x := x) (by rw [xI0]; omega)
  rw [nI_toInt hj] at h
  rcases (show j = 0 ∨ j = 1 ∨ j = 2 ∨ j = 3 ∨ j = 4 ∨ j = 5 by omega) with rfl | rfl | rfl | rfl | rfl | rfl <;> simp

set_option maxHeartbeats 4000000 in
set_option maxRecDepth 100000 in
/-- count -/
theorem c_X3_count (l : Launch) (hsl : l.stackTraces = false) (G : va_G) (T : Nat → ClassId) (sz : Nat) (ad : Nat → Nat) (sc : Nat → Nat → Int32) (M : XM) (x : Int32) : vx_Met l yX3_count wsX3_count ({ frames := 6, cells := 1, slots := 6, locals := 82 }) (va_Pc [.ref (ad 0), .int x] (xPre G T (xC T ad sc M) sz)) (va_Qi (fun (r : Int32) (u : Unit) => xvb 7 x = true ∧ r = xcnt M (xka x)) (fun u t => va_P G vwCl (xC T ad sc M) t.heap) (va_A (xC T ad sc M) sz)) (vx_X (fun _ : Unit => True) (fun E _ t => (fun E => xvb 7 x = false ∧ E = "java/lang/IndexOutOfBoundsException") E ∧ va_P G vwCl (xC T ad sc M) t.heap) (va_A (xC T ad sc M) sz)) 1 6 (va_A (xC T ad sc M) sz) := by
  refine vx_ofW (cc := cX3_count) (maxL := 2) (ret := (some .int)) (by decide) rfl ?_
  intro p e s m args below meth c s₁ B hml hx0 hv
  obtain ⟨rfl, hsz, hP, hK, hD0, hXB, hZ⟩ := hv
  have hx := B.exec
  have hb := B.bytes
  have hr := B.returns
  have hts := atoms_spec (ws := wsX3_count) B.pre
  have hown : s.vm.findClass RX3 = some m.cls := findClass_of_methodNamed B.named
  have hlocks := B.notSynchronized
  subst hsz
  have hD := hD0.self (sz := s.heap.size)
  generalize hAe : va_A (xC T ad sc M) s.heap.size = A at hD hZ ⊢
  have hA : ∀ q : Nat, s.heap.size ≤ q → A q := fun q h => by rw [← hAe]; exact Or.inr h
  have hS : va_S A s.heap s.heap [] := va_S.rf
  have hP : va_P G vwCl (xC T ad sc M) s.heap := hP
  have hiX3 : ∀ w ∈ u_ws RX3 TX3 10, w ∈ wsX3_count := by decide +kernel
  have hl := lv_entry ([.ref (ad 0), .int x]) (n := 2) (Nat.le_of_ble_eq_true rfl)
  rw [lg_entry_eq]
  generalize (lg_sl ([.ref (ad 0), .int x]) ++ List.replicate (2 - (lg_sl ([.ref (ad 0), .int x])).length) Slot.unset).toArray = ls at hl ⊢
  have hl : lv_has ls 2 [(0, .ref (ad 0)), (1, .int x)] := hl
  refine lv_iload_n hx hb dX3_count_0 rfl (lv_at hl 1 rfl) ?_
  by_cases h : x.toInt < 0 ∨ 6 < x.toInt
  · refine lv_tableOut (tgt := 82) hx hb dX3_count_1 (h) (by decide) ?_
    exact x_throw (cls := "java/lang/IndexOutOfBoundsException") (text := "what is not 0 to 6") (ik := 116) (is := 156) (ic := 120) hx hb hsl hown hts (by decide +kernel) (by decide +kernel) (by decide +kernel) (by decide +kernel) (by decide +kernel) (by decide +kernel) (by decide +kernel) hXB hZ hS (hl.1.trans hml.symm) hx0 hlocks dX3_count_82 dX3_count_85 dX3_count_86 dX3_count_88 dX3_count_91 (Nat.le_of_ble_eq_true rfl) (Nat.le_of_ble_eq_true rfl) (Nat.le_of_ble_eq_true rfl) (Nat.le_of_ble_eq_true rfl) (Nat.le_of_ble_eq_true rfl) (Nat.le_of_ble_eq_true rfl) (⟨xvb_out (by decide) h, rfl⟩) hP
  · rcases xcase7 h with rfl | rfl | rfl | rfl | rfl | rfl | rfl
    · refine lv_tableIn (off := 43) (tgt := 44) hx hb dX3_count_1 (by decide) (by decide) (by decide) (by decide) ?_
      refine lv_aload_n hx hb dX3_count_44 rfl (lv_at hl 0 rfl) ?_
      refine va_get (D := G) (ci := 3) (v := .int (mwy M)) (C := RX3) (T := TX3) (N := 10) hx hb hts hiX3 hown hK hP 0 rfl rfl 6 (by decide) (hts (.fieldLink RX3 44 "CardFans" "waysDone" "I") (by decide +kernel)) (fun _ h9 => h9) rfl dX3_count_45 ?_
      refine vx_ret ?_
      refine W.widen (k := 1) (n := 6) (by omega) (by omega) ?_
      exact W.iret (v := mwy M) hx hb hr (fun t9_ ht hW => ⟨⟨mwy M, (), rfl, ⟨rfl, rfl⟩, x_at ht hP⟩, hS.F ht⟩) hS.2.2 dX3_count_48
    · refine lv_tableIn (off := 48) (tgt := 49) hx hb dX3_count_1 (by decide) (by decide) (by decide) (by decide) ?_
      refine lv_aload_n hx hb dX3_count_49 rfl (lv_at hl 0 rfl) ?_
      refine va_get (D := G) (ci := 3) (v := .int (mfc M)) (C := RX3) (T := TX3) (N := 10) hx hb hts hiX3 hown hK hP 0 rfl rfl 7 (by decide) (hts (.fieldLink RX3 56 "CardFans" "falseCuts" "I") (by decide +kernel)) (fun _ h9 => h9) rfl dX3_count_50 ?_
      refine vx_ret ?_
      refine W.widen (k := 1) (n := 6) (by omega) (by omega) ?_
      exact W.iret (v := mfc M) hx hb hr (fun t9_ ht hW => ⟨⟨mfc M, (), rfl, ⟨rfl, rfl⟩, x_at ht hP⟩, hS.F ht⟩) hS.2.2 dX3_count_53
    · refine lv_tableIn (off := 53) (tgt := 54) hx hb dX3_count_1 (by decide) (by decide) (by decide) (by decide) ?_
      refine lv_aload_n hx hb dX3_count_54 rfl (lv_at hl 0 rfl) ?_
      refine va_get (D := G) (ci := 3) (v := .int (nI (mnw M))) (C := RX3) (T := TX3) (N := 10) hx hb hts hiX3 hown hK hP 0 rfl rfl 4 (by decide) (hts (.fieldLink RX3 73 "CardFans" "watcherCount" "I") (by decide +kernel)) (fun _ h9 => h9) rfl dX3_count_55 ?_
      refine vx_ret ?_
      refine W.widen (k := 1) (n := 6) (by omega) (by omega) ?_
      exact W.iret (v := nI (mnw M)) hx hb hr (fun t9_ ht hW => ⟨⟨nI (mnw M), (), rfl, ⟨rfl, rfl⟩, x_at ht hP⟩, hS.F ht⟩) hS.2.2 dX3_count_58
    · refine lv_tableIn (off := 58) (tgt := 59) hx hb dX3_count_1 (by decide) (by decide) (by decide) (by decide) ?_
      refine lv_aload_n hx hb dX3_count_59 rfl (lv_at hl 0 rfl) ?_
      refine va_get (D := G) (ci := 3) (v := .int (nI (mnp M))) (C := RX3) (T := TX3) (N := 10) hx hb hts hiX3 hown hK hP 0 rfl rfl 5 (by decide) (hts (.fieldLink RX3 124 "CardFans" "playerCount" "I") (by decide +kernel)) (fun _ h9 => h9) rfl dX3_count_60 ?_
      refine vx_ret ?_
      refine W.widen (k := 1) (n := 6) (by omega) (by omega) ?_
      exact W.iret (v := nI (mnp M)) hx hb hr (fun t9_ ht hW => ⟨⟨nI (mnp M), (), rfl, ⟨rfl, rfl⟩, x_at ht hP⟩, hS.F ht⟩) hS.2.2 dX3_count_63
    · refine lv_tableIn (off := 63) (tgt := 64) hx hb dX3_count_1 (by decide) (by decide) (by decide) (by decide) ?_
      refine lv_aload_n hx hb dX3_count_64 rfl (lv_at hl 0 rfl) ?_
      refine va_get (D := G) (ci := 3) (v := .int (mle M)) (C := RX3) (T := TX3) (N := 10) hx hb hts hiX3 hown hK hP 0 rfl rfl 8 (by decide) (hts (.fieldLink RX3 131 "CardFans" "leanOfFan" "I") (by decide +kernel)) (fun _ h9 => h9) rfl dX3_count_65 ?_
      refine vx_ret ?_
      refine W.widen (k := 1) (n := 6) (by omega) (by omega) ?_
      exact W.iret (v := mle M) hx hb hr (fun t9_ ht hW => ⟨⟨mle M, (), rfl, ⟨rfl, rfl⟩, x_at ht hP⟩, hS.F ht⟩) hS.2.2 dX3_count_68
    · refine lv_tableIn (off := 68) (tgt := 69) hx hb dX3_count_1 (by decide) (by decide) (by decide) (by decide) ?_
      refine lv_aload_n hx hb dX3_count_69 rfl (lv_at hl 0 rfl) ?_
      refine va_get (D := G) (ci := 3) (v := .int (nI (mta M))) (C := RX3) (T := TX3) (N := 10) hx hb hts hiX3 hown hK hP 0 rfl rfl 9 (by decide) (hts (.fieldLink RX3 141 "CardFans" "cardsTaken" "I") (by decide +kernel)) (fun _ h9 => h9) rfl dX3_count_70 ?_
      refine vx_ret ?_
      refine W.widen (k := 1) (n := 6) (by omega) (by omega) ?_
      exact W.iret (v := nI (mta M)) hx hb hr (fun t9_ ht hW => ⟨⟨nI (mta M), (), rfl, ⟨rfl, rfl⟩, x_at ht hP⟩, hS.F ht⟩) hS.2.2 dX3_count_73
    · refine lv_tableIn (off := 73) (tgt := 74) hx hb dX3_count_1 (by decide) (by decide) (by decide) (by decide) ?_
      refine lv_aload_n hx hb dX3_count_74 rfl (lv_at hl 0 rfl) ?_
      refine va_get (D := G) (ci := 3) (v := .ref (ad 1)) (C := RX3) (T := TX3) (N := 10) hx hb hts hiX3 hown hK hP 0 rfl rfl 0 (by decide) (hts (.fieldLink RX3 12 "CardFans" "pack" "LCardFans$Row;") (by decide +kernel)) (fun _ h9 => h9) rfl dX3_count_75 ?_
      refine x_calli (va_runV (As := []) (rest := []) ⟨hx, hb, hml, hown, hts⟩ (c_X1_placesInOrder l G T _ (ad 1) (ad 2) (ad 3) (mpk M) (sc 0)) (cwV 0 hts gX3_count_X1_placesInOrder rfl rfl rfl (by decide +kernel) ⟨Nat.le_of_ble_eq_true rfl, Nat.le_of_ble_eq_true rfl⟩) (x_preV (wc := [(ad 1, .inr (1, [.ref (ad 2), .ref (ad 3)])), (ad 2, .inl (T 0, 16, .inl (mpk M))), (ad 3, .inl (T 0, 16, .inl (sc 0)))]) hK hP hD hS hA hXB hZ [1, 2, 3] rfl rfl _ _ 1 1 rfl rfl) rfl rfl hl.1 rfl (lv_room (Nat.le_of_ble_eq_true rfl)) dX3_count_78 ⟨Nat.le_of_ble_eq_true rfl, Nat.le_of_ble_eq_true rfl⟩) hP hD hS hA [1, 2, 3] rfl (fun _ _ _ => rfl) (fun r1 u H locs hw1 hP hD hS => ?_)
      have hP : va_P G vwCl (xC T ad sc M) H := hP
      have hD : va_D A (xC T ad sc M) := hD
      refine vx_ret ?_
      refine W.widen (k := 1) (n := 6) (by omega) (by omega) ?_
      exact W.iret (v := r1) hx hb hr (fun t9_ ht hW => ⟨⟨r1, (), rfl, ⟨rfl, hw1⟩, x_at ht hP⟩, hS.F ht⟩) hS.2.2 dX3_count_81

set_option maxHeartbeats 4000000 in
set_option maxRecDepth 100000 in
/-- X3_watcherOf -/
theorem c_X3_watcherOf (l : Launch) (hsl : l.stackTraces = false) (G : va_G) (T : Nat → ClassId) (sz : Nat) (ad : Nat → Nat) (sc : Nat → Nat → Int32) (M : XM) (x : Int32) (hn4 : mnw M ≤ 4) : vx_Met l yX3_watcherOf wsX3_watcherOf ({ frames := 6, cells := 1, slots := 6, locals := 82 }) (va_Pc [.ref (ad 0), .int x] (xPre G T (xC T ad sc M) sz)) (va_Qq (fun (r : Option Nat) (u : Unit) => xvb (mnw M) x = true ∧ r = some (ad (9 + 4 * xka x))) (fun u t => va_P G vwCl (xC T ad sc M) t.heap) (va_A (xC T ad sc M) sz)) (vx_X (fun _ : Unit => True) (fun E _ t => (fun E => xvb (mnw M) x = false ∧ E = "java/lang/IndexOutOfBoundsException") E ∧ va_P G vwCl (xC T ad sc M) t.heap) (va_A (xC T ad sc M) sz)) 1 6 (va_A (xC T ad sc M) sz) := by
  refine vx_ofW (cc := cX3_watcherOf) (maxL := 3) (ret := (some (.object "CardFans$Watcher"))) (by decide) rfl ?_
  intro p e s m args below meth c s₁ B hml hx0 hv
  obtain ⟨rfl, hsz, hP, hK, hD0, hXB, hZ⟩ := hv
  have hx := B.exec
  have hb := B.bytes
  have hr := B.returns
  have hts := atoms_spec (ws := wsX3_watcherOf) B.pre
  have hown : s.vm.findClass RX3 = some m.cls := findClass_of_methodNamed B.named
  have hlocks := B.notSynchronized
  subst hsz
  have hD := hD0.self (sz := s.heap.size)
  generalize hAe : va_A (xC T ad sc M) s.heap.size = A at hD hZ ⊢
  have hA : ∀ q : Nat, s.heap.size ≤ q → A q := fun q h => by rw [← hAe]; exact Or.inr h
  have hS : va_S A s.heap s.heap [] := va_S.rf
  have hP : va_P G vwCl (xC T ad sc M) s.heap := hP
  have hiX3 : ∀ w ∈ u_ws RX3 TX3 10, w ∈ wsX3_watcherOf := by decide +kernel
  have hl := lv_entry ([.ref (ad 0), .int x]) (n := 3) (Nat.le_of_ble_eq_true rfl)
  rw [lg_entry_eq]
  generalize (lg_sl ([.ref (ad 0), .int x]) ++ List.replicate (3 - (lg_sl ([.ref (ad 0), .int x])).length) Slot.unset).toArray = ls at hl ⊢
  have hl : lv_has ls 3 [(0, .ref (ad 0)), (1, .int x)] := hl
  refine lv_iload_n hx hb dX3_watcherOf_0 rfl (lv_at hl 1 rfl) ?_
  refine lv_if_lt (tgt := 22) hx hb dX3_watcherOf_1 (by decide) (fun c1 => ?_) (fun c1 => ?_)
  · refine lv_null hx hb dX3_watcherOf_22 ?_
    refine lv_astore_nN (lv' := [(2, .null), (0, .ref (ad 0)), (1, .int x)]) hx hb dX3_watcherOf_23 rfl hl (by decide) rfl (fun ls hl => ?_)
    refine lv_aload_nN hx hb dX3_watcherOf_24 rfl (lv_at hl 0 rfl) ?_
    refine lv_ifnonnullN hx hb dX3_watcherOf_25 ?_
    exact x_throw (cls := "java/lang/IndexOutOfBoundsException") (text := "no such watcher") (ik := 116) (is := 188) (ic := 120) hx hb hsl hown hts (by decide +kernel) (by decide +kernel) (by decide +kernel) (by decide +kernel) (by decide +kernel) (by decide +kernel) (by decide +kernel) hXB hZ hS (hl.1.trans hml.symm) hx0 hlocks dX3_watcherOf_28 dX3_watcherOf_31 dX3_watcherOf_32 dX3_watcherOf_34 dX3_watcherOf_37 (Nat.le_of_ble_eq_true rfl) (Nat.le_of_ble_eq_true rfl) (Nat.le_of_ble_eq_true rfl) (Nat.le_of_ble_eq_true rfl) (Nat.le_of_ble_eq_true rfl) (Nat.le_of_ble_eq_true rfl) (⟨xvb_lt c1, rfl⟩) hP
  · refine lv_iload_n hx hb dX3_watcherOf_4 rfl (lv_at hl 1 rfl) ?_
    refine lv_aload_n hx hb dX3_watcherOf_5 rfl (lv_at hl 0 rfl) ?_
    refine va_get (D := G) (ci := 3) (v := .ref (ad 7)) (C := RX3) (T := TX3) (N := 10) hx hb hts hiX3 hown hK hP 0 rfl rfl 2 (by decide) (hts (.fieldLink RX3 21 "CardFans" "watchers" "[LCardFans$Watcher;") (by decide +kernel)) (fun _ h9 => h9) rfl dX3_watcherOf_6 ?_
    refine va_alen hx hb hK hP 7 2 rfl rfl (v := nI 4) rfl dX3_watcherOf_9 ?_
    refine lv_icmp_ge (tgt := 22) hx hb dX3_watcherOf_10 (by decide) (fun c2 => ?_) (fun c2 => ?_)
    · refine lv_null hx hb dX3_watcherOf_22 ?_
      refine lv_astore_nN (lv' := [(2, .null), (0, .ref (ad 0)), (1, .int x)]) hx hb dX3_watcherOf_23 rfl hl (by decide) rfl (fun ls hl => ?_)
      refine lv_aload_nN hx hb dX3_watcherOf_24 rfl (lv_at hl 0 rfl) ?_
      refine lv_ifnonnullN hx hb dX3_watcherOf_25 ?_
      exact x_throw (cls := "java/lang/IndexOutOfBoundsException") (text := "no such watcher") (ik := 116) (is := 188) (ic := 120) hx hb hsl hown hts (by decide +kernel) (by decide +kernel) (by decide +kernel) (by decide +kernel) (by decide +kernel) (by decide +kernel) (by decide +kernel) hXB hZ hS (hl.1.trans hml.symm) hx0 hlocks dX3_watcherOf_28 dX3_watcherOf_31 dX3_watcherOf_32 dX3_watcherOf_34 dX3_watcherOf_37 (Nat.le_of_ble_eq_true rfl) (Nat.le_of_ble_eq_true rfl) (Nat.le_of_ble_eq_true rfl) (Nat.le_of_ble_eq_true rfl) (Nat.le_of_ble_eq_true rfl) (Nat.le_of_ble_eq_true rfl) (⟨xvb_ge (Int32.le_trans (nI_le hn4 (by decide)) c2), rfl⟩) hP
    · refine lv_aload_n hx hb dX3_watcherOf_13 rfl (lv_at hl 0 rfl) ?_
      refine va_get (D := G) (ci := 3) (v := .ref (ad 7)) (C := RX3) (T := TX3) (N := 10) hx hb hts hiX3 hown hK hP 0 rfl rfl 2 (by decide) (hts (.fieldLink RX3 21 "CardFans" "watchers" "[LCardFans$Watcher;") (by decide +kernel)) (fun _ h9 => h9) rfl dX3_watcherOf_14 ?_
      refine lv_iload_n hx hb dX3_watcherOf_17 rfl (lv_at hl 1 rfl) ?_
      have hv4 : xvb 4 x = true := xvb_in c1 c2
      obtain ⟨k, hk, rfl⟩ := (xvb_iff (n := 4) (by decide)).mp (hv4)
      by_cases hkn : k < mnw M
      · refine x_aald hx hb hK hP 7 2 rfl rfl hk (by decide) dX3_watcherOf_18 (v := .ref (ad (9 + 4 * k))) (by show va_rf (if k < mnw M then _ else _) = _; rw [if_pos hkn]; rfl) ?_
        refine lv_goto (tgt := 23) hx hb dX3_watcherOf_19 (by decide) ?_
        refine lv_astore_n (lv' := [(2, .ref (ad (9 + 4 * k))), (0, .ref (ad 0)), (1, .int (nI k))]) hx hb dX3_watcherOf_23 rfl hl (by decide) rfl (fun ls hl => ?_)
        refine lv_aload_n hx hb dX3_watcherOf_24 rfl (lv_at hl 0 rfl) ?_
        refine lv_ifnonnull (tgt := 38) hx hb dX3_watcherOf_25 (by decide) ?_
        refine lv_aload_n hx hb dX3_watcherOf_38 rfl (lv_at hl 0 rfl) ?_
        refine vx_ret ?_
        refine W.widen (k := 1) (n := 6) (by omega) (by omega) ?_
        exact W.aret (v := .ref (ad (9 + 4 * k))) hx hb hr (Or.inl ⟨_, rfl⟩) (Or.inr ⟨_, rfl⟩) (fun t9_ ht hW => ⟨⟨some (ad (9 + 4 * k)), (), rfl, ⟨xvb_k hkn (by omega), by rw [xka_n (by omega)]⟩, x_at ht hP⟩, hS.F ht⟩) hS.2.2 dX3_watcherOf_39
      · refine x_aald hx hb hK hP 7 2 rfl rfl hk (by decide) dX3_watcherOf_18 (v := .null) (by show va_rf (if k < mnw M then _ else _) = _; rw [if_neg hkn]; rfl) ?_
        refine lv_goto (tgt := 23) hx hb dX3_watcherOf_19 (by decide) ?_
        refine lv_astore_nN (lv' := [(2, .null), (0, .ref (ad 0)), (1, .int (nI k))]) hx hb dX3_watcherOf_23 rfl hl (by decide) rfl (fun ls hl => ?_)
        refine lv_aload_nN hx hb dX3_watcherOf_24 rfl (lv_at hl 0 rfl) ?_
        refine lv_ifnonnullN hx hb dX3_watcherOf_25 ?_
        exact x_throw (cls := "java/lang/IndexOutOfBoundsException") (text := "no such watcher") (ik := 116) (is := 188) (ic := 120) hx hb hsl hown hts (by decide +kernel) (by decide +kernel) (by decide +kernel) (by decide +kernel) (by decide +kernel) (by decide +kernel) (by decide +kernel) hXB hZ hS (hl.1.trans hml.symm) hx0 hlocks dX3_watcherOf_28 dX3_watcherOf_31 dX3_watcherOf_32 dX3_watcherOf_34 dX3_watcherOf_37 (Nat.le_of_ble_eq_true rfl) (Nat.le_of_ble_eq_true rfl) (Nat.le_of_ble_eq_true rfl) (Nat.le_of_ble_eq_true rfl) (Nat.le_of_ble_eq_true rfl) (Nat.le_of_ble_eq_true rfl) (⟨xvb_ge (nI_le (by omega) (by omega)), rfl⟩) hP

set_option maxHeartbeats 4000000 in
set_option maxRecDepth 100000 in
/-- X3_playerOf -/
theorem c_X3_playerOf (l : Launch) (hsl : l.stackTraces = false) (G : va_G) (T : Nat → ClassId) (sz : Nat) (ad : Nat → Nat) (sc : Nat → Nat → Int32) (M : XM) (x : Int32) (hn4 : mnp M ≤ 4) : vx_Met l yX3_playerOf wsX3_playerOf ({ frames := 6, cells := 1, slots := 6, locals := 82 }) (va_Pc [.ref (ad 0), .int x] (xPre G T (xC T ad sc M) sz)) (va_Qq (fun (r : Option Nat) (u : Unit) => xvb (mnp M) x = true ∧ r = some (ad (xka x + 25))) (fun u t => va_P G vwCl (xC T ad sc M) t.heap) (va_A (xC T ad sc M) sz)) (vx_X (fun _ : Unit => True) (fun E _ t => (fun E => xvb (mnp M) x = false ∧ E = "java/lang/IndexOutOfBoundsException") E ∧ va_P G vwCl (xC T ad sc M) t.heap) (va_A (xC T ad sc M) sz)) 1 6 (va_A (xC T ad sc M) sz) := by
  refine vx_ofW (cc := cX3_playerOf) (maxL := 3) (ret := (some (.object "CardFans$Player"))) (by decide) rfl ?_
  intro p e s m args below meth c s₁ B hml hx0 hv
  obtain ⟨rfl, hsz, hP, hK, hD0, hXB, hZ⟩ := hv
  have hx := B.exec
  have hb := B.bytes
  have hr := B.returns
  have hts := atoms_spec (ws := wsX3_playerOf) B.pre
  have hown : s.vm.findClass RX3 = some m.cls := findClass_of_methodNamed B.named
  have hlocks := B.notSynchronized
  subst hsz
  have hD := hD0.self (sz := s.heap.size)
  generalize hAe : va_A (xC T ad sc M) s.heap.size = A at hD hZ ⊢
  have hA : ∀ q : Nat, s.heap.size ≤ q → A q := fun q h => by rw [← hAe]; exact Or.inr h
  have hS : va_S A s.heap s.heap [] := va_S.rf
  have hP : va_P G vwCl (xC T ad sc M) s.heap := hP
  have hiX3 : ∀ w ∈ u_ws RX3 TX3 10, w ∈ wsX3_playerOf := by decide +kernel
  have hl := lv_entry ([.ref (ad 0), .int x]) (n := 3) (Nat.le_of_ble_eq_true rfl)
  rw [lg_entry_eq]
  generalize (lg_sl ([.ref (ad 0), .int x]) ++ List.replicate (3 - (lg_sl ([.ref (ad 0), .int x])).length) Slot.unset).toArray = ls at hl ⊢
  have hl : lv_has ls 3 [(0, .ref (ad 0)), (1, .int x)] := hl
  refine lv_iload_n hx hb dX3_playerOf_0 rfl (lv_at hl 1 rfl) ?_
  refine lv_if_lt (tgt := 22) hx hb dX3_playerOf_1 (by decide) (fun c1 => ?_) (fun c1 => ?_)
  · refine lv_null hx hb dX3_playerOf_22 ?_
    refine lv_astore_nN (lv' := [(2, .null), (0, .ref (ad 0)), (1, .int x)]) hx hb dX3_playerOf_23 rfl hl (by decide) rfl (fun ls hl => ?_)
    refine lv_aload_nN hx hb dX3_playerOf_24 rfl (lv_at hl 0 rfl) ?_
    refine lv_ifnonnullN hx hb dX3_playerOf_25 ?_
    exact x_throw (cls := "java/lang/IndexOutOfBoundsException") (text := "no such player") (ik := 116) (is := 190) (ic := 120) hx hb hsl hown hts (by decide +kernel) (by decide +kernel) (by decide +kernel) (by decide +kernel) (by decide +kernel) (by decide +kernel) (by decide +kernel) hXB hZ hS (hl.1.trans hml.symm) hx0 hlocks dX3_playerOf_28 dX3_playerOf_31 dX3_playerOf_32 dX3_playerOf_34 dX3_playerOf_37 (Nat.le_of_ble_eq_true rfl) (Nat.le_of_ble_eq_true rfl) (Nat.le_of_ble_eq_true rfl) (Nat.le_of_ble_eq_true rfl) (Nat.le_of_ble_eq_true rfl) (Nat.le_of_ble_eq_true rfl) (⟨xvb_lt c1, rfl⟩) hP
  · refine lv_iload_n hx hb dX3_playerOf_4 rfl (lv_at hl 1 rfl) ?_
    refine lv_aload_n hx hb dX3_playerOf_5 rfl (lv_at hl 0 rfl) ?_
    refine va_get (D := G) (ci := 3) (v := .ref (ad 8)) (C := RX3) (T := TX3) (N := 10) hx hb hts hiX3 hown hK hP 0 rfl rfl 3 (by decide) (hts (.fieldLink RX3 27 "CardFans" "players" "[LCardFans$Player;") (by decide +kernel)) (fun _ h9 => h9) rfl dX3_playerOf_6 ?_
    refine va_alen hx hb hK hP 8 1 rfl rfl (v := nI 4) rfl dX3_playerOf_9 ?_
    refine lv_icmp_ge (tgt := 22) hx hb dX3_playerOf_10 (by decide) (fun c2 => ?_) (fun c2 => ?_)
    · refine lv_null hx hb dX3_playerOf_22 ?_
      refine lv_astore_nN (lv' := [(2, .null), (0, .ref (ad 0)), (1, .int x)]) hx hb dX3_playerOf_23 rfl hl (by decide) rfl (fun ls hl => ?_)
      refine lv_aload_nN hx hb dX3_playerOf_24 rfl (lv_at hl 0 rfl) ?_
      refine lv_ifnonnullN hx hb dX3_playerOf_25 ?_
      exact x_throw (cls := "java/lang/IndexOutOfBoundsException") (text := "no such player") (ik := 116) (is := 190) (ic := 120) hx hb hsl hown hts (by decide +kernel) (by decide +kernel) (by decide +kernel) (by decide +kernel) (by decide +kernel) (by decide +kernel) (by decide +kernel) hXB hZ hS (hl.1.trans hml.symm) hx0 hlocks dX3_playerOf_28 dX3_playerOf_31 dX3_playerOf_32 dX3_playerOf_34 dX3_playerOf_37 (Nat.le_of_ble_eq_true rfl) (Nat.le_of_ble_eq_true rfl) (Nat.le_of_ble_eq_true rfl) (Nat.le_of_ble_eq_true rfl) (Nat.le_of_ble_eq_true rfl) (Nat.le_of_ble_eq_true rfl) (⟨xvb_ge (Int32.le_trans (nI_le hn4 (by decide)) c2), rfl⟩) hP
    · refine lv_aload_n hx hb dX3_playerOf_13 rfl (lv_at hl 0 rfl) ?_
      refine va_get (D := G) (ci := 3) (v := .ref (ad 8)) (C := RX3) (T := TX3) (N := 10) hx hb hts hiX3 hown hK hP 0 rfl rfl 3 (by decide) (hts (.fieldLink RX3 27 "CardFans" "players" "[LCardFans$Player;") (by decide +kernel)) (fun _ h9 => h9) rfl dX3_playerOf_14 ?_
      refine lv_iload_n hx hb dX3_playerOf_17 rfl (lv_at hl 1 rfl) ?_
      have hv4 : xvb 4 x = true := xvb_in c1 c2
      obtain ⟨k, hk, rfl⟩ := (xvb_iff (n := 4) (by decide)).mp (hv4)
      by_cases hkn : k < mnp M
      · refine x_aald hx hb hK hP 8 1 rfl rfl hk (by decide) dX3_playerOf_18 (v := .ref (ad (k + 25))) (by show va_rf (if k < mnp M then _ else _) = _; rw [if_pos hkn]; rfl) ?_
        refine lv_goto (tgt := 23) hx hb dX3_playerOf_19 (by decide) ?_
        refine lv_astore_n (lv' := [(2, .ref (ad (k + 25))), (0, .ref (ad 0)), (1, .int (nI k))]) hx hb dX3_playerOf_23 rfl hl (by decide) rfl (fun ls hl => ?_)
        refine lv_aload_n hx hb dX3_playerOf_24 rfl (lv_at hl 0 rfl) ?_
        refine lv_ifnonnull (tgt := 38) hx hb dX3_playerOf_25 (by decide) ?_
        refine lv_aload_n hx hb dX3_playerOf_38 rfl (lv_at hl 0 rfl) ?_
        refine vx_ret ?_
        refine W.widen (k := 1) (n := 6) (by omega) (by omega) ?_
        exact W.aret (v := .ref (ad (k + 25))) hx hb hr (Or.inl ⟨_, rfl⟩) (Or.inr ⟨_, rfl⟩) (fun t9_ ht hW => ⟨⟨some (ad (k + 25)), (), rfl, ⟨xvb_k hkn (by omega), by rw [xka_n (by omega)]⟩, x_at ht hP⟩, hS.F ht⟩) hS.2.2 dX3_playerOf_39
      · refine x_aald hx hb hK hP 8 1 rfl rfl hk (by decide) dX3_playerOf_18 (v := .null) (by show va_rf (if k < mnp M then _ else _) = _; rw [if_neg hkn]; rfl) ?_
        refine lv_goto (tgt := 23) hx hb dX3_playerOf_19 (by decide) ?_
        refine lv_astore_nN (lv' := [(2, .null), (0, .ref (ad 0)), (1, .int (nI k))]) hx hb dX3_playerOf_23 rfl hl (by decide) rfl (fun ls hl => ?_)
        refine lv_aload_nN hx hb dX3_playerOf_24 rfl (lv_at hl 0 rfl) ?_
        refine lv_ifnonnullN hx hb dX3_playerOf_25 ?_
        exact x_throw (cls := "java/lang/IndexOutOfBoundsException") (text := "no such player") (ik := 116) (is := 190) (ic := 120) hx hb hsl hown hts (by decide +kernel) (by decide +kernel) (by decide +kernel) (by decide +kernel) (by decide +kernel) (by decide +kernel) (by decide +kernel) hXB hZ hS (hl.1.trans hml.symm) hx0 hlocks dX3_playerOf_28 dX3_playerOf_31 dX3_playerOf_32 dX3_playerOf_34 dX3_playerOf_37 (Nat.le_of_ble_eq_true rfl) (Nat.le_of_ble_eq_true rfl) (Nat.le_of_ble_eq_true rfl) (Nat.le_of_ble_eq_true rfl) (Nat.le_of_ble_eq_true rfl) (Nat.le_of_ble_eq_true rfl) (⟨xvb_ge (nI_le (by omega) (by omega)), rfl⟩) hP
end XF1
