section XR1
/-- the cells of the reference -/
def xD (T : Nat → ClassId) (bd : Nat → Nat) (thr : Int32) (M : XM) : va_W := [(bd 0, .inr (4, [.int thr, .ref (bd 1), .int (nI (mnw M)), .ref (bd 2), .ref (bd 3), .ref (bd 4), .ref (bd 5), .int (nI (mnp M)), .ref (bd 6), .ref (bd 7), .int (mle M), .int (mwy M), .int (mfc M), .int (nI (mta M))])), (bd 1, .inl (T 0, 16, .inl (mpk M))), (bd 2, .inl (T 0, 4, .inl (msh M))), (bd 3, .inl (T 3, 4, .inr (.inr (.inr (.inr (fun j => if j < 4 then some (bd (8 + j)) else none)))))), (bd 4, .inl (T 0, 4, .inl (man M))), (bd 5, .inl (T 0, 4, .inl (mgl M))), (bd 6, .inl (T 0, 4, .inl (mhb M))), (bd 7, .inl (T 0, 4, .inl (mtk M))), (bd 8, .inl (T 0, 16, .inl (mth M 0))), (bd 9, .inl (T 0, 16, .inl (mth M 1))), (bd 10, .inl (T 0, 16, .inl (mth M 2))), (bd 11, .inl (T 0, 16, .inl (mth M 3)))]
theorem xD_row (T : Nat → ClassId) (bd : Nat → Nat) (thr : Int32) (M : XM) {k : Nat} (hk : k < 4) : (xD T bd thr M)[8 + k]? = some (bd (8 + k), .inl (T 0, 16, .inl (mth M k))) := by
  rcases (show k = 0 ∨ k = 1 ∨ k = 2 ∨ k = 3 by omega) with rfl | rfl | rfl | rfl <;> rfl
abbrev xMr (M : XM) (k : Nat) (f : Nat → Int32) : XM := xmk (mpk M) (va_up (mth M) k f) (msh M) (man M) (mgl M) (mhb M) (mtk M) (mnw M) (mnp M) (mle M) (mwy M) (mfc M) (mta M)
theorem xD_set (T : Nat → ClassId) (bd : Nat → Nat) (thr : Int32) (M : XM) {k : Nat} (hk : k < 4) (f : Nat → Int32) : (xD T bd thr M).set (8 + k) (bd (8 + k), .inl (T 0, 16, .inl f)) = xD T bd thr (xMr M k f) := by
  rcases (show k = 0 ∨ k = 1 ∨ k = 2 ∨ k = 3 by omega) with rfl | rfl | rfl | rfl <;> rfl
theorem xD_ris (T : Nat → ClassId) (bd : Nat → Nat) (thr : Int32) (M : XM) {k : Nat} (hk : k < 4) : [8 + k].map (fun i => (xD T bd thr M)[i]?) = ([(bd (8 + k), .inl (T 0, 16, .inl (mth M k)))] : va_W).map some := by
  simp only [List.map_cons, List.map_nil, xD_row T bd thr M hk]
theorem xD_rrep (T : Nat → ClassId) (bd : Nat → Nat) (thr : Int32) (M : XM) {k : Nat} (hk : k < 4) (f : Nat → Int32) : xrep (xD T bd thr M) [8 + k] [(bd (8 + k), .inl (T 0, 16, .inl f))] = xD T bd thr (xMr M k f) := xD_set T bd thr M hk f
theorem xin_n {n : Nat} (hn : n < 2 ^ 30) (x : Int32) : (decide (nI 0 ≤ x) && decide (x ≤ nI n - nI 1)) = xvb n x := by
  unfold xvb
  have e1 : (decide (x ≤ nI n - nI 1)) = decide (x < nI n) := by
    apply decide_eq_decide.mpr
    rw [xIle, xIlt, pk_sub_toInt hn (by decide), nI_toInt (by omega)]
    omega
  rw [e1]
  rfl
theorem xfitI (cA : ClassId) (n : Nat) (f : Nat → Int32) (i : Nat) (v : Value) (h : (vp_cell cA (n, .inl f)).slots[i]? = some v) : fits .int v = true := by
  rw [vp_cell_i] at h
  unfold arrV at h
  simp only [Array.getElem?_ofFn] at h
  split at h
  · cases h; rfl
  · cases h

set_option maxHeartbeats 4000000 in
set_option maxRecDepth 100000 in
/-- isIn -/
theorem c_X4_isIn (l : Launch) (G : va_G) (T : Nat → ClassId) (sz : Nat) (v a b : Int32) : Met l yX4_isIn wsX4_isIn ({ frames := 0, cells := 0, slots := 0, locals := 0 }) (va_Pc [.int v, .int a, .int b] (xPre G T ([]) sz)) (va_Qi (fun (r : Int32) (u : Unit) => r = xb (decide (a ≤ v) && decide (v ≤ b))) (fun u t => va_P G vwCl ([]) t.heap) (va_A ([]) sz)) 0 0 (va_A ([]) sz) := by
  refine Met.ofW (cc := cX4_isIn) (maxL := 3) (ret := (some .boolean)) (by decide +kernel) rfl ?_
  intro p e s m args below meth c s₁ B hml hv
  obtain ⟨rfl, hsz, hP, hK, hD0, hXB, hZ⟩ := hv
  have hx := B.exec
  have hb := B.bytes
  have hr := B.returns
  have hts := atoms_spec (ws := wsX4_isIn) B.pre
  have hown : s.vm.findClass RX4 = some m.cls := findClass_of_methodNamed B.named
  have hlocks := B.notSynchronized
  subst hsz
  have hD := hD0.self (sz := s.heap.size)
  generalize hAe : va_A ([]) s.heap.size = A at hD hZ ⊢
  have hA : ∀ q : Nat, s.heap.size ≤ q → A q := fun q h => by rw [← hAe]; exact Or.inr h
  have hS : va_S A s.heap s.heap [] := va_S.rf
  have hP : va_P G vwCl ([]) s.heap := hP
  have hl := lv_entry ([.int v, .int a, .int b]) (n := 3) (Nat.le_of_ble_eq_true rfl)
  rw [lg_entry_eq]
  generalize (lg_sl ([.int v, .int a, .int b]) ++ List.replicate (3 - (lg_sl ([.int v, .int a, .int b])).length) Slot.unset).toArray = ls at hl ⊢
  have hl : lv_has ls 3 [(0, .int v), (1, .int a), (2, .int b)] := hl
  refine lv_iload_n hx hb dX4_isIn_0 rfl (lv_at hl 0 rfl) ?_
  refine lv_iload_n hx hb dX4_isIn_1 rfl (lv_at hl 1 rfl) ?_
  refine lv_icmp_lt (tgt := 14) hx hb dX4_isIn_2 (by decide) (fun c1 => ?_) (fun c1 => ?_)
  · refine lv_iconst (v := nI 0) hx hb dX4_isIn_14 (by decide) ?_
    exact W.zret (v := nI 0) hx hb hr rfl (fun t9_ ht hW => ⟨⟨nI 0, (), rfl, by rw [decide_eq_false (p := a ≤ v) (by rw [xIle]; rw [xIlt] at c1; omega), Bool.false_and]; rfl, x_at ht hP⟩, hS.F ht⟩) hS.2.2 dX4_isIn_15
  · refine lv_iload_n hx hb dX4_isIn_5 rfl (lv_at hl 0 rfl) ?_
    refine lv_iload_n hx hb dX4_isIn_6 rfl (lv_at hl 2 rfl) ?_
    refine lv_icmp_gt (tgt := 14) hx hb dX4_isIn_7 (by decide) (fun c2 => ?_) (fun c2 => ?_)
    · refine lv_iconst (v := nI 0) hx hb dX4_isIn_14 (by decide) ?_
      exact W.zret (v := nI 0) hx hb hr rfl (fun t9_ ht hW => ⟨⟨nI 0, (), rfl, by rw [decide_eq_false (p := v ≤ b) (by rw [xIle]; rw [xIlt] at c2; omega), Bool.and_false]; rfl, x_at ht hP⟩, hS.F ht⟩) hS.2.2 dX4_isIn_15
    · refine lv_iconst (v := nI 1) hx hb dX4_isIn_10 (by decide) ?_
      refine lv_goto (tgt := 15) hx hb dX4_isIn_11 (by decide) ?_
      exact W.zret (v := nI 1) hx hb hr rfl (fun t9_ ht hW => ⟨⟨nI 1, (), rfl, by rw [decide_eq_true (p := a ≤ v) (by rw [xIle]; rw [xIlt] at c1; omega), decide_eq_true (p := v ≤ b) (by rw [xIle]; rw [xIlt] at c2; omega)]; rfl, x_at ht hP⟩, hS.F ht⟩) hS.2.2 dX4_isIn_15

set_option maxHeartbeats 4000000 in
set_option maxRecDepth 100000 in
/-- isPlace -/
theorem c_X4_isPlace (l : Launch) (G : va_G) (T : Nat → ClassId) (sz : Nat) (x : Int32) : Met l yX4_isPlace wsX4_isPlace ({ frames := 1, cells := 0, slots := 0, locals := 22 }) (va_Pc [.int x] (xPre G T ([]) sz)) (va_Qi (fun (r : Int32) (u : Unit) => r = xb (xvb 16 x)) (fun u t => va_P G vwCl ([]) t.heap) (va_A ([]) sz)) 0 0 (va_A ([]) sz) := by
  refine Met.ofW (cc := cX4_isPlace) (maxL := 1) (ret := (some .boolean)) (by decide +kernel) rfl ?_
  intro p e s m args below meth c s₁ B hml hv
  obtain ⟨rfl, hsz, hP, hK, hD0, hXB, hZ⟩ := hv
  have hx := B.exec
  have hb := B.bytes
  have hr := B.returns
  have hts := atoms_spec (ws := wsX4_isPlace) B.pre
  have hown : s.vm.findClass RX4 = some m.cls := findClass_of_methodNamed B.named
  have hlocks := B.notSynchronized
  subst hsz
  have hD := hD0.self (sz := s.heap.size)
  generalize hAe : va_A ([]) s.heap.size = A at hD hZ ⊢
  have hA : ∀ q : Nat, s.heap.size ≤ q → A q := fun q h => by rw [← hAe]; exact Or.inr h
  have hS : va_S A s.heap s.heap [] := va_S.rf
  have hP : va_P G vwCl ([]) s.heap := hP
  have hl := lv_entry ([.int x]) (n := 1) (Nat.le_of_ble_eq_true rfl)
  rw [lg_entry_eq]
  generalize (lg_sl ([.int x]) ++ List.replicate (1 - (lg_sl ([.int x])).length) Slot.unset).toArray = ls at hl ⊢
  have hl : lv_has ls 1 [(0, .int x)] := hl
  refine lv_iload_n hx hb dX4_isPlace_0 rfl (lv_at hl 0 rfl) ?_
  refine lv_iconst (v := nI 0) hx hb dX4_isPlace_1 (by decide) ?_
  refine lv_bipush (v := nI 15) hx hb dX4_isPlace_2 (by decide) ?_
  refine x_calli (va_runS (As := [.int x, .int (nI 0), .int (nI 15)]) (rest := []) ⟨hx, hb, hml, hown, hts⟩ (c_X4_isIn l G T _ x (nI 0) (nI 15)) (va_cwS 3 hts gX4_isPlace_X4_isIn rfl rfl rfl (by decide +kernel) ⟨Nat.le_of_ble_eq_true rfl, Nat.le_of_ble_eq_true rfl⟩) (x_preS (wc := []) hK hP hD hS hA hXB hZ [] rfl rfl _) rfl rfl hl.1 rfl (lv_room (Nat.le_of_ble_eq_true rfl)) dX4_isPlace_4 ⟨Nat.le_of_ble_eq_true rfl, Nat.le_of_ble_eq_true rfl⟩) hP hD hS hA [] rfl (fun _ _ _ => rfl) (fun r1 u H locs hw1 hP hD hS => ?_)
  have hP : va_P G vwCl ([]) H := hP
  have hD : va_D A ([]) := hD
  refine x_topi (y := xb (xvb 16 x)) (by rw [hw1, show nI 15 = nI 16 - nI 1 from by decide, xin_n (by decide)]) ?_
  exact W.zret (v := xb (xvb 16 x)) hx hb hr (xb_nar _) (fun t9_ ht hW => ⟨⟨xb (xvb 16 x), (), rfl, rfl, x_at ht hP⟩, hS.F ht⟩) hS.2.2 dX4_isPlace_7

set_option maxHeartbeats 4000000 in
set_option maxRecDepth 100000 in
/-- X4_isWatcher -/
theorem c_X4_isWatcher (l : Launch) (G : va_G) (T : Nat → ClassId) (sz : Nat) (bd : Nat → Nat) (thr : Int32) (M : XM) (x : Int32) (h4 : mnw M ≤ 4) : Met l yX4_isWatcher wsX4_isWatcher ({ frames := 1, cells := 0, slots := 0, locals := 22 }) (va_Pc [.ref (bd 0), .int x] (xPre G T (xD T bd thr M) sz)) (va_Qi (fun (r : Int32) (u : Unit) => r = xb (xvb (mnw M) x)) (fun u t => va_P G vwCl (xD T bd thr M) t.heap) (va_A (xD T bd thr M) sz)) 0 0 (va_A (xD T bd thr M) sz) := by
  refine Met.ofW (cc := cX4_isWatcher) (maxL := 2) (ret := (some .boolean)) (by decide +kernel) rfl ?_
  intro p e s m args below meth c s₁ B hml hv
  obtain ⟨rfl, hsz, hP, hK, hD0, hXB, hZ⟩ := hv
  have hx := B.exec
  have hb := B.bytes
  have hr := B.returns
  have hts := atoms_spec (ws := wsX4_isWatcher) B.pre
  have hown : s.vm.findClass RX4 = some m.cls := findClass_of_methodNamed B.named
  have hlocks := B.notSynchronized
  subst hsz
  have hD := hD0.self (sz := s.heap.size)
  generalize hAe : va_A (xD T bd thr M) s.heap.size = A at hD hZ ⊢
  have hA : ∀ q : Nat, s.heap.size ≤ q → A q := fun q h => by rw [← hAe]; exact Or.inr h
  have hS : va_S A s.heap s.heap [] := va_S.rf
  have hP : va_P G vwCl (xD T bd thr M) s.heap := hP
  have hiX4 : ∀ w ∈ u_ws RX4 TX4 14, w ∈ wsX4_isWatcher := by decide +kernel
  have hl := lv_entry ([.ref (bd 0), .int x]) (n := 2) (Nat.le_of_ble_eq_true rfl)
  rw [lg_entry_eq]
  generalize (lg_sl ([.ref (bd 0), .int x]) ++ List.replicate (2 - (lg_sl ([.ref (bd 0), .int x])).length) Slot.unset).toArray = ls at hl ⊢
  have hl : lv_has ls 2 [(0, .ref (bd 0)), (1, .int x)] := hl
  refine lv_iload_n hx hb dX4_isWatcher_0 rfl (lv_at hl 1 rfl) ?_
  refine lv_iconst (v := nI 0) hx hb dX4_isWatcher_1 (by decide) ?_
  refine lv_aload_n hx hb dX4_isWatcher_2 rfl (lv_at hl 0 rfl) ?_
  refine va_get (D := G) (ci := 4) (v := .int (nI (mnw M))) (C := RX4) (T := TX4) (N := 14) hx hb hts hiX4 hown hK hP 0 rfl rfl 2 (by decide) (hts (.fieldLink RX4 41 "CardFansModel" "watchers" "I") (by decide +kernel)) (fun _ h9 => h9) rfl dX4_isWatcher_3 ?_
  refine lv_iconst (v := nI 1) hx hb dX4_isWatcher_6 (by decide) ?_
  refine lv_isub hx hb dX4_isWatcher_7 ?_
  refine x_calli (va_runS (As := [.int x, .int (nI 0), .int (nI (mnw M) - nI 1)]) (rest := []) ⟨hx, hb, hml, hown, hts⟩ (c_X4_isIn l G T _ x (nI 0) (nI (mnw M) - nI 1)) (va_cwS 3 hts gX4_isWatcher_X4_isIn rfl rfl rfl (by decide +kernel) ⟨Nat.le_of_ble_eq_true rfl, Nat.le_of_ble_eq_true rfl⟩) (x_preS (wc := []) hK hP hD hS hA hXB hZ [] rfl rfl _) rfl rfl hl.1 rfl (lv_room (Nat.le_of_ble_eq_true rfl)) dX4_isWatcher_8 ⟨Nat.le_of_ble_eq_true rfl, Nat.le_of_ble_eq_true rfl⟩) hP hD hS hA [] rfl (fun _ _ _ => rfl) (fun r1 u H locs hw1 hP hD hS => ?_)
  have hP : va_P G vwCl (xD T bd thr M) H := hP
  have hD : va_D A (xD T bd thr M) := hD
  refine x_topi (y := xb (xvb (mnw M) x)) (by rw [hw1, xin_n (by omega)]) ?_
  exact W.zret (v := xb (xvb (mnw M) x)) hx hb hr (xb_nar _) (fun t9_ ht hW => ⟨⟨xb (xvb (mnw M) x), (), rfl, rfl, x_at ht hP⟩, hS.F ht⟩) hS.2.2 dX4_isWatcher_11

set_option maxHeartbeats 4000000 in
set_option maxRecDepth 100000 in
/-- X4_isPlayer -/
theorem c_X4_isPlayer (l : Launch) (G : va_G) (T : Nat → ClassId) (sz : Nat) (bd : Nat → Nat) (thr : Int32) (M : XM) (x : Int32) (h4 : mnp M ≤ 4) : Met l yX4_isPlayer wsX4_isPlayer ({ frames := 1, cells := 0, slots := 0, locals := 22 }) (va_Pc [.ref (bd 0), .int x] (xPre G T (xD T bd thr M) sz)) (va_Qi (fun (r : Int32) (u : Unit) => r = xb (xvb (mnp M) x)) (fun u t => va_P G vwCl (xD T bd thr M) t.heap) (va_A (xD T bd thr M) sz)) 0 0 (va_A (xD T bd thr M) sz) := by
  refine Met.ofW (cc := cX4_isPlayer) (maxL := 2) (ret := (some .boolean)) (by decide +kernel) rfl ?_
  intro p e s m args below meth c s₁ B hml hv
  obtain ⟨rfl, hsz, hP, hK, hD0, hXB, hZ⟩ := hv
  have hx := B.exec
  have hb := B.bytes
  have hr := B.returns
  have hts := atoms_spec (ws := wsX4_isPlayer) B.pre
  have hown : s.vm.findClass RX4 = some m.cls := findClass_of_methodNamed B.named
  have hlocks := B.notSynchronized
  subst hsz
  have hD := hD0.self (sz := s.heap.size)
  generalize hAe : va_A (xD T bd thr M) s.heap.size = A at hD hZ ⊢
  have hA : ∀ q : Nat, s.heap.size ≤ q → A q := fun q h => by rw [← hAe]; exact Or.inr h
  have hS : va_S A s.heap s.heap [] := va_S.rf
  have hP : va_P G vwCl (xD T bd thr M) s.heap := hP
  have hiX4 : ∀ w ∈ u_ws RX4 TX4 14, w ∈ wsX4_isPlayer := by decide +kernel
  have hl := lv_entry ([.ref (bd 0), .int x]) (n := 2) (Nat.le_of_ble_eq_true rfl)
  rw [lg_entry_eq]
  generalize (lg_sl ([.ref (bd 0), .int x]) ++ List.replicate (2 - (lg_sl ([.ref (bd 0), .int x])).length) Slot.unset).toArray = ls at hl ⊢
  have hl : lv_has ls 2 [(0, .ref (bd 0)), (1, .int x)] := hl
  refine lv_iload_n hx hb dX4_isPlayer_0 rfl (lv_at hl 1 rfl) ?_
  refine lv_iconst (v := nI 0) hx hb dX4_isPlayer_1 (by decide) ?_
  refine lv_aload_n hx hb dX4_isPlayer_2 rfl (lv_at hl 0 rfl) ?_
  refine va_get (D := G) (ci := 4) (v := .int (nI (mnp M))) (C := RX4) (T := TX4) (N := 14) hx hb hts hiX4 hown hK hP 0 rfl rfl 7 (by decide) (hts (.fieldLink RX4 44 "CardFansModel" "players" "I") (by decide +kernel)) (fun _ h9 => h9) rfl dX4_isPlayer_3 ?_
  refine lv_iconst (v := nI 1) hx hb dX4_isPlayer_6 (by decide) ?_
  refine lv_isub hx hb dX4_isPlayer_7 ?_
  refine x_calli (va_runS (As := [.int x, .int (nI 0), .int (nI (mnp M) - nI 1)]) (rest := []) ⟨hx, hb, hml, hown, hts⟩ (c_X4_isIn l G T _ x (nI 0) (nI (mnp M) - nI 1)) (va_cwS 3 hts gX4_isPlayer_X4_isIn rfl rfl rfl (by decide +kernel) ⟨Nat.le_of_ble_eq_true rfl, Nat.le_of_ble_eq_true rfl⟩) (x_preS (wc := []) hK hP hD hS hA hXB hZ [] rfl rfl _) rfl rfl hl.1 rfl (lv_room (Nat.le_of_ble_eq_true rfl)) dX4_isPlayer_8 ⟨Nat.le_of_ble_eq_true rfl, Nat.le_of_ble_eq_true rfl⟩) hP hD hS hA [] rfl (fun _ _ _ => rfl) (fun r1 u H locs hw1 hP hD hS => ?_)
  have hP : va_P G vwCl (xD T bd thr M) H := hP
  have hD : va_D A (xD T bd thr M) := hD
  refine x_topi (y := xb (xvb (mnp M) x)) (by rw [hw1, xin_n (by omega)]) ?_
  exact W.zret (v := xb (xvb (mnp M) x)) hx hb hr (xb_nar _) (fun t9_ ht hW => ⟨⟨xb (xvb (mnp M) x), (), rfl, rfl, x_at ht hP⟩, hS.F ht⟩) hS.2.2 dX4_isPlayer_11

theorem xwm_0 (y : Int32) : (decide (nI 1 ≤ y) && decide (y ≤ nI 15)) = xwb (nI 0) y := by
  rw [xwb_0, show decide (y ≤ nI 15) = decide (y < nI 16) from decide_eq_decide.mpr (by rw [xIle, xIlt]; have e1 : (nI 15).toInt = 15 := rfl; have e2 : (nI 16).toInt = 16 := rfl; omega)]

set_option maxHeartbeats 4000000 in
set_option maxRecDepth 100000 in
/-- isWay -/
theorem c_X4_isWay (l : Launch) (G : va_G) (T : Nat → ClassId) (sz : Nat) (x y : Int32) : Met l yX4_isWay wsX4_isWay ({ frames := 1, cells := 0, slots := 0, locals := 22 }) (va_Pc [.int x, .int y] (xPre G T ([]) sz)) (va_Qi (fun (r : Int32) (u : Unit) => r = xb (xwb x y)) (fun u t => va_P G vwCl ([]) t.heap) (va_A ([]) sz)) 0 0 (va_A ([]) sz) := by
  refine Met.ofW (cc := cX4_isWay) (maxL := 2) (ret := (some .boolean)) (by decide +kernel) rfl ?_
  intro p e s m args below meth c s₁ B hml hv
  obtain ⟨rfl, hsz, hP, hK, hD0, hXB, hZ⟩ := hv
  have hx := B.exec
  have hb := B.bytes
  have hr := B.returns
  have hts := atoms_spec (ws := wsX4_isWay) B.pre
  have hown : s.vm.findClass RX4 = some m.cls := findClass_of_methodNamed B.named
  have hlocks := B.notSynchronized
  subst hsz
  have hD := hD0.self (sz := s.heap.size)
  generalize hAe : va_A ([]) s.heap.size = A at hD hZ ⊢
  have hA : ∀ q : Nat, s.heap.size ≤ q → A q := fun q h => by rw [← hAe]; exact Or.inr h
  have hS : va_S A s.heap s.heap [] := va_S.rf
  have hP : va_P G vwCl ([]) s.heap := hP
  have hl := lv_entry ([.int x, .int y]) (n := 2) (Nat.le_of_ble_eq_true rfl)
  rw [lg_entry_eq]
  generalize (lg_sl ([.int x, .int y]) ++ List.replicate (2 - (lg_sl ([.int x, .int y])).length) Slot.unset).toArray = ls at hl ⊢
  have hl : lv_has ls 2 [(0, .int x), (1, .int y)] := hl
  refine lv_iload_n hx hb dX4_isWay_0 rfl (lv_at hl 0 rfl) ?_
  by_cases h : x.toInt < 0 ∨ 4 < x.toInt
  · refine lv_if_ne (tgt := 12) hx hb dX4_isWay_1 (by decide) (fun _ => ?_) (fun c_ => absurd c_ (fun e => by subst e; exact absurd h (by decide)))
    refine lv_iload_n hx hb dX4_isWay_12 rfl (lv_at hl 0 rfl) ?_
    refine lv_iconst (v := nI 3) hx hb dX4_isWay_13 (by decide) ?_
    refine lv_icmp_ne (tgt := 25) hx hb dX4_isWay_14 (by decide) (fun _ => ?_) (fun c_ => absurd c_ (fun e => by subst e; exact absurd h (by decide)))
    refine lv_iload_n hx hb dX4_isWay_25 rfl (lv_at hl 0 rfl) ?_
    refine lv_iconst (v := nI 0) hx hb dX4_isWay_26 (by decide) ?_
    refine lv_iconst (v := nI 4) hx hb dX4_isWay_27 (by decide) ?_
    refine x_calli (va_runS (As := [.int x, .int (nI 0), .int (nI 4)]) (rest := []) ⟨hx, hb, hml, hown, hts⟩ (c_X4_isIn l G T _ x (nI 0) (nI 4)) (va_cwS 3 hts gX4_isWay_X4_isIn rfl rfl rfl (by decide +kernel) ⟨Nat.le_of_ble_eq_true rfl, Nat.le_of_ble_eq_true rfl⟩) (x_preS (wc := []) hK hP hD hS hA hXB hZ [] rfl rfl _) rfl rfl hl.1 rfl (lv_room (Nat.le_of_ble_eq_true rfl)) dX4_isWay_28 ⟨Nat.le_of_ble_eq_true rfl, Nat.le_of_ble_eq_true rfl⟩) hP hD hS hA [] rfl (fun _ _ _ => rfl) (fun r1 u H locs hw1 hP hD hS => ?_)
    have hP : va_P G vwCl ([]) H := hP
    have hD : va_D A ([]) := hD
    refine lv_if_eq (tgt := 42) hx hb dX4_isWay_31 (by decide) (fun _ => ?_) (fun c_ => absurd (by rw [hw1]; rcases h with h | h; rw [decide_eq_false (p := nI 0 ≤ x) (by rw [xIle]; have : (nI 0).toInt = 0 := rfl; omega), Bool.false_and]; decide; rw [decide_eq_false (p := x ≤ nI 4) (by rw [xIle]; have : (nI 4).toInt = 4 := rfl; omega), Bool.and_false]; decide) c_)
    refine lv_iconst (v := nI 0) hx hb dX4_isWay_42 (by decide) ?_
    exact W.zret (v := nI 0) hx hb hr rfl (fun t9_ ht hW => ⟨⟨nI 0, (), rfl, by rw [xb_f (xwb_o h)], x_at ht hP⟩, hS.F ht⟩) hS.2.2 dX4_isWay_43
  · rcases xcase5 h with rfl | rfl | rfl | rfl | rfl
    · refine lv_if_ne (tgt := 12) hx hb dX4_isWay_1 (by decide) (fun c_ => absurd (rfl) c_) (fun _ => ?_)
      refine lv_iload_n hx hb dX4_isWay_4 rfl (lv_at hl 1 rfl) ?_
      refine lv_iconst (v := nI 1) hx hb dX4_isWay_5 (by decide) ?_
      refine lv_bipush (v := nI 15) hx hb dX4_isWay_6 (by decide) ?_
      refine x_calli (va_runS (As := [.int y, .int (nI 1), .int (nI 15)]) (rest := []) ⟨hx, hb, hml, hown, hts⟩ (c_X4_isIn l G T _ y (nI 1) (nI 15)) (va_cwS 3 hts gX4_isWay_X4_isIn rfl rfl rfl (by decide +kernel) ⟨Nat.le_of_ble_eq_true rfl, Nat.le_of_ble_eq_true rfl⟩) (x_preS (wc := []) hK hP hD hS hA hXB hZ [] rfl rfl _) rfl rfl hl.1 rfl (lv_room (Nat.le_of_ble_eq_true rfl)) dX4_isWay_8 ⟨Nat.le_of_ble_eq_true rfl, Nat.le_of_ble_eq_true rfl⟩) hP hD hS hA [] rfl (fun _ _ _ => rfl) (fun r1 u H locs hw1 hP hD hS => ?_)
      have hP : va_P G vwCl ([]) H := hP
      have hD : va_D A ([]) := hD
      refine x_topi (y := xb (xwb (nI 0) y)) (by rw [hw1, xwm_0]) ?_
      exact W.zret (v := xb (xwb (nI 0) y)) hx hb hr (xb_nar _) (fun t9_ ht hW => ⟨⟨xb (xwb (nI 0) y), (), rfl, rfl, x_at ht hP⟩, hS.F ht⟩) hS.2.2 dX4_isWay_11
    · refine lv_if_ne (tgt := 12) hx hb dX4_isWay_1 (by decide) (fun _ => ?_) (fun c_ => absurd c_ (by decide))
      refine lv_iload_n hx hb dX4_isWay_12 rfl (lv_at hl 0 rfl) ?_
      refine lv_iconst (v := nI 3) hx hb dX4_isWay_13 (by decide) ?_
      refine lv_icmp_ne (tgt := 25) hx hb dX4_isWay_14 (by decide) (fun _ => ?_) (fun c_ => absurd c_ (by decide))
      refine lv_iload_n hx hb dX4_isWay_25 rfl (lv_at hl 0 rfl) ?_
      refine lv_iconst (v := nI 0) hx hb dX4_isWay_26 (by decide) ?_
      refine lv_iconst (v := nI 4) hx hb dX4_isWay_27 (by decide) ?_
      refine x_calli (va_runS (As := [.int (nI 1), .int (nI 0), .int (nI 4)]) (rest := []) ⟨hx, hb, hml, hown, hts⟩ (c_X4_isIn l G T _ (nI 1) (nI 0) (nI 4)) (va_cwS 3 hts gX4_isWay_X4_isIn rfl rfl rfl (by decide +kernel) ⟨Nat.le_of_ble_eq_true rfl, Nat.le_of_ble_eq_true rfl⟩) (x_preS (wc := []) hK hP hD hS hA hXB hZ [] rfl rfl _) rfl rfl hl.1 rfl (lv_room (Nat.le_of_ble_eq_true rfl)) dX4_isWay_28 ⟨Nat.le_of_ble_eq_true rfl, Nat.le_of_ble_eq_true rfl⟩) hP hD hS hA [] rfl (fun _ _ _ => rfl) (fun r1 u H locs hw1 hP hD hS => ?_)
      have hP : va_P G vwCl ([]) H := hP
      have hD : va_D A ([]) := hD
      refine lv_if_eq (tgt := 42) hx hb dX4_isWay_31 (by decide) (fun c_ => absurd c_ (by rw [hw1]; decide)) (fun _ => ?_)
      refine lv_iload_n hx hb dX4_isWay_34 rfl (lv_at hl 1 rfl) ?_
      refine lv_if_ne (tgt := 42) hx hb dX4_isWay_35 (by decide) (fun c1 => ?_) (fun c1 => ?_)
      · refine lv_iconst (v := nI 0) hx hb dX4_isWay_42 (by decide) ?_
        exact W.zret (v := nI 0) hx hb hr rfl (fun t9_ ht hW => ⟨⟨nI 0, (), rfl, by rw [(xwb_1 y).1, decide_eq_false c1]; rfl, x_at ht hP⟩, hS.F ht⟩) hS.2.2 dX4_isWay_43
      · refine lv_iconst (v := nI 1) hx hb dX4_isWay_38 (by decide) ?_
        refine lv_goto (tgt := 43) hx hb dX4_isWay_39 (by decide) ?_
        exact W.zret (v := nI 1) hx hb hr rfl (fun t9_ ht hW => ⟨⟨nI 1, (), rfl, by rw [(xwb_1 y).1, decide_eq_true c1]; rfl, x_at ht hP⟩, hS.F ht⟩) hS.2.2 dX4_isWay_43
    · refine lv_if_ne (tgt := 12) hx hb dX4_isWay_1 (by decide) (fun _ => ?_) (fun c_ => absurd c_ (by decide))
      refine lv_iload_n hx hb dX4_isWay_12 rfl (lv_at hl 0 rfl) ?_
      refine lv_iconst (v := nI 3) hx hb dX4_isWay_13 (by decide) ?_
      refine lv_icmp_ne (tgt := 25) hx hb dX4_isWay_14 (by decide) (fun _ => ?_) (fun c_ => absurd c_ (by decide))
      refine lv_iload_n hx hb dX4_isWay_25 rfl (lv_at hl 0 rfl) ?_
      refine lv_iconst (v := nI 0) hx hb dX4_isWay_26 (by decide) ?_
      refine lv_iconst (v := nI 4) hx hb dX4_isWay_27 (by decide) ?_
      refine x_calli (va_runS (As := [.int (nI 2), .int (nI 0), .int (nI 4)]) (rest := []) ⟨hx, hb, hml, hown, hts⟩ (c_X4_isIn l G T _ (nI 2) (nI 0) (nI 4)) (va_cwS 3 hts gX4_isWay_X4_isIn rfl rfl rfl (by decide +kernel) ⟨Nat.le_of_ble_eq_true rfl, Nat.le_of_ble_eq_true rfl⟩) (x_preS (wc := []) hK hP hD hS hA hXB hZ [] rfl rfl _) rfl rfl hl.1 rfl (lv_room (Nat.le_of_ble_eq_true rfl)) dX4_isWay_28 ⟨Nat.le_of_ble_eq_true rfl, Nat.le_of_ble_eq_true rfl⟩) hP hD hS hA [] rfl (fun _ _ _ => rfl) (fun r1 u H locs hw1 hP hD hS => ?_)
      have hP : va_P G vwCl ([]) H := hP
      have hD : va_D A ([]) := hD
      refine lv_if_eq (tgt := 42) hx hb dX4_isWay_31 (by decide) (fun c_ => absurd c_ (by rw [hw1]; decide)) (fun _ => ?_)
      refine lv_iload_n hx hb dX4_isWay_34 rfl (lv_at hl 1 rfl) ?_
      refine lv_if_ne (tgt := 42) hx hb dX4_isWay_35 (by decide) (fun c1 => ?_) (fun c1 => ?_)
      · refine lv_iconst (v := nI 0) hx hb dX4_isWay_42 (by decide) ?_
        exact W.zret (v := nI 0) hx hb hr rfl (fun t9_ ht hW => ⟨⟨nI 0, (), rfl, by rw [(xwb_1 y).2.1, decide_eq_false c1]; rfl, x_at ht hP⟩, hS.F ht⟩) hS.2.2 dX4_isWay_43
      · refine lv_iconst (v := nI 1) hx hb dX4_isWay_38 (by decide) ?_
        refine lv_goto (tgt := 43) hx hb dX4_isWay_39 (by decide) ?_
        exact W.zret (v := nI 1) hx hb hr rfl (fun t9_ ht hW => ⟨⟨nI 1, (), rfl, by rw [(xwb_1 y).2.1, decide_eq_true c1]; rfl, x_at ht hP⟩, hS.F ht⟩) hS.2.2 dX4_isWay_43
    · refine lv_if_ne (tgt := 12) hx hb dX4_isWay_1 (by decide) (fun _ => ?_) (fun c_ => absurd c_ (by decide))
      refine lv_iload_n hx hb dX4_isWay_12 rfl (lv_at hl 0 rfl) ?_
      refine lv_iconst (v := nI 3) hx hb dX4_isWay_13 (by decide) ?_
      refine lv_icmp_ne (tgt := 25) hx hb dX4_isWay_14 (by decide) (fun c_ => absurd (rfl) c_) (fun _ => ?_)
      refine lv_iload_n hx hb dX4_isWay_17 rfl (lv_at hl 1 rfl) ?_
      refine lv_iconst (v := nI 2) hx hb dX4_isWay_18 (by decide) ?_
      refine lv_bipush (v := nI 16) hx hb dX4_isWay_19 (by decide) ?_
      refine x_calli (va_runS (As := [.int y, .int (nI 2), .int (nI 16)]) (rest := []) ⟨hx, hb, hml, hown, hts⟩ (c_X4_isIn l G T _ y (nI 2) (nI 16)) (va_cwS 3 hts gX4_isWay_X4_isIn rfl rfl rfl (by decide +kernel) ⟨Nat.le_of_ble_eq_true rfl, Nat.le_of_ble_eq_true rfl⟩) (x_preS (wc := []) hK hP hD hS hA hXB hZ [] rfl rfl _) rfl rfl hl.1 rfl (lv_room (Nat.le_of_ble_eq_true rfl)) dX4_isWay_21 ⟨Nat.le_of_ble_eq_true rfl, Nat.le_of_ble_eq_true rfl⟩) hP hD hS hA [] rfl (fun _ _ _ => rfl) (fun r1 u H locs hw1 hP hD hS => ?_)
      have hP : va_P G vwCl ([]) H := hP
      have hD : va_D A ([]) := hD
      refine x_topi (y := xb (xwb (nI 3) y)) (by rw [hw1, xwb_3]) ?_
      exact W.zret (v := xb (xwb (nI 3) y)) hx hb hr (xb_nar _) (fun t9_ ht hW => ⟨⟨xb (xwb (nI 3) y), (), rfl, rfl, x_at ht hP⟩, hS.F ht⟩) hS.2.2 dX4_isWay_24
    · refine lv_if_ne (tgt := 12) hx hb dX4_isWay_1 (by decide) (fun _ => ?_) (fun c_ => absurd c_ (by decide))
      refine lv_iload_n hx hb dX4_isWay_12 rfl (lv_at hl 0 rfl) ?_
      refine lv_iconst (v := nI 3) hx hb dX4_isWay_13 (by decide) ?_
      refine lv_icmp_ne (tgt := 25) hx hb dX4_isWay_14 (by decide) (fun _ => ?_) (fun c_ => absurd c_ (by decide))
      refine lv_iload_n hx hb dX4_isWay_25 rfl (lv_at hl 0 rfl) ?_
      refine lv_iconst (v := nI 0) hx hb dX4_isWay_26 (by decide) ?_
      refine lv_iconst (v := nI 4) hx hb dX4_isWay_27 (by decide) ?_
      refine x_calli (va_runS (As := [.int (nI 4), .int (nI 0), .int (nI 4)]) (rest := []) ⟨hx, hb, hml, hown, hts⟩ (c_X4_isIn l G T _ (nI 4) (nI 0) (nI 4)) (va_cwS 3 hts gX4_isWay_X4_isIn rfl rfl rfl (by decide +kernel) ⟨Nat.le_of_ble_eq_true rfl, Nat.le_of_ble_eq_true rfl⟩) (x_preS (wc := []) hK hP hD hS hA hXB hZ [] rfl rfl _) rfl rfl hl.1 rfl (lv_room (Nat.le_of_ble_eq_true rfl)) dX4_isWay_28 ⟨Nat.le_of_ble_eq_true rfl, Nat.le_of_ble_eq_true rfl⟩) hP hD hS hA [] rfl (fun _ _ _ => rfl) (fun r1 u H locs hw1 hP hD hS => ?_)
      have hP : va_P G vwCl ([]) H := hP
      have hD : va_D A ([]) := hD
      refine lv_if_eq (tgt := 42) hx hb dX4_isWay_31 (by decide) (fun c_ => absurd c_ (by rw [hw1]; decide)) (fun _ => ?_)
      refine lv_iload_n hx hb dX4_isWay_34 rfl (lv_at hl 1 rfl) ?_
      refine lv_if_ne (tgt := 42) hx hb dX4_isWay_35 (by decide) (fun c1 => ?_) (fun c1 => ?_)
      · refine lv_iconst (v := nI 0) hx hb dX4_isWay_42 (by decide) ?_
        exact W.zret (v := nI 0) hx hb hr rfl (fun t9_ ht hW => ⟨⟨nI 0, (), rfl, by rw [(xwb_1 y).2.2, decide_eq_false c1]; rfl, x_at ht hP⟩, hS.F ht⟩) hS.2.2 dX4_isWay_43
      · refine lv_iconst (v := nI 1) hx hb dX4_isWay_38 (by decide) ?_
        refine lv_goto (tgt := 43) hx hb dX4_isWay_39 (by decide) ?_
        exact W.zret (v := nI 1) hx hb hr rfl (fun t9_ ht hW => ⟨⟨nI 1, (), rfl, by rw [(xwb_1 y).2.2, decide_eq_true c1]; rfl, x_at ht hP⟩, hS.F ht⟩) hS.2.2 dX4_isWay_43

set_option maxHeartbeats 4000000 in
set_option maxRecDepth 100000 in
/-- to -/
theorem c_X4_to (l : Launch) (G : va_G) (T : Nat → ClassId) (sz : Nat) (k n q : Nat) (hw : xwn k n = true) (hq : q < 16) : Met l yX4_to wsX4_to ({ frames := 0, cells := 0, slots := 0, locals := 0 }) (va_Pc [.int (nI k), .int (nI n), .int (nI q)] (xPre G T ([]) sz)) (va_Qi (fun (r : Int32) (u : Unit) => r = nI (xpa k n q)) (fun u t => va_P G vwCl ([]) t.heap) (va_A ([]) sz)) 0 0 (va_A ([]) sz) := by
  refine Met.ofW (cc := cX4_to) (maxL := 3) (ret := (some .int)) (by decide +kernel) rfl ?_
  intro p e s m args below meth c s₁ B hml hv
  obtain ⟨rfl, hsz, hP, hK, hD0, hXB, hZ⟩ := hv
  have hx := B.exec
  have hb := B.bytes
  have hr := B.returns
  have hts := atoms_spec (ws := wsX4_to) B.pre
  have hown : s.vm.findClass RX4 = some m.cls := findClass_of_methodNamed B.named
  have hlocks := B.notSynchronized
  subst hsz
  have hD := hD0.self (sz := s.heap.size)
  generalize hAe : va_A ([]) s.heap.size = A at hD hZ ⊢
  have hA : ∀ q : Nat, s.heap.size ≤ q → A q := fun q h => by rw [← hAe]; exact Or.inr h
  have hS : va_S A s.heap s.heap [] := va_S.rf
  have hP : va_P G vwCl ([]) s.heap := hP
  have hl := lv_entry ([.int (nI k), .int (nI n), .int (nI q)]) (n := 3) (Nat.le_of_ble_eq_true rfl)
  rw [lg_entry_eq]
  generalize (lg_sl ([.int (nI k), .int (nI n), .int (nI q)]) ++ List.replicate (3 - (lg_sl ([.int (nI k), .int (nI n), .int (nI q)])).length) Slot.unset).toArray = ls at hl ⊢
  have hl : lv_has ls 3 [(0, .int (nI k)), (1, .int (nI n)), (2, .int (nI q))] := hl
  refine lv_iload_n hx hb dX4_to_0 rfl (lv_at hl 0 rfl) ?_
  rcases (show k = 0 ∨ k = 1 ∨ k = 2 ∨ k = 3 ∨ k = 4 by have := (xwn_lt hw).1; omega) with rfl | rfl | rfl | rfl | rfl
  · refine lv_tableIn (off := 31) (tgt := 32) hx hb dX4_to_1 (by decide) (by decide) (by decide) (by decide) ?_
    refine lv_iload_n hx hb dX4_to_32 rfl (lv_at hl 2 rfl) ?_
    refine lv_bipush (v := nI 16) hx hb dX4_to_33 (by decide) ?_
    refine lv_iadd hx hb dX4_to_35 ?_
    refine lv_iload_n hx hb dX4_to_36 rfl (lv_at hl 1 rfl) ?_
    refine lv_isub hx hb dX4_to_37 ?_
    refine lv_bipush (v := nI 16) hx hb dX4_to_38 (by decide) ?_
    have hn : 1 ≤ n ∧ n ≤ 15 := by simpa [xwn] using hw
    refine lv_irem hx hb dX4_to_40 (by decide) ?_
    refine x_topi (y := nI ((q + 16 - n) % 16)) (by rw [show nI q + nI 16 - nI n = nI (q + 16 - n) from by rw [nI_add, pk_sub (by omega)], pk_rem (by omega) (by decide) (by decide)]) ?_
    exact W.iret (v := nI ((q + 16 - n) % 16)) hx hb hr (fun t9_ ht hW => ⟨⟨nI ((q + 16 - n) % 16), (), rfl, rfl, x_at ht hP⟩, hS.F ht⟩) hS.2.2 dX4_to_41
  · refine lv_tableIn (off := 41) (tgt := 42) hx hb dX4_to_1 (by decide) (by decide) (by decide) (by decide) ?_
    refine lv_iload_n hx hb dX4_to_42 rfl (lv_at hl 2 rfl) ?_
    refine lv_bipush (v := nI 8) hx hb dX4_to_43 (by decide) ?_
    by_cases hc : q < 8
    · refine lv_icmp_ge (tgt := 54) hx hb dX4_to_45 (by decide) (fun c_ => absurd c_ (nI_ge hc (by decide))) (fun _ => ?_)
      refine lv_iconst (v := nI 2) hx hb dX4_to_48 (by decide) ?_
      refine lv_iload_n hx hb dX4_to_49 rfl (lv_at hl 2 rfl) ?_
      refine lv_imul hx hb dX4_to_50 ?_
      refine x_topi (y := nI (2 * q)) (pk_mul _ _) ?_
      refine lv_goto (tgt := 60) hx hb dX4_to_51 (by decide) ?_
      exact W.iret (v := nI (2 * q)) hx hb hr (fun t9_ ht hW => ⟨⟨nI (2 * q), (), rfl, congrArg nI (show _ = if q < 8 then 2 * q else 2 * q - 15 by rw [if_pos hc]), x_at ht hP⟩, hS.F ht⟩) hS.2.2 dX4_to_60
    · refine lv_icmp_ge (tgt := 54) hx hb dX4_to_45 (by decide) (fun _ => ?_) (fun c_ => absurd (nI_le (by omega) (by omega)) c_)
      refine lv_iconst (v := nI 2) hx hb dX4_to_54 (by decide) ?_
      refine lv_iload_n hx hb dX4_to_55 rfl (lv_at hl 2 rfl) ?_
      refine lv_imul hx hb dX4_to_56 ?_
      refine x_topi (y := nI (2 * q)) (pk_mul _ _) ?_
      refine lv_bipush (v := nI 15) hx hb dX4_to_57 (by decide) ?_
      refine lv_isub hx hb dX4_to_59 ?_
      refine x_topi (y := nI (2 * q - 15)) (pk_sub (by omega)) ?_
      exact W.iret (v := nI (2 * q - 15)) hx hb hr (fun t9_ ht hW => ⟨⟨nI (2 * q - 15), (), rfl, congrArg nI (show _ = if q < 8 then 2 * q else 2 * q - 15 by rw [if_neg hc]), x_at ht hP⟩, hS.F ht⟩) hS.2.2 dX4_to_60
  · refine lv_tableIn (off := 60) (tgt := 61) hx hb dX4_to_1 (by decide) (by decide) (by decide) (by decide) ?_
    refine lv_iload_n hx hb dX4_to_61 rfl (lv_at hl 2 rfl) ?_
    refine lv_bipush (v := nI 8) hx hb dX4_to_62 (by decide) ?_
    by_cases hc : q < 8
    · refine lv_icmp_ge (tgt := 75) hx hb dX4_to_64 (by decide) (fun c_ => absurd c_ (nI_ge hc (by decide))) (fun _ => ?_)
      refine lv_iconst (v := nI 2) hx hb dX4_to_67 (by decide) ?_
      refine lv_iload_n hx hb dX4_to_68 rfl (lv_at hl 2 rfl) ?_
      refine lv_imul hx hb dX4_to_69 ?_
      refine x_topi (y := nI (2 * q)) (pk_mul _ _) ?_
      refine lv_iconst (v := nI 1) hx hb dX4_to_70 (by decide) ?_
      refine lv_iadd hx hb dX4_to_71 ?_
      refine x_topi (y := nI (2 * q + 1)) (nI_add _ _) ?_
      refine lv_goto (tgt := 81) hx hb dX4_to_72 (by decide) ?_
      exact W.iret (v := nI (2 * q + 1)) hx hb hr (fun t9_ ht hW => ⟨⟨nI (2 * q + 1), (), rfl, congrArg nI (show _ = if q < 8 then 2 * q + 1 else 2 * q - 16 by rw [if_pos hc]), x_at ht hP⟩, hS.F ht⟩) hS.2.2 dX4_to_81
    · refine lv_icmp_ge (tgt := 75) hx hb dX4_to_64 (by decide) (fun _ => ?_) (fun c_ => absurd (nI_le (by omega) (by omega)) c_)
      refine lv_iconst (v := nI 2) hx hb dX4_to_75 (by decide) ?_
      refine lv_iload_n hx hb dX4_to_76 rfl (lv_at hl 2 rfl) ?_
      refine lv_imul hx hb dX4_to_77 ?_
      refine x_topi (y := nI (2 * q)) (pk_mul _ _) ?_
      refine lv_bipush (v := nI 16) hx hb dX4_to_78 (by decide) ?_
      refine lv_isub hx hb dX4_to_80 ?_
      refine x_topi (y := nI (2 * q - 16)) (pk_sub (by omega)) ?_
      exact W.iret (v := nI (2 * q - 16)) hx hb hr (fun t9_ ht hW => ⟨⟨nI (2 * q - 16), (), rfl, congrArg nI (show _ = if q < 8 then 2 * q + 1 else 2 * q - 16 by rw [if_neg hc]), x_at ht hP⟩, hS.F ht⟩) hS.2.2 dX4_to_81
  · refine lv_tableIn (off := 81) (tgt := 82) hx hb dX4_to_1 (by decide) (by decide) (by decide) (by decide) ?_
    refine lv_iload_n hx hb dX4_to_82 rfl (lv_at hl 2 rfl) ?_
    refine lv_iload_n hx hb dX4_to_83 rfl (lv_at hl 1 rfl) ?_
    have hn : 2 ≤ n ∧ n ≤ 16 := by simpa [xwn] using hw
    by_cases hc : q < n
    · refine lv_icmp_ge (tgt := 95) hx hb dX4_to_84 (by decide) (fun c_ => absurd c_ (nI_ge hc (by omega))) (fun _ => ?_)
      refine lv_iload_n hx hb dX4_to_87 rfl (lv_at hl 1 rfl) ?_
      refine lv_iconst (v := nI 1) hx hb dX4_to_88 (by decide) ?_
      refine lv_isub hx hb dX4_to_89 ?_
      refine x_topi (y := nI (n - 1)) (pk_sub (by omega)) ?_
      refine lv_iload_n hx hb dX4_to_90 rfl (lv_at hl 2 rfl) ?_
      refine lv_isub hx hb dX4_to_91 ?_
      refine x_topi (y := nI (n - 1 - q)) (pk_sub (by omega)) ?_
      refine lv_goto (tgt := 96) hx hb dX4_to_92 (by decide) ?_
      exact W.iret (v := nI (n - 1 - q)) hx hb hr (fun t9_ ht hW => ⟨⟨nI (n - 1 - q), (), rfl, congrArg nI (show _ = if q < n then n - 1 - q else q by rw [if_pos hc]), x_at ht hP⟩, hS.F ht⟩) hS.2.2 dX4_to_96
    · refine lv_icmp_ge (tgt := 95) hx hb dX4_to_84 (by decide) (fun _ => ?_) (fun c_ => absurd (nI_le (by omega) (by omega)) c_)
      refine lv_iload_n hx hb dX4_to_95 rfl (lv_at hl 2 rfl) ?_
      exact W.iret (v := nI q) hx hb hr (fun t9_ ht hW => ⟨⟨nI q, (), rfl, congrArg nI (show _ = if q < n then n - 1 - q else q by rw [if_neg hc]), x_at ht hP⟩, hS.F ht⟩) hS.2.2 dX4_to_96
  · refine lv_tableOut (tgt := 97) hx hb dX4_to_1 (by decide) (by decide) ?_
    obtain ⟨-, -, td, hZ3, hT3⟩ := hZ
    refine va_gets hx hb hZ3 hS hown (hts (.fieldLink RX4 47 "CardFansModel" "DEALT" "[I") (by decide +kernel)) (fun _ h9 => h9) dX4_to_97 ?_
    refine lv_iload_n hx hb dX4_to_100 rfl (lv_at hl 2 rfl) ?_
    refine va_ti hx hb hT3 hS (vp_in_nI hq (by decide)) (v := .int (nI (xDt q))) (by rw [nI_clamp (by omega)]) dX4_to_101 ?_
    exact W.iret (v := nI (xDt q)) hx hb hr (fun t9_ ht hW => ⟨⟨nI (xDt q), (), rfl, rfl, x_at ht hP⟩, hS.F ht⟩) hS.2.2 dX4_to_102

set_option maxHeartbeats 4000000 in
set_option maxRecDepth 100000 in
/-- move -/
theorem c_X4_move (l : Launch) (G : va_G) (T : Nat → ClassId) (sz : Nat) (a0 : Nat) (f : Nat → Int32) (k n : Nat) (hw : xwn k n = true) : Met l yX4_move wsX4_move ({ frames := 1, cells := 1, slots := 16, locals := 22 }) (va_Pc [.ref a0, .int (nI k), .int (nI n)] (xPre G T ([(a0, .inl (T 0, 16, .inl f))]) sz)) (va_Qv (fun (u : Unit) => True) (fun u t => va_P G vwCl ([(a0, .inl (T 0, 16, .inl (fun j => f (xpb k n j))))]) t.heap) (va_A ([(a0, .inl (T 0, 16, .inl f))]) sz)) 1 16 (va_A ([(a0, .inl (T 0, 16, .inl f))]) sz) := by
  refine Met.ofW (cc := cX4_move) (maxL := 5) (ret := none) (by decide +kernel) rfl ?_
  intro p e s m args below meth c s₁ B hml hv
  obtain ⟨rfl, hsz, hP, hK, hD0, hXB, hZ⟩ := hv
  have hx := B.exec
  have hb := B.bytes
  have hr := B.returns
  have hts := atoms_spec (ws := wsX4_move) B.pre
  have hown : s.vm.findClass RX4 = some m.cls := findClass_of_methodNamed B.named
  have hlocks := B.notSynchronized
  subst hsz
  have hD := hD0.self (sz := s.heap.size)
  generalize hAe : va_A ([(a0, .inl (T 0, 16, .inl f))]) s.heap.size = A at hD hZ ⊢
  have hA : ∀ q : Nat, s.heap.size ≤ q → A q := fun q h => by rw [← hAe]; exact Or.inr h
  have hS : va_S A s.heap s.heap [] := va_S.rf
  have hP : va_P G vwCl ([(a0, .inl (T 0, 16, .inl f))]) s.heap := hP
  have hl := lv_entry ([.ref a0, .int (nI k), .int (nI n)]) (n := 5) (Nat.le_of_ble_eq_true rfl)
  rw [lg_entry_eq]
  generalize (lg_sl ([.ref a0, .int (nI k), .int (nI n)]) ++ List.replicate (5 - (lg_sl ([.ref a0, .int (nI k), .int (nI n)])).length) Slot.unset).toArray = ls at hl ⊢
  have hl : lv_has ls 5 [(0, .ref a0), (1, .int (nI k)), (2, .int (nI n))] := hl
  refine lv_aload_n hx hb dX4_move_0 rfl (lv_at hl 0 rfl) ?_
  have hnm : s.vm.findClass "[I" = some (T 0) := (hK.2 0 _ rfl).2
  refine va_clone hx hb (hml.trans hl.1.symm) hown (hts (.methodLink RX4 50 ⟨"[I", "clone", "()Ljava/lang/Object;"⟩) (by decide +kernel)) (hts (.sameMethod "[I" "java/lang/Object" "clone" "()Ljava/lang/Object;") (by decide +kernel)) (hts (.native ⟨"java/lang/Object", "clone", "()Ljava/lang/Object;"⟩) (by decide +kernel)) (hts (.instanceMethod ⟨"java/lang/Object", "clone", "()Ljava/lang/Object;"⟩) (by decide +kernel)) (hts (.selects "[I" ⟨"[I", "clone", "()Ljava/lang/Object;"⟩ ⟨"java/lang/Object", "clone", "()Ljava/lang/Object;"⟩) (by decide +kernel)) (hXB.1 (.castable "[I" "java/lang/Cloneable") (by decide +kernel)) hK hP hD hS hA 0 0 rfl rfl hnm (xfitI _ _ _) (Nat.le_of_ble_eq_true rfl) (Nat.le_of_ble_eq_true rfl) (Nat.le_of_ble_eq_true rfl) (Nat.le_of_ble_eq_true rfl) dX4_move_1 (fun b0 H _ hP hD hS => ?_)
  have hP : va_P G vwCl ([(a0, .inl (T 0, 16, .inl f)), (b0, .inl (T 0, 16, .inl f))]) H := hP
  have hD : va_D A ([(a0, .inl (T 0, 16, .inl f)), (b0, .inl (T 0, 16, .inl f))]) := hD
  refine va_castA hx hb hown (hts (.classLink RX4 51 "[I") (by decide +kernel)) hP 1 rfl hnm dX4_move_4 ?_
  refine lv_astore_n (lv' := [(3, .ref b0), (0, .ref a0), (1, .int (nI k)), (2, .int (nI n))]) hx hb dX4_move_7 rfl hl (by decide) rfl (fun ls hl => ?_)
  refine lv_iconst (v := nI 0) hx hb dX4_move_8 (by decide) ?_
  refine lv_istore (lv' := [(4, .int (nI 0)), (3, .ref b0), (0, .ref a0), (1, .int (nI k)), (2, .int (nI n))]) hx hb dX4_move_9 hl (by decide) rfl (fun ls hl => ?_)
  suffices LP1 : ∀ (n1 : Nat) (i : Nat) (g : Nat → Int32), (i ≤ 16) → (16 < i + n1) → (∀ j, j < 16 → xpb k n j < i → g j = f (xpb k n j)) → ∀ (H : Heap) (locs : List Loc), va_P G vwCl ([(a0, .inl (T 0, 16, .inl g)), (b0, .inl (T 0, 16, .inl f))]) H → va_D A ([(a0, .inl (T 0, 16, .inl g)), (b0, .inl (T 0, 16, .inl f))]) → va_S A s.heap H locs → ∀ (ls : Array Slot), lv_has ls 5 [(4, .int (nI i)), (3, .ref b0), (0, .ref a0), (1, .int (nI k)), (2, .int (nI n))] → W p l e (headSpec wsX4_move ({ frames := 1, cells := 1, slots := 16, locals := 22 })).room s m ([.ref a0, .int (nI k), .int (nI n)] : List Value).toArray below meth c H locs 1 16 (MQ below (va_Qv (fun (u : Unit) => True) (fun u t => va_P G vwCl ([(a0, .inl (T 0, 16, .inl (fun j => f (xpb k n j))))]) t.heap) A) ([.ref a0, .int (nI k), .int (nI n)] : List Value).toArray s 1 16 A) (F0 m 11 ls []) from LP1 17 0 f (by decide) (by decide) (fun j hj h => absurd h (Nat.not_lt_zero _)) _ _ hP hD hS ls (lv_sub hl [0, 1, 2, 3, 4] rfl)
  clear hP hD hS hl
  intro n1
  induction n1 with
  | zero => intro i g hi hn hf H locs _ _ _ ls _; exfalso; omega
  | succ n1 ih1 =>
    intro i g hi hn hf H locs hP hD hS ls hl
    refine lv_iload hx hb dX4_move_11 (lv_at hl 0 rfl) ?_
    refine lv_bipush (v := nI 16) hx hb dX4_move_13 (by decide) ?_
    by_cases hc : i < 16
    · refine lv_icmp_ge (tgt := 37) hx hb dX4_move_15 (by decide) (fun c_ => absurd c_ (nI_ge hc (by decide))) (fun _ => ?_)
      refine lv_aload_n hx hb dX4_move_18 rfl (lv_at hl 2 rfl) ?_
      refine lv_iload_n hx hb dX4_move_19 rfl (lv_at hl 3 rfl) ?_
      refine lv_iload_n hx hb dX4_move_20 rfl (lv_at hl 4 rfl) ?_
      refine lv_iload hx hb dX4_move_21 (lv_at hl 0 rfl) ?_
      refine x_calli (va_runS (As := [.int (nI k), .int (nI n), .int (nI i)]) (rest := [.ref a0]) ⟨hx, hb, hml, hown, hts⟩ (c_X4_to l G T _ k n i hw hc) (va_cwS 3 hts gX4_move_X4_to rfl rfl rfl (by decide +kernel) ⟨Nat.le_of_ble_eq_true rfl, Nat.le_of_ble_eq_true rfl⟩) (x_preS (wc := []) hK hP hD hS hA hXB hZ [] rfl rfl _) rfl rfl hl.1 rfl (lv_room (Nat.le_of_ble_eq_true rfl)) dX4_move_23 ⟨Nat.le_of_ble_eq_true rfl, Nat.le_of_ble_eq_true rfl⟩) hP hD hS hA [] rfl (fun _ _ _ => rfl) (fun r1 u H locs hw1 hP hD hS => ?_)
      have hP : va_P G vwCl ([(a0, .inl (T 0, 16, .inl g)), (b0, .inl (T 0, 16, .inl f))]) H := hP
      have hD : va_D A ([(a0, .inl (T 0, 16, .inl g)), (b0, .inl (T 0, 16, .inl f))]) := hD
      refine x_topi (y := nI (xpa k n i)) (hw1) ?_
      refine lv_aload_n hx hb dX4_move_26 rfl (lv_at hl 1 rfl) ?_
      refine lv_iload hx hb dX4_move_27 (lv_at hl 0 rfl) ?_
      refine x_iald hx hb hK hP 1 0 (f := f) (n := 16) rfl rfl hc (by decide) dX4_move_29 ?_
      obtain ⟨q1, q2, q3, q4⟩ := xway hw hc
      refine x_iast hx hb hK hP hD hS 0 0 (f := g) (n := 16) rfl rfl q1 (by decide) dX4_move_30 (fun H locs hP hD hS => ?_)
      have hP : va_P G vwCl ([(a0, .inl (T 0, 16, .inl (upd g (xpa k n i) (f i)))), (b0, .inl (T 0, 16, .inl f))]) H := hP
      have hD : va_D A ([(a0, .inl (T 0, 16, .inl (upd g (xpa k n i) (f i)))), (b0, .inl (T 0, 16, .inl f))]) := hD
      refine lv_iinc (v := nI (i + 1)) (lv' := [(4, .int (nI (i + 1))), (3, .ref b0), (0, .ref a0), (1, .int (nI k)), (2, .int (nI n))]) hx hb dX4_move_31 hl (k := 0) rfl (x_inc _) (by decide) rfl (fun ls hl => ?_)
      refine lv_goto (tgt := 11) hx hb dX4_move_34 (by decide) ?_
      exact ih1 (i + 1) _ (by omega) (by omega) (fun j hj hij => by
          obtain ⟨p1, p2, p3, p4⟩ := xway hw hj
          rcases Nat.lt_or_ge (xpb k n j) i with q | q
          · rw [pk_un (fun z => by subst z; rw [q4] at q; omega)]
            exact hf j hj q
          · have e : xpb k n j = i := by omega
            have e2 : j = xpa k n i := by rw [← e, p3]
            rw [e2, pk_us, q4]) _ _ hP hD hS ls (lv_sub hl [0, 1, 2, 3, 4] rfl)
    · refine lv_icmp_ge (tgt := 37) hx hb dX4_move_15 (by decide) (fun _ => ?_) (fun c_ => absurd (nI_le (by omega) (by omega)) c_)
      have hP := x_can hP 0 (g := (fun j => f (xpb k n j))) rfl (fun j hj => hf j hj (by have := (xway hw hj).2.1; omega))
      have hD := xd_set hD 0 (e := .inl (T 0, 16, .inl (fun j => f (xpb k n j)))) rfl
      have hP : va_P G vwCl ([(a0, .inl (T 0, 16, .inl (fun j => f (xpb k n j)))), (b0, .inl (T 0, 16, .inl f))]) H := hP
      have hD : va_D A ([(a0, .inl (T 0, 16, .inl (fun j => f (xpb k n j)))), (b0, .inl (T 0, 16, .inl f))]) := hD
      have hP : va_P G vwCl [(a0, .inl (T 0, 16, .inl (fun j => f (xpb k n j))))] H := hP.sub [0] rfl
      exact W.vret hx hb hr (fun t9_ ht hW => ⟨⟨(), rfl, trivial, x_at ht hP⟩, hS.F ht⟩) hS.2.2 dX4_move_37

set_option maxHeartbeats 4000000 in
set_option maxRecDepth 100000 in
/-- no -/
theorem c_X4_no (l : Launch) (G : va_G) (T : Nat → ClassId) (sz : Nat) (bd : Nat → Nat) (thr : Int32) (M : XM) (x : Int32) : Met l yX4_no wsX4_no ({ frames := 0, cells := 0, slots := 0, locals := 0 }) (va_Pc [.ref (bd 0), .int x] (xPre G T (xD T bd thr M) sz)) (va_Qi (fun (r : Int32) (u : Unit) => r = nI 0) (fun u t => va_P G vwCl (xD T bd x M) t.heap) (va_A (xD T bd thr M) sz)) 0 0 (va_A (xD T bd thr M) sz) := by
  refine Met.ofW (cc := cX4_no) (maxL := 2) (ret := (some .int)) (by decide +kernel) rfl ?_
  intro p e s m args below meth c s₁ B hml hv
  obtain ⟨rfl, hsz, hP, hK, hD0, hXB, hZ⟩ := hv
  have hx := B.exec
  have hb := B.bytes
  have hr := B.returns
  have hts := atoms_spec (ws := wsX4_no) B.pre
  have hown : s.vm.findClass RX4 = some m.cls := findClass_of_methodNamed B.named
  have hlocks := B.notSynchronized
  subst hsz
  have hD := hD0.self (sz := s.heap.size)
  generalize hAe : va_A (xD T bd thr M) s.heap.size = A at hD hZ ⊢
  have hA : ∀ q : Nat, s.heap.size ≤ q → A q := fun q h => by rw [← hAe]; exact Or.inr h
  have hS : va_S A s.heap s.heap [] := va_S.rf
  have hP : va_P G vwCl (xD T bd thr M) s.heap := hP
  have hiX4 : ∀ w ∈ u_ws RX4 TX4 14, w ∈ wsX4_no := by decide +kernel
  have hl := lv_entry ([.ref (bd 0), .int x]) (n := 2) (Nat.le_of_ble_eq_true rfl)
  rw [lg_entry_eq]
  generalize (lg_sl ([.ref (bd 0), .int x]) ++ List.replicate (2 - (lg_sl ([.ref (bd 0), .int x])).length) Slot.unset).toArray = ls at hl ⊢
  have hl : lv_has ls 2 [(0, .ref (bd 0)), (1, .int x)] := hl
  refine lv_aload_n hx hb dX4_no_0 rfl (lv_at hl 0 rfl) ?_
  refine lv_iload_n hx hb dX4_no_1 rfl (lv_at hl 1 rfl) ?_
  refine va_put (D := G) (ci := 4) (v := .int x) (ty := .int) (C := RX4) (T := TX4) (N := 14) hx hb hts hiX4 tyX4 tyX4_ok nmX4 hown hK hP hD hS 0 rfl rfl 0 (by decide) (hts (.fieldLink RX4 33 "CardFansModel" "thrown" "I") (by decide +kernel)) (fun _ h9 => h9) rfl (by decide +kernel) rfl rfl (Nat.le_of_ble_eq_true rfl) dX4_no_2 (fun H locs hP hD hS => ?_)
  have hP : va_P G vwCl (xD T bd x M) H := hP
  have hD : va_D A (xD T bd x M) := hD
  refine lv_iconst (v := nI 0) hx hb dX4_no_5 (by decide) ?_
  exact W.iret (v := nI 0) hx hb hr (fun t9_ ht hW => ⟨⟨nI 0, (), rfl, rfl, x_at ht hP⟩, hS.F ht⟩) hS.2.2 dX4_no_6

set_option maxHeartbeats 4000000 in
set_option maxRecDepth 100000 in
/-- thrown -/
theorem c_X4_thrown (l : Launch) (G : va_G) (T : Nat → ClassId) (sz : Nat) (bd : Nat → Nat) (thr : Int32) (M : XM) : Met l yX4_thrown wsX4_thrown ({ frames := 0, cells := 0, slots := 0, locals := 0 }) (va_Pc [.ref (bd 0)] (xPre G T (xD T bd thr M) sz)) (va_Qi (fun (r : Int32) (u : Unit) => r = thr) (fun u t => va_P G vwCl (xD T bd thr M) t.heap) (va_A (xD T bd thr M) sz)) 0 0 (va_A (xD T bd thr M) sz) := by
  refine Met.ofW (cc := cX4_thrown) (maxL := 1) (ret := (some .int)) (by decide +kernel) rfl ?_
  intro p e s m args below meth c s₁ B hml hv
  obtain ⟨rfl, hsz, hP, hK, hD0, hXB, hZ⟩ := hv
  have hx := B.exec
  have hb := B.bytes
  have hr := B.returns
  have hts := atoms_spec (ws := wsX4_thrown) B.pre
  have hown : s.vm.findClass RX4 = some m.cls := findClass_of_methodNamed B.named
  have hlocks := B.notSynchronized
  subst hsz
  have hD := hD0.self (sz := s.heap.size)
  generalize hAe : va_A (xD T bd thr M) s.heap.size = A at hD hZ ⊢
  have hA : ∀ q : Nat, s.heap.size ≤ q → A q := fun q h => by rw [← hAe]; exact Or.inr h
  have hS : va_S A s.heap s.heap [] := va_S.rf
  have hP : va_P G vwCl (xD T bd thr M) s.heap := hP
  have hiX4 : ∀ w ∈ u_ws RX4 TX4 14, w ∈ wsX4_thrown := by decide +kernel
  have hl := lv_entry ([.ref (bd 0)]) (n := 1) (Nat.le_of_ble_eq_true rfl)
  rw [lg_entry_eq]
  generalize (lg_sl ([.ref (bd 0)]) ++ List.replicate (1 - (lg_sl ([.ref (bd 0)])).length) Slot.unset).toArray = ls at hl ⊢
  have hl : lv_has ls 1 [(0, .ref (bd 0))] := hl
  refine lv_aload_n hx hb dX4_thrown_0 rfl (lv_at hl 0 rfl) ?_
  refine va_get (D := G) (ci := 4) (v := .int thr) (C := RX4) (T := TX4) (N := 14) hx hb hts hiX4 hown hK hP 0 rfl rfl 0 (by decide) (hts (.fieldLink RX4 33 "CardFansModel" "thrown" "I") (by decide +kernel)) (fun _ h9 => h9) rfl dX4_thrown_1 ?_
  exact W.iret (v := thr) hx hb hr (fun t9_ ht hW => ⟨⟨thr, (), rfl, rfl, x_at ht hP⟩, hS.F ht⟩) hS.2.2 dX4_thrown_4

set_option maxHeartbeats 4000000 in
set_option maxRecDepth 100000 in
/-- isOne -/
theorem c_X4_isOne (l : Launch) (G : va_G) (T : Nat → ClassId) (sz : Nat) (x : Int32) : Met l yX4_isOne wsX4_isOne ({ frames := 1, cells := 0, slots := 0, locals := 20 }) (va_Pc [.int x] (xPre G T ([]) sz)) (va_Qi (fun (r : Int32) (u : Unit) => r = xb (xone x)) (fun u t => va_P G vwCl ([]) t.heap) (va_A ([]) sz)) 0 0 (va_A ([]) sz) := by
  refine Met.ofW (cc := cX4_isOne) (maxL := 1) (ret := (some .boolean)) (by decide +kernel) rfl ?_
  intro p e s m args below meth c s₁ B hml hv
  obtain ⟨rfl, hsz, hP, hK, hD0, hXB, hZ⟩ := hv
  have hx := B.exec
  have hb := B.bytes
  have hr := B.returns
  have hts := atoms_spec (ws := wsX4_isOne) B.pre
  have hown : s.vm.findClass RX4 = some m.cls := findClass_of_methodNamed B.named
  have hlocks := B.notSynchronized
  subst hsz
  have hD := hD0.self (sz := s.heap.size)
  generalize hAe : va_A ([]) s.heap.size = A at hD hZ ⊢
  have hA : ∀ q : Nat, s.heap.size ≤ q → A q := fun q h => by rw [← hAe]; exact Or.inr h
  have hS : va_S A s.heap s.heap [] := va_S.rf
  have hP : va_P G vwCl ([]) s.heap := hP
  have hl := lv_entry ([.int x]) (n := 1) (Nat.le_of_ble_eq_true rfl)
  rw [lg_entry_eq]
  generalize (lg_sl ([.int x]) ++ List.replicate (1 - (lg_sl ([.int x])).length) Slot.unset).toArray = ls at hl ⊢
  have hl : lv_has ls 1 [(0, .int x)] := hl
  refine lv_iload_n hx hb dX4_isOne_0 rfl (lv_at hl 0 rfl) ?_
  refine x_calli (va_runS (As := [.int x]) (rest := []) ⟨hx, hb, hml, hown, hts⟩ (c_J6_bitCount_0f7a4 l G T _ x) (va_cwS 1 hts gX4_isOne_J6_bitCount_0f7a4 rfl rfl rfl (by decide +kernel) ⟨Nat.le_of_ble_eq_true rfl, Nat.le_of_ble_eq_true rfl⟩) (x_preS (wc := []) hK hP hD hS hA hXB hZ [] rfl rfl _) rfl rfl hl.1 rfl (lv_room (Nat.le_of_ble_eq_true rfl)) dX4_isOne_1 ⟨Nat.le_of_ble_eq_true rfl, Nat.le_of_ble_eq_true rfl⟩) hP hD hS hA [] rfl (fun _ _ _ => rfl) (fun r1 u H locs hw hP hD hS => ?_)
  have hP : va_P G vwCl ([]) H := hP
  have hD : va_D A ([]) := hD
  refine lv_iconst (v := nI 1) hx hb dX4_isOne_4 (by decide) ?_
  refine lv_icmp_ne (tgt := 12) hx hb dX4_isOne_5 (by decide) (fun c => ?_) (fun c => ?_)
  · refine lv_iconst (v := nI 0) hx hb dX4_isOne_12 (by decide) ?_
    exact W.zret (v := nI 0) hx hb hr rfl (fun t9_ ht hW => ⟨⟨nI 0, (), rfl, by rw [xb_f]; exact decide_eq_false (by rw [← hw]; exact c), x_at ht hP⟩, hS.F ht⟩) hS.2.2 dX4_isOne_13
  · refine lv_iconst (v := nI 1) hx hb dX4_isOne_8 (by decide) ?_
    refine lv_goto (tgt := 13) hx hb dX4_isOne_9 (by decide) ?_
    exact W.zret (v := nI 1) hx hb hr rfl (fun t9_ ht hW => ⟨⟨nI 1, (), rfl, by rw [xb_t]; exact decide_eq_true (by rw [← hw]; exact c), x_at ht hP⟩, hS.F ht⟩) hS.2.2 dX4_isOne_13
end XR1
