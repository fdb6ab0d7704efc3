section XR2
set_option maxHeartbeats 4000000 in
set_option maxRecDepth 100000 in
/-- card -/
theorem c_X4_card (l : Launch) (G : va_G) (T : Nat → ClassId) (sz : Nat) (bd : Nat → Nat) (thr : Int32) (M : XM) (x : Int32) : Met l yX4_card wsX4_card ({ frames := 2, cells := 0, slots := 0, locals := 42 }) (va_Pc [.ref (bd 0), .int x] (xPre G T (xD T bd thr M) sz)) (va_Qi (fun (r : Int32) (u : Int32) => (xvb 16 x = true ∧ u = nI 0 ∧ r = mpk M (xka x)) ∨ (xvb 16 x = false ∧ u = nI 1)) (fun u t => va_P G vwCl (xD T bd u M) t.heap) (va_A (xD T bd thr M) sz)) 0 0 (va_A (xD T bd thr M) sz) := by
  refine Met.ofW (cc := cX4_card) (maxL := 2) (ret := (some .int)) (by decide +kernel) rfl ?_
  intro p e s m args below meth c s₁ B hml hv
  obtain ⟨rfl, hsz, hP, hK, hD0, hXB, hZ⟩ := hv
  have hx := B.exec
  have hb := B.bytes
  have hr := B.returns
  have hts := atoms_spec (ws := wsX4_card) B.pre
  have hown : s.vm.findClass RX4 = some m.cls := findClass_of_methodNamed B.named
  have hlocks := B.notSynchronized
  subst hsz
  have hD := hD0.self (sz := s.heap.size)
  generalize hAe : va_A (xD T bd thr M) s.heap.size = A at hD hZ ⊢
  have hA : ∀ q : Nat, s.heap.size ≤ q → A q := fun q h => by rw [← hAe]; exact Or.inr h
  have hS : va_S A s.heap s.heap [] := va_S.rf
  have hP : va_P G vwCl (xD T bd thr M) s.heap := hP
  have hiX4 : ∀ w ∈ u_ws RX4 TX4 14, w ∈ wsX4_card := by decide +kernel
  have hl := lv_entry ([.ref (bd 0), .int x]) (n := 2) (Nat.le_of_ble_eq_true rfl)
  rw [lg_entry_eq]
  generalize (lg_sl ([.ref (bd 0), .int x]) ++ List.replicate (2 - (lg_sl ([.ref (bd 0), .int x])).length) Slot.unset).toArray = ls at hl ⊢
  have hl : lv_has ls 2 [(0, .ref (bd 0)), (1, .int x)] := hl
  refine lv_aload_n hx hb dX4_card_0 rfl (lv_at hl 0 rfl) ?_
  refine lv_iconst (v := nI 0) hx hb dX4_card_1 (by decide) ?_
  refine va_put (D := G) (ci := 4) (v := .int (nI 0)) (ty := .int) (C := RX4) (T := TX4) (N := 14) hx hb hts hiX4 tyX4 tyX4_ok nmX4 hown hK hP hD hS 0 rfl rfl 0 (by decide) (hts (.fieldLink RX4 33 "CardFansModel" "thrown" "I") (by decide +kernel)) (fun _ h9 => h9) rfl (by decide +kernel) rfl rfl (Nat.le_of_ble_eq_true rfl) dX4_card_2 (fun H locs hP hD hS => ?_)
  have hP : va_P G vwCl (xD T bd (nI 0) M) H := hP
  have hD : va_D A (xD T bd (nI 0) M) := hD
  refine lv_iload_n hx hb dX4_card_5 rfl (lv_at hl 1 rfl) ?_
  refine x_calli (va_runS (As := [.int x]) (rest := []) ⟨hx, hb, hml, hown, hts⟩ (c_X4_isPlace l G T _ x) (va_cwS 1 hts gX4_card_X4_isPlace rfl rfl rfl (by decide +kernel) ⟨Nat.le_of_ble_eq_true rfl, Nat.le_of_ble_eq_true rfl⟩) (x_preS (wc := []) hK hP hD hS hA hXB hZ [] rfl rfl _) rfl rfl hl.1 rfl (lv_room (Nat.le_of_ble_eq_true rfl)) dX4_card_6 ⟨Nat.le_of_ble_eq_true rfl, Nat.le_of_ble_eq_true rfl⟩) hP hD hS hA [] rfl (fun _ _ _ => rfl) (fun r1 u1 H locs hw1 hP hD hS => ?_)
  have hP : va_P G vwCl (xD T bd (nI 0) M) H := hP
  have hD : va_D A (xD T bd (nI 0) M) := hD
  refine lv_if_eq (tgt := 21) hx hb dX4_card_9 (by decide) (fun c1 => ?_) (fun c1 => ?_)
  · refine lv_aload_n hx hb dX4_card_21 rfl (lv_at hl 0 rfl) ?_
    refine lv_iconst (v := nI 1) hx hb dX4_card_22 (by decide) ?_
    refine x_calliW (va_runV (As := [.int (nI 1)]) (rest := []) ⟨hx, hb, hml, hown, hts⟩ (c_X4_no l G T _ bd (nI 0) M (nI 1)) (cwV 1 hts gX4_card_X4_no rfl rfl rfl (by decide +kernel) ⟨Nat.le_of_ble_eq_true rfl, Nat.le_of_ble_eq_true rfl⟩) (x_preVW (wc := (xD T bd (nI 0) M)) hK hP hD hS hA hXB hZ _ _ 0 4 rfl rfl) rfl rfl hl.1 rfl (lv_room (Nat.le_of_ble_eq_true rfl)) dX4_card_23 ⟨Nat.le_of_ble_eq_true rfl, Nat.le_of_ble_eq_true rfl⟩) hP hD hS hA (fun _ _ _ => xd_self rfl hD) (fun r8 u8 H locs hw8 hP hD hS => ?_)
    have hP : va_P G vwCl (xD T bd (nI 1) M) H := hP
    have hD : va_D A (xD T bd (nI 1) M) := hD
    exact W.iret (v := r8) hx hb hr (fun t9_ ht hW => ⟨⟨r8, (nI 1), rfl, Or.inr ⟨xb_of_eq hw1 c1, rfl⟩, x_at ht hP⟩, hS.F ht⟩) hS.2.2 dX4_card_26
  · have hv1 := xb_of_ne hw1 c1
    obtain ⟨k, hk, rfl⟩ := (xvb_iff (n := 16) (by decide)).mp (hv1)
    refine lv_aload_n hx hb dX4_card_12 rfl (lv_at hl 0 rfl) ?_
    refine va_get (D := G) (ci := 4) (v := .ref (bd 1)) (C := RX4) (T := TX4) (N := 14) hx hb hts hiX4 hown hK hP 0 rfl rfl 1 (by decide) (hts (.fieldLink RX4 9 "CardFansModel" "pack" "[I") (by decide +kernel)) (fun _ h9 => h9) rfl dX4_card_13 ?_
    refine lv_iload_n hx hb dX4_card_16 rfl (lv_at hl 1 rfl) ?_
    refine x_iald hx hb hK hP 1 0 (f := (mpk M)) (n := 16) rfl rfl hk (by decide) dX4_card_17 ?_
    refine lv_goto (tgt := 26) hx hb dX4_card_18 (by decide) ?_
    exact W.iret (v := (mpk M) k) hx hb hr (fun t9_ ht hW => ⟨⟨(mpk M) k, (nI 0), rfl, Or.inl ⟨hv1, rfl, by rw [xka_n (by omega)]⟩, x_at ht hP⟩, hS.F ht⟩) hS.2.2 dX4_card_26

set_option maxHeartbeats 4000000 in
set_option maxRecDepth 100000 in
/-- placeOf -/
theorem c_X4_placeOf (l : Launch) (G : va_G) (T : Nat → ClassId) (sz : Nat) (bd : Nat → Nat) (thr : Int32) (M : XM) (x : Int32) (hex : ∃ j, j < 16 ∧ mpk M j = x) : Met l yX4_placeOf wsX4_placeOf ({ frames := 0, cells := 0, slots := 0, locals := 0 }) (va_Pc [.ref (bd 0), .int x] (xPre G T (xD T bd thr M) sz)) (va_Qi (fun (r : Int32) (u : Unit) => r = xfp (mpk M) x) (fun u t => va_P G vwCl (xD T bd thr M) t.heap) (va_A (xD T bd thr M) sz)) 0 0 (va_A (xD T bd thr M) sz) := by
  refine Met.ofW (cc := cX4_placeOf) (maxL := 3) (ret := (some .int)) (by decide +kernel) rfl ?_
  intro p e s m args below meth c s₁ B hml hv
  obtain ⟨rfl, hsz, hP, hK, hD0, hXB, hZ⟩ := hv
  have hx := B.exec
  have hb := B.bytes
  have hr := B.returns
  have hts := atoms_spec (ws := wsX4_placeOf) B.pre
  have hown : s.vm.findClass RX4 = some m.cls := findClass_of_methodNamed B.named
  have hlocks := B.notSynchronized
  subst hsz
  have hD := hD0.self (sz := s.heap.size)
  generalize hAe : va_A (xD T bd thr M) s.heap.size = A at hD hZ ⊢
  have hA : ∀ q : Nat, s.heap.size ≤ q → A q := fun q h => by rw [← hAe]; exact Or.inr h
  have hS : va_S A s.heap s.heap [] := va_S.rf
  have hP : va_P G vwCl (xD T bd thr M) s.heap := hP
  have hiX4 : ∀ w ∈ u_ws RX4 TX4 14, w ∈ wsX4_placeOf := by decide +kernel
  have hl := lv_entry ([.ref (bd 0), .int x]) (n := 3) (Nat.le_of_ble_eq_true rfl)
  rw [lg_entry_eq]
  generalize (lg_sl ([.ref (bd 0), .int x]) ++ List.replicate (3 - (lg_sl ([.ref (bd 0), .int x])).length) Slot.unset).toArray = ls at hl ⊢
  have hl : lv_has ls 3 [(0, .ref (bd 0)), (1, .int x)] := hl
  obtain ⟨s0, hs0, es0, ej0, hmin⟩ := xfp_in hex
  refine lv_iconst (v := nI 0) hx hb dX4_placeOf_0 (by decide) ?_
  refine lv_istore_n (lv' := [(2, .int (nI 0)), (0, .ref (bd 0)), (1, .int x)]) hx hb dX4_placeOf_1 rfl hl (by decide) rfl (fun ls hl => ?_)
  suffices LP : ∀ (n : Nat) (i : Nat), (i ≤ s0) → (s0 < i + n) → ∀ (H : Heap) (locs : List Loc), va_P G vwCl (xD T bd thr M) H → va_D A (xD T bd thr M) → va_S A s.heap H locs → ∀ (ls : Array Slot), lv_has ls 3 [(2, .int (nI i)), (0, .ref (bd 0)), (1, .int x)] → W p l e (headSpec wsX4_placeOf ({ frames := 0, cells := 0, slots := 0, locals := 0 })).room s m ([.ref (bd 0), .int x] : List Value).toArray below meth c H locs 0 0 (MQ below (va_Qi (fun (r : Int32) (u : Unit) => r = xfp (mpk M) x) (fun u t => va_P G vwCl (xD T bd thr M) t.heap) A) ([.ref (bd 0), .int x] : List Value).toArray s 0 0 A) (F0 m 2 ls []) from LP 17 0 (Nat.zero_le _) (by omega) _ _ hP hD hS ls (lv_sub hl [0, 1, 2] rfl)
  clear hP hD hS hl
  intro n
  induction n with
  | zero => intro i hi hn H locs _ _ _ ls _; exfalso; omega
  | succ n ih =>
    intro i hi hn H locs hP hD hS ls hl
    refine lv_aload_n hx hb dX4_placeOf_2 rfl (lv_at hl 1 rfl) ?_
    refine va_get (D := G) (ci := 4) (v := .ref (bd 1)) (C := RX4) (T := TX4) (N := 14) hx hb hts hiX4 hown hK hP 0 rfl rfl 1 (by decide) (hts (.fieldLink RX4 9 "CardFansModel" "pack" "[I") (by decide +kernel)) (fun _ h9 => h9) rfl dX4_placeOf_3 ?_
    refine lv_iload_n hx hb dX4_placeOf_6 rfl (lv_at hl 0 rfl) ?_
    refine x_iald hx hb hK hP 1 0 (f := (mpk M)) (n := 16) rfl rfl (Nat.lt_of_le_of_lt hi hs0) (by decide) dX4_placeOf_7 ?_
    refine lv_iload_n hx hb dX4_placeOf_8 rfl (lv_at hl 2 rfl) ?_
    by_cases he : i = s0
    · refine lv_icmp_eq (tgt := 18) hx hb dX4_placeOf_9 (by decide) (fun _ => ?_) (fun c_ => absurd (by rw [he]; exact ej0) c_)
      refine lv_iload_n hx hb dX4_placeOf_18 rfl (lv_at hl 0 rfl) ?_
      exact W.iret (v := nI i) hx hb hr (fun t9_ ht hW => ⟨⟨nI i, (), rfl, by rw [es0, he], x_at ht hP⟩, hS.F ht⟩) hS.2.2 dX4_placeOf_19
    · refine lv_icmp_eq (tgt := 18) hx hb dX4_placeOf_9 (by decide) (fun c_ => absurd c_ (hmin i (by omega))) (fun _ => ?_)
      refine lv_iinc (v := nI (i + 1)) (lv' := [(2, .int (nI (i + 1))), (0, .ref (bd 0)), (1, .int x)]) hx hb dX4_placeOf_12 hl (k := 0) rfl (x_inc _) (by decide) rfl (fun ls hl => ?_)
      refine lv_goto (tgt := 2) hx hb dX4_placeOf_15 (by decide) ?_
      exact ih (i + 1) (by omega) (by omega) _ _ hP hD hS ls (lv_sub hl [0, 1, 2] rfl)

set_option maxHeartbeats 4000000 in
set_option maxRecDepth 100000 in
/-- find -/
theorem c_X4_find (l : Launch) (G : va_G) (T : Nat → ClassId) (sz : Nat) (bd : Nat → Nat) (thr : Int32) (M : XM) (x : Int32) (hsur : ∀ c, c < 16 → ∃ j, j < 16 ∧ mpk M j = nI c) : Met l yX4_find wsX4_find ({ frames := 2, cells := 0, slots := 0, locals := 42 }) (va_Pc [.ref (bd 0), .int x] (xPre G T (xD T bd thr M) sz)) (va_Qi (fun (r : Int32) (u : Int32) => (xvb 16 x = true ∧ u = nI 0 ∧ r = xfp (mpk M) x) ∨ (xvb 16 x = false ∧ u = nI 1)) (fun u t => va_P G vwCl (xD T bd u M) t.heap) (va_A (xD T bd thr M) sz)) 0 0 (va_A (xD T bd thr M) sz) := by
  refine Met.ofW (cc := cX4_find) (maxL := 2) (ret := (some .int)) (by decide +kernel) rfl ?_
  intro p e s m args below meth c s₁ B hml hv
  obtain ⟨rfl, hsz, hP, hK, hD0, hXB, hZ⟩ := hv
  have hx := B.exec
  have hb := B.bytes
  have hr := B.returns
  have hts := atoms_spec (ws := wsX4_find) B.pre
  have hown : s.vm.findClass RX4 = some m.cls := findClass_of_methodNamed B.named
  have hlocks := B.notSynchronized
  subst hsz
  have hD := hD0.self (sz := s.heap.size)
  generalize hAe : va_A (xD T bd thr M) s.heap.size = A at hD hZ ⊢
  have hA : ∀ q : Nat, s.heap.size ≤ q → A q := fun q h => by rw [← hAe]; exact Or.inr h
  have hS : va_S A s.heap s.heap [] := va_S.rf
  have hP : va_P G vwCl (xD T bd thr M) s.heap := hP
  have hiX4 : ∀ w ∈ u_ws RX4 TX4 14, w ∈ wsX4_find := by decide +kernel
  have hl := lv_entry ([.ref (bd 0), .int x]) (n := 2) (Nat.le_of_ble_eq_true rfl)
  rw [lg_entry_eq]
  generalize (lg_sl ([.ref (bd 0), .int x]) ++ List.replicate (2 - (lg_sl ([.ref (bd 0), .int x])).length) Slot.unset).toArray = ls at hl ⊢
  have hl : lv_has ls 2 [(0, .ref (bd 0)), (1, .int x)] := hl
  refine lv_aload_n hx hb dX4_find_0 rfl (lv_at hl 0 rfl) ?_
  refine lv_iconst (v := nI 0) hx hb dX4_find_1 (by decide) ?_
  refine va_put (D := G) (ci := 4) (v := .int (nI 0)) (ty := .int) (C := RX4) (T := TX4) (N := 14) hx hb hts hiX4 tyX4 tyX4_ok nmX4 hown hK hP hD hS 0 rfl rfl 0 (by decide) (hts (.fieldLink RX4 33 "CardFansModel" "thrown" "I") (by decide +kernel)) (fun _ h9 => h9) rfl (by decide +kernel) rfl rfl (Nat.le_of_ble_eq_true rfl) dX4_find_2 (fun H locs hP hD hS => ?_)
  have hP : va_P G vwCl (xD T bd (nI 0) M) H := hP
  have hD : va_D A (xD T bd (nI 0) M) := hD
  refine lv_iload_n hx hb dX4_find_5 rfl (lv_at hl 1 rfl) ?_
  refine x_calli (va_runS (As := [.int x]) (rest := []) ⟨hx, hb, hml, hown, hts⟩ (c_X4_isPlace l G T _ x) (va_cwS 1 hts gX4_find_X4_isPlace rfl rfl rfl (by decide +kernel) ⟨Nat.le_of_ble_eq_true rfl, Nat.le_of_ble_eq_true rfl⟩) (x_preS (wc := []) hK hP hD hS hA hXB hZ [] rfl rfl _) rfl rfl hl.1 rfl (lv_room (Nat.le_of_ble_eq_true rfl)) dX4_find_6 ⟨Nat.le_of_ble_eq_true rfl, Nat.le_of_ble_eq_true rfl⟩) hP hD hS hA [] rfl (fun _ _ _ => rfl) (fun r1 u1 H locs hw1 hP hD hS => ?_)
  have hP : va_P G vwCl (xD T bd (nI 0) M) H := hP
  have hD : va_D A (xD T bd (nI 0) M) := hD
  refine lv_if_eq (tgt := 20) hx hb dX4_find_9 (by decide) (fun c1 => ?_) (fun c1 => ?_)
  · refine lv_aload_n hx hb dX4_find_20 rfl (lv_at hl 0 rfl) ?_
    refine lv_iconst (v := nI 1) hx hb dX4_find_21 (by decide) ?_
    refine x_calliW (va_runV (As := [.int (nI 1)]) (rest := []) ⟨hx, hb, hml, hown, hts⟩ (c_X4_no l G T _ bd (nI 0) M (nI 1)) (cwV 1 hts gX4_find_X4_no rfl rfl rfl (by decide +kernel) ⟨Nat.le_of_ble_eq_true rfl, Nat.le_of_ble_eq_true rfl⟩) (x_preVW (wc := (xD T bd (nI 0) M)) hK hP hD hS hA hXB hZ _ _ 0 4 rfl rfl) rfl rfl hl.1 rfl (lv_room (Nat.le_of_ble_eq_true rfl)) dX4_find_22 ⟨Nat.le_of_ble_eq_true rfl, Nat.le_of_ble_eq_true rfl⟩) hP hD hS hA (fun _ _ _ => xd_self rfl hD) (fun r8 u8 H locs hw8 hP hD hS => ?_)
    have hP : va_P G vwCl (xD T bd (nI 1) M) H := hP
    have hD : va_D A (xD T bd (nI 1) M) := hD
    exact W.iret (v := r8) hx hb hr (fun t9_ ht hW => ⟨⟨r8, (nI 1), rfl, Or.inr ⟨xb_of_eq hw1 c1, rfl⟩, x_at ht hP⟩, hS.F ht⟩) hS.2.2 dX4_find_25
  · have hv1 := xb_of_ne hw1 c1
    obtain ⟨k, hk, rfl⟩ := (xvb_iff (n := 16) (by decide)).mp (hv1)
    refine lv_aload_n hx hb dX4_find_12 rfl (lv_at hl 0 rfl) ?_
    refine lv_iload_n hx hb dX4_find_13 rfl (lv_at hl 1 rfl) ?_
    refine x_calliW (va_runV (As := [.int (nI k)]) (rest := []) ⟨hx, hb, hml, hown, hts⟩ (c_X4_placeOf l G T _ bd (nI 0) M (nI k) (hsur k hk)) (cwV 1 hts gX4_find_X4_placeOf rfl rfl rfl (by decide +kernel) ⟨Nat.le_of_ble_eq_true rfl, Nat.le_of_ble_eq_true rfl⟩) (x_preVW (wc := (xD T bd (nI 0) M)) hK hP hD hS hA hXB hZ _ _ 0 4 rfl rfl) rfl rfl hl.1 rfl (lv_room (Nat.le_of_ble_eq_true rfl)) dX4_find_14 ⟨Nat.le_of_ble_eq_true rfl, Nat.le_of_ble_eq_true rfl⟩) hP hD hS hA (fun _ _ _ => xd_self rfl hD) (fun r2 u2 H locs hw2 hP hD hS => ?_)
    have hP : va_P G vwCl (xD T bd (nI 0) M) H := hP
    have hD : va_D A (xD T bd (nI 0) M) := hD
    refine lv_goto (tgt := 25) hx hb dX4_find_17 (by decide) ?_
    exact W.iret (v := r2) hx hb hr (fun t9_ ht hW => ⟨⟨r2, (nI 0), rfl, Or.inl ⟨hv1, rfl, hw2⟩, x_at ht hP⟩, hS.F ht⟩) hS.2.2 dX4_find_25

set_option maxHeartbeats 4000000 in
set_option maxRecDepth 100000 in
/-- comes -/
theorem c_X4_comes (l : Launch) (G : va_G) (T : Nat → ClassId) (sz : Nat) (bd : Nat → Nat) (thr : Int32) (M : XM) (a b x : Int32) : Met l yX4_comes wsX4_comes ({ frames := 2, cells := 0, slots := 0, locals := 43 }) (va_Pc [.ref (bd 0), .int a, .int b, .int x] (xPre G T (xD T bd thr M) sz)) (va_Qi (fun (r : Int32) (u : Int32) => (xwb a b = true ∧ xvb 16 x = true ∧ u = nI 0 ∧ r = nI (xpa (xka a) (xka b) (xka x))) ∨ (xwb a b = false ∧ u = nI 1) ∨ (xwb a b = true ∧ xvb 16 x = false ∧ u = nI 2)) (fun u t => va_P G vwCl (xD T bd u M) t.heap) (va_A (xD T bd thr M) sz)) 0 0 (va_A (xD T bd thr M) sz) := by
  refine Met.ofW (cc := cX4_comes) (maxL := 4) (ret := (some .int)) (by decide +kernel) rfl ?_
  intro p e s m args below meth c s₁ B hml hv
  obtain ⟨rfl, hsz, hP, hK, hD0, hXB, hZ⟩ := hv
  have hx := B.exec
  have hb := B.bytes
  have hr := B.returns
  have hts := atoms_spec (ws := wsX4_comes) B.pre
  have hown : s.vm.findClass RX4 = some m.cls := findClass_of_methodNamed B.named
  have hlocks := B.notSynchronized
  subst hsz
  have hD := hD0.self (sz := s.heap.size)
  generalize hAe : va_A (xD T bd thr M) s.heap.size = A at hD hZ ⊢
  have hA : ∀ q : Nat, s.heap.size ≤ q → A q := fun q h => by rw [← hAe]; exact Or.inr h
  have hS : va_S A s.heap s.heap [] := va_S.rf
  have hP : va_P G vwCl (xD T bd thr M) s.heap := hP
  have hiX4 : ∀ w ∈ u_ws RX4 TX4 14, w ∈ wsX4_comes := by decide +kernel
  have hl := lv_entry ([.ref (bd 0), .int a, .int b, .int x]) (n := 4) (Nat.le_of_ble_eq_true rfl)
  rw [lg_entry_eq]
  generalize (lg_sl ([.ref (bd 0), .int a, .int b, .int x]) ++ List.replicate (4 - (lg_sl ([.ref (bd 0), .int a, .int b, .int x])).length) Slot.unset).toArray = ls at hl ⊢
  have hl : lv_has ls 4 [(0, .ref (bd 0)), (1, .int a), (2, .int b), (3, .int x)] := hl
  refine lv_aload_n hx hb dX4_comes_0 rfl (lv_at hl 0 rfl) ?_
  refine lv_iconst (v := nI 0) hx hb dX4_comes_1 (by decide) ?_
  refine va_put (D := G) (ci := 4) (v := .int (nI 0)) (ty := .int) (C := RX4) (T := TX4) (N := 14) hx hb hts hiX4 tyX4 tyX4_ok nmX4 hown hK hP hD hS 0 rfl rfl 0 (by decide) (hts (.fieldLink RX4 33 "CardFansModel" "thrown" "I") (by decide +kernel)) (fun _ h9 => h9) rfl (by decide +kernel) rfl rfl (Nat.le_of_ble_eq_true rfl) dX4_comes_2 (fun H locs hP hD hS => ?_)
  have hP : va_P G vwCl (xD T bd (nI 0) M) H := hP
  have hD : va_D A (xD T bd (nI 0) M) := hD
  refine lv_iload_n hx hb dX4_comes_5 rfl (lv_at hl 1 rfl) ?_
  refine lv_iload_n hx hb dX4_comes_6 rfl (lv_at hl 2 rfl) ?_
  refine x_calli (va_runS (As := [.int a, .int b]) (rest := []) ⟨hx, hb, hml, hown, hts⟩ (c_X4_isWay l G T _ a b) (va_cwS 2 hts gX4_comes_X4_isWay rfl rfl rfl (by decide +kernel) ⟨Nat.le_of_ble_eq_true rfl, Nat.le_of_ble_eq_true rfl⟩) (x_preS (wc := []) hK hP hD hS hA hXB hZ [] rfl rfl _) rfl rfl hl.1 rfl (lv_room (Nat.le_of_ble_eq_true rfl)) dX4_comes_7 ⟨Nat.le_of_ble_eq_true rfl, Nat.le_of_ble_eq_true rfl⟩) hP hD hS hA [] rfl (fun _ _ _ => rfl) (fun r0 u0 H locs hw0 hP hD hS => ?_)
  have hP : va_P G vwCl (xD T bd (nI 0) M) H := hP
  have hD : va_D A (xD T bd (nI 0) M) := hD
  refine lv_if_ne (tgt := 19) hx hb dX4_comes_10 (by decide) (fun c0 => ?_) (fun c0 => ?_)
  · have hv0 := xb_of_ne hw0 c0
    refine lv_iload_n hx hb dX4_comes_19 rfl (lv_at hl 3 rfl) ?_
    refine x_calli (va_runS (As := [.int x]) (rest := []) ⟨hx, hb, hml, hown, hts⟩ (c_X4_isPlace l G T _ x) (va_cwS 1 hts gX4_comes_X4_isPlace rfl rfl rfl (by decide +kernel) ⟨Nat.le_of_ble_eq_true rfl, Nat.le_of_ble_eq_true rfl⟩) (x_preS (wc := []) hK hP hD hS hA hXB hZ [] rfl rfl _) rfl rfl hl.1 rfl (lv_room (Nat.le_of_ble_eq_true rfl)) dX4_comes_20 ⟨Nat.le_of_ble_eq_true rfl, Nat.le_of_ble_eq_true rfl⟩) hP hD hS hA [] rfl (fun _ _ _ => rfl) (fun r1 u1 H locs hw1 hP hD hS => ?_)
    have hP : va_P G vwCl (xD T bd (nI 0) M) H := hP
    have hD : va_D A (xD T bd (nI 0) M) := hD
    refine lv_if_eq (tgt := 35) hx hb dX4_comes_23 (by decide) (fun c1 => ?_) (fun c1 => ?_)
    · refine lv_aload_n hx hb dX4_comes_35 rfl (lv_at hl 0 rfl) ?_
      refine lv_iconst (v := nI 2) hx hb dX4_comes_36 (by decide) ?_
      refine x_calliW (va_runV (As := [.int (nI 2)]) (rest := []) ⟨hx, hb, hml, hown, hts⟩ (c_X4_no l G T _ bd (nI 0) M (nI 2)) (cwV 1 hts gX4_comes_X4_no rfl rfl rfl (by decide +kernel) ⟨Nat.le_of_ble_eq_true rfl, Nat.le_of_ble_eq_true rfl⟩) (x_preVW (wc := (xD T bd (nI 0) M)) hK hP hD hS hA hXB hZ _ _ 0 4 rfl rfl) rfl rfl hl.1 rfl (lv_room (Nat.le_of_ble_eq_true rfl)) dX4_comes_37 ⟨Nat.le_of_ble_eq_true rfl, Nat.le_of_ble_eq_true rfl⟩) hP hD hS hA (fun _ _ _ => xd_self rfl hD) (fun r8 u8 H locs hw8 hP hD hS => ?_)
      have hP : va_P G vwCl (xD T bd (nI 2) M) H := hP
      have hD : va_D A (xD T bd (nI 2) M) := hD
      exact W.iret (v := r8) hx hb hr (fun t9_ ht hW => ⟨⟨r8, (nI 2), rfl, Or.inr (Or.inr ⟨hv0, xb_of_eq hw1 c1, rfl⟩), x_at ht hP⟩, hS.F ht⟩) hS.2.2 dX4_comes_40
    · have hv1 := xb_of_ne hw1 c1
      obtain ⟨k, n, hkn, rfl, rfl⟩ := xwb_iff.mp hv0
      obtain ⟨q, hq, rfl⟩ := (xvb_iff (n := 16) (by decide)).mp (hv1)
      refine lv_iload_n hx hb dX4_comes_26 rfl (lv_at hl 1 rfl) ?_
      refine lv_iload_n hx hb dX4_comes_27 rfl (lv_at hl 2 rfl) ?_
      refine lv_iload_n hx hb dX4_comes_28 rfl (lv_at hl 3 rfl) ?_
      refine x_calli (va_runS (As := [.int (nI k), .int (nI n), .int (nI q)]) (rest := []) ⟨hx, hb, hml, hown, hts⟩ (c_X4_to l G T _ k n q hkn hq) (va_cwS 3 hts gX4_comes_X4_to rfl rfl rfl (by decide +kernel) ⟨Nat.le_of_ble_eq_true rfl, Nat.le_of_ble_eq_true rfl⟩) (x_preS (wc := []) hK hP hD hS hA hXB hZ [] rfl rfl _) rfl rfl hl.1 rfl (lv_room (Nat.le_of_ble_eq_true rfl)) dX4_comes_29 ⟨Nat.le_of_ble_eq_true rfl, Nat.le_of_ble_eq_true rfl⟩) hP hD hS hA [] rfl (fun _ _ _ => rfl) (fun r2 u2 H locs hw2 hP hD hS => ?_)
      have hP : va_P G vwCl (xD T bd (nI 0) M) H := hP
      have hD : va_D A (xD T bd (nI 0) M) := hD
      refine lv_goto (tgt := 40) hx hb dX4_comes_32 (by decide) ?_
      have hb5 := xwn_lt hkn
      exact W.iret (v := r2) hx hb hr (fun t9_ ht hW => ⟨⟨r2, (nI 0), rfl, Or.inl ⟨hv0, hv1, rfl, by rw [hw2, xka_n (by omega), xka_n (by omega), xka_n (by omega)]⟩, x_at ht hP⟩, hS.F ht⟩) hS.2.2 dX4_comes_40
  · refine lv_aload_n hx hb dX4_comes_13 rfl (lv_at hl 0 rfl) ?_
    refine lv_iconst (v := nI 1) hx hb dX4_comes_14 (by decide) ?_
    refine x_calliW (va_runV (As := [.int (nI 1)]) (rest := []) ⟨hx, hb, hml, hown, hts⟩ (c_X4_no l G T _ bd (nI 0) M (nI 1)) (cwV 1 hts gX4_comes_X4_no rfl rfl rfl (by decide +kernel) ⟨Nat.le_of_ble_eq_true rfl, Nat.le_of_ble_eq_true rfl⟩) (x_preVW (wc := (xD T bd (nI 0) M)) hK hP hD hS hA hXB hZ _ _ 0 4 rfl rfl) rfl rfl hl.1 rfl (lv_room (Nat.le_of_ble_eq_true rfl)) dX4_comes_15 ⟨Nat.le_of_ble_eq_true rfl, Nat.le_of_ble_eq_true rfl⟩) hP hD hS hA (fun _ _ _ => xd_self rfl hD) (fun r8 u8 H locs hw8 hP hD hS => ?_)
    have hP : va_P G vwCl (xD T bd (nI 1) M) H := hP
    have hD : va_D A (xD T bd (nI 1) M) := hD
    exact W.iret (v := r8) hx hb hr (fun t9_ ht hW => ⟨⟨r8, (nI 1), rfl, Or.inr (Or.inl ⟨xb_of_eq hw0 c0, rfl⟩), x_at ht hP⟩, hS.F ht⟩) hS.2.2 dX4_comes_18

set_option maxHeartbeats 4000000 in
set_option maxRecDepth 100000 in
/-- fan -/
theorem c_X4_fan (l : Launch) (G : va_G) (T : Nat → ClassId) (sz : Nat) (bd : Nat → Nat) (thr : Int32) (M : XM) (x : Int32) : Met l yX4_fan wsX4_fan ({ frames := 2, cells := 0, slots := 0, locals := 42 }) (va_Pc [.ref (bd 0), .int x] (xPre G T (xD T bd thr M) sz)) (va_Qi (fun (r : Int32) (u : Int32) => (xvb 16 x = true ∧ u = nI 0 ∧ r = mle M) ∨ (xvb 16 x = false ∧ u = nI 1)) (fun u t => va_P G vwCl (xD T bd u (if xvb 16 x then (xmk (mpk M) (mth M) (msh M) (man M) (mgl M) (mhb M) (mtk M) (mnw M) (mnp M) x (mwy M) (mfc M) (mta M)) else M)) t.heap) (va_A (xD T bd thr M) sz)) 0 0 (va_A (xD T bd thr M) sz) := by
  refine Met.ofW (cc := cX4_fan) (maxL := 3) (ret := (some .int)) (by decide +kernel) rfl ?_
  intro p e s m args below meth c s₁ B hml hv
  obtain ⟨rfl, hsz, hP, hK, hD0, hXB, hZ⟩ := hv
  have hx := B.exec
  have hb := B.bytes
  have hr := B.returns
  have hts := atoms_spec (ws := wsX4_fan) B.pre
  have hown : s.vm.findClass RX4 = some m.cls := findClass_of_methodNamed B.named
  have hlocks := B.notSynchronized
  subst hsz
  have hD := hD0.self (sz := s.heap.size)
  generalize hAe : va_A (xD T bd thr M) s.heap.size = A at hD hZ ⊢
  have hA : ∀ q : Nat, s.heap.size ≤ q → A q := fun q h => by rw [← hAe]; exact Or.inr h
  have hS : va_S A s.heap s.heap [] := va_S.rf
  have hP : va_P G vwCl (xD T bd thr M) s.heap := hP
  have hiX4 : ∀ w ∈ u_ws RX4 TX4 14, w ∈ wsX4_fan := by decide +kernel
  have hl := lv_entry ([.ref (bd 0), .int x]) (n := 3) (Nat.le_of_ble_eq_true rfl)
  rw [lg_entry_eq]
  generalize (lg_sl ([.ref (bd 0), .int x]) ++ List.replicate (3 - (lg_sl ([.ref (bd 0), .int x])).length) Slot.unset).toArray = ls at hl ⊢
  have hl : lv_has ls 3 [(0, .ref (bd 0)), (1, .int x)] := hl
  refine lv_aload_n hx hb dX4_fan_0 rfl (lv_at hl 0 rfl) ?_
  refine lv_iconst (v := nI 0) hx hb dX4_fan_1 (by decide) ?_
  refine va_put (D := G) (ci := 4) (v := .int (nI 0)) (ty := .int) (C := RX4) (T := TX4) (N := 14) hx hb hts hiX4 tyX4 tyX4_ok nmX4 hown hK hP hD hS 0 rfl rfl 0 (by decide) (hts (.fieldLink RX4 33 "CardFansModel" "thrown" "I") (by decide +kernel)) (fun _ h9 => h9) rfl (by decide +kernel) rfl rfl (Nat.le_of_ble_eq_true rfl) dX4_fan_2 (fun H locs hP hD hS => ?_)
  have hP : va_P G vwCl (xD T bd (nI 0) M) H := hP
  have hD : va_D A (xD T bd (nI 0) M) := hD
  refine lv_iload_n hx hb dX4_fan_5 rfl (lv_at hl 1 rfl) ?_
  refine x_calli (va_runS (As := [.int x]) (rest := []) ⟨hx, hb, hml, hown, hts⟩ (c_X4_isPlace l G T _ x) (va_cwS 1 hts gX4_fan_X4_isPlace rfl rfl rfl (by decide +kernel) ⟨Nat.le_of_ble_eq_true rfl, Nat.le_of_ble_eq_true rfl⟩) (x_preS (wc := []) hK hP hD hS hA hXB hZ [] rfl rfl _) rfl rfl hl.1 rfl (lv_room (Nat.le_of_ble_eq_true rfl)) dX4_fan_6 ⟨Nat.le_of_ble_eq_true rfl, Nat.le_of_ble_eq_true rfl⟩) hP hD hS hA [] rfl (fun _ _ _ => rfl) (fun r1 u1 H locs hw1 hP hD hS => ?_)
  have hP : va_P G vwCl (xD T bd (nI 0) M) H := hP
  have hD : va_D A (xD T bd (nI 0) M) := hD
  refine lv_if_ne (tgt := 18) hx hb dX4_fan_9 (by decide) (fun c1 => ?_) (fun c1 => ?_)
  · have hv1 := xb_of_ne hw1 c1
    refine lv_aload_n hx hb dX4_fan_18 rfl (lv_at hl 0 rfl) ?_
    refine va_get (D := G) (ci := 4) (v := .int (mle M)) (C := RX4) (T := TX4) (N := 14) hx hb hts hiX4 hown hK hP 0 rfl rfl 10 (by decide) (hts (.fieldLink RX4 104 "CardFansModel" "lean" "I") (by decide +kernel)) (fun _ h9 => h9) rfl dX4_fan_19 ?_
    refine lv_istore_n (lv' := [(2, .int (mle M)), (0, .ref (bd 0)), (1, .int x)]) hx hb dX4_fan_22 rfl hl (by decide) rfl (fun ls hl => ?_)
    refine lv_aload_n hx hb dX4_fan_23 rfl (lv_at hl 1 rfl) ?_
    refine lv_iload_n hx hb dX4_fan_24 rfl (lv_at hl 2 rfl) ?_
    refine va_put (D := G) (ci := 4) (v := .int x) (ty := .int) (C := RX4) (T := TX4) (N := 14) hx hb hts hiX4 tyX4 tyX4_ok nmX4 hown hK hP hD hS 0 rfl rfl 10 (by decide) (hts (.fieldLink RX4 104 "CardFansModel" "lean" "I") (by decide +kernel)) (fun _ h9 => h9) rfl (by decide +kernel) rfl rfl (Nat.le_of_ble_eq_true rfl) dX4_fan_25 (fun H locs hP hD hS => ?_)
    have hP : va_P G vwCl (xD T bd (nI 0) (xmk (mpk M) (mth M) (msh M) (man M) (mgl M) (mhb M) (mtk M) (mnw M) (mnp M) x (mwy M) (mfc M) (mta M))) H := hP
    have hD : va_D A (xD T bd (nI 0) (xmk (mpk M) (mth M) (msh M) (man M) (mgl M) (mhb M) (mtk M) (mnw M) (mnp M) x (mwy M) (mfc M) (mta M))) := hD
    refine lv_iload_n hx hb dX4_fan_28 rfl (lv_at hl 0 rfl) ?_
    exact W.iret (v := mle M) hx hb hr (fun t9_ ht hW => ⟨⟨mle M, (nI 0), rfl, Or.inl ⟨hv1, rfl, rfl⟩, x_at ht (by rw [if_pos hv1]; exact hP)⟩, hS.F ht⟩) hS.2.2 dX4_fan_29
  · refine lv_aload_n hx hb dX4_fan_12 rfl (lv_at hl 0 rfl) ?_
    refine lv_iconst (v := nI 1) hx hb dX4_fan_13 (by decide) ?_
    refine x_calliW (va_runV (As := [.int (nI 1)]) (rest := []) ⟨hx, hb, hml, hown, hts⟩ (c_X4_no l G T _ bd (nI 0) M (nI 1)) (cwV 1 hts gX4_fan_X4_no rfl rfl rfl (by decide +kernel) ⟨Nat.le_of_ble_eq_true rfl, Nat.le_of_ble_eq_true rfl⟩) (x_preVW (wc := (xD T bd (nI 0) M)) hK hP hD hS hA hXB hZ _ _ 0 4 rfl rfl) rfl rfl hl.1 rfl (lv_room (Nat.le_of_ble_eq_true rfl)) dX4_fan_14 ⟨Nat.le_of_ble_eq_true rfl, Nat.le_of_ble_eq_true rfl⟩) hP hD hS hA (fun _ _ _ => xd_self rfl hD) (fun r8 u8 H locs hw8 hP hD hS => ?_)
    have hP : va_P G vwCl (xD T bd (nI 1) M) H := hP
    have hD : va_D A (xD T bd (nI 1) M) := hD
    exact W.iret (v := r8) hx hb hr (fun t9_ ht hW => ⟨⟨r8, (nI 1), rfl, Or.inr ⟨xb_of_eq hw1 c1, rfl⟩, x_at ht (by rw [if_neg (by rw [xb_of_eq hw1 c1]; exact Bool.false_ne_true)]; exact hP)⟩, hS.F ht⟩) hS.2.2 dX4_fan_17

set_option maxHeartbeats 4000000 in
set_option maxRecDepth 100000 in
/-- took -/
theorem c_X4_took (l : Launch) (G : va_G) (T : Nat → ClassId) (sz : Nat) (bd : Nat → Nat) (thr : Int32) (M : XM) (x : Int32) (hm4 : mnp M ≤ 4) : Met l yX4_took wsX4_took ({ frames := 2, cells := 0, slots := 0, locals := 43 }) (va_Pc [.ref (bd 0), .int x] (xPre G T (xD T bd thr M) sz)) (va_Qi (fun (r : Int32) (u : Int32) => (xvb (mnp M) x = true ∧ u = nI 0 ∧ r = mtk M (xka x)) ∨ (xvb (mnp M) x = false ∧ u = nI 1)) (fun u t => va_P G vwCl (xD T bd u M) t.heap) (va_A (xD T bd thr M) sz)) 0 0 (va_A (xD T bd thr M) sz) := by
  refine Met.ofW (cc := cX4_took) (maxL := 2) (ret := (some .int)) (by decide +kernel) rfl ?_
  intro p e s m args below meth c s₁ B hml hv
  obtain ⟨rfl, hsz, hP, hK, hD0, hXB, hZ⟩ := hv
  have hx := B.exec
  have hb := B.bytes
  have hr := B.returns
  have hts := atoms_spec (ws := wsX4_took) B.pre
  have hown : s.vm.findClass RX4 = some m.cls := findClass_of_methodNamed B.named
  have hlocks := B.notSynchronized
  subst hsz
  have hD := hD0.self (sz := s.heap.size)
  generalize hAe : va_A (xD T bd thr M) s.heap.size = A at hD hZ ⊢
  have hA : ∀ q : Nat, s.heap.size ≤ q → A q := fun q h => by rw [← hAe]; exact Or.inr h
  have hS : va_S A s.heap s.heap [] := va_S.rf
  have hP : va_P G vwCl (xD T bd thr M) s.heap := hP
  have hiX4 : ∀ w ∈ u_ws RX4 TX4 14, w ∈ wsX4_took := by decide +kernel
  have hl := lv_entry ([.ref (bd 0), .int x]) (n := 2) (Nat.le_of_ble_eq_true rfl)
  rw [lg_entry_eq]
  generalize (lg_sl ([.ref (bd 0), .int x]) ++ List.replicate (2 - (lg_sl ([.ref (bd 0), .int x])).length) Slot.unset).toArray = ls at hl ⊢
  have hl : lv_has ls 2 [(0, .ref (bd 0)), (1, .int x)] := hl
  refine lv_aload_n hx hb dX4_took_0 rfl (lv_at hl 0 rfl) ?_
  refine lv_iconst (v := nI 0) hx hb dX4_took_1 (by decide) ?_
  refine va_put (D := G) (ci := 4) (v := .int (nI 0)) (ty := .int) (C := RX4) (T := TX4) (N := 14) hx hb hts hiX4 tyX4 tyX4_ok nmX4 hown hK hP hD hS 0 rfl rfl 0 (by decide) (hts (.fieldLink RX4 33 "CardFansModel" "thrown" "I") (by decide +kernel)) (fun _ h9 => h9) rfl (by decide +kernel) rfl rfl (Nat.le_of_ble_eq_true rfl) dX4_took_2 (fun H locs hP hD hS => ?_)
  have hP : va_P G vwCl (xD T bd (nI 0) M) H := hP
  have hD : va_D A (xD T bd (nI 0) M) := hD
  refine lv_aload_n hx hb dX4_took_5 rfl (lv_at hl 0 rfl) ?_
  refine lv_iload_n hx hb dX4_took_6 rfl (lv_at hl 1 rfl) ?_
  refine x_calliW (va_runV (As := [.int x]) (rest := []) ⟨hx, hb, hml, hown, hts⟩ (c_X4_isPlayer l G T _ bd (nI 0) M x hm4) (cwV 1 hts gX4_took_X4_isPlayer rfl rfl rfl (by decide +kernel) ⟨Nat.le_of_ble_eq_true rfl, Nat.le_of_ble_eq_true rfl⟩) (x_preVW (wc := (xD T bd (nI 0) M)) hK hP hD hS hA hXB hZ _ _ 0 4 rfl rfl) rfl rfl hl.1 rfl (lv_room (Nat.le_of_ble_eq_true rfl)) dX4_took_7 ⟨Nat.le_of_ble_eq_true rfl, Nat.le_of_ble_eq_true rfl⟩) hP hD hS hA (fun _ _ _ => xd_self rfl hD) (fun r0 u0 H locs hw0 hP hD hS => ?_)
  have hP : va_P G vwCl (xD T bd (nI 0) M) H := hP
  have hD : va_D A (xD T bd (nI 0) M) := hD
  refine lv_if_eq (tgt := 22) hx hb dX4_took_10 (by decide) (fun c1 => ?_) (fun c1 => ?_)
  · refine lv_aload_n hx hb dX4_took_22 rfl (lv_at hl 0 rfl) ?_
    refine lv_iconst (v := nI 1) hx hb dX4_took_23 (by decide) ?_
    refine x_calliW (va_runV (As := [.int (nI 1)]) (rest := []) ⟨hx, hb, hml, hown, hts⟩ (c_X4_no l G T _ bd (nI 0) M (nI 1)) (cwV 1 hts gX4_took_X4_no rfl rfl rfl (by decide +kernel) ⟨Nat.le_of_ble_eq_true rfl, Nat.le_of_ble_eq_true rfl⟩) (x_preVW (wc := (xD T bd (nI 0) M)) hK hP hD hS hA hXB hZ _ _ 0 4 rfl rfl) rfl rfl hl.1 rfl (lv_room (Nat.le_of_ble_eq_true rfl)) dX4_took_24 ⟨Nat.le_of_ble_eq_true rfl, Nat.le_of_ble_eq_true rfl⟩) hP hD hS hA (fun _ _ _ => xd_self rfl hD) (fun r8 u8 H locs hw8 hP hD hS => ?_)
    have hP : va_P G vwCl (xD T bd (nI 1) M) H := hP
    have hD : va_D A (xD T bd (nI 1) M) := hD
    exact W.iret (v := r8) hx hb hr (fun t9_ ht hW => ⟨⟨r8, (nI 1), rfl, Or.inr ⟨xb_of_eq hw0 c1, rfl⟩, x_at ht hP⟩, hS.F ht⟩) hS.2.2 dX4_took_27
  · have hv1 := xb_of_ne hw0 c1
    obtain ⟨k, hk, rfl⟩ := (xvb_iff (n := mnp M) (by omega)).mp (hv1)
    refine lv_aload_n hx hb dX4_took_13 rfl (lv_at hl 0 rfl) ?_
    refine va_get (D := G) (ci := 4) (v := .ref (bd 7)) (C := RX4) (T := TX4) (N := 14) hx hb hts hiX4 hown hK hP 0 rfl rfl 9 (by decide) (hts (.fieldLink RX4 30 "CardFansModel" "took" "[I") (by decide +kernel)) (fun _ h9 => h9) rfl dX4_took_14 ?_
    refine lv_iload_n hx hb dX4_took_17 rfl (lv_at hl 1 rfl) ?_
    refine x_iald hx hb hK hP 7 0 (f := (mtk M)) (n := 4) rfl rfl (Nat.lt_of_lt_of_le hk hm4) (by decide) dX4_took_18 ?_
    refine lv_goto (tgt := 27) hx hb dX4_took_19 (by decide) ?_
    exact W.iret (v := (mtk M) k) hx hb hr (fun t9_ ht hW => ⟨⟨(mtk M) k, (nI 0), rfl, Or.inl ⟨hv1, rfl, by rw [xka_n (by omega)]⟩, x_at ht hP⟩, hS.F ht⟩) hS.2.2 dX4_took_27

set_option maxHeartbeats 4000000 in
set_option maxRecDepth 100000 in
/-- X4_thinks -/
theorem c_X4_thinks (l : Launch) (G : va_G) (T : Nat → ClassId) (sz : Nat) (bd : Nat → Nat) (thr : Int32) (M : XM) (x y : Int32) (hn4 : mnw M ≤ 4) : Met l yX4_thinks wsX4_thinks ({ frames := 2, cells := 0, slots := 0, locals := 43 }) (va_Pc [.ref (bd 0), .int x, .int y] (xPre G T (xD T bd thr M) sz)) (va_Qi (fun (r : Int32) (u : Int32) => ((xvb (mnw M) x && xvb 16 y) = true ∧ u = nI 0 ∧ r = mth M (xka x) (xka y)) ∨ ((xvb (mnw M) x && xvb 16 y) = false ∧ u = nI 1)) (fun u t => va_P G vwCl (xD T bd u M) t.heap) (va_A (xD T bd thr M) sz)) 0 0 (va_A (xD T bd thr M) sz) := by
  refine Met.ofW (cc := cX4_thinks) (maxL := 3) (ret := (some .int)) (by decide +kernel) rfl ?_
  intro p e s m args below meth c s₁ B hml hv
  obtain ⟨rfl, hsz, hP, hK, hD0, hXB, hZ⟩ := hv
  have hx := B.exec
  have hb := B.bytes
  have hr := B.returns
  have hts := atoms_spec (ws := wsX4_thinks) B.pre
  have hown : s.vm.findClass RX4 = some m.cls := findClass_of_methodNamed B.named
  have hlocks := B.notSynchronized
  subst hsz
  have hD := hD0.self (sz := s.heap.size)
  generalize hAe : va_A (xD T bd thr M) s.heap.size = A at hD hZ ⊢
  have hA : ∀ q : Nat, s.heap.size ≤ q → A q := fun q h => by rw [← hAe]; exact Or.inr h
  have hS : va_S A s.heap s.heap [] := va_S.rf
  have hP : va_P G vwCl (xD T bd thr M) s.heap := hP
  have hiX4 : ∀ w ∈ u_ws RX4 TX4 14, w ∈ wsX4_thinks := by decide +kernel
  have hl := lv_entry ([.ref (bd 0), .int x, .int y]) (n := 3) (Nat.le_of_ble_eq_true rfl)
  rw [lg_entry_eq]
  generalize (lg_sl ([.ref (bd 0), .int x, .int y]) ++ List.replicate (3 - (lg_sl ([.ref (bd 0), .int x, .int y])).length) Slot.unset).toArray = ls at hl ⊢
  have hl : lv_has ls 3 [(0, .ref (bd 0)), (1, .int x), (2, .int y)] := hl
  refine lv_aload_n hx hb dX4_thinks_0 rfl (lv_at hl 0 rfl) ?_
  refine lv_iconst (v := nI 0) hx hb dX4_thinks_1 (by decide) ?_
  refine va_put (D := G) (ci := 4) (v := .int (nI 0)) (ty := .int) (C := RX4) (T := TX4) (N := 14) hx hb hts hiX4 tyX4 tyX4_ok nmX4 hown hK hP hD hS 0 rfl rfl 0 (by decide) (hts (.fieldLink RX4 33 "CardFansModel" "thrown" "I") (by decide +kernel)) (fun _ h9 => h9) rfl (by decide +kernel) rfl rfl (Nat.le_of_ble_eq_true rfl) dX4_thinks_2 (fun H locs hP hD hS => ?_)
  have hP : va_P G vwCl (xD T bd (nI 0) M) H := hP
  have hD : va_D A (xD T bd (nI 0) M) := hD
  refine lv_aload_n hx hb dX4_thinks_5 rfl (lv_at hl 0 rfl) ?_
  refine lv_iload_n hx hb dX4_thinks_6 rfl (lv_at hl 1 rfl) ?_
  refine x_calliW (va_runV (As := [.int x]) (rest := []) ⟨hx, hb, hml, hown, hts⟩ (c_X4_isWatcher l G T _ bd (nI 0) M x hn4) (cwV 1 hts gX4_thinks_X4_isWatcher rfl rfl rfl (by decide +kernel) ⟨Nat.le_of_ble_eq_true rfl, Nat.le_of_ble_eq_true rfl⟩) (x_preVW (wc := (xD T bd (nI 0) M)) hK hP hD hS hA hXB hZ _ _ 0 4 rfl rfl) rfl rfl hl.1 rfl (lv_room (Nat.le_of_ble_eq_true rfl)) dX4_thinks_7 ⟨Nat.le_of_ble_eq_true rfl, Nat.le_of_ble_eq_true rfl⟩) hP hD hS hA (fun _ _ _ => xd_self rfl hD) (fun r0 u0 H locs hw0 hP hD hS => ?_)
  have hP : va_P G vwCl (xD T bd (nI 0) M) H := hP
  have hD : va_D A (xD T bd (nI 0) M) := hD
  refine lv_if_eq (tgt := 31) hx hb dX4_thinks_10 (by decide) (fun c0 => ?_) (fun c0 => ?_)
  · refine lv_aload_n hx hb dX4_thinks_31 rfl (lv_at hl 0 rfl) ?_
    refine lv_iconst (v := nI 1) hx hb dX4_thinks_32 (by decide) ?_
    refine x_calliW (va_runV (As := [.int (nI 1)]) (rest := []) ⟨hx, hb, hml, hown, hts⟩ (c_X4_no l G T _ bd (nI 0) M (nI 1)) (cwV 1 hts gX4_thinks_X4_no rfl rfl rfl (by decide +kernel) ⟨Nat.le_of_ble_eq_true rfl, Nat.le_of_ble_eq_true rfl⟩) (x_preVW (wc := (xD T bd (nI 0) M)) hK hP hD hS hA hXB hZ _ _ 0 4 rfl rfl) rfl rfl hl.1 rfl (lv_room (Nat.le_of_ble_eq_true rfl)) dX4_thinks_33 ⟨Nat.le_of_ble_eq_true rfl, Nat.le_of_ble_eq_true rfl⟩) hP hD hS hA (fun _ _ _ => xd_self rfl hD) (fun r8 u8 H locs hw8 hP hD hS => ?_)
    have hP : va_P G vwCl (xD T bd (nI 1) M) H := hP
    have hD : va_D A (xD T bd (nI 1) M) := hD
    exact W.iret (v := r8) hx hb hr (fun t9_ ht hW => ⟨⟨r8, (nI 1), rfl, Or.inr ⟨by rw [xb_of_eq hw0 c0, Bool.false_and], rfl⟩, x_at ht hP⟩, hS.F ht⟩) hS.2.2 dX4_thinks_36
  · have hv0 := xb_of_ne hw0 c0
    refine lv_iload_n hx hb dX4_thinks_13 rfl (lv_at hl 2 rfl) ?_
    refine x_calli (va_runS (As := [.int y]) (rest := []) ⟨hx, hb, hml, hown, hts⟩ (c_X4_isPlace l G T _ y) (va_cwS 1 hts gX4_thinks_X4_isPlace rfl rfl rfl (by decide +kernel) ⟨Nat.le_of_ble_eq_true rfl, Nat.le_of_ble_eq_true rfl⟩) (x_preS (wc := []) hK hP hD hS hA hXB hZ [] rfl rfl _) rfl rfl hl.1 rfl (lv_room (Nat.le_of_ble_eq_true rfl)) dX4_thinks_14 ⟨Nat.le_of_ble_eq_true rfl, Nat.le_of_ble_eq_true rfl⟩) hP hD hS hA [] rfl (fun _ _ _ => rfl) (fun r1 u1 H locs hw1 hP hD hS => ?_)
    have hP : va_P G vwCl (xD T bd (nI 0) M) H := hP
    have hD : va_D A (xD T bd (nI 0) M) := hD
    refine lv_if_eq (tgt := 31) hx hb dX4_thinks_17 (by decide) (fun c1 => ?_) (fun c1 => ?_)
    · refine lv_aload_n hx hb dX4_thinks_31 rfl (lv_at hl 0 rfl) ?_
      refine lv_iconst (v := nI 1) hx hb dX4_thinks_32 (by decide) ?_
      refine x_calliW (va_runV (As := [.int (nI 1)]) (rest := []) ⟨hx, hb, hml, hown, hts⟩ (c_X4_no l G T _ bd (nI 0) M (nI 1)) (cwV 1 hts gX4_thinks_X4_no rfl rfl rfl (by decide +kernel) ⟨Nat.le_of_ble_eq_true rfl, Nat.le_of_ble_eq_true rfl⟩) (x_preVW (wc := (xD T bd (nI 0) M)) hK hP hD hS hA hXB hZ _ _ 0 4 rfl rfl) rfl rfl hl.1 rfl (lv_room (Nat.le_of_ble_eq_true rfl)) dX4_thinks_33 ⟨Nat.le_of_ble_eq_true rfl, Nat.le_of_ble_eq_true rfl⟩) hP hD hS hA (fun _ _ _ => xd_self rfl hD) (fun r8 u8 H locs hw8 hP hD hS => ?_)
      have hP : va_P G vwCl (xD T bd (nI 1) M) H := hP
      have hD : va_D A (xD T bd (nI 1) M) := hD
      exact W.iret (v := r8) hx hb hr (fun t9_ ht hW => ⟨⟨r8, (nI 1), rfl, Or.inr ⟨by rw [hv0, xb_of_eq hw1 c1]; rfl, rfl⟩, x_at ht hP⟩, hS.F ht⟩) hS.2.2 dX4_thinks_36
    · have hv1 := xb_of_ne hw1 c1
      have hv : (xvb (mnw M) x && xvb 16 y) = true := by rw [hv0, hv1]; rfl
      obtain ⟨k, hk, rfl⟩ := (xvb_iff (n := mnw M) (by omega)).mp (hv0)
      obtain ⟨j, hj, rfl⟩ := (xvb_iff (n := 16) (by decide)).mp (hv1)
      have hk4 : k < 4 := Nat.lt_of_lt_of_le hk hn4
      refine lv_aload_n hx hb dX4_thinks_20 rfl (lv_at hl 0 rfl) ?_
      refine va_get (D := G) (ci := 4) (v := .ref (bd 3)) (C := RX4) (T := TX4) (N := 14) hx hb hts hiX4 hown hK hP 0 rfl rfl 4 (by decide) (hts (.fieldLink RX4 18 "CardFansModel" "thinks" "[[I") (by decide +kernel)) (fun _ h9 => h9) rfl dX4_thinks_21 ?_
      refine lv_iload_n hx hb dX4_thinks_24 rfl (lv_at hl 1 rfl) ?_
      refine x_aaldA hx hb hK hP 3 3 rfl rfl hk4 (by decide) dX4_thinks_25 (v := .ref (bd (8 + k))) (by show va_rf (if k < 4 then _ else _) = _; rw [if_pos hk4]; rfl) ?_
      refine lv_iload_n hx hb dX4_thinks_26 rfl (lv_at hl 2 rfl) ?_
      refine x_iald hx hb hK hP (8 + k) 0 (f := (mth M k)) (n := 16) (xD_row T bd (nI 0) M hk4) rfl hj (by decide) dX4_thinks_27 ?_
      refine lv_goto (tgt := 36) hx hb dX4_thinks_28 (by decide) ?_
      exact W.iret (v := (mth M k) j) hx hb hr (fun t9_ ht hW => ⟨⟨(mth M k) j, (nI 0), rfl, Or.inl ⟨hv, rfl, by rw [xka_n (by omega), xka_n (by omega)]⟩, x_at ht hP⟩, hS.F ht⟩) hS.2.2 dX4_thinks_36

set_option maxHeartbeats 4000000 in
set_option maxRecDepth 100000 in
/-- X4_sure -/
theorem c_X4_sure (l : Launch) (G : va_G) (T : Nat → ClassId) (sz : Nat) (bd : Nat → Nat) (thr : Int32) (M : XM) (x y : Int32) (hn4 : mnw M ≤ 4) : Met l yX4_sure wsX4_sure ({ frames := 2, cells := 0, slots := 0, locals := 43 }) (va_Pc [.ref (bd 0), .int x, .int y] (xPre G T (xD T bd thr M) sz)) (va_Qi (fun (r : Int32) (u : Int32) => ((xvb (mnw M) x && xvb 16 y) = true ∧ u = nI 0 ∧ r = xfp (mth M (xka x)) (xso y)) ∨ ((xvb (mnw M) x && xvb 16 y) = false ∧ u = nI 1)) (fun u t => va_P G vwCl (xD T bd u M) t.heap) (va_A (xD T bd thr M) sz)) 0 0 (va_A (xD T bd thr M) sz) := by
  refine Met.ofW (cc := cX4_sure) (maxL := 4) (ret := (some .int)) (by decide +kernel) rfl ?_
  intro p e s m args below meth c s₁ B hml hv
  obtain ⟨rfl, hsz, hP, hK, hD0, hXB, hZ⟩ := hv
  have hx := B.exec
  have hb := B.bytes
  have hr := B.returns
  have hts := atoms_spec (ws := wsX4_sure) B.pre
  have hown : s.vm.findClass RX4 = some m.cls := findClass_of_methodNamed B.named
  have hlocks := B.notSynchronized
  subst hsz
  have hD := hD0.self (sz := s.heap.size)
  generalize hAe : va_A (xD T bd thr M) s.heap.size = A at hD hZ ⊢
  have hA : ∀ q : Nat, s.heap.size ≤ q → A q := fun q h => by rw [← hAe]; exact Or.inr h
  have hS : va_S A s.heap s.heap [] := va_S.rf
  have hP : va_P G vwCl (xD T bd thr M) s.heap := hP
  have hiX4 : ∀ w ∈ u_ws RX4 TX4 14, w ∈ wsX4_sure := by decide +kernel
  have hl := lv_entry ([.ref (bd 0), .int x, .int y]) (n := 4) (Nat.le_of_ble_eq_true rfl)
  rw [lg_entry_eq]
  generalize (lg_sl ([.ref (bd 0), .int x, .int y]) ++ List.replicate (4 - (lg_sl ([.ref (bd 0), .int x, .int y])).length) Slot.unset).toArray = ls at hl ⊢
  have hl : lv_has ls 4 [(0, .ref (bd 0)), (1, .int x), (2, .int y)] := hl
  refine lv_aload_n hx hb dX4_sure_0 rfl (lv_at hl 0 rfl) ?_
  refine lv_iconst (v := nI 0) hx hb dX4_sure_1 (by decide) ?_
  refine va_put (D := G) (ci := 4) (v := .int (nI 0)) (ty := .int) (C := RX4) (T := TX4) (N := 14) hx hb hts hiX4 tyX4 tyX4_ok nmX4 hown hK hP hD hS 0 rfl rfl 0 (by decide) (hts (.fieldLink RX4 33 "CardFansModel" "thrown" "I") (by decide +kernel)) (fun _ h9 => h9) rfl (by decide +kernel) rfl rfl (Nat.le_of_ble_eq_true rfl) dX4_sure_2 (fun H locs hP hD hS => ?_)
  have hP : va_P G vwCl (xD T bd (nI 0) M) H := hP
  have hD : va_D A (xD T bd (nI 0) M) := hD
  refine lv_aload_n hx hb dX4_sure_5 rfl (lv_at hl 0 rfl) ?_
  refine lv_iload_n hx hb dX4_sure_6 rfl (lv_at hl 1 rfl) ?_
  refine x_calliW (va_runV (As := [.int x]) (rest := []) ⟨hx, hb, hml, hown, hts⟩ (c_X4_isWatcher l G T _ bd (nI 0) M x hn4) (cwV 1 hts gX4_sure_X4_isWatcher rfl rfl rfl (by decide +kernel) ⟨Nat.le_of_ble_eq_true rfl, Nat.le_of_ble_eq_true rfl⟩) (x_preVW (wc := (xD T bd (nI 0) M)) hK hP hD hS hA hXB hZ _ _ 0 4 rfl rfl) rfl rfl hl.1 rfl (lv_room (Nat.le_of_ble_eq_true rfl)) dX4_sure_7 ⟨Nat.le_of_ble_eq_true rfl, Nat.le_of_ble_eq_true rfl⟩) hP hD hS hA (fun _ _ _ => xd_self rfl hD) (fun r0 u0 H locs hw0 hP hD hS => ?_)
  have hP : va_P G vwCl (xD T bd (nI 0) M) H := hP
  have hD : va_D A (xD T bd (nI 0) M) := hD
  refine lv_if_eq (tgt := 20) hx hb dX4_sure_10 (by decide) (fun c0 => ?_) (fun c0 => ?_)
  · refine lv_aload_n hx hb dX4_sure_20 rfl (lv_at hl 0 rfl) ?_
    refine lv_iconst (v := nI 1) hx hb dX4_sure_21 (by decide) ?_
    refine x_calliW (va_runV (As := [.int (nI 1)]) (rest := []) ⟨hx, hb, hml, hown, hts⟩ (c_X4_no l G T _ bd (nI 0) M (nI 1)) (cwV 1 hts gX4_sure_X4_no rfl rfl rfl (by decide +kernel) ⟨Nat.le_of_ble_eq_true rfl, Nat.le_of_ble_eq_true rfl⟩) (x_preVW (wc := (xD T bd (nI 0) M)) hK hP hD hS hA hXB hZ _ _ 0 4 rfl rfl) rfl rfl hl.1 rfl (lv_room (Nat.le_of_ble_eq_true rfl)) dX4_sure_22 ⟨Nat.le_of_ble_eq_true rfl, Nat.le_of_ble_eq_true rfl⟩) hP hD hS hA (fun _ _ _ => xd_self rfl hD) (fun r8 u8 H locs hw8 hP hD hS => ?_)
    have hP : va_P G vwCl (xD T bd (nI 1) M) H := hP
    have hD : va_D A (xD T bd (nI 1) M) := hD
    exact W.iret (v := r8) hx hb hr (fun t9_ ht hW => ⟨⟨r8, (nI 1), rfl, Or.inr ⟨by rw [xb_of_eq hw0 c0, Bool.false_and], rfl⟩, x_at ht hP⟩, hS.F ht⟩) hS.2.2 dX4_sure_25
  · have hv0 := xb_of_ne hw0 c0
    refine lv_iload_n hx hb dX4_sure_13 rfl (lv_at hl 2 rfl) ?_
    refine x_calli (va_runS (As := [.int y]) (rest := []) ⟨hx, hb, hml, hown, hts⟩ (c_X4_isPlace l G T _ y) (va_cwS 1 hts gX4_sure_X4_isPlace rfl rfl rfl (by decide +kernel) ⟨Nat.le_of_ble_eq_true rfl, Nat.le_of_ble_eq_true rfl⟩) (x_preS (wc := []) hK hP hD hS hA hXB hZ [] rfl rfl _) rfl rfl hl.1 rfl (lv_room (Nat.le_of_ble_eq_true rfl)) dX4_sure_14 ⟨Nat.le_of_ble_eq_true rfl, Nat.le_of_ble_eq_true rfl⟩) hP hD hS hA [] rfl (fun _ _ _ => rfl) (fun r1 u1 H locs hw1 hP hD hS => ?_)
    have hP : va_P G vwCl (xD T bd (nI 0) M) H := hP
    have hD : va_D A (xD T bd (nI 0) M) := hD
    refine lv_if_ne (tgt := 26) hx hb dX4_sure_17 (by decide) (fun c1 => ?_) (fun c1 => ?_)
    · have hv1 := xb_of_ne hw1 c1
      have hv : (xvb (mnw M) x && xvb 16 y) = true := by rw [hv0, hv1]; rfl
      obtain ⟨k, hk, rfl⟩ := (xvb_iff (n := mnw M) (by omega)).mp (hv0)
      have hk4 : k < 4 := Nat.lt_of_lt_of_le hk hn4
      rw [xka_n (show k < 2 ^ 31 by omega)]
      refine lv_iconst (v := nI 0) hx hb dX4_sure_26 (by decide) ?_
      refine lv_istore_n (lv' := [(3, .int (nI 0)), (0, .ref (bd 0)), (1, .int (nI k)), (2, .int y)]) hx hb dX4_sure_27 rfl hl (by decide) rfl (fun ls hl => ?_)
      suffices LP : ∀ (n : Nat) (i : Nat), (i ≤ 16) → (16 < i + n) → (∀ j, j < i → ¬ mth M k j = xso y) → ∀ (H : Heap) (locs : List Loc), va_P G vwCl (xD T bd (nI 0) M) H → va_D A (xD T bd (nI 0) M) → va_S A s.heap H locs → ∀ (ls : Array Slot), lv_has ls 4 [(3, .int (nI i)), (0, .ref (bd 0)), (1, .int (nI k)), (2, .int y)] → W p l e (headSpec wsX4_sure ({ frames := 2, cells := 0, slots := 0, locals := 43 })).room s m ([.ref (bd 0), .int (nI k), .int y] : List Value).toArray below meth c H locs 0 0 (MQ below (va_Qi (fun (r : Int32) (u : Int32) => ((xvb (mnw M) (nI k) && xvb 16 y) = true ∧ u = nI 0 ∧ r = xfp (mth M k) (xso y)) ∨ ((xvb (mnw M) (nI k) && xvb 16 y) = false ∧ u = nI 1)) (fun u t => va_P G vwCl (xD T bd u M) t.heap) A) ([.ref (bd 0), .int (nI k), .int y] : List Value).toArray s 0 0 A) (F0 m 28 ls []) from LP 17 0 (by decide) (by decide) (fun j hj => absurd hj (Nat.not_lt_zero j)) _ _ hP hD hS ls (lv_sub hl [0, 1, 2, 3] rfl)
      clear hP hD hS hl
      intro n
      induction n with
      | zero => intro i hi hn hf H locs _ _ _ ls _; exfalso; omega
      | succ n ih =>
        intro i hi hn hf H locs hP hD hS ls hl
        refine lv_iload_n hx hb dX4_sure_28 rfl (lv_at hl 0 rfl) ?_
        refine lv_bipush (v := nI 16) hx hb dX4_sure_29 (by decide) ?_
        by_cases hc : i < 16
        · refine lv_icmp_ge (tgt := 56) hx hb dX4_sure_31 (by decide) (fun c_ => absurd c_ (nI_ge hc (by decide))) (fun _ => ?_)
          refine lv_aload_n hx hb dX4_sure_34 rfl (lv_at hl 1 rfl) ?_
          refine va_get (D := G) (ci := 4) (v := .ref (bd 3)) (C := RX4) (T := TX4) (N := 14) hx hb hts hiX4 hown hK hP 0 rfl rfl 4 (by decide) (hts (.fieldLink RX4 18 "CardFansModel" "thinks" "[[I") (by decide +kernel)) (fun _ h9 => h9) rfl dX4_sure_35 ?_
          refine lv_iload_n hx hb dX4_sure_38 rfl (lv_at hl 2 rfl) ?_
          refine x_aaldA hx hb hK hP 3 3 rfl rfl hk4 (by decide) dX4_sure_39 (v := .ref (bd (8 + k))) (by show va_rf (if k < 4 then _ else _) = _; rw [if_pos hk4]; rfl) ?_
          refine lv_iload_n hx hb dX4_sure_40 rfl (lv_at hl 0 rfl) ?_
          refine x_iald hx hb hK hP (8 + k) 0 (f := (mth M k)) (n := 16) (xD_row T bd (nI 0) M hk4) rfl hc (by decide) dX4_sure_41 ?_
          refine lv_iconst (v := nI 1) hx hb dX4_sure_42 (by decide) ?_
          refine lv_iload_n hx hb dX4_sure_43 rfl (lv_at hl 3 rfl) ?_
          refine lv_ishl hx hb dX4_sure_44 ?_
          refine lv_icmp_ne (tgt := 50) hx hb dX4_sure_45 (by decide) (fun c2 => ?_) (fun c2 => ?_)
          · refine lv_iinc (v := nI (i + 1)) (lv' := [(3, .int (nI (i + 1))), (0, .ref (bd 0)), (1, .int (nI k)), (2, .int y)]) hx hb dX4_sure_50 hl (k := 0) rfl (x_inc _) (by decide) rfl (fun ls hl => ?_)
            refine lv_goto (tgt := 28) hx hb dX4_sure_53 (by decide) ?_
            exact ih (i + 1) (by omega) (by omega) (xlt_s hf c2) _ _ hP hD hS ls (lv_sub hl [0, 1, 2, 3] rfl)
          · refine lv_iload_n hx hb dX4_sure_48 rfl (lv_at hl 0 rfl) ?_
            exact W.iret (v := nI i) hx hb hr (fun t9_ ht hW => ⟨⟨nI i, (nI 0), rfl, Or.inl ⟨hv, rfl, (xfp_some hc c2 hf).symm⟩, x_at ht hP⟩, hS.F ht⟩) hS.2.2 dX4_sure_49
        · refine lv_icmp_ge (tgt := 56) hx hb dX4_sure_31 (by decide) (fun _ => ?_) (fun c_ => absurd (nI_le (by omega) (by omega)) c_)
          refine lv_iconst (v := (-1)) hx hb dX4_sure_56 (by decide) ?_
          exact W.iret (v := (-1)) hx hb hr (fun t9_ ht hW => ⟨⟨(-1), (nI 0), rfl, Or.inl ⟨hv, rfl, (xfp_none (fun j hj => hf j (by omega))).symm⟩, x_at ht hP⟩, hS.F ht⟩) hS.2.2 dX4_sure_57
    · refine lv_aload_n hx hb dX4_sure_20 rfl (lv_at hl 0 rfl) ?_
      refine lv_iconst (v := nI 1) hx hb dX4_sure_21 (by decide) ?_
      refine x_calliW (va_runV (As := [.int (nI 1)]) (rest := []) ⟨hx, hb, hml, hown, hts⟩ (c_X4_no l G T _ bd (nI 0) M (nI 1)) (cwV 1 hts gX4_sure_X4_no rfl rfl rfl (by decide +kernel) ⟨Nat.le_of_ble_eq_true rfl, Nat.le_of_ble_eq_true rfl⟩) (x_preVW (wc := (xD T bd (nI 0) M)) hK hP hD hS hA hXB hZ _ _ 0 4 rfl rfl) rfl rfl hl.1 rfl (lv_room (Nat.le_of_ble_eq_true rfl)) dX4_sure_22 ⟨Nat.le_of_ble_eq_true rfl, Nat.le_of_ble_eq_true rfl⟩) hP hD hS hA (fun _ _ _ => xd_self rfl hD) (fun r8 u8 H locs hw8 hP hD hS => ?_)
      have hP : va_P G vwCl (xD T bd (nI 1) M) H := hP
      have hD : va_D A (xD T bd (nI 1) M) := hD
      exact W.iret (v := r8) hx hb hr (fun t9_ ht hW => ⟨⟨r8, (nI 1), rfl, Or.inr ⟨by rw [hv0, xb_of_eq hw1 c1]; rfl, rfl⟩, x_at ht hP⟩, hS.F ht⟩) hS.2.2 dX4_sure_25

set_option maxHeartbeats 4000000 in
set_option maxRecDepth 100000 in
/-- X4_force -/
theorem c_X4_force (l : Launch) (G : va_G) (T : Nat → ClassId) (sz : Nat) (bd : Nat → Nat) (thr : Int32) (M : XM) (x y : Int32) (hm4 : mnp M ≤ 4) (hsur : ∀ c, c < 16 → ∃ j, j < 16 ∧ mpk M j = nI c) : Met l yX4_force wsX4_force ({ frames := 2, cells := 0, slots := 0, locals := 43 }) (va_Pc [.ref (bd 0), .int x, .int y] (xPre G T (xD T bd thr M) sz)) (va_Qi (fun (r : Int32) (u : Int32) => ((xvb (mnp M) x && xvb 16 y) = true ∧ u = nI 0 ∧ r = xfm (xfp (mpk M) y - mhb M (xka x) - nI (mta M))) ∨ ((xvb (mnp M) x && xvb 16 y) = false ∧ u = nI 1)) (fun u t => va_P G vwCl (xD T bd u M) t.heap) (va_A (xD T bd thr M) sz)) 0 0 (va_A (xD T bd thr M) sz) := by
  refine Met.ofW (cc := cX4_force) (maxL := 3) (ret := (some .int)) (by decide +kernel) rfl ?_
  intro p e s m args below meth c s₁ B hml hv
  obtain ⟨rfl, hsz, hP, hK, hD0, hXB, hZ⟩ := hv
  have hx := B.exec
  have hb := B.bytes
  have hr := B.returns
  have hts := atoms_spec (ws := wsX4_force) B.pre
  have hown : s.vm.findClass RX4 = some m.cls := findClass_of_methodNamed B.named
  have hlocks := B.notSynchronized
  subst hsz
  have hD := hD0.self (sz := s.heap.size)
  generalize hAe : va_A (xD T bd thr M) s.heap.size = A at hD hZ ⊢
  have hA : ∀ q : Nat, s.heap.size ≤ q → A q := fun q h => by rw [← hAe]; exact Or.inr h
  have hS : va_S A s.heap s.heap [] := va_S.rf
  have hP : va_P G vwCl (xD T bd thr M) s.heap := hP
  have hiX4 : ∀ w ∈ u_ws RX4 TX4 14, w ∈ wsX4_force := by decide +kernel
  have hl := lv_entry ([.ref (bd 0), .int x, .int y]) (n := 3) (Nat.le_of_ble_eq_true rfl)
  rw [lg_entry_eq]
  generalize (lg_sl ([.ref (bd 0), .int x, .int y]) ++ List.replicate (3 - (lg_sl ([.ref (bd 0), .int x, .int y])).length) Slot.unset).toArray = ls at hl ⊢
  have hl : lv_has ls 3 [(0, .ref (bd 0)), (1, .int x), (2, .int y)] := hl
  refine lv_aload_n hx hb dX4_force_0 rfl (lv_at hl 0 rfl) ?_
  refine lv_iconst (v := nI 0) hx hb dX4_force_1 (by decide) ?_
  refine va_put (D := G) (ci := 4) (v := .int (nI 0)) (ty := .int) (C := RX4) (T := TX4) (N := 14) hx hb hts hiX4 tyX4 tyX4_ok nmX4 hown hK hP hD hS 0 rfl rfl 0 (by decide) (hts (.fieldLink RX4 33 "CardFansModel" "thrown" "I") (by decide +kernel)) (fun _ h9 => h9) rfl (by decide +kernel) rfl rfl (Nat.le_of_ble_eq_true rfl) dX4_force_2 (fun H locs hP hD hS => ?_)
  have hP : va_P G vwCl (xD T bd (nI 0) M) H := hP
  have hD : va_D A (xD T bd (nI 0) M) := hD
  refine lv_aload_n hx hb dX4_force_5 rfl (lv_at hl 0 rfl) ?_
  refine lv_iload_n hx hb dX4_force_6 rfl (lv_at hl 1 rfl) ?_
  refine x_calliW (va_runV (As := [.int x]) (rest := []) ⟨hx, hb, hml, hown, hts⟩ (c_X4_isPlayer l G T _ bd (nI 0) M x hm4) (cwV 1 hts gX4_force_X4_isPlayer rfl rfl rfl (by decide +kernel) ⟨Nat.le_of_ble_eq_true rfl, Nat.le_of_ble_eq_true rfl⟩) (x_preVW (wc := (xD T bd (nI 0) M)) hK hP hD hS hA hXB hZ _ _ 0 4 rfl rfl) rfl rfl hl.1 rfl (lv_room (Nat.le_of_ble_eq_true rfl)) dX4_force_7 ⟨Nat.le_of_ble_eq_true rfl, Nat.le_of_ble_eq_true rfl⟩) hP hD hS hA (fun _ _ _ => xd_self rfl hD) (fun r0 u0 H locs hw0 hP hD hS => ?_)
  have hP : va_P G vwCl (xD T bd (nI 0) M) H := hP
  have hD : va_D A (xD T bd (nI 0) M) := hD
  refine lv_if_eq (tgt := 20) hx hb dX4_force_10 (by decide) (fun c0 => ?_) (fun c0 => ?_)
  · refine lv_aload_n hx hb dX4_force_20 rfl (lv_at hl 0 rfl) ?_
    refine lv_iconst (v := nI 1) hx hb dX4_force_21 (by decide) ?_
    refine x_calliW (va_runV (As := [.int (nI 1)]) (rest := []) ⟨hx, hb, hml, hown, hts⟩ (c_X4_no l G T _ bd (nI 0) M (nI 1)) (cwV 1 hts gX4_force_X4_no rfl rfl rfl (by decide +kernel) ⟨Nat.le_of_ble_eq_true rfl, Nat.le_of_ble_eq_true rfl⟩) (x_preVW (wc := (xD T bd (nI 0) M)) hK hP hD hS hA hXB hZ _ _ 0 4 rfl rfl) rfl rfl hl.1 rfl (lv_room (Nat.le_of_ble_eq_true rfl)) dX4_force_22 ⟨Nat.le_of_ble_eq_true rfl, Nat.le_of_ble_eq_true rfl⟩) hP hD hS hA (fun _ _ _ => xd_self rfl hD) (fun r8 u8 H locs hw8 hP hD hS => ?_)
    have hP : va_P G vwCl (xD T bd (nI 1) M) H := hP
    have hD : va_D A (xD T bd (nI 1) M) := hD
    exact W.iret (v := r8) hx hb hr (fun t9_ ht hW => ⟨⟨r8, (nI 1), rfl, Or.inr ⟨by rw [xb_of_eq hw0 c0, Bool.false_and], rfl⟩, x_at ht hP⟩, hS.F ht⟩) hS.2.2 dX4_force_25
  · have hv0 := xb_of_ne hw0 c0
    refine lv_iload_n hx hb dX4_force_13 rfl (lv_at hl 2 rfl) ?_
    refine x_calli (va_runS (As := [.int y]) (rest := []) ⟨hx, hb, hml, hown, hts⟩ (c_X4_isPlace l G T _ y) (va_cwS 1 hts gX4_force_X4_isPlace rfl rfl rfl (by decide +kernel) ⟨Nat.le_of_ble_eq_true rfl, Nat.le_of_ble_eq_true rfl⟩) (x_preS (wc := []) hK hP hD hS hA hXB hZ [] rfl rfl _) rfl rfl hl.1 rfl (lv_room (Nat.le_of_ble_eq_true rfl)) dX4_force_14 ⟨Nat.le_of_ble_eq_true rfl, Nat.le_of_ble_eq_true rfl⟩) hP hD hS hA [] rfl (fun _ _ _ => rfl) (fun r1 u1 H locs hw1 hP hD hS => ?_)
    have hP : va_P G vwCl (xD T bd (nI 0) M) H := hP
    have hD : va_D A (xD T bd (nI 0) M) := hD
    refine lv_if_ne (tgt := 26) hx hb dX4_force_17 (by decide) (fun c1 => ?_) (fun c1 => ?_)
    · have hv1 := xb_of_ne hw1 c1
      have hv : (xvb (mnp M) x && xvb 16 y) = true := by rw [hv0, hv1]; rfl
      obtain ⟨k, hk, rfl⟩ := (xvb_iff (n := mnp M) (by omega)).mp (hv0)
      obtain ⟨j, hj, rfl⟩ := (xvb_iff (n := 16) (by decide)).mp (hv1)
      have hk4 : k < 4 := Nat.lt_of_lt_of_le hk hm4
      refine lv_aload_n hx hb dX4_force_26 rfl (lv_at hl 0 rfl) ?_
      refine lv_iload_n hx hb dX4_force_27 rfl (lv_at hl 2 rfl) ?_
      refine x_calliW (va_runV (As := [.int (nI j)]) (rest := []) ⟨hx, hb, hml, hown, hts⟩ (c_X4_placeOf l G T _ bd (nI 0) M (nI j) (hsur j hj)) (cwV 1 hts gX4_force_X4_placeOf rfl rfl rfl (by decide +kernel) ⟨Nat.le_of_ble_eq_true rfl, Nat.le_of_ble_eq_true rfl⟩) (x_preVW (wc := (xD T bd (nI 0) M)) hK hP hD hS hA hXB hZ _ _ 0 4 rfl rfl) rfl rfl hl.1 rfl (lv_room (Nat.le_of_ble_eq_true rfl)) dX4_force_28 ⟨Nat.le_of_ble_eq_true rfl, Nat.le_of_ble_eq_true rfl⟩) hP hD hS hA (fun _ _ _ => xd_self rfl hD) (fun r2 u2 H locs hw2 hP hD hS => ?_)
      have hP : va_P G vwCl (xD T bd (nI 0) M) H := hP
      have hD : va_D A (xD T bd (nI 0) M) := hD
      subst hw2
      refine lv_aload_n hx hb dX4_force_31 rfl (lv_at hl 0 rfl) ?_
      refine va_get (D := G) (ci := 4) (v := .ref (bd 6)) (C := RX4) (T := TX4) (N := 14) hx hb hts hiX4 hown hK hP 0 rfl rfl 8 (by decide) (hts (.fieldLink RX4 27 "CardFansModel" "habit" "[I") (by decide +kernel)) (fun _ h9 => h9) rfl dX4_force_32 ?_
      refine lv_iload_n hx hb dX4_force_35 rfl (lv_at hl 1 rfl) ?_
      refine x_iald hx hb hK hP 6 0 (f := (mhb M)) (n := 4) rfl rfl hk4 (by decide) dX4_force_36 ?_
      refine lv_isub hx hb dX4_force_37 ?_
      refine lv_aload_n hx hb dX4_force_38 rfl (lv_at hl 0 rfl) ?_
      refine va_get (D := G) (ci := 4) (v := .int (nI (mta M))) (C := RX4) (T := TX4) (N := 14) hx hb hts hiX4 hown hK hP 0 rfl rfl 13 (by decide) (hts (.fieldLink RX4 110 "CardFansModel" "taken" "I") (by decide +kernel)) (fun _ h9 => h9) rfl dX4_force_39 ?_
      refine lv_isub hx hb dX4_force_42 ?_
      refine lv_bipush (v := nI 16) hx hb dX4_force_43 (by decide) ?_
      refine x_calli (va_runS (As := [.int (((xfp (mpk M) (nI j)) - (mhb M) k) - nI (mta M)), .int (nI 16)]) (rest := []) ⟨hx, hb, hml, hown, hts⟩ (c_J9_floorMod_7cf53 l G T _ (xfp (mpk M) (nI j) - mhb M k - nI (mta M))) (va_cwS 2 hts gX4_force_J9_floorMod_7cf53 rfl rfl rfl (by decide +kernel) ⟨Nat.le_of_ble_eq_true rfl, Nat.le_of_ble_eq_true rfl⟩) (x_preS (wc := []) hK hP hD hS hA hXB hZ [] rfl rfl _) rfl rfl hl.1 rfl (lv_room (Nat.le_of_ble_eq_true rfl)) dX4_force_45 ⟨Nat.le_of_ble_eq_true rfl, Nat.le_of_ble_eq_true rfl⟩) hP hD hS hA [] rfl (fun _ _ _ => rfl) (fun r3 u3 H locs hw3 hP hD hS => ?_)
      have hP : va_P G vwCl (xD T bd (nI 0) M) H := hP
      have hD : va_D A (xD T bd (nI 0) M) := hD
      exact W.iret (v := r3) hx hb hr (fun t9_ ht hW => ⟨⟨r3, (nI 0), rfl, Or.inl ⟨hv, rfl, by rw [hw3, xka_n (by omega)]⟩, x_at ht hP⟩, hS.F ht⟩) hS.2.2 dX4_force_48
    · refine lv_aload_n hx hb dX4_force_20 rfl (lv_at hl 0 rfl) ?_
      refine lv_iconst (v := nI 1) hx hb dX4_force_21 (by decide) ?_
      refine x_calliW (va_runV (As := [.int (nI 1)]) (rest := []) ⟨hx, hb, hml, hown, hts⟩ (c_X4_no l G T _ bd (nI 0) M (nI 1)) (cwV 1 hts gX4_force_X4_no rfl rfl rfl (by decide +kernel) ⟨Nat.le_of_ble_eq_true rfl, Nat.le_of_ble_eq_true rfl⟩) (x_preVW (wc := (xD T bd (nI 0) M)) hK hP hD hS hA hXB hZ _ _ 0 4 rfl rfl) rfl rfl hl.1 rfl (lv_room (Nat.le_of_ble_eq_true rfl)) dX4_force_22 ⟨Nat.le_of_ble_eq_true rfl, Nat.le_of_ble_eq_true rfl⟩) hP hD hS hA (fun _ _ _ => xd_self rfl hD) (fun r8 u8 H locs hw8 hP hD hS => ?_)
      have hP : va_P G vwCl (xD T bd (nI 1) M) H := hP
      have hD : va_D A (xD T bd (nI 1) M) := hD
      exact W.iret (v := r8) hx hb hr (fun t9_ ht hW => ⟨⟨r8, (nI 1), rfl, Or.inr ⟨by rw [hv0, xb_of_eq hw1 c1]; rfl, rfl⟩, x_at ht hP⟩, hS.F ht⟩) hS.2.2 dX4_force_25
end XR2
