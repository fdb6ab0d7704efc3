section XR8
/-! riffles: the least orders of the places, round by round -/
def xl1 (now : List Nat) (k way : Nat) (L : List Nat) : List Nat := if now.getD (xpa (1 + way) 0 k) 0 = 0 ∧ (L.getD (xpa (1 + way) 0 k) 0 = 0 ∨ 2 * now.getD k 0 + way < L.getD (xpa (1 + way) 0 k) 0) then L.set (xpa (1 + way) 0 k) (2 * now.getD k 0 + way) else L
def xlk (now : List Nat) (a : Nat) : Nat → List Nat
  | 0 => now
  | k + 1 => if now.getD k 0 / 2 ^ a = 1 then xl1 now k 1 (xl1 now k 0 (xlk now a k)) else xlk now a k
def xls (s : Nat) : Nat → List Nat
  | 0 => (List.replicate 16 0).set s 1
  | a + 1 => xlk (xls s a) a 16
theorem xls_all : ((List.range 16).all fun s => (List.range 5).all fun a => (fun L : List Nat => (List.range 16).all fun q => (L.getD q 0 == 0 || L.getD q 0 == xrf s q) && (!(a == 4) || !(L.getD q 0 == 0))) (xls s a)) = true := by decide +kernel
theorem xls_ok {s a q : Nat} (hs : s < 16) (ha : a ≤ 4) (hq : q < 16) : ((xls s a).getD q 0 = 0 ∨ (xls s a).getD q 0 = xrf s q) ∧ (a = 4 → ¬ (xls s a).getD q 0 = 0) := by
  have h1 := List.all_eq_true.mp xls_all s (List.mem_range.mpr hs)
  have h2 := List.all_eq_true.mp h1 a (List.mem_range.mpr (by omega))
  have h3 := List.all_eq_true.mp h2 q (List.mem_range.mpr hq)
  simp only [Bool.and_eq_true, Bool.or_eq_true, beq_iff_eq, Bool.not_eq_true', beq_eq_false_iff_ne] at h3
  exact ⟨h3.1, fun e => by rcases h3.2 with h | h; exact absurd e h; exact h⟩
theorem xrf_lt {s q : Nat} (hs : s < 16) (hq : q < 16) : xrf s q < 32 := by
  obtain ⟨a, b, -⟩ := xrR_ok hs hq
  have : 2 ^ (xrR s q).1 ≤ 2 ^ 4 := Nat.pow_le_pow_right (by decide) a
  unfold xrf
  omega
theorem xgd_set {L : List Nat} {i : Nat} (hi : i < L.length) (x j : Nat) : (L.set i x).getD j 0 = if i = j then x else L.getD j 0 := by
  rw [List.getD_eq_getElem?_getD, List.getD_eq_getElem?_getD, List.getElem?_set]
  by_cases e : i = j
  · rw [if_pos e, if_pos e, if_pos (by omega)]; rfl
  · rw [if_neg e, if_neg e]
theorem xl1_len (now : List Nat) (k way : Nat) (L : List Nat) : (xl1 now k way L).length = L.length := by
  unfold xl1
  split
  · exact List.length_set
  · rfl
theorem xlk_len (now : List Nat) (a : Nat) : ∀ k, (xlk now a k).length = now.length
  | 0 => rfl
  | k + 1 => by
    show (if _ then _ else _ : List Nat).length = _
    split
    · rw [xl1_len, xl1_len, xlk_len now a k]
    · exact xlk_len now a k
theorem xls_len {s : Nat} : ∀ a, (xls s a).length = 16
  | 0 => by show ((List.replicate 16 0).set s 1).length = 16; rw [List.length_set, List.length_replicate]
  | a + 1 => (xlk_len _ a 16).trans (xls_len a)
theorem xls_lt {s a : Nat} (hs : s < 16) (ha : a ≤ 4) (q : Nat) : (xls s a).getD q 0 < 32 := by
  rcases Nat.lt_or_ge q 16 with h | h
  · have h2 := xrf_lt hs h
    rcases (xls_ok hs ha h).1 with h3 | h3 <;> rw [h3] <;> omega
  · rw [List.getD_eq_getElem?_getD, List.getElem?_eq_none (by rw [xls_len]; exact h)]
    decide
theorem xl1_lt {now L : List Nat} {k way : Nat} (hw : way ≤ 1) (h1 : ∀ j, now.getD j 0 < 32) (h2 : ∀ j, L.getD j 0 < 100) : ∀ j, (xl1 now k way L).getD j 0 < 100 := by
  intro j
  unfold xl1
  split
  · by_cases hl : xpa (1 + way) 0 k < L.length
    · rw [xgd_set hl]
      split
      · have := h1 k; omega
      · exact h2 j
    · rw [List.set_eq_of_length_le (by omega)]
      exact h2 j
  · exact h2 j
theorem xlk_lt {now : List Nat} (a : Nat) (h1 : ∀ j, now.getD j 0 < 32) : ∀ k j, (xlk now a k).getD j 0 < 100
  | 0, j => Nat.lt_trans (h1 j) (by decide)
  | k + 1, j => by
    show (if _ then _ else _ : List Nat).getD j 0 < _
    split
    · exact xl1_lt (Nat.le_refl 1) h1 (xl1_lt (Nat.zero_le 1) h1 (xlk_lt a h1 k)) j
    · exact xlk_lt a h1 k j
theorem xgd_up {L : List Nat} {i : Nat} (hi : i < L.length) (x : Nat) : upd (fun j => nI (L.getD j 0)) i (nI x) = fun j => nI ((L.set i x).getD j 0) := by
  funext j
  rw [xgd_set hi]
  by_cases e : j = i
  · subst e; rw [pk_us, if_pos rfl]
  · rw [pk_un e, if_neg (fun h => e h.symm)]
theorem xgd_0 {s : Nat} (hs : s < 16) : upd (fun _ => 0) s (nI 1) = fun j => nI ((xls s 0).getD j 0) := by
  funext j
  show _ = nI (((List.replicate 16 0).set s 1).getD j 0)
  rw [xgd_set (by rw [List.length_replicate]; exact hs)]
  by_cases e : j = s
  · subst e; rw [pk_us, if_pos rfl]
  · rw [pk_un e, if_neg (fun h => e h.symm)]
    have : (List.replicate 16 0).getD j 0 = 0 := by
      rw [List.getD_eq_getElem?_getD, List.getElem?_replicate]
      split <;> rfl
    rw [this]; rfl

set_option maxHeartbeats 4000000 in
set_option maxRecDepth 100000 in
/-- riffles -/
theorem c_X4_riffles (l : Launch) (G : va_G) (T : Nat → ClassId) (sz : Nat) (bd : Nat → Nat) (thr : Int32) (M : XM) (x y : Int32) (hsur : ∀ c, c < 16 → ∃ j, j < 16 ∧ mpk M j = nI c) : Met l yX4_riffles wsX4_riffles ({ frames := 2, cells := 5, slots := 80, locals := 42 }) (va_Pc [.ref (bd 0), .int x, .int y] (xPre G T (xD T bd thr M) sz)) (va_Qi (fun (r : Int32) (u : Int32) => ((xvb 16 x && xvb 16 y) = true ∧ u = nI 0 ∧ r = nI (xrf (xka (xfp (mpk M) x)) (xka y))) ∨ ((xvb 16 x && xvb 16 y) = false ∧ u = nI 1)) (fun u t => va_P G vwCl (xD T bd u M) t.heap) (va_A (xD T bd thr M) sz)) 5 80 (va_A (xD T bd thr M) sz) := by
  refine Met.ofW (cc := cX4_riffles) (maxL := 10) (ret := (some .int)) (by decide +kernel) rfl ?_
  intro p e s m args below meth c s₁ B hml hv
  obtain ⟨rfl, hsz, hP, hK, hD0, hXB, hZ⟩ := hv
  have hx := B.exec
  have hb := B.bytes
  have hr := B.returns
  have hts := atoms_spec (ws := wsX4_riffles) B.pre
  have hown : s.vm.findClass RX4 = some m.cls := findClass_of_methodNamed B.named
  have hlocks := B.notSynchronized
  subst hsz
  have hD := hD0.self (sz := s.heap.size)
  generalize hAe : va_A (xD T bd thr M) s.heap.size = A at hD hZ ⊢
  have hA : ∀ q : Nat, s.heap.size ≤ q → A q := fun q h => by rw [← hAe]; exact Or.inr h
  have hS : va_S A s.heap s.heap [] := va_S.rf
  have hP : va_P G vwCl (xD T bd thr M) s.heap := hP
  have hiX4 : ∀ w ∈ u_ws RX4 TX4 14, w ∈ wsX4_riffles := by decide +kernel
  have hl := lv_entry ([.ref (bd 0), .int x, .int y]) (n := 10) (Nat.le_of_ble_eq_true rfl)
  rw [lg_entry_eq]
  generalize (lg_sl ([.ref (bd 0), .int x, .int y]) ++ List.replicate (10 - (lg_sl ([.ref (bd 0), .int x, .int y])).length) Slot.unset).toArray = ls at hl ⊢
  have hl : lv_has ls 10 [(0, .ref (bd 0)), (1, .int x), (2, .int y)] := hl
  refine lv_aload_n hx hb dX4_riffles_0 rfl (lv_at hl 0 rfl) ?_
  refine lv_iconst (v := nI 0) hx hb dX4_riffles_1 (by decide) ?_
  refine va_put (D := G) (ci := 4) (v := .int (nI 0)) (ty := .int) (C := RX4) (T := TX4) (N := 14) hx hb hts hiX4 tyX4 tyX4_ok nmX4 hown hK hP hD hS 0 rfl rfl 0 (by decide) (hts (.fieldLink RX4 33 "CardFansModel" "thrown" "I") (by decide +kernel)) (fun _ h9 => h9) rfl (by decide +kernel) rfl rfl (Nat.le_of_ble_eq_true rfl) dX4_riffles_2 (fun H locs hP hD hS => ?_)
  have hP : va_P G vwCl (xD T bd (nI 0) M) H := hP
  have hD : va_D A (xD T bd (nI 0) M) := hD
  refine lv_iload_n hx hb dX4_riffles_5 rfl (lv_at hl 1 rfl) ?_
  refine x_calli (va_runS (As := [.int x]) (rest := []) ⟨hx, hb, hml, hown, hts⟩ (c_X4_isPlace l G T _ x) (va_cwS 1 hts gX4_riffles_X4_isPlace rfl rfl rfl (by decide +kernel) ⟨Nat.le_of_ble_eq_true rfl, Nat.le_of_ble_eq_true rfl⟩) (x_preS (wc := []) hK hP hD hS hA hXB hZ [] rfl rfl _) rfl rfl hl.1 rfl (lv_room (Nat.le_of_ble_eq_true rfl)) dX4_riffles_6 ⟨Nat.le_of_ble_eq_true rfl, Nat.le_of_ble_eq_true rfl⟩) hP hD hS hA [] rfl (fun _ _ _ => rfl) (fun r1 u1 H locs hw1 hP hD hS => ?_)
  have hP : va_P G vwCl (xD T bd (nI 0) M) H := hP
  have hD : va_D A (xD T bd (nI 0) M) := hD
  refine lv_if_eq (tgt := 19) hx hb dX4_riffles_9 (by decide) (fun c0 => ?_) (fun c0 => ?_)
  · refine lv_aload_n hx hb dX4_riffles_19 rfl (lv_at hl 0 rfl) ?_
    refine lv_iconst (v := nI 1) hx hb dX4_riffles_20 (by decide) ?_
    refine x_calliW (va_runV (As := [.int (nI 1)]) (rest := []) ⟨hx, hb, hml, hown, hts⟩ (c_X4_no l G T _ bd (nI 0) M (nI 1)) (cwV 1 hts gX4_riffles_X4_no rfl rfl rfl (by decide +kernel) ⟨Nat.le_of_ble_eq_true rfl, Nat.le_of_ble_eq_true rfl⟩) (x_preVW (wc := (xD T bd (nI 0) M)) hK hP hD hS hA hXB hZ _ _ 0 4 rfl rfl) rfl rfl hl.1 rfl (lv_room (Nat.le_of_ble_eq_true rfl)) dX4_riffles_21 ⟨Nat.le_of_ble_eq_true rfl, Nat.le_of_ble_eq_true rfl⟩) hP hD hS hA (fun _ _ _ => xd_self rfl hD) (fun r8 u8 H locs hw8 hP hD hS => ?_)
    have hP : va_P G vwCl (xD T bd (nI 1) M) H := hP
    have hD : va_D A (xD T bd (nI 1) M) := hD
    refine W.widen (k := 5) (n := 80) (by omega) (by omega) ?_
    exact W.iret (v := r8) hx hb hr (fun t9_ ht hW => ⟨⟨r8, (nI 1), rfl, Or.inr ⟨by rw [xb_of_eq hw1 c0, Bool.false_and], rfl⟩, x_at ht hP⟩, hS.F ht⟩) hS.2.2 dX4_riffles_24
  · have hv1 := xb_of_ne hw1 c0
    refine lv_iload_n hx hb dX4_riffles_12 rfl (lv_at hl 2 rfl) ?_
    refine x_calli (va_runS (As := [.int y]) (rest := []) ⟨hx, hb, hml, hown, hts⟩ (c_X4_isPlace l G T _ y) (va_cwS 1 hts gX4_riffles_X4_isPlace rfl rfl rfl (by decide +kernel) ⟨Nat.le_of_ble_eq_true rfl, Nat.le_of_ble_eq_true rfl⟩) (x_preS (wc := []) hK hP hD hS hA hXB hZ [] rfl rfl _) rfl rfl hl.1 rfl (lv_room (Nat.le_of_ble_eq_true rfl)) dX4_riffles_13 ⟨Nat.le_of_ble_eq_true rfl, Nat.le_of_ble_eq_true rfl⟩) hP hD hS hA [] rfl (fun _ _ _ => rfl) (fun r2 u2 H locs hw2 hP hD hS => ?_)
    have hP : va_P G vwCl (xD T bd (nI 0) M) H := hP
    have hD : va_D A (xD T bd (nI 0) M) := hD
    refine lv_if_ne (tgt := 25) hx hb dX4_riffles_16 (by decide) (fun c1 => ?_) (fun c1 => ?_)
    · have hv2 := xb_of_ne hw2 c1
      have hv12 : (xvb 16 x && xvb 16 y) = true := by rw [hv1, hv2]; rfl
      obtain ⟨c0_, hc0_, rfl⟩ := (xvb_iff (n := 16) (by decide)).mp (hv1)
      obtain ⟨q, hq, rfl⟩ := (xvb_iff (n := 16) (by decide)).mp (hv2)
      obtain ⟨s0, hs0, es0, -, -⟩ := xfp_in (hsur c0_ hc0_)
      rw [es0, xka_n (show s0 < 2 ^ 31 by omega), xka_n (show q < 2 ^ 31 by omega)]
      refine lv_bipush (v := nI 16) hx hb dX4_riffles_25 (by decide) ?_
      have hnm : s.vm.findClass "[I" = some (T 0) := (hK.2 0 _ rfl).2
      refine x_newai (N := 16) hx hb (hts (.arrayClass .int) (by decide +kernel)) hK 0 rfl hP hD hS hA (by decide) (by decide) (Nat.le_of_ble_eq_true rfl) (Nat.le_of_ble_eq_true rfl) dX4_riffles_27 (fun b0 H hP hD hS => ?_)
      have hP : va_P G vwCl (xD T bd (nI 0) M ++ [(b0, .inl (T 0, 16, .inl (fun _ => 0)))]) H := hP
      have hD : va_D A (xD T bd (nI 0) M ++ [(b0, .inl (T 0, 16, .inl (fun _ => 0)))]) := hD
      refine lv_astore_n (lv' := [(3, .ref b0), (0, .ref (bd 0)), (1, .int (nI c0_)), (2, .int (nI q))]) hx hb dX4_riffles_29 rfl hl (by decide) rfl (fun ls hl => ?_)
      refine lv_aload_n hx hb dX4_riffles_30 rfl (lv_at hl 0 rfl) ?_
      refine lv_aload_n hx hb dX4_riffles_31 rfl (lv_at hl 1 rfl) ?_
      refine lv_iload_n hx hb dX4_riffles_32 rfl (lv_at hl 2 rfl) ?_
      refine x_calliA (va_runV (As := [.int (nI c0_)]) (rest := [.ref b0]) ⟨hx, hb, hml, hown, hts⟩ (c_X4_placeOf l G T _ bd (nI 0) M (nI c0_) (hsur c0_ hc0_)) (cwV 1 hts gX4_riffles_X4_placeOf rfl rfl rfl (by decide +kernel) ⟨Nat.le_of_ble_eq_true rfl, Nat.le_of_ble_eq_true rfl⟩) (x_preVA (wc := (xD T bd (nI 0) M)) (wr := [(b0, .inl (T 0, 16, .inl (fun _ => 0)))]) hK hP hD hS hA hXB hZ _ _ 0 4 rfl rfl) rfl rfl hl.1 rfl (lv_room (Nat.le_of_ble_eq_true rfl)) dX4_riffles_33 ⟨Nat.le_of_ble_eq_true rfl, Nat.le_of_ble_eq_true rfl⟩) hP hD hS hA (fun _ _ _ => xd_self rfl (hD.sub [0, 1, 2, 3, 4, 5, 6, 7, 8, 9, 10, 11] rfl rfl)) (fun r3 u3 H locs hw3 hP hD hS => ?_)
      have hP : va_P G vwCl ([(bd 0, .inr (4, [.int (nI 0), .ref (bd 1), .int (nI (mnw M)), .ref (bd 2), .ref (bd 3), .ref (bd 4), .ref (bd 5), .int (nI (mnp M)), .ref (bd 6), .ref (bd 7), .int (mle M), .int (mwy M), .int (mfc M), .int (nI (mta M))])), (bd 1, .inl (T 0, 16, .inl (mpk M))), (bd 2, .inl (T 0, 4, .inl (msh M))), (bd 3, .inl (T 3, 4, .inr (.inr (.inr (.inr (fun j => if j < 4 then some (bd (8 + j)) else none)))))), (bd 4, .inl (T 0, 4, .inl (man M))), (bd 5, .inl (T 0, 4, .inl (mgl M))), (bd 6, .inl (T 0, 4, .inl (mhb M))), (bd 7, .inl (T 0, 4, .inl (mtk M))), (bd 8, .inl (T 0, 16, .inl (mth M 0))), (bd 9, .inl (T 0, 16, .inl (mth M 1))), (bd 10, .inl (T 0, 16, .inl (mth M 2))), (bd 11, .inl (T 0, 16, .inl (mth M 3))), (b0, .inl (T 0, 16, .inl (fun _ => 0)))]) H := hP
      have hD : va_D A ([(bd 0, .inr (4, [.int (nI 0), .ref (bd 1), .int (nI (mnw M)), .ref (bd 2), .ref (bd 3), .ref (bd 4), .ref (bd 5), .int (nI (mnp M)), .ref (bd 6), .ref (bd 7), .int (mle M), .int (mwy M), .int (mfc M), .int (nI (mta M))])), (bd 1, .inl (T 0, 16, .inl (mpk M))), (bd 2, .inl (T 0, 4, .inl (msh M))), (bd 3, .inl (T 3, 4, .inr (.inr (.inr (.inr (fun j => if j < 4 then some (bd (8 + j)) else none)))))), (bd 4, .inl (T 0, 4, .inl (man M))), (bd 5, .inl (T 0, 4, .inl (mgl M))), (bd 6, .inl (T 0, 4, .inl (mhb M))), (bd 7, .inl (T 0, 4, .inl (mtk M))), (bd 8, .inl (T 0, 16, .inl (mth M 0))), (bd 9, .inl (T 0, 16, .inl (mth M 1))), (bd 10, .inl (T 0, 16, .inl (mth M 2))), (bd 11, .inl (T 0, 16, .inl (mth M 3))), (b0, .inl (T 0, 16, .inl (fun _ => 0)))]) := hD
      refine x_topi (y := nI s0) (hw3.trans es0) ?_
      refine lv_iconst (v := nI 1) hx hb dX4_riffles_36 (by decide) ?_
      refine x_iast hx hb hK hP hD hS 12 0 (f := (fun _ => 0)) (n := 16) rfl rfl hs0 (by decide) dX4_riffles_37 (fun H locs hP hD hS => ?_)
      have hP : va_P G vwCl ([(bd 0, .inr (4, [.int (nI 0), .ref (bd 1), .int (nI (mnw M)), .ref (bd 2), .ref (bd 3), .ref (bd 4), .ref (bd 5), .int (nI (mnp M)), .ref (bd 6), .ref (bd 7), .int (mle M), .int (mwy M), .int (mfc M), .int (nI (mta M))])), (bd 1, .inl (T 0, 16, .inl (mpk M))), (bd 2, .inl (T 0, 4, .inl (msh M))), (bd 3, .inl (T 3, 4, .inr (.inr (.inr (.inr (fun j => if j < 4 then some (bd (8 + j)) else none)))))), (bd 4, .inl (T 0, 4, .inl (man M))), (bd 5, .inl (T 0, 4, .inl (mgl M))), (bd 6, .inl (T 0, 4, .inl (mhb M))), (bd 7, .inl (T 0, 4, .inl (mtk M))), (bd 8, .inl (T 0, 16, .inl (mth M 0))), (bd 9, .inl (T 0, 16, .inl (mth M 1))), (bd 10, .inl (T 0, 16, .inl (mth M 2))), (bd 11, .inl (T 0, 16, .inl (mth M 3))), (b0, .inl (T 0, 16, .inl (upd (fun _ => 0) s0 (nI 1))))]) H := hP
      have hD : va_D A ([(bd 0, .inr (4, [.int (nI 0), .ref (bd 1), .int (nI (mnw M)), .ref (bd 2), .ref (bd 3), .ref (bd 4), .ref (bd 5), .int (nI (mnp M)), .ref (bd 6), .ref (bd 7), .int (mle M), .int (mwy M), .int (mfc M), .int (nI (mta M))])), (bd 1, .inl (T 0, 16, .inl (mpk M))), (bd 2, .inl (T 0, 4, .inl (msh M))), (bd 3, .inl (T 3, 4, .inr (.inr (.inr (.inr (fun j => if j < 4 then some (bd (8 + j)) else none)))))), (bd 4, .inl (T 0, 4, .inl (man M))), (bd 5, .inl (T 0, 4, .inl (mgl M))), (bd 6, .inl (T 0, 4, .inl (mhb M))), (bd 7, .inl (T 0, 4, .inl (mtk M))), (bd 8, .inl (T 0, 16, .inl (mth M 0))), (bd 9, .inl (T 0, 16, .inl (mth M 1))), (bd 10, .inl (T 0, 16, .inl (mth M 2))), (bd 11, .inl (T 0, 16, .inl (mth M 3))), (b0, .inl (T 0, 16, .inl (upd (fun _ => 0) s0 (nI 1))))]) := hD
      rw [xgd_0 hs0] at hP hD
      refine lv_iconst (v := nI 0) hx hb dX4_riffles_38 (by decide) ?_
      refine lv_istore (lv' := [(4, .int (nI 0)), (3, .ref b0), (0, .ref (bd 0)), (1, .int (nI c0_)), (2, .int (nI q))]) hx hb dX4_riffles_39 hl (by decide) rfl (fun ls hl => ?_)
      suffices LP1 : ∀ (n1 : Nat) (a : Nat), (a ≤ 4) → (4 < a + n1) → ∀ (H : Heap) (locs : List Loc), va_P G vwCl ([(bd 0, .inr (4, [.int (nI 0), .ref (bd 1), .int (nI (mnw M)), .ref (bd 2), .ref (bd 3), .ref (bd 4), .ref (bd 5), .int (nI (mnp M)), .ref (bd 6), .ref (bd 7), .int (mle M), .int (mwy M), .int (mfc M), .int (nI (mta M))])), (bd 1, .inl (T 0, 16, .inl (mpk M))), (bd 2, .inl (T 0, 4, .inl (msh M))), (bd 3, .inl (T 3, 4, .inr (.inr (.inr (.inr (fun j => if j < 4 then some (bd (8 + j)) else none)))))), (bd 4, .inl (T 0, 4, .inl (man M))), (bd 5, .inl (T 0, 4, .inl (mgl M))), (bd 6, .inl (T 0, 4, .inl (mhb M))), (bd 7, .inl (T 0, 4, .inl (mtk M))), (bd 8, .inl (T 0, 16, .inl (mth M 0))), (bd 9, .inl (T 0, 16, .inl (mth M 1))), (bd 10, .inl (T 0, 16, .inl (mth M 2))), (bd 11, .inl (T 0, 16, .inl (mth M 3))), (b0, .inl (T 0, 16, .inl (fun j => nI (List.getD (xls s0 a) j 0))))]) H → va_D A ([(bd 0, .inr (4, [.int (nI 0), .ref (bd 1), .int (nI (mnw M)), .ref (bd 2), .ref (bd 3), .ref (bd 4), .ref (bd 5), .int (nI (mnp M)), .ref (bd 6), .ref (bd 7), .int (mle M), .int (mwy M), .int (mfc M), .int (nI (mta M))])), (bd 1, .inl (T 0, 16, .inl (mpk M))), (bd 2, .inl (T 0, 4, .inl (msh M))), (bd 3, .inl (T 3, 4, .inr (.inr (.inr (.inr (fun j => if j < 4 then some (bd (8 + j)) else none)))))), (bd 4, .inl (T 0, 4, .inl (man M))), (bd 5, .inl (T 0, 4, .inl (mgl M))), (bd 6, .inl (T 0, 4, .inl (mhb M))), (bd 7, .inl (T 0, 4, .inl (mtk M))), (bd 8, .inl (T 0, 16, .inl (mth M 0))), (bd 9, .inl (T 0, 16, .inl (mth M 1))), (bd 10, .inl (T 0, 16, .inl (mth M 2))), (bd 11, .inl (T 0, 16, .inl (mth M 3))), (b0, .inl (T 0, 16, .inl (fun j => nI (List.getD (xls s0 a) j 0))))]) → va_S A s.heap H locs → ∀ (ls : Array Slot), lv_has ls 10 [(4, .int (nI a)), (3, .ref b0), (0, .ref (bd 0)), (1, .int (nI c0_)), (2, .int (nI q))] → W p l e (headSpec wsX4_riffles ({ frames := 2, cells := 5, slots := 80, locals := 42 })).room s m ([.ref (bd 0), .int (nI c0_), .int (nI q)] : List Value).toArray below meth c H locs (1 + a) (16 * (1 + a)) (MQ below (va_Qi (fun (r : Int32) (u : Int32) => ((xvb 16 (nI c0_) && xvb 16 (nI q)) = true ∧ u = nI 0 ∧ r = nI (xrf s0 q)) ∨ ((xvb 16 (nI c0_) && xvb 16 (nI q)) = false ∧ u = nI 1)) (fun u t => va_P G vwCl (xD T bd u M) t.heap) A) ([.ref (bd 0), .int (nI c0_), .int (nI q)] : List Value).toArray s 5 80 A) (F0 m 41 ls []) from LP1 5 0 (by decide) (by decide) _ _ hP hD hS ls (lv_sub hl [0, 1, 2, 3, 4] rfl)
      clear hP hD hS hl
      intro n1
      induction n1 with
      | zero => intro a ha4 hn H locs _ _ _ ls _; exfalso; omega
      | succ n1 ih1 =>
        intro a ha4 hn H locs hP hD hS ls hl
        have ho9 := xls_ok hs0 ha4 hq
        have hb9 := xls_lt hs0 ha4
        have hbq := hb9 q
        refine lv_iload hx hb dX4_riffles_41 (lv_at hl 0 rfl) ?_
        refine lv_bipush (v := nI 16) hx hb dX4_riffles_43 (by decide) ?_
        refine lv_icmp_ge (tgt := 166) hx hb dX4_riffles_45 (by decide) (fun c_ => absurd c_ (nI_ge (by omega) (by decide))) (fun _ => ?_)
        refine lv_aload_n hx hb dX4_riffles_48 rfl (lv_at hl 1 rfl) ?_
        refine lv_iload_n hx hb dX4_riffles_49 rfl (lv_at hl 4 rfl) ?_
        refine x_iald hx hb hK hP 12 0 (f := (fun j => nI (List.getD (xls s0 a) j 0))) (n := 16) rfl rfl hq (by decide) dX4_riffles_50 ?_
        refine x_topi (y := nI (List.getD (xls s0 a) q 0)) (rfl) ?_
        by_cases hz : List.getD (xls s0 a) q 0 = 0
        · have ha3 : a < 4 := by rcases Nat.lt_or_ge a 4 with g | g; exact g; exact absurd hz (ho9.2 (by omega))
          refine lv_if_ne (tgt := 166) hx hb dX4_riffles_51 (by decide) (fun c_ => absurd (congrArg nI hz) c_) (fun _ => ?_)
          refine lv_aload_n hx hb dX4_riffles_54 rfl (lv_at hl 1 rfl) ?_
          refine va_clone hx hb (hml.trans hl.1.symm) hown (hts (.methodLink RX4 50 ⟨"[I", "clone", "()Ljava/lang/Object;"⟩) (by decide +kernel)) (hts (.sameMethod "[I" "java/lang/Object" "clone" "()Ljava/lang/Object;") (by decide +kernel)) (hts (.native ⟨"java/lang/Object", "clone", "()Ljava/lang/Object;"⟩) (by decide +kernel)) (hts (.instanceMethod ⟨"java/lang/Object", "clone", "()Ljava/lang/Object;"⟩) (by decide +kernel)) (hts (.selects "[I" ⟨"[I", "clone", "()Ljava/lang/Object;"⟩ ⟨"java/lang/Object", "clone", "()Ljava/lang/Object;"⟩) (by decide +kernel)) (hXB.1 (.castable "[I" "java/lang/Cloneable") (by decide +kernel)) hK hP hD hS hA 12 0 rfl rfl hnm (xfitI _ _ _) (Nat.le_of_ble_eq_true rfl) (Nat.le_of_ble_eq_true rfl) (show 1 + a + 1 ≤ 5 by omega) (show 16 * (1 + a) + 16 ≤ 80 by omega) dX4_riffles_55 (fun b1 H _ hP hD hS => ?_)
          have hP : va_P G vwCl ([(bd 0, .inr (4, [.int (nI 0), .ref (bd 1), .int (nI (mnw M)), .ref (bd 2), .ref (bd 3), .ref (bd 4), .ref (bd 5), .int (nI (mnp M)), .ref (bd 6), .ref (bd 7), .int (mle M), .int (mwy M), .int (mfc M), .int (nI (mta M))])), (bd 1, .inl (T 0, 16, .inl (mpk M))), (bd 2, .inl (T 0, 4, .inl (msh M))), (bd 3, .inl (T 3, 4, .inr (.inr (.inr (.inr (fun j => if j < 4 then some (bd (8 + j)) else none)))))), (bd 4, .inl (T 0, 4, .inl (man M))), (bd 5, .inl (T 0, 4, .inl (mgl M))), (bd 6, .inl (T 0, 4, .inl (mhb M))), (bd 7, .inl (T 0, 4, .inl (mtk M))), (bd 8, .inl (T 0, 16, .inl (mth M 0))), (bd 9, .inl (T 0, 16, .inl (mth M 1))), (bd 10, .inl (T 0, 16, .inl (mth M 2))), (bd 11, .inl (T 0, 16, .inl (mth M 3))), (b0, .inl (T 0, 16, .inl (fun j => nI (List.getD (xls s0 a) j 0)))), (b1, .inl (T 0, 16, .inl (fun j => nI (List.getD (xls s0 a) j 0))))]) H := hP
          have hD : va_D A ([(bd 0, .inr (4, [.int (nI 0), .ref (bd 1), .int (nI (mnw M)), .ref (bd 2), .ref (bd 3), .ref (bd 4), .ref (bd 5), .int (nI (mnp M)), .ref (bd 6), .ref (bd 7), .int (mle M), .int (mwy M), .int (mfc M), .int (nI (mta M))])), (bd 1, .inl (T 0, 16, .inl (mpk M))), (bd 2, .inl (T 0, 4, .inl (msh M))), (bd 3, .inl (T 3, 4, .inr (.inr (.inr (.inr (fun j => if j < 4 then some (bd (8 + j)) else none)))))), (bd 4, .inl (T 0, 4, .inl (man M))), (bd 5, .inl (T 0, 4, .inl (mgl M))), (bd 6, .inl (T 0, 4, .inl (mhb M))), (bd 7, .inl (T 0, 4, .inl (mtk M))), (bd 8, .inl (T 0, 16, .inl (mth M 0))), (bd 9, .inl (T 0, 16, .inl (mth M 1))), (bd 10, .inl (T 0, 16, .inl (mth M 2))), (bd 11, .inl (T 0, 16, .inl (mth M 3))), (b0, .inl (T 0, 16, .inl (fun j => nI (List.getD (xls s0 a) j 0)))), (b1, .inl (T 0, 16, .inl (fun j => nI (List.getD (xls s0 a) j 0))))]) := hD
          refine va_castA hx hb hown (hts (.classLink RX4 51 "[I") (by decide +kernel)) hP 13 rfl hnm dX4_riffles_58 ?_
          refine lv_astore (lv' := [(5, .ref b1), (4, .int (nI a)), (3, .ref b0), (0, .ref (bd 0)), (1, .int (nI c0_)), (2, .int (nI q))]) hx hb dX4_riffles_61 hl (by decide) rfl (fun ls hl => ?_)
          refine lv_iconst (v := nI 0) hx hb dX4_riffles_63 (by decide) ?_
          refine lv_istore (lv' := [(6, .int (nI 0)), (5, .ref b1), (4, .int (nI a)), (3, .ref b0), (0, .ref (bd 0)), (1, .int (nI c0_)), (2, .int (nI q))]) hx hb dX4_riffles_64 hl (by decide) rfl (fun ls hl => ?_)
          suffices LP2 : ∀ (n2 : Nat) (k : Nat), (k ≤ 16) → (16 < k + n2) → ∀ (H : Heap) (locs : List Loc), va_P G vwCl ([(bd 0, .inr (4, [.int (nI 0), .ref (bd 1), .int (nI (mnw M)), .ref (bd 2), .ref (bd 3), .ref (bd 4), .ref (bd 5), .int (nI (mnp M)), .ref (bd 6), .ref (bd 7), .int (mle M), .int (mwy M), .int (mfc M), .int (nI (mta M))])), (bd 1, .inl (T 0, 16, .inl (mpk M))), (bd 2, .inl (T 0, 4, .inl (msh M))), (bd 3, .inl (T 3, 4, .inr (.inr (.inr (.inr (fun j => if j < 4 then some (bd (8 + j)) else none)))))), (bd 4, .inl (T 0, 4, .inl (man M))), (bd 5, .inl (T 0, 4, .inl (mgl M))), (bd 6, .inl (T 0, 4, .inl (mhb M))), (bd 7, .inl (T 0, 4, .inl (mtk M))), (bd 8, .inl (T 0, 16, .inl (mth M 0))), (bd 9, .inl (T 0, 16, .inl (mth M 1))), (bd 10, .inl (T 0, 16, .inl (mth M 2))), (bd 11, .inl (T 0, 16, .inl (mth M 3))), (b0, .inl (T 0, 16, .inl (fun j => nI (List.getD (xlk (xls s0 a) a k) j 0)))), (b1, .inl (T 0, 16, .inl (fun j => nI (List.getD (xls s0 a) j 0))))]) H → va_D A ([(bd 0, .inr (4, [.int (nI 0), .ref (bd 1), .int (nI (mnw M)), .ref (bd 2), .ref (bd 3), .ref (bd 4), .ref (bd 5), .int (nI (mnp M)), .ref (bd 6), .ref (bd 7), .int (mle M), .int (mwy M), .int (mfc M), .int (nI (mta M))])), (bd 1, .inl (T 0, 16, .inl (mpk M))), (bd 2, .inl (T 0, 4, .inl (msh M))), (bd 3, .inl (T 3, 4, .inr (.inr (.inr (.inr (fun j => if j < 4 then some (bd (8 + j)) else none)))))), (bd 4, .inl (T 0, 4, .inl (man M))), (bd 5, .inl (T 0, 4, .inl (mgl M))), (bd 6, .inl (T 0, 4, .inl (mhb M))), (bd 7, .inl (T 0, 4, .inl (mtk M))), (bd 8, .inl (T 0, 16, .inl (mth M 0))), (bd 9, .inl (T 0, 16, .inl (mth M 1))), (bd 10, .inl (T 0, 16, .inl (mth M 2))), (bd 11, .inl (T 0, 16, .inl (mth M 3))), (b0, .inl (T 0, 16, .inl (fun j => nI (List.getD (xlk (xls s0 a) a k) j 0)))), (b1, .inl (T 0, 16, .inl (fun j => nI (List.getD (xls s0 a) j 0))))]) → va_S A s.heap H locs → ∀ (ls : Array Slot), lv_has ls 10 [(6, .int (nI k)), (5, .ref b1), (4, .int (nI a)), (3, .ref b0), (0, .ref (bd 0)), (1, .int (nI c0_)), (2, .int (nI q))] → W p l e (headSpec wsX4_riffles ({ frames := 2, cells := 5, slots := 80, locals := 42 })).room s m ([.ref (bd 0), .int (nI c0_), .int (nI q)] : List Value).toArray below meth c H locs ((1 + a) + 1) ((16 * (1 + a)) + 16) (MQ below (va_Qi (fun (r : Int32) (u : Int32) => ((xvb 16 (nI c0_) && xvb 16 (nI q)) = true ∧ u = nI 0 ∧ r = nI (xrf s0 q)) ∨ ((xvb 16 (nI c0_) && xvb 16 (nI q)) = false ∧ u = nI 1)) (fun u t => va_P G vwCl (xD T bd u M) t.heap) A) ([.ref (bd 0), .int (nI c0_), .int (nI q)] : List Value).toArray s 5 80 A) (F0 m 66 ls []) from LP2 17 0 (by decide) (by decide) _ _ hP hD hS ls (lv_sub hl [0, 1, 2, 3, 4, 5, 6] rfl)
          clear hP hD hS hl
          intro n2
          induction n2 with
          | zero => intro k hk hn2 H locs _ _ _ ls _; exfalso; omega
          | succ n2 ih2 =>
            intro k hk hn2 H locs hP hD hS ls hl
            refine lv_iload hx hb dX4_riffles_66 (lv_at hl 0 rfl) ?_
            refine lv_bipush (v := nI 16) hx hb dX4_riffles_68 (by decide) ?_
            by_cases hc : k < 16
            · refine lv_icmp_ge (tgt := 160) hx hb dX4_riffles_70 (by decide) (fun c_ => absurd c_ (nI_ge hc (by decide))) (fun _ => ?_)
              refine lv_iconst (v := nI 0) hx hb dX4_riffles_73 (by decide) ?_
              refine lv_istore (lv' := [(7, .int (nI 0)), (6, .int (nI k)), (5, .ref b1), (4, .int (nI a)), (3, .ref b0), (0, .ref (bd 0)), (1, .int (nI c0_)), (2, .int (nI q))]) hx hb dX4_riffles_74 hl (by decide) rfl (fun ls hl => ?_)
              refine lv_iload hx hb dX4_riffles_76 (lv_at hl 0 rfl) ?_
              refine lv_iconst (v := nI 2) hx hb dX4_riffles_78 (by decide) ?_
              have hbk := hb9 k
              have hln : (xlk (xls s0 a) a k).length = 16 := (xlk_len _ a k).trans (xls_len a)
              have hlb := xlk_lt (now := (xls s0 a)) a hb9 k
              have esh : nI (List.getD (xls s0 a) k 0) >>> (nI a &&& 31) = nI (List.getD (xls s0 a) k 0 / 2 ^ a) := pk_shrN (by omega) _ a (x_sl a (by omega))
              have hsl : List.getD (xls s0 a) k 0 / 2 ^ a < 32 := Nat.lt_of_le_of_lt (Nat.div_le_self _ _) hbk
              by_cases h1 : List.getD (xls s0 a) k 0 / 2 ^ a = 1
              · refine lv_icmp_ge (tgt := 154) hx hb dX4_riffles_79 (by decide) (fun c_ => absurd c_ (by decide)) (fun _ => ?_)
                refine lv_aload hx hb dX4_riffles_82 (lv_at hl 2 rfl) ?_
                refine lv_iload hx hb dX4_riffles_84 (lv_at hl 1 rfl) ?_
                refine x_iald hx hb hK hP 13 0 (f := (fun j => nI (List.getD (xls s0 a) j 0))) (n := 16) rfl rfl hc (by decide) dX4_riffles_86 ?_
                refine x_topi (y := nI (List.getD (xls s0 a) k 0)) (rfl) ?_
                refine lv_iload hx hb dX4_riffles_87 (lv_at hl 3 rfl) ?_
                refine lv_ishr hx hb dX4_riffles_89 ?_
                refine x_topi (y := nI (List.getD (xls s0 a) k 0 / 2 ^ a)) (esh) ?_
                refine lv_iconst (v := nI 1) hx hb dX4_riffles_90 (by decide) ?_
                refine lv_icmp_ne (tgt := 154) hx hb dX4_riffles_91 (by decide) (fun c_ => absurd (congrArg nI h1) c_) (fun _ => ?_)
                refine lv_iconst (v := nI 1) hx hb dX4_riffles_94 (by decide) ?_
                refine lv_iload hx hb dX4_riffles_95 (lv_at hl 0 rfl) ?_
                refine lv_iadd hx hb dX4_riffles_97 ?_
                refine x_topi (y := nI (1 + 0)) (nI_add _ _) ?_
                refine lv_iconst (v := nI 0) hx hb dX4_riffles_98 (by decide) ?_
                refine lv_iload hx hb dX4_riffles_99 (lv_at hl 1 rfl) ?_
                have ht0 : (xpa (1 + 0) 0 k) < 16 := (xway (k := 1 + 0) (n := 0) rfl hc).1
                refine x_calli (va_runS (As := [.int (nI (1 + 0)), .int (nI 0), .int (nI k)]) (rest := []) ⟨hx, hb, hml, hown, hts⟩ (c_X4_to l G T _ (1 + 0) 0 k rfl hc) (va_cwS 3 hts gX4_riffles_X4_to rfl rfl rfl (by decide +kernel) ⟨Nat.le_of_ble_eq_true rfl, Nat.le_of_ble_eq_true rfl⟩) (x_preS (wc := []) hK hP hD hS hA hXB hZ [] rfl rfl _) rfl rfl hl.1 rfl (lv_room (Nat.le_of_ble_eq_true rfl)) dX4_riffles_101 ⟨show 1 + a + 1 + 0 ≤ 5 by omega, show 16 * (1 + a) + 16 + 0 ≤ 80 by omega⟩) hP hD hS hA [] rfl (fun _ _ _ => rfl) (fun t0 v0 H locs hwt0 hP hD hS => ?_)
                have hP : va_P G vwCl ([(bd 0, .inr (4, [.int (nI 0), .ref (bd 1), .int (nI (mnw M)), .ref (bd 2), .ref (bd 3), .ref (bd 4), .ref (bd 5), .int (nI (mnp M)), .ref (bd 6), .ref (bd 7), .int (mle M), .int (mwy M), .int (mfc M), .int (nI (mta M))])), (bd 1, .inl (T 0, 16, .inl (mpk M))), (bd 2, .inl (T 0, 4, .inl (msh M))), (bd 3, .inl (T 3, 4, .inr (.inr (.inr (.inr (fun j => if j < 4 then some (bd (8 + j)) else none)))))), (bd 4, .inl (T 0, 4, .inl (man M))), (bd 5, .inl (T 0, 4, .inl (mgl M))), (bd 6, .inl (T 0, 4, .inl (mhb M))), (bd 7, .inl (T 0, 4, .inl (mtk M))), (bd 8, .inl (T 0, 16, .inl (mth M 0))), (bd 9, .inl (T 0, 16, .inl (mth M 1))), (bd 10, .inl (T 0, 16, .inl (mth M 2))), (bd 11, .inl (T 0, 16, .inl (mth M 3))), (b0, .inl (T 0, 16, .inl (fun j => nI (List.getD (xlk (xls s0 a) a k) j 0)))), (b1, .inl (T 0, 16, .inl (fun j => nI (List.getD (xls s0 a) j 0))))]) H := hP
                have hD : va_D A ([(bd 0, .inr (4, [.int (nI 0), .ref (bd 1), .int (nI (mnw M)), .ref (bd 2), .ref (bd 3), .ref (bd 4), .ref (bd 5), .int (nI (mnp M)), .ref (bd 6), .ref (bd 7), .int (mle M), .int (mwy M), .int (mfc M), .int (nI (mta M))])), (bd 1, .inl (T 0, 16, .inl (mpk M))), (bd 2, .inl (T 0, 4, .inl (msh M))), (bd 3, .inl (T 3, 4, .inr (.inr (.inr (.inr (fun j => if j < 4 then some (bd (8 + j)) else none)))))), (bd 4, .inl (T 0, 4, .inl (man M))), (bd 5, .inl (T 0, 4, .inl (mgl M))), (bd 6, .inl (T 0, 4, .inl (mhb M))), (bd 7, .inl (T 0, 4, .inl (mtk M))), (bd 8, .inl (T 0, 16, .inl (mth M 0))), (bd 9, .inl (T 0, 16, .inl (mth M 1))), (bd 10, .inl (T 0, 16, .inl (mth M 2))), (bd 11, .inl (T 0, 16, .inl (mth M 3))), (b0, .inl (T 0, 16, .inl (fun j => nI (List.getD (xlk (xls s0 a) a k) j 0)))), (b1, .inl (T 0, 16, .inl (fun j => nI (List.getD (xls s0 a) j 0))))]) := hD
                refine x_topi (y := nI (xpa (1 + 0) 0 k)) (hwt0) ?_
                refine lv_istore (lv' := [(8, .int (nI (xpa (1 + 0) 0 k))), (7, .int (nI 0)), (6, .int (nI k)), (5, .ref b1), (4, .int (nI a)), (3, .ref b0), (0, .ref (bd 0)), (1, .int (nI c0_)), (2, .int (nI q))]) hx hb dX4_riffles_104 hl (by decide) rfl (fun ls hl => ?_)
                refine lv_iconst (v := nI 2) hx hb dX4_riffles_106 (by decide) ?_
                refine lv_aload hx hb dX4_riffles_107 (lv_at hl 3 rfl) ?_
                refine lv_iload hx hb dX4_riffles_109 (lv_at hl 2 rfl) ?_
                refine x_iald hx hb hK hP 13 0 (f := (fun j => nI (List.getD (xls s0 a) j 0))) (n := 16) rfl rfl hc (by decide) dX4_riffles_111 ?_
                refine x_topi (y := nI (List.getD (xls s0 a) k 0)) (rfl) ?_
                refine lv_imul hx hb dX4_riffles_112 ?_
                refine x_topi (y := nI (2 * List.getD (xls s0 a) k 0)) (pk_mul _ _) ?_
                refine lv_iload hx hb dX4_riffles_113 (lv_at hl 1 rfl) ?_
                refine lv_iadd hx hb dX4_riffles_115 ?_
                refine x_topi (y := nI (2 * List.getD (xls s0 a) k 0 + 0)) (nI_add _ _) ?_
                refine lv_istore (lv' := [(9, .int (nI (2 * List.getD (xls s0 a) k 0 + 0))), (8, .int (nI (xpa (1 + 0) 0 k))), (7, .int (nI 0)), (6, .int (nI k)), (5, .ref b1), (4, .int (nI a)), (3, .ref b0), (0, .ref (bd 0)), (1, .int (nI c0_)), (2, .int (nI q))]) hx hb dX4_riffles_116 hl (by decide) rfl (fun ls hl => ?_)
                refine lv_aload hx hb dX4_riffles_118 (lv_at hl 4 rfl) ?_
                refine lv_iload hx hb dX4_riffles_120 (lv_at hl 1 rfl) ?_
                refine x_iald hx hb hK hP 13 0 (f := (fun j => nI (List.getD (xls s0 a) j 0))) (n := 16) rfl rfl ht0 (by decide) dX4_riffles_122 ?_
                refine x_topi (y := nI (List.getD (xls s0 a) (xpa (1 + 0) 0 k) 0)) (rfl) ?_
                have hbt0 := hb9 (xpa (1 + 0) 0 k)
                have hlt0 := hlb (xpa (1 + 0) 0 k)
                by_cases hA0 : List.getD (xls s0 a) (xpa (1 + 0) 0 k) 0 = 0
                · refine lv_if_ne (tgt := 148) hx hb dX4_riffles_123 (by decide) (fun c_ => absurd (congrArg nI hA0) c_) (fun _ => ?_)
                  refine lv_aload_n hx hb dX4_riffles_126 rfl (lv_at hl 6 rfl) ?_
                  refine lv_iload hx hb dX4_riffles_127 (lv_at hl 1 rfl) ?_
                  refine x_iald hx hb hK hP 12 0 (f := (fun j => nI (List.getD (xlk (xls s0 a) a k) j 0))) (n := 16) rfl rfl ht0 (by decide) dX4_riffles_129 ?_
                  refine x_topi (y := nI (List.getD (xlk (xls s0 a) a k) (xpa (1 + 0) 0 k) 0)) (rfl) ?_
                  by_cases hB0 : List.getD (xlk (xls s0 a) a k) (xpa (1 + 0) 0 k) 0 = 0
                  · refine lv_if_eq (tgt := 142) hx hb dX4_riffles_130 (by decide) (fun _ => ?_) (fun c_ => absurd (congrArg nI hB0) c_)
                    refine lv_aload_n hx hb dX4_riffles_142 rfl (lv_at hl 6 rfl) ?_
                    refine lv_iload hx hb dX4_riffles_143 (lv_at hl 1 rfl) ?_
                    refine lv_iload hx hb dX4_riffles_145 (lv_at hl 0 rfl) ?_
                    refine x_iast hx hb hK hP hD hS 12 0 (f := (fun j => nI (List.getD (xlk (xls s0 a) a k) j 0))) (n := 16) rfl rfl ht0 (by decide) dX4_riffles_147 (fun H locs hP hD hS => ?_)
                    have hP : va_P G vwCl ([(bd 0, .inr (4, [.int (nI 0), .ref (bd 1), .int (nI (mnw M)), .ref (bd 2), .ref (bd 3), .ref (bd 4), .ref (bd 5), .int (nI (mnp M)), .ref (bd 6), .ref (bd 7), .int (mle M), .int (mwy M), .int (mfc M), .int (nI (mta M))])), (bd 1, .inl (T 0, 16, .inl (mpk M))), (bd 2, .inl (T 0, 4, .inl (msh M))), (bd 3, .inl (T 3, 4, .inr (.inr (.inr (.inr (fun j => if j < 4 then some (bd (8 + j)) else none)))))), (bd 4, .inl (T 0, 4, .inl (man M))), (bd 5, .inl (T 0, 4, .inl (mgl M))), (bd 6, .inl (T 0, 4, .inl (mhb M))), (bd 7, .inl (T 0, 4, .inl (mtk M))), (bd 8, .inl (T 0, 16, .inl (mth M 0))), (bd 9, .inl (T 0, 16, .inl (mth M 1))), (bd 10, .inl (T 0, 16, .inl (mth M 2))), (bd 11, .inl (T 0, 16, .inl (mth M 3))), (b0, .inl (T 0, 16, .inl (upd (fun j => nI (List.getD (xlk (xls s0 a) a k) j 0)) (xpa (1 + 0) 0 k) (nI (2 * List.getD (xls s0 a) k 0 + 0))))), (b1, .inl (T 0, 16, .inl (fun j => nI (List.getD (xls s0 a) j 0))))]) H := hP
                    have hD : va_D A ([(bd 0, .inr (4, [.int (nI 0), .ref (bd 1), .int (nI (mnw M)), .ref (bd 2), .ref (bd 3), .ref (bd 4), .ref (bd 5), .int (nI (mnp M)), .ref (bd 6), .ref (bd 7), .int (mle M), .int (mwy M), .int (mfc M), .int (nI (mta M))])), (bd 1, .inl (T 0, 16, .inl (mpk M))), (bd 2, .inl (T 0, 4, .inl (msh M))), (bd 3, .inl (T 3, 4, .inr (.inr (.inr (.inr (fun j => if j < 4 then some (bd (8 + j)) else none)))))), (bd 4, .inl (T 0, 4, .inl (man M))), (bd 5, .inl (T 0, 4, .inl (mgl M))), (bd 6, .inl (T 0, 4, .inl (mhb M))), (bd 7, .inl (T 0, 4, .inl (mtk M))), (bd 8, .inl (T 0, 16, .inl (mth M 0))), (bd 9, .inl (T 0, 16, .inl (mth M 1))), (bd 10, .inl (T 0, 16, .inl (mth M 2))), (bd 11, .inl (T 0, 16, .inl (mth M 3))), (b0, .inl (T 0, 16, .inl (upd (fun j => nI (List.getD (xlk (xls s0 a) a k) j 0)) (xpa (1 + 0) 0 k) (nI (2 * List.getD (xls s0 a) k 0 + 0))))), (b1, .inl (T 0, 16, .inl (fun j => nI (List.getD (xls s0 a) j 0))))]) := hD
                    have el0 : (xl1 (xls s0 a) k 0 (xlk (xls s0 a) a k)) = (List.set (xlk (xls s0 a) a k) (xpa (1 + 0) 0 k) (2 * List.getD (xls s0 a) k 0 + 0)) := if_pos ⟨hA0, Or.inl hB0⟩
                    have eu0 := xgd_up (L := (xlk (xls s0 a) a k)) (i := (xpa (1 + 0) 0 k)) (by rw [hln]; exact ht0) (2 * List.getD (xls s0 a) k 0 + 0)
                    rw [eu0] at hP hD
                    rw [← el0] at hP hD
                    have hP : va_P G vwCl [(bd 0, .inr (4, [.int (nI 0), .ref (bd 1), .int (nI (mnw M)), .ref (bd 2), .ref (bd 3), .ref (bd 4), .ref (bd 5), .int (nI (mnp M)), .ref (bd 6), .ref (bd 7), .int (mle M), .int (mwy M), .int (mfc M), .int (nI (mta M))])), (bd 1, .inl (T 0, 16, .inl (mpk M))), (bd 2, .inl (T 0, 4, .inl (msh M))), (bd 3, .inl (T 3, 4, .inr (.inr (.inr (.inr (fun j => if j < 4 then some (bd (8 + j)) else none)))))), (bd 4, .inl (T 0, 4, .inl (man M))), (bd 5, .inl (T 0, 4, .inl (mgl M))), (bd 6, .inl (T 0, 4, .inl (mhb M))), (bd 7, .inl (T 0, 4, .inl (mtk M))), (bd 8, .inl (T 0, 16, .inl (mth M 0))), (bd 9, .inl (T 0, 16, .inl (mth M 1))), (bd 10, .inl (T 0, 16, .inl (mth M 2))), (bd 11, .inl (T 0, 16, .inl (mth M 3))), (b0, .inl (T 0, 16, .inl (fun j => nI (List.getD (xl1 (xls s0 a) k 0 (xlk (xls s0 a) a k)) j 0)))), (b1, .inl (T 0, 16, .inl (fun j => nI (List.getD (xls s0 a) j 0))))] _ := hP
                    have hD : va_D A [(bd 0, .inr (4, [.int (nI 0), .ref (bd 1), .int (nI (mnw M)), .ref (bd 2), .ref (bd 3), .ref (bd 4), .ref (bd 5), .int (nI (mnp M)), .ref (bd 6), .ref (bd 7), .int (mle M), .int (mwy M), .int (mfc M), .int (nI (mta M))])), (bd 1, .inl (T 0, 16, .inl (mpk M))), (bd 2, .inl (T 0, 4, .inl (msh M))), (bd 3, .inl (T 3, 4, .inr (.inr (.inr (.inr (fun j => if j < 4 then some (bd (8 + j)) else none)))))), (bd 4, .inl (T 0, 4, .inl (man M))), (bd 5, .inl (T 0, 4, .inl (mgl M))), (bd 6, .inl (T 0, 4, .inl (mhb M))), (bd 7, .inl (T 0, 4, .inl (mtk M))), (bd 8, .inl (T 0, 16, .inl (mth M 0))), (bd 9, .inl (T 0, 16, .inl (mth M 1))), (bd 10, .inl (T 0, 16, .inl (mth M 2))), (bd 11, .inl (T 0, 16, .inl (mth M 3))), (b0, .inl (T 0, 16, .inl (fun j => nI (List.getD (xl1 (xls s0 a) k 0 (xlk (xls s0 a) a k)) j 0)))), (b1, .inl (T 0, 16, .inl (fun j => nI (List.getD (xls s0 a) j 0))))] := hD
                    refine lv_iinc (v := nI (0 + 1)) (lv' := [(7, .int (nI (0 + 1))), (9, .int (nI (2 * List.getD (xls s0 a) k 0 + 0))), (8, .int (nI (xpa (1 + 0) 0 k))), (6, .int (nI k)), (5, .ref b1), (4, .int (nI a)), (3, .ref b0), (0, .ref (bd 0)), (1, .int (nI c0_)), (2, .int (nI q))]) hx hb dX4_riffles_148 hl (k := 2) rfl (x_inc _) (by decide) rfl (fun ls hl => ?_)
                    refine lv_goto (tgt := 76) hx hb dX4_riffles_151 (by decide) ?_
                    refine lv_iload hx hb dX4_riffles_76 (lv_at hl 0 rfl) ?_
                    refine lv_iconst (v := nI 2) hx hb dX4_riffles_78 (by decide) ?_
                    have hln1 : (xl1 (xls s0 a) k 0 (xlk (xls s0 a) a k)).length = 16 := (xl1_len _ _ _ _).trans hln
                    have hlb1 := xl1_lt (k := k) (Nat.zero_le 1) hb9 hlb
                    refine lv_icmp_ge (tgt := 154) hx hb dX4_riffles_79 (by decide) (fun c_ => absurd c_ (by decide)) (fun _ => ?_)
                    refine lv_aload hx hb dX4_riffles_82 (lv_at hl 4 rfl) ?_
                    refine lv_iload hx hb dX4_riffles_84 (lv_at hl 3 rfl) ?_
                    refine x_iald hx hb hK hP 13 0 (f := (fun j => nI (List.getD (xls s0 a) j 0))) (n := 16) rfl rfl hc (by decide) dX4_riffles_86 ?_
                    refine x_topi (y := nI (List.getD (xls s0 a) k 0)) (rfl) ?_
                    refine lv_iload hx hb dX4_riffles_87 (lv_at hl 5 rfl) ?_
                    refine lv_ishr hx hb dX4_riffles_89 ?_
                    refine x_topi (y := nI (List.getD (xls s0 a) k 0 / 2 ^ a)) (esh) ?_
                    refine lv_iconst (v := nI 1) hx hb dX4_riffles_90 (by decide) ?_
                    refine lv_icmp_ne (tgt := 154) hx hb dX4_riffles_91 (by decide) (fun c_ => absurd (congrArg nI h1) c_) (fun _ => ?_)
                    refine lv_iconst (v := nI 1) hx hb dX4_riffles_94 (by decide) ?_
                    refine lv_iload hx hb dX4_riffles_95 (lv_at hl 0 rfl) ?_
                    refine lv_iadd hx hb dX4_riffles_97 ?_
                    refine x_topi (y := nI (1 + 1)) (nI_add _ _) ?_
                    refine lv_iconst (v := nI 0) hx hb dX4_riffles_98 (by decide) ?_
                    refine lv_iload hx hb dX4_riffles_99 (lv_at hl 3 rfl) ?_
                    have ht1 : (xpa (1 + 1) 0 k) < 16 := (xway (k := 1 + 1) (n := 0) rfl hc).1
                    refine x_calli (va_runS (As := [.int (nI (1 + 1)), .int (nI 0), .int (nI k)]) (rest := []) ⟨hx, hb, hml, hown, hts⟩ (c_X4_to l G T _ (1 + 1) 0 k rfl hc) (va_cwS 3 hts gX4_riffles_X4_to rfl rfl rfl (by decide +kernel) ⟨Nat.le_of_ble_eq_true rfl, Nat.le_of_ble_eq_true rfl⟩) (x_preS (wc := []) hK hP hD hS hA hXB hZ [] rfl rfl _) rfl rfl hl.1 rfl (lv_room (Nat.le_of_ble_eq_true rfl)) dX4_riffles_101 ⟨show 1 + a + 1 + 0 ≤ 5 by omega, show 16 * (1 + a) + 16 + 0 ≤ 80 by omega⟩) hP hD hS hA [] rfl (fun _ _ _ => rfl) (fun t1 v1 H locs hwt1 hP hD hS => ?_)
                    have hP : va_P G vwCl ([(bd 0, .inr (4, [.int (nI 0), .ref (bd 1), .int (nI (mnw M)), .ref (bd 2), .ref (bd 3), .ref (bd 4), .ref (bd 5), .int (nI (mnp M)), .ref (bd 6), .ref (bd 7), .int (mle M), .int (mwy M), .int (mfc M), .int (nI (mta M))])), (bd 1, .inl (T 0, 16, .inl (mpk M))), (bd 2, .inl (T 0, 4, .inl (msh M))), (bd 3, .inl (T 3, 4, .inr (.inr (.inr (.inr (fun j => if j < 4 then some (bd (8 + j)) else none)))))), (bd 4, .inl (T 0, 4, .inl (man M))), (bd 5, .inl (T 0, 4, .inl (mgl M))), (bd 6, .inl (T 0, 4, .inl (mhb M))), (bd 7, .inl (T 0, 4, .inl (mtk M))), (bd 8, .inl (T 0, 16, .inl (mth M 0))), (bd 9, .inl (T 0, 16, .inl (mth M 1))), (bd 10, .inl (T 0, 16, .inl (mth M 2))), (bd 11, .inl (T 0, 16, .inl (mth M 3))), (b0, .inl (T 0, 16, .inl (fun j => nI (List.getD (xl1 (xls s0 a) k 0 (xlk (xls s0 a) a k)) j 0)))), (b1, .inl (T 0, 16, .inl (fun j => nI (List.getD (xls s0 a) j 0))))]) H := hP
                    have hD : va_D A ([(bd 0, .inr (4, [.int (nI 0), .ref (bd 1), .int (nI (mnw M)), .ref (bd 2), .ref (bd 3), .ref (bd 4), .ref (bd 5), .int (nI (mnp M)), .ref (bd 6), .ref (bd 7), .int (mle M), .int (mwy M), .int (mfc M), .int (nI (mta M))])), (bd 1, .inl (T 0, 16, .inl (mpk M))), (bd 2, .inl (T 0, 4, .inl (msh M))), (bd 3, .inl (T 3, 4, .inr (.inr (.inr (.inr (fun j => if j < 4 then some (bd (8 + j)) else none)))))), (bd 4, .inl (T 0, 4, .inl (man M))), (bd 5, .inl (T 0, 4, .inl (mgl M))), (bd 6, .inl (T 0, 4, .inl (mhb M))), (bd 7, .inl (T 0, 4, .inl (mtk M))), (bd 8, .inl (T 0, 16, .inl (mth M 0))), (bd 9, .inl (T 0, 16, .inl (mth M 1))), (bd 10, .inl (T 0, 16, .inl (mth M 2))), (bd 11, .inl (T 0, 16, .inl (mth M 3))), (b0, .inl (T 0, 16, .inl (fun j => nI (List.getD (xl1 (xls s0 a) k 0 (xlk (xls s0 a) a k)) j 0)))), (b1, .inl (T 0, 16, .inl (fun j => nI (List.getD (xls s0 a) j 0))))]) := hD
                    refine x_topi (y := nI (xpa (1 + 1) 0 k)) (hwt1) ?_
                    refine lv_istore (lv' := [(8, .int (nI (xpa (1 + 1) 0 k))), (7, .int (nI (0 + 1))), (9, .int (nI (2 * List.getD (xls s0 a) k 0 + 0))), (6, .int (nI k)), (5, .ref b1), (4, .int (nI a)), (3, .ref b0), (0, .ref (bd 0)), (1, .int (nI c0_)), (2, .int (nI q))]) hx hb dX4_riffles_104 hl (by decide) rfl (fun ls hl => ?_)
                    refine lv_iconst (v := nI 2) hx hb dX4_riffles_106 (by decide) ?_
                    refine lv_aload hx hb dX4_riffles_107 (lv_at hl 4 rfl) ?_
                    refine lv_iload hx hb dX4_riffles_109 (lv_at hl 3 rfl) ?_
                    refine x_iald hx hb hK hP 13 0 (f := (fun j => nI (List.getD (xls s0 a) j 0))) (n := 16) rfl rfl hc (by decide) dX4_riffles_111 ?_
                    refine x_topi (y := nI (List.getD (xls s0 a) k 0)) (rfl) ?_
                    refine lv_imul hx hb dX4_riffles_112 ?_
                    refine x_topi (y := nI (2 * List.getD (xls s0 a) k 0)) (pk_mul _ _) ?_
                    refine lv_iload hx hb dX4_riffles_113 (lv_at hl 1 rfl) ?_
                    refine lv_iadd hx hb dX4_riffles_115 ?_
                    refine x_topi (y := nI (2 * List.getD (xls s0 a) k 0 + 1)) (nI_add _ _) ?_
                    refine lv_istore (lv' := [(9, .int (nI (2 * List.getD (xls s0 a) k 0 + 1))), (8, .int (nI (xpa (1 + 1) 0 k))), (7, .int (nI (0 + 1))), (6, .int (nI k)), (5, .ref b1), (4, .int (nI a)), (3, .ref b0), (0, .ref (bd 0)), (1, .int (nI c0_)), (2, .int (nI q))]) hx hb dX4_riffles_116 hl (by decide) rfl (fun ls hl => ?_)
                    refine lv_aload hx hb dX4_riffles_118 (lv_at hl 4 rfl) ?_
                    refine lv_iload hx hb dX4_riffles_120 (lv_at hl 1 rfl) ?_
                    refine x_iald hx hb hK hP 13 0 (f := (fun j => nI (List.getD (xls s0 a) j 0))) (n := 16) rfl rfl ht1 (by decide) dX4_riffles_122 ?_
                    refine x_topi (y := nI (List.getD (xls s0 a) (xpa (1 + 1) 0 k) 0)) (rfl) ?_
                    have hbt1 := hb9 (xpa (1 + 1) 0 k)
                    have hlt1 := hlb1 (xpa (1 + 1) 0 k)
                    by_cases hA1 : List.getD (xls s0 a) (xpa (1 + 1) 0 k) 0 = 0
                    · refine lv_if_ne (tgt := 148) hx hb dX4_riffles_123 (by decide) (fun c_ => absurd (congrArg nI hA1) c_) (fun _ => ?_)
                      refine lv_aload_n hx hb dX4_riffles_126 rfl (lv_at hl 6 rfl) ?_
                      refine lv_iload hx hb dX4_riffles_127 (lv_at hl 1 rfl) ?_
                      refine x_iald hx hb hK hP 12 0 (f := (fun j => nI (List.getD (xl1 (xls s0 a) k 0 (xlk (xls s0 a) a k)) j 0))) (n := 16) rfl rfl ht1 (by decide) dX4_riffles_129 ?_
                      refine x_topi (y := nI (List.getD (xl1 (xls s0 a) k 0 (xlk (xls s0 a) a k)) (xpa (1 + 1) 0 k) 0)) (rfl) ?_
                      by_cases hB1 : List.getD (xl1 (xls s0 a) k 0 (xlk (xls s0 a) a k)) (xpa (1 + 1) 0 k) 0 = 0
                      · refine lv_if_eq (tgt := 142) hx hb dX4_riffles_130 (by decide) (fun _ => ?_) (fun c_ => absurd (congrArg nI hB1) c_)
                        refine lv_aload_n hx hb dX4_riffles_142 rfl (lv_at hl 6 rfl) ?_
                        refine lv_iload hx hb dX4_riffles_143 (lv_at hl 1 rfl) ?_
                        refine lv_iload hx hb dX4_riffles_145 (lv_at hl 0 rfl) ?_
                        refine x_iast hx hb hK hP hD hS 12 0 (f := (fun j => nI (List.getD (xl1 (xls s0 a) k 0 (xlk (xls s0 a) a k)) j 0))) (n := 16) rfl rfl ht1 (by decide) dX4_riffles_147 (fun H locs hP hD hS => ?_)
                        have hP : va_P G vwCl ([(bd 0, .inr (4, [.int (nI 0), .ref (bd 1), .int (nI (mnw M)), .ref (bd 2), .ref (bd 3), .ref (bd 4), .ref (bd 5), .int (nI (mnp M)), .ref (bd 6), .ref (bd 7), .int (mle M), .int (mwy M), .int (mfc M), .int (nI (mta M))])), (bd 1, .inl (T 0, 16, .inl (mpk M))), (bd 2, .inl (T 0, 4, .inl (msh M))), (bd 3, .inl (T 3, 4, .inr (.inr (.inr (.inr (fun j => if j < 4 then some (bd (8 + j)) else none)))))), (bd 4, .inl (T 0, 4, .inl (man M))), (bd 5, .inl (T 0, 4, .inl (mgl M))), (bd 6, .inl (T 0, 4, .inl (mhb M))), (bd 7, .inl (T 0, 4, .inl (mtk M))), (bd 8, .inl (T 0, 16, .inl (mth M 0))), (bd 9, .inl (T 0, 16, .inl (mth M 1))), (bd 10, .inl (T 0, 16, .inl (mth M 2))), (bd 11, .inl (T 0, 16, .inl (mth M 3))), (b0, .inl (T 0, 16, .inl (upd (fun j => nI (List.getD (xl1 (xls s0 a) k 0 (xlk (xls s0 a) a k)) j 0)) (xpa (1 + 1) 0 k) (nI (2 * List.getD (xls s0 a) k 0 + 1))))), (b1, .inl (T 0, 16, .inl (fun j => nI (List.getD (xls s0 a) j 0))))]) H := hP
                        have hD : va_D A ([(bd 0, .inr (4, [.int (nI 0), .ref (bd 1), .int (nI (mnw M)), .ref (bd 2), .ref (bd 3), .ref (bd 4), .ref (bd 5), .int (nI (mnp M)), .ref (bd 6), .ref (bd 7), .int (mle M), .int (mwy M), .int (mfc M), .int (nI (mta M))])), (bd 1, .inl (T 0, 16, .inl (mpk M))), (bd 2, .inl (T 0, 4, .inl (msh M))), (bd 3, .inl (T 3, 4, .inr (.inr (.inr (.inr (fun j => if j < 4 then some (bd (8 + j)) else none)))))), (bd 4, .inl (T 0, 4, .inl (man M))), (bd 5, .inl (T 0, 4, .inl (mgl M))), (bd 6, .inl (T 0, 4, .inl (mhb M))), (bd 7, .inl (T 0, 4, .inl (mtk M))), (bd 8, .inl (T 0, 16, .inl (mth M 0))), (bd 9, .inl (T 0, 16, .inl (mth M 1))), (bd 10, .inl (T 0, 16, .inl (mth M 2))), (bd 11, .inl (T 0, 16, .inl (mth M 3))), (b0, .inl (T 0, 16, .inl (upd (fun j => nI (List.getD (xl1 (xls s0 a) k 0 (xlk (xls s0 a) a k)) j 0)) (xpa (1 + 1) 0 k) (nI (2 * List.getD (xls s0 a) k 0 + 1))))), (b1, .inl (T 0, 16, .inl (fun j => nI (List.getD (xls s0 a) j 0))))]) := hD
                        have el1 : (xl1 (xls s0 a) k 1 (xl1 (xls s0 a) k 0 (xlk (xls s0 a) a k))) = (List.set (xl1 (xls s0 a) k 0 (xlk (xls s0 a) a k)) (xpa (1 + 1) 0 k) (2 * List.getD (xls s0 a) k 0 + 1)) := if_pos ⟨hA1, Or.inl hB1⟩
                        have eu1 := xgd_up (L := (xl1 (xls s0 a) k 0 (xlk (xls s0 a) a k))) (i := (xpa (1 + 1) 0 k)) (by rw [hln1]; exact ht1) (2 * List.getD (xls s0 a) k 0 + 1)
                        rw [eu1] at hP hD
                        rw [← el1] at hP hD
                        have hP : va_P G vwCl [(bd 0, .inr (4, [.int (nI 0), .ref (bd 1), .int (nI (mnw M)), .ref (bd 2), .ref (bd 3), .ref (bd 4), .ref (bd 5), .int (nI (mnp M)), .ref (bd 6), .ref (bd 7), .int (mle M), .int (mwy M), .int (mfc M), .int (nI (mta M))])), (bd 1, .inl (T 0, 16, .inl (mpk M))), (bd 2, .inl (T 0, 4, .inl (msh M))), (bd 3, .inl (T 3, 4, .inr (.inr (.inr (.inr (fun j => if j < 4 then some (bd (8 + j)) else none)))))), (bd 4, .inl (T 0, 4, .inl (man M))), (bd 5, .inl (T 0, 4, .inl (mgl M))), (bd 6, .inl (T 0, 4, .inl (mhb M))), (bd 7, .inl (T 0, 4, .inl (mtk M))), (bd 8, .inl (T 0, 16, .inl (mth M 0))), (bd 9, .inl (T 0, 16, .inl (mth M 1))), (bd 10, .inl (T 0, 16, .inl (mth M 2))), (bd 11, .inl (T 0, 16, .inl (mth M 3))), (b0, .inl (T 0, 16, .inl (fun j => nI (List.getD (xl1 (xls s0 a) k 1 (xl1 (xls s0 a) k 0 (xlk (xls s0 a) a k))) j 0)))), (b1, .inl (T 0, 16, .inl (fun j => nI (List.getD (xls s0 a) j 0))))] _ := hP
                        have hD : va_D A [(bd 0, .inr (4, [.int (nI 0), .ref (bd 1), .int (nI (mnw M)), .ref (bd 2), .ref (bd 3), .ref (bd 4), .ref (bd 5), .int (nI (mnp M)), .ref (bd 6), .ref (bd 7), .int (mle M), .int (mwy M), .int (mfc M), .int (nI (mta M))])), (bd 1, .inl (T 0, 16, .inl (mpk M))), (bd 2, .inl (T 0, 4, .inl (msh M))), (bd 3, .inl (T 3, 4, .inr (.inr (.inr (.inr (fun j => if j < 4 then some (bd (8 + j)) else none)))))), (bd 4, .inl (T 0, 4, .inl (man M))), (bd 5, .inl (T 0, 4, .inl (mgl M))), (bd 6, .inl (T 0, 4, .inl (mhb M))), (bd 7, .inl (T 0, 4, .inl (mtk M))), (bd 8, .inl (T 0, 16, .inl (mth M 0))), (bd 9, .inl (T 0, 16, .inl (mth M 1))), (bd 10, .inl (T 0, 16, .inl (mth M 2))), (bd 11, .inl (T 0, 16, .inl (mth M 3))), (b0, .inl (T 0, 16, .inl (fun j => nI (List.getD (xl1 (xls s0 a) k 1 (xl1 (xls s0 a) k 0 (xlk (xls s0 a) a k))) j 0)))), (b1, .inl (T 0, 16, .inl (fun j => nI (List.getD (xls s0 a) j 0))))] := hD
                        refine lv_iinc (v := nI ((0 + 1) + 1)) (lv' := [(7, .int (nI ((0 + 1) + 1))), (9, .int (nI (2 * List.getD (xls s0 a) k 0 + 1))), (8, .int (nI (xpa (1 + 1) 0 k))), (6, .int (nI k)), (5, .ref b1), (4, .int (nI a)), (3, .ref b0), (0, .ref (bd 0)), (1, .int (nI c0_)), (2, .int (nI q))]) hx hb dX4_riffles_148 hl (k := 2) rfl (x_inc _) (by decide) rfl (fun ls hl => ?_)
                        refine lv_goto (tgt := 76) hx hb dX4_riffles_151 (by decide) ?_
                        refine lv_iload hx hb dX4_riffles_76 (lv_at hl 0 rfl) ?_
                        refine lv_iconst (v := nI 2) hx hb dX4_riffles_78 (by decide) ?_
                        refine lv_icmp_ge (tgt := 154) hx hb dX4_riffles_79 (by decide) (fun _ => ?_) (fun c_ => absurd (by decide) c_)
                        refine lv_iinc (v := nI (k + 1)) (lv' := [(6, .int (nI (k + 1))), (7, .int (nI ((0 + 1) + 1))), (9, .int (nI (2 * List.getD (xls s0 a) k 0 + 1))), (8, .int (nI (xpa (1 + 1) 0 k))), (5, .ref b1), (4, .int (nI a)), (3, .ref b0), (0, .ref (bd 0)), (1, .int (nI c0_)), (2, .int (nI q))]) hx hb dX4_riffles_154 hl (k := 3) rfl (x_inc _) (by decide) rfl (fun ls hl => ?_)
                        refine lv_goto (tgt := 66) hx hb dX4_riffles_157 (by decide) ?_
                        have ek : xlk (xls s0 a) a (k + 1) = (xl1 (xls s0 a) k 1 (xl1 (xls s0 a) k 0 (xlk (xls s0 a) a k))) := by show (if _ then _ else _) = _; rw [if_pos h1]
                        rw [← ek] at hP hD
                        exact ih2 (k + 1) (by omega) (by omega) _ _ hP hD hS ls (lv_sub hl [0, 4, 5, 6, 7, 8, 9] rfl)
                      · refine lv_if_eq (tgt := 142) hx hb dX4_riffles_130 (by decide) (fun c_ => absurd c_ (fun h => hB1 ((nI_eq (by omega) (by decide)).mp h))) (fun _ => ?_)
                        refine lv_iload hx hb dX4_riffles_133 (lv_at hl 0 rfl) ?_
                        refine lv_aload_n hx hb dX4_riffles_135 rfl (lv_at hl 6 rfl) ?_
                        refine lv_iload hx hb dX4_riffles_136 (lv_at hl 1 rfl) ?_
                        refine x_iald hx hb hK hP 12 0 (f := (fun j => nI (List.getD (xl1 (xls s0 a) k 0 (xlk (xls s0 a) a k)) j 0))) (n := 16) rfl rfl ht1 (by decide) dX4_riffles_138 ?_
                        refine x_topi (y := nI (List.getD (xl1 (xls s0 a) k 0 (xlk (xls s0 a) a k)) (xpa (1 + 1) 0 k) 0)) (rfl) ?_
                        by_cases hC1 : (2 * List.getD (xls s0 a) k 0 + 1) < List.getD (xl1 (xls s0 a) k 0 (xlk (xls s0 a) a k)) (xpa (1 + 1) 0 k) 0
                        · refine lv_icmp_ge (tgt := 148) hx hb dX4_riffles_139 (by decide) (fun c_ => absurd c_ (nI_ge hC1 (by omega))) (fun _ => ?_)
                          refine lv_aload_n hx hb dX4_riffles_142 rfl (lv_at hl 6 rfl) ?_
                          refine lv_iload hx hb dX4_riffles_143 (lv_at hl 1 rfl) ?_
                          refine lv_iload hx hb dX4_riffles_145 (lv_at hl 0 rfl) ?_
                          refine x_iast hx hb hK hP hD hS 12 0 (f := (fun j => nI (List.getD (xl1 (xls s0 a) k 0 (xlk (xls s0 a) a k)) j 0))) (n := 16) rfl rfl ht1 (by decide) dX4_riffles_147 (fun H locs hP hD hS => ?_)
                          have hP : va_P G vwCl ([(bd 0, .inr (4, [.int (nI 0), .ref (bd 1), .int (nI (mnw M)), .ref (bd 2), .ref (bd 3), .ref (bd 4), .ref (bd 5), .int (nI (mnp M)), .ref (bd 6), .ref (bd 7), .int (mle M), .int (mwy M), .int (mfc M), .int (nI (mta M))])), (bd 1, .inl (T 0, 16, .inl (mpk M))), (bd 2, .inl (T 0, 4, .inl (msh M))), (bd 3, .inl (T 3, 4, .inr (.inr (.inr (.inr (fun j => if j < 4 then some (bd (8 + j)) else none)))))), (bd 4, .inl (T 0, 4, .inl (man M))), (bd 5, .inl (T 0, 4, .inl (mgl M))), (bd 6, .inl (T 0, 4, .inl (mhb M))), (bd 7, .inl (T 0, 4, .inl (mtk M))), (bd 8, .inl (T 0, 16, .inl (mth M 0))), (bd 9, .inl (T 0, 16, .inl (mth M 1))), (bd 10, .inl (T 0, 16, .inl (mth M 2))), (bd 11, .inl (T 0, 16, .inl (mth M 3))), (b0, .inl (T 0, 16, .inl (upd (fun j => nI (List.getD (xl1 (xls s0 a) k 0 (xlk (xls s0 a) a k)) j 0)) (xpa (1 + 1) 0 k) (nI (2 * List.getD (xls s0 a) k 0 + 1))))), (b1, .inl (T 0, 16, .inl (fun j => nI (List.getD (xls s0 a) j 0))))]) H := hP
                          have hD : va_D A ([(bd 0, .inr (4, [.int (nI 0), .ref (bd 1), .int (nI (mnw M)), .ref (bd 2), .ref (bd 3), .ref (bd 4), .ref (bd 5), .int (nI (mnp M)), .ref (bd 6), .ref (bd 7), .int (mle M), .int (mwy M), .int (mfc M), .int (nI (mta M))])), (bd 1, .inl (T 0, 16, .inl (mpk M))), (bd 2, .inl (T 0, 4, .inl (msh M))), (bd 3, .inl (T 3, 4, .inr (.inr (.inr (.inr (fun j => if j < 4 then some (bd (8 + j)) else none)))))), (bd 4, .inl (T 0, 4, .inl (man M))), (bd 5, .inl (T 0, 4, .inl (mgl M))), (bd 6, .inl (T 0, 4, .inl (mhb M))), (bd 7, .inl (T 0, 4, .inl (mtk M))), (bd 8, .inl (T 0, 16, .inl (mth M 0))), (bd 9, .inl (T 0, 16, .inl (mth M 1))), (bd 10, .inl (T 0, 16, .inl (mth M 2))), (bd 11, .inl (T 0, 16, .inl (mth M 3))), (b0, .inl (T 0, 16, .inl (upd (fun j => nI (List.getD (xl1 (xls s0 a) k 0 (xlk (xls s0 a) a k)) j 0)) (xpa (1 + 1) 0 k) (nI (2 * List.getD (xls s0 a) k 0 + 1))))), (b1, .inl (T 0, 16, .inl (fun j => nI (List.getD (xls s0 a) j 0))))]) := hD
                          have el1 : (xl1 (xls s0 a) k 1 (xl1 (xls s0 a) k 0 (xlk (xls s0 a) a k))) = (List.set (xl1 (xls s0 a) k 0 (xlk (xls s0 a) a k)) (xpa (1 + 1) 0 k) (2 * List.getD (xls s0 a) k 0 + 1)) := if_pos ⟨hA1, Or.inr hC1⟩
                          have eu1 := xgd_up (L := (xl1 (xls s0 a) k 0 (xlk (xls s0 a) a k))) (i := (xpa (1 + 1) 0 k)) (by rw [hln1]; exact ht1) (2 * List.getD (xls s0 a) k 0 + 1)
                          rw [eu1] at hP hD
                          rw [← el1] at hP hD
                          have hP : va_P G vwCl [(bd 0, .inr (4, [.int (nI 0), .ref (bd 1), .int (nI (mnw M)), .ref (bd 2), .ref (bd 3), .ref (bd 4), .ref (bd 5), .int (nI (mnp M)), .ref (bd 6), .ref (bd 7), .int (mle M), .int (mwy M), .int (mfc M), .int (nI (mta M))])), (bd 1, .inl (T 0, 16, .inl (mpk M))), (bd 2, .inl (T 0, 4, .inl (msh M))), (bd 3, .inl (T 3, 4, .inr (.inr (.inr (.inr (fun j => if j < 4 then some (bd (8 + j)) else none)))))), (bd 4, .inl (T 0, 4, .inl (man M))), (bd 5, .inl (T 0, 4, .inl (mgl M))), (bd 6, .inl (T 0, 4, .inl (mhb M))), (bd 7, .inl (T 0, 4, .inl (mtk M))), (bd 8, .inl (T 0, 16, .inl (mth M 0))), (bd 9, .inl (T 0, 16, .inl (mth M 1))), (bd 10, .inl (T 0, 16, .inl (mth M 2))), (bd 11, .inl (T 0, 16, .inl (mth M 3))), (b0, .inl (T 0, 16, .inl (fun j => nI (List.getD (xl1 (xls s0 a) k 1 (xl1 (xls s0 a) k 0 (xlk (xls s0 a) a k))) j 0)))), (b1, .inl (T 0, 16, .inl (fun j => nI (List.getD (xls s0 a) j 0))))] _ := hP
                          have hD : va_D A [(bd 0, .inr (4, [.int (nI 0), .ref (bd 1), .int (nI (mnw M)), .ref (bd 2), .ref (bd 3), .ref (bd 4), .ref (bd 5), .int (nI (mnp M)), .ref (bd 6), .ref (bd 7), .int (mle M), .int (mwy M), .int (mfc M), .int (nI (mta M))])), (bd 1, .inl (T 0, 16, .inl (mpk M))), (bd 2, .inl (T 0, 4, .inl (msh M))), (bd 3, .inl (T 3, 4, .inr (.inr (.inr (.inr (fun j => if j < 4 then some (bd (8 + j)) else none)))))), (bd 4, .inl (T 0, 4, .inl (man M))), (bd 5, .inl (T 0, 4, .inl (mgl M))), (bd 6, .inl (T 0, 4, .inl (mhb M))), (bd 7, .inl (T 0, 4, .inl (mtk M))), (bd 8, .inl (T 0, 16, .inl (mth M 0))), (bd 9, .inl (T 0, 16, .inl (mth M 1))), (bd 10, .inl (T 0, 16, .inl (mth M 2))), (bd 11, .inl (T 0, 16, .inl (mth M 3))), (b0, .inl (T 0, 16, .inl (fun j => nI (List.getD (xl1 (xls s0 a) k 1 (xl1 (xls s0 a) k 0 (xlk (xls s0 a) a k))) j 0)))), (b1, .inl (T 0, 16, .inl (fun j => nI (List.getD (xls s0 a) j 0))))] := hD
                          refine lv_iinc (v := nI ((0 + 1) + 1)) (lv' := [(7, .int (nI ((0 + 1) + 1))), (9, .int (nI (2 * List.getD (xls s0 a) k 0 + 1))), (8, .int (nI (xpa (1 + 1) 0 k))), (6, .int (nI k)), (5, .ref b1), (4, .int (nI a)), (3, .ref b0), (0, .ref (bd 0)), (1, .int (nI c0_)), (2, .int (nI q))]) hx hb dX4_riffles_148 hl (k := 2) rfl (x_inc _) (by decide) rfl (fun ls hl => ?_)
                          refine lv_goto (tgt := 76) hx hb dX4_riffles_151 (by decide) ?_
                          refine lv_iload hx hb dX4_riffles_76 (lv_at hl 0 rfl) ?_
                          refine lv_iconst (v := nI 2) hx hb dX4_riffles_78 (by decide) ?_
                          refine lv_icmp_ge (tgt := 154) hx hb dX4_riffles_79 (by decide) (fun _ => ?_) (fun c_ => absurd (by decide) c_)
                          refine lv_iinc (v := nI (k + 1)) (lv' := [(6, .int (nI (k + 1))), (7, .int (nI ((0 + 1) + 1))), (9, .int (nI (2 * List.getD (xls s0 a) k 0 + 1))), (8, .int (nI (xpa (1 + 1) 0 k))), (5, .ref b1), (4, .int (nI a)), (3, .ref b0), (0, .ref (bd 0)), (1, .int (nI c0_)), (2, .int (nI q))]) hx hb dX4_riffles_154 hl (k := 3) rfl (x_inc _) (by decide) rfl (fun ls hl => ?_)
                          refine lv_goto (tgt := 66) hx hb dX4_riffles_157 (by decide) ?_
                          have ek : xlk (xls s0 a) a (k + 1) = (xl1 (xls s0 a) k 1 (xl1 (xls s0 a) k 0 (xlk (xls s0 a) a k))) := by show (if _ then _ else _) = _; rw [if_pos h1]
                          rw [← ek] at hP hD
                          exact ih2 (k + 1) (by omega) (by omega) _ _ hP hD hS ls (lv_sub hl [0, 4, 5, 6, 7, 8, 9] rfl)
                        · refine lv_icmp_ge (tgt := 148) hx hb dX4_riffles_139 (by decide) (fun _ => ?_) (fun c_ => absurd (nI_le (by omega) (by omega)) c_)
                          have el1 : (xl1 (xls s0 a) k 1 (xl1 (xls s0 a) k 0 (xlk (xls s0 a) a k))) = (xl1 (xls s0 a) k 0 (xlk (xls s0 a) a k)) := if_neg (fun h => by rcases h.2 with g | g; exact hB1 g; exact hC1 g)
                          rw [← el1] at hP hD
                          have hP : va_P G vwCl [(bd 0, .inr (4, [.int (nI 0), .ref (bd 1), .int (nI (mnw M)), .ref (bd 2), .ref (bd 3), .ref (bd 4), .ref (bd 5), .int (nI (mnp M)), .ref (bd 6), .ref (bd 7), .int (mle M), .int (mwy M), .int (mfc M), .int (nI (mta M))])), (bd 1, .inl (T 0, 16, .inl (mpk M))), (bd 2, .inl (T 0, 4, .inl (msh M))), (bd 3, .inl (T 3, 4, .inr (.inr (.inr (.inr (fun j => if j < 4 then some (bd (8 + j)) else none)))))), (bd 4, .inl (T 0, 4, .inl (man M))), (bd 5, .inl (T 0, 4, .inl (mgl M))), (bd 6, .inl (T 0, 4, .inl (mhb M))), (bd 7, .inl (T 0, 4, .inl (mtk M))), (bd 8, .inl (T 0, 16, .inl (mth M 0))), (bd 9, .inl (T 0, 16, .inl (mth M 1))), (bd 10, .inl (T 0, 16, .inl (mth M 2))), (bd 11, .inl (T 0, 16, .inl (mth M 3))), (b0, .inl (T 0, 16, .inl (fun j => nI (List.getD (xl1 (xls s0 a) k 1 (xl1 (xls s0 a) k 0 (xlk (xls s0 a) a k))) j 0)))), (b1, .inl (T 0, 16, .inl (fun j => nI (List.getD (xls s0 a) j 0))))] _ := hP
                          have hD : va_D A [(bd 0, .inr (4, [.int (nI 0), .ref (bd 1), .int (nI (mnw M)), .ref (bd 2), .ref (bd 3), .ref (bd 4), .ref (bd 5), .int (nI (mnp M)), .ref (bd 6), .ref (bd 7), .int (mle M), .int (mwy M), .int (mfc M), .int (nI (mta M))])), (bd 1, .inl (T 0, 16, .inl (mpk M))), (bd 2, .inl (T 0, 4, .inl (msh M))), (bd 3, .inl (T 3, 4, .inr (.inr (.inr (.inr (fun j => if j < 4 then some (bd (8 + j)) else none)))))), (bd 4, .inl (T 0, 4, .inl (man M))), (bd 5, .inl (T 0, 4, .inl (mgl M))), (bd 6, .inl (T 0, 4, .inl (mhb M))), (bd 7, .inl (T 0, 4, .inl (mtk M))), (bd 8, .inl (T 0, 16, .inl (mth M 0))), (bd 9, .inl (T 0, 16, .inl (mth M 1))), (bd 10, .inl (T 0, 16, .inl (mth M 2))), (bd 11, .inl (T 0, 16, .inl (mth M 3))), (b0, .inl (T 0, 16, .inl (fun j => nI (List.getD (xl1 (xls s0 a) k 1 (xl1 (xls s0 a) k 0 (xlk (xls s0 a) a k))) j 0)))), (b1, .inl (T 0, 16, .inl (fun j => nI (List.getD (xls s0 a) j 0))))] := hD
                          refine lv_iinc (v := nI ((0 + 1) + 1)) (lv' := [(7, .int (nI ((0 + 1) + 1))), (9, .int (nI (2 * List.getD (xls s0 a) k 0 + 1))), (8, .int (nI (xpa (1 + 1) 0 k))), (6, .int (nI k)), (5, .ref b1), (4, .int (nI a)), (3, .ref b0), (0, .ref (bd 0)), (1, .int (nI c0_)), (2, .int (nI q))]) hx hb dX4_riffles_148 hl (k := 2) rfl (x_inc _) (by decide) rfl (fun ls hl => ?_)
                          refine lv_goto (tgt := 76) hx hb dX4_riffles_151 (by decide) ?_
                          refine lv_iload hx hb dX4_riffles_76 (lv_at hl 0 rfl) ?_
                          refine lv_iconst (v := nI 2) hx hb dX4_riffles_78 (by decide) ?_
                          refine lv_icmp_ge (tgt := 154) hx hb dX4_riffles_79 (by decide) (fun _ => ?_) (fun c_ => absurd (by decide) c_)
                          refine lv_iinc (v := nI (k + 1)) (lv' := [(6, .int (nI (k + 1))), (7, .int (nI ((0 + 1) + 1))), (9, .int (nI (2 * List.getD (xls s0 a) k 0 + 1))), (8, .int (nI (xpa (1 + 1) 0 k))), (5, .ref b1), (4, .int (nI a)), (3, .ref b0), (0, .ref (bd 0)), (1, .int (nI c0_)), (2, .int (nI q))]) hx hb dX4_riffles_154 hl (k := 3) rfl (x_inc _) (by decide) rfl (fun ls hl => ?_)
                          refine lv_goto (tgt := 66) hx hb dX4_riffles_157 (by decide) ?_
                          have ek : xlk (xls s0 a) a (k + 1) = (xl1 (xls s0 a) k 1 (xl1 (xls s0 a) k 0 (xlk (xls s0 a) a k))) := by show (if _ then _ else _) = _; rw [if_pos h1]
                          rw [← ek] at hP hD
                          exact ih2 (k + 1) (by omega) (by omega) _ _ hP hD hS ls (lv_sub hl [0, 4, 5, 6, 7, 8, 9] rfl)
                    · refine lv_if_ne (tgt := 148) hx hb dX4_riffles_123 (by decide) (fun _ => ?_) (fun c_ => absurd c_ (fun h => hA1 ((nI_eq (by omega) (by decide)).mp h)))
                      have el1 : (xl1 (xls s0 a) k 1 (xl1 (xls s0 a) k 0 (xlk (xls s0 a) a k))) = (xl1 (xls s0 a) k 0 (xlk (xls s0 a) a k)) := if_neg (fun h => hA1 h.1)
                      rw [← el1] at hP hD
                      have hP : va_P G vwCl [(bd 0, .inr (4, [.int (nI 0), .ref (bd 1), .int (nI (mnw M)), .ref (bd 2), .ref (bd 3), .ref (bd 4), .ref (bd 5), .int (nI (mnp M)), .ref (bd 6), .ref (bd 7), .int (mle M), .int (mwy M), .int (mfc M), .int (nI (mta M))])), (bd 1, .inl (T 0, 16, .inl (mpk M))), (bd 2, .inl (T 0, 4, .inl (msh M))), (bd 3, .inl (T 3, 4, .inr (.inr (.inr (.inr (fun j => if j < 4 then some (bd (8 + j)) else none)))))), (bd 4, .inl (T 0, 4, .inl (man M))), (bd 5, .inl (T 0, 4, .inl (mgl M))), (bd 6, .inl (T 0, 4, .inl (mhb M))), (bd 7, .inl (T 0, 4, .inl (mtk M))), (bd 8, .inl (T 0, 16, .inl (mth M 0))), (bd 9, .inl (T 0, 16, .inl (mth M 1))), (bd 10, .inl (T 0, 16, .inl (mth M 2))), (bd 11, .inl (T 0, 16, .inl (mth M 3))), (b0, .inl (T 0, 16, .inl (fun j => nI (List.getD (xl1 (xls s0 a) k 1 (xl1 (xls s0 a) k 0 (xlk (xls s0 a) a k))) j 0)))), (b1, .inl (T 0, 16, .inl (fun j => nI (List.getD (xls s0 a) j 0))))] _ := hP
                      have hD : va_D A [(bd 0, .inr (4, [.int (nI 0), .ref (bd 1), .int (nI (mnw M)), .ref (bd 2), .ref (bd 3), .ref (bd 4), .ref (bd 5), .int (nI (mnp M)), .ref (bd 6), .ref (bd 7), .int (mle M), .int (mwy M), .int (mfc M), .int (nI (mta M))])), (bd 1, .inl (T 0, 16, .inl (mpk M))), (bd 2, .inl (T 0, 4, .inl (msh M))), (bd 3, .inl (T 3, 4, .inr (.inr (.inr (.inr (fun j => if j < 4 then some (bd (8 + j)) else none)))))), (bd 4, .inl (T 0, 4, .inl (man M))), (bd 5, .inl (T 0, 4, .inl (mgl M))), (bd 6, .inl (T 0, 4, .inl (mhb M))), (bd 7, .inl (T 0, 4, .inl (mtk M))), (bd 8, .inl (T 0, 16, .inl (mth M 0))), (bd 9, .inl (T 0, 16, .inl (mth M 1))), (bd 10, .inl (T 0, 16, .inl (mth M 2))), (bd 11, .inl (T 0, 16, .inl (mth M 3))), (b0, .inl (T 0, 16, .inl (fun j => nI (List.getD (xl1 (xls s0 a) k 1 (xl1 (xls s0 a) k 0 (xlk (xls s0 a) a k))) j 0)))), (b1, .inl (T 0, 16, .inl (fun j => nI (List.getD (xls s0 a) j 0))))] := hD
                      refine lv_iinc (v := nI ((0 + 1) + 1)) (lv' := [(7, .int (nI ((0 + 1) + 1))), (9, .int (nI (2 * List.getD (xls s0 a) k 0 + 1))), (8, .int (nI (xpa (1 + 1) 0 k))), (6, .int (nI k)), (5, .ref b1), (4, .int (nI a)), (3, .ref b0), (0, .ref (bd 0)), (1, .int (nI c0_)), (2, .int (nI q))]) hx hb dX4_riffles_148 hl (k := 2) rfl (x_inc _) (by decide) rfl (fun ls hl => ?_)
                      refine lv_goto (tgt := 76) hx hb dX4_riffles_151 (by decide) ?_
                      refine lv_iload hx hb dX4_riffles_76 (lv_at hl 0 rfl) ?_
                      refine lv_iconst (v := nI 2) hx hb dX4_riffles_78 (by decide) ?_
                      refine lv_icmp_ge (tgt := 154) hx hb dX4_riffles_79 (by decide) (fun _ => ?_) (fun c_ => absurd (by decide) c_)
                      refine lv_iinc (v := nI (k + 1)) (lv' := [(6, .int (nI (k + 1))), (7, .int (nI ((0 + 1) + 1))), (9, .int (nI (2 * List.getD (xls s0 a) k 0 + 1))), (8, .int (nI (xpa (1 + 1) 0 k))), (5, .ref b1), (4, .int (nI a)), (3, .ref b0), (0, .ref (bd 0)), (1, .int (nI c0_)), (2, .int (nI q))]) hx hb dX4_riffles_154 hl (k := 3) rfl (x_inc _) (by decide) rfl (fun ls hl => ?_)
                      refine lv_goto (tgt := 66) hx hb dX4_riffles_157 (by decide) ?_
                      have ek : xlk (xls s0 a) a (k + 1) = (xl1 (xls s0 a) k 1 (xl1 (xls s0 a) k 0 (xlk (xls s0 a) a k))) := by show (if _ then _ else _) = _; rw [if_pos h1]
                      rw [← ek] at hP hD
                      exact ih2 (k + 1) (by omega) (by omega) _ _ hP hD hS ls (lv_sub hl [0, 4, 5, 6, 7, 8, 9] rfl)
                  · refine lv_if_eq (tgt := 142) hx hb dX4_riffles_130 (by decide) (fun c_ => absurd c_ (fun h => hB0 ((nI_eq (by omega) (by decide)).mp h))) (fun _ => ?_)
                    refine lv_iload hx hb dX4_riffles_133 (lv_at hl 0 rfl) ?_
                    refine lv_aload_n hx hb dX4_riffles_135 rfl (lv_at hl 6 rfl) ?_
                    refine lv_iload hx hb dX4_riffles_136 (lv_at hl 1 rfl) ?_
                    refine x_iald hx hb hK hP 12 0 (f := (fun j => nI (List.getD (xlk (xls s0 a) a k) j 0))) (n := 16) rfl rfl ht0 (by decide) dX4_riffles_138 ?_
                    refine x_topi (y := nI (List.getD (xlk (xls s0 a) a k) (xpa (1 + 0) 0 k) 0)) (rfl) ?_
                    by_cases hC0 : (2 * List.getD (xls s0 a) k 0 + 0) < List.getD (xlk (xls s0 a) a k) (xpa (1 + 0) 0 k) 0
                    · refine lv_icmp_ge (tgt := 148) hx hb dX4_riffles_139 (by decide) (fun c_ => absurd c_ (nI_ge hC0 (by omega))) (fun _ => ?_)
                      refine lv_aload_n hx hb dX4_riffles_142 rfl (lv_at hl 6 rfl) ?_
                      refine lv_iload hx hb dX4_riffles_143 (lv_at hl 1 rfl) ?_
                      refine lv_iload hx hb dX4_riffles_145 (lv_at hl 0 rfl) ?_
                      refine x_iast hx hb hK hP hD hS 12 0 (f := (fun j => nI (List.getD (xlk (xls s0 a) a k) j 0))) (n := 16) rfl rfl ht0 (by decide) dX4_riffles_147 (fun H locs hP hD hS => ?_)
                      have hP : va_P G vwCl ([(bd 0, .inr (4, [.int (nI 0), .ref (bd 1), .int (nI (mnw M)), .ref (bd 2), .ref (bd 3), .ref (bd 4), .ref (bd 5), .int (nI (mnp M)), .ref (bd 6), .ref (bd 7), .int (mle M), .int (mwy M), .int (mfc M), .int (nI (mta M))])), (bd 1, .inl (T 0, 16, .inl (mpk M))), (bd 2, .inl (T 0, 4, .inl (msh M))), (bd 3, .inl (T 3, 4, .inr (.inr (.inr (.inr (fun j => if j < 4 then some (bd (8 + j)) else none)))))), (bd 4, .inl (T 0, 4, .inl (man M))), (bd 5, .inl (T 0, 4, .inl (mgl M))), (bd 6, .inl (T 0, 4, .inl (mhb M))), (bd 7, .inl (T 0, 4, .inl (mtk M))), (bd 8, .inl (T 0, 16, .inl (mth M 0))), (bd 9, .inl (T 0, 16, .inl (mth M 1))), (bd 10, .inl (T 0, 16, .inl (mth M 2))), (bd 11, .inl (T 0, 16, .inl (mth M 3))), (b0, .inl (T 0, 16, .inl (upd (fun j => nI (List.getD (xlk (xls s0 a) a k) j 0)) (xpa (1 + 0) 0 k) (nI (2 * List.getD (xls s0 a) k 0 + 0))))), (b1, .inl (T 0, 16, .inl (fun j => nI (List.getD (xls s0 a) j 0))))]) H := hP
                      have hD : va_D A ([(bd 0, .inr (4, [.int (nI 0), .ref (bd 1), .int (nI (mnw M)), .ref (bd 2), .ref (bd 3), .ref (bd 4), .ref (bd 5), .int (nI (mnp M)), .ref (bd 6), .ref (bd 7), .int (mle M), .int (mwy M), .int (mfc M), .int (nI (mta M))])), (bd 1, .inl (T 0, 16, .inl (mpk M))), (bd 2, .inl (T 0, 4, .inl (msh M))), (bd 3, .inl (T 3, 4, .inr (.inr (.inr (.inr (fun j => if j < 4 then some (bd (8 + j)) else none)))))), (bd 4, .inl (T 0, 4, .inl (man M))), (bd 5, .inl (T 0, 4, .inl (mgl M))), (bd 6, .inl (T 0, 4, .inl (mhb M))), (bd 7, .inl (T 0, 4, .inl (mtk M))), (bd 8, .inl (T 0, 16, .inl (mth M 0))), (bd 9, .inl (T 0, 16, .inl (mth M 1))), (bd 10, .inl (T 0, 16, .inl (mth M 2))), (bd 11, .inl (T 0, 16, .inl (mth M 3))), (b0, .inl (T 0, 16, .inl (upd (fun j => nI (List.getD (xlk (xls s0 a) a k) j 0)) (xpa (1 + 0) 0 k) (nI (2 * List.getD (xls s0 a) k 0 + 0))))), (b1, .inl (T 0, 16, .inl (fun j => nI (List.getD (xls s0 a) j 0))))]) := hD
                      have el0 : (xl1 (xls s0 a) k 0 (xlk (xls s0 a) a k)) = (List.set (xlk (xls s0 a) a k) (xpa (1 + 0) 0 k) (2 * List.getD (xls s0 a) k 0 + 0)) := if_pos ⟨hA0, Or.inr hC0⟩
                      have eu0 := xgd_up (L := (xlk (xls s0 a) a k)) (i := (xpa (1 + 0) 0 k)) (by rw [hln]; exact ht0) (2 * List.getD (xls s0 a) k 0 + 0)
                      rw [eu0] at hP hD
                      rw [← el0] at hP hD
                      have hP : va_P G vwCl [(bd 0, .inr (4, [.int (nI 0), .ref (bd 1), .int (nI (mnw M)), .ref (bd 2), .ref (bd 3), .ref (bd 4), .ref (bd 5), .int (nI (mnp M)), .ref (bd 6), .ref (bd 7), .int (mle M), .int (mwy M), .int (mfc M), .int (nI (mta M))])), (bd 1, .inl (T 0, 16, .inl (mpk M))), (bd 2, .inl (T 0, 4, .inl (msh M))), (bd 3, .inl (T 3, 4, .inr (.inr (.inr (.inr (fun j => if j < 4 then some (bd (8 + j)) else none)))))), (bd 4, .inl (T 0, 4, .inl (man M))), (bd 5, .inl (T 0, 4, .inl (mgl M))), (bd 6, .inl (T 0, 4, .inl (mhb M))), (bd 7, .inl (T 0, 4, .inl (mtk M))), (bd 8, .inl (T 0, 16, .inl (mth M 0))), (bd 9, .inl (T 0, 16, .inl (mth M 1))), (bd 10, .inl (T 0, 16, .inl (mth M 2))), (bd 11, .inl (T 0, 16, .inl (mth M 3))), (b0, .inl (T 0, 16, .inl (fun j => nI (List.getD (xl1 (xls s0 a) k 0 (xlk (xls s0 a) a k)) j 0)))), (b1, .inl (T 0, 16, .inl (fun j => nI (List.getD (xls s0 a) j 0))))] _ := hP
                      have hD : va_D A [(bd 0, .inr (4, [.int (nI 0), .ref (bd 1), .int (nI (mnw M)), .ref (bd 2), .ref (bd 3), .ref (bd 4), .ref (bd 5), .int (nI (mnp M)), .ref (bd 6), .ref (bd 7), .int (mle M), .int (mwy M), .int (mfc M), .int (nI (mta M))])), (bd 1, .inl (T 0, 16, .inl (mpk M))), (bd 2, .inl (T 0, 4, .inl (msh M))), (bd 3, .inl (T 3, 4, .inr (.inr (.inr (.inr (fun j => if j < 4 then some (bd (8 + j)) else none)))))), (bd 4, .inl (T 0, 4, .inl (man M))), (bd 5, .inl (T 0, 4, .inl (mgl M))), (bd 6, .inl (T 0, 4, .inl (mhb M))), (bd 7, .inl (T 0, 4, .inl (mtk M))), (bd 8, .inl (T 0, 16, .inl (mth M 0))), (bd 9, .inl (T 0, 16, .inl (mth M 1))), (bd 10, .inl (T 0, 16, .inl (mth M 2))), (bd 11, .inl (T 0, 16, .inl (mth M 3))), (b0, .inl (T 0, 16, .inl (fun j => nI (List.getD (xl1 (xls s0 a) k 0 (xlk (xls s0 a) a k)) j 0)))), (b1, .inl (T 0, 16, .inl (fun j => nI (List.getD (xls s0 a) j 0))))] := hD
                      refine lv_iinc (v := nI (0 + 1)) (lv' := [(7, .int (nI (0 + 1))), (9, .int (nI (2 * List.getD (xls s0 a) k 0 + 0))), (8, .int (nI (xpa (1 + 0) 0 k))), (6, .int (nI k)), (5, .ref b1), (4, .int (nI a)), (3, .ref b0), (0, .ref (bd 0)), (1, .int (nI c0_)), (2, .int (nI q))]) hx hb dX4_riffles_148 hl (k := 2) rfl (x_inc _) (by decide) rfl (fun ls hl => ?_)
                      refine lv_goto (tgt := 76) hx hb dX4_riffles_151 (by decide) ?_
                      refine lv_iload hx hb dX4_riffles_76 (lv_at hl 0 rfl) ?_
                      refine lv_iconst (v := nI 2) hx hb dX4_riffles_78 (by decide) ?_
                      have hln1 : (xl1 (xls s0 a) k 0 (xlk (xls s0 a) a k)).length = 16 := (xl1_len _ _ _ _).trans hln
                      have hlb1 := xl1_lt (k := k) (Nat.zero_le 1) hb9 hlb
                      refine lv_icmp_ge (tgt := 154) hx hb dX4_riffles_79 (by decide) (fun c_ => absurd c_ (by decide)) (fun _ => ?_)
                      refine lv_aload hx hb dX4_riffles_82 (lv_at hl 4 rfl) ?_
                      refine lv_iload hx hb dX4_riffles_84 (lv_at hl 3 rfl) ?_
                      refine x_iald hx hb hK hP 13 0 (f := (fun j => nI (List.getD (xls s0 a) j 0))) (n := 16) rfl rfl hc (by decide) dX4_riffles_86 ?_
                      refine x_topi (y := nI (List.getD (xls s0 a) k 0)) (rfl) ?_
                      refine lv_iload hx hb dX4_riffles_87 (lv_at hl 5 rfl) ?_
                      refine lv_ishr hx hb dX4_riffles_89 ?_
                      refine x_topi (y := nI (List.getD (xls s0 a) k 0 / 2 ^ a)) (esh) ?_
                      refine lv_iconst (v := nI 1) hx hb dX4_riffles_90 (by decide) ?_
                      refine lv_icmp_ne (tgt := 154) hx hb dX4_riffles_91 (by decide) (fun c_ => absurd (congrArg nI h1) c_) (fun _ => ?_)
                      refine lv_iconst (v := nI 1) hx hb dX4_riffles_94 (by decide) ?_
                      refine lv_iload hx hb dX4_riffles_95 (lv_at hl 0 rfl) ?_
                      refine lv_iadd hx hb dX4_riffles_97 ?_
                      refine x_topi (y := nI (1 + 1)) (nI_add _ _) ?_
                      refine lv_iconst (v := nI 0) hx hb dX4_riffles_98 (by decide) ?_
                      refine lv_iload hx hb dX4_riffles_99 (lv_at hl 3 rfl) ?_
                      have ht1 : (xpa (1 + 1) 0 k) < 16 := (xway (k := 1 + 1) (n := 0) rfl hc).1
                      refine x_calli (va_runS (As := [.int (nI (1 + 1)), .int (nI 0), .int (nI k)]) (rest := []) ⟨hx, hb, hml, hown, hts⟩ (c_X4_to l G T _ (1 + 1) 0 k rfl hc) (va_cwS 3 hts gX4_riffles_X4_to rfl rfl rfl (by decide +kernel) ⟨Nat.le_of_ble_eq_true rfl, Nat.le_of_ble_eq_true rfl⟩) (x_preS (wc := []) hK hP hD hS hA hXB hZ [] rfl rfl _) rfl rfl hl.1 rfl (lv_room (Nat.le_of_ble_eq_true rfl)) dX4_riffles_101 ⟨show 1 + a + 1 + 0 ≤ 5 by omega, show 16 * (1 + a) + 16 + 0 ≤ 80 by omega⟩) hP hD hS hA [] rfl (fun _ _ _ => rfl) (fun t1 v1 H locs hwt1 hP hD hS => ?_)
                      have hP : va_P G vwCl ([(bd 0, .inr (4, [.int (nI 0), .ref (bd 1), .int (nI (mnw M)), .ref (bd 2), .ref (bd 3), .ref (bd 4), .ref (bd 5), .int (nI (mnp M)), .ref (bd 6), .ref (bd 7), .int (mle M), .int (mwy M), .int (mfc M), .int (nI (mta M))])), (bd 1, .inl (T 0, 16, .inl (mpk M))), (bd 2, .inl (T 0, 4, .inl (msh M))), (bd 3, .inl (T 3, 4, .inr (.inr (.inr (.inr (fun j => if j < 4 then some (bd (8 + j)) else none)))))), (bd 4, .inl (T 0, 4, .inl (man M))), (bd 5, .inl (T 0, 4, .inl (mgl M))), (bd 6, .inl (T 0, 4, .inl (mhb M))), (bd 7, .inl (T 0, 4, .inl (mtk M))), (bd 8, .inl (T 0, 16, .inl (mth M 0))), (bd 9, .inl (T 0, 16, .inl (mth M 1))), (bd 10, .inl (T 0, 16, .inl (mth M 2))), (bd 11, .inl (T 0, 16, .inl (mth M 3))), (b0, .inl (T 0, 16, .inl (fun j => nI (List.getD (xl1 (xls s0 a) k 0 (xlk (xls s0 a) a k)) j 0)))), (b1, .inl (T 0, 16, .inl (fun j => nI (List.getD (xls s0 a) j 0))))]) H := hP
                      have hD : va_D A ([(bd 0, .inr (4, [.int (nI 0), .ref (bd 1), .int (nI (mnw M)), .ref (bd 2), .ref (bd 3), .ref (bd 4), .ref (bd 5), .int (nI (mnp M)), .ref (bd 6), .ref (bd 7), .int (mle M), .int (mwy M), .int (mfc M), .int (nI (mta M))])), (bd 1, .inl (T 0, 16, .inl (mpk M))), (bd 2, .inl (T 0, 4, .inl (msh M))), (bd 3, .inl (T 3, 4, .inr (.inr (.inr (.inr (fun j => if j < 4 then some (bd (8 + j)) else none)))))), (bd 4, .inl (T 0, 4, .inl (man M))), (bd 5, .inl (T 0, 4, .inl (mgl M))), (bd 6, .inl (T 0, 4, .inl (mhb M))), (bd 7, .inl (T 0, 4, .inl (mtk M))), (bd 8, .inl (T 0, 16, .inl (mth M 0))), (bd 9, .inl (T 0, 16, .inl (mth M 1))), (bd 10, .inl (T 0, 16, .inl (mth M 2))), (bd 11, .inl (T 0, 16, .inl (mth M 3))), (b0, .inl (T 0, 16, .inl (fun j => nI (List.getD (xl1 (xls s0 a) k 0 (xlk (xls s0 a) a k)) j 0)))), (b1, .inl (T 0, 16, .inl (fun j => nI (List.getD (xls s0 a) j 0))))]) := hD
                      refine x_topi (y := nI (xpa (1 + 1) 0 k)) (hwt1) ?_
                      refine lv_istore (lv' := [(8, .int (nI (xpa (1 + 1) 0 k))), (7, .int (nI (0 + 1))), (9, .int (nI (2 * List.getD (xls s0 a) k 0 + 0))), (6, .int (nI k)), (5, .ref b1), (4, .int (nI a)), (3, .ref b0), (0, .ref (bd 0)), (1, .int (nI c0_)), (2, .int (nI q))]) hx hb dX4_riffles_104 hl (by decide) rfl (fun ls hl => ?_)
                      refine lv_iconst (v := nI 2) hx hb dX4_riffles_106 (by decide) ?_
                      refine lv_aload hx hb dX4_riffles_107 (lv_at hl 4 rfl) ?_
                      refine lv_iload hx hb dX4_riffles_109 (lv_at hl 3 rfl) ?_
                      refine x_iald hx hb hK hP 13 0 (f := (fun j => nI (List.getD (xls s0 a) j 0))) (n := 16) rfl rfl hc (by decide) dX4_riffles_111 ?_
                      refine x_topi (y := nI (List.getD (xls s0 a) k 0)) (rfl) ?_
                      refine lv_imul hx hb dX4_riffles_112 ?_
                      refine x_topi (y := nI (2 * List.getD (xls s0 a) k 0)) (pk_mul _ _) ?_
                      refine lv_iload hx hb dX4_riffles_113 (lv_at hl 1 rfl) ?_
                      refine lv_iadd hx hb dX4_riffles_115 ?_
                      refine x_topi (y := nI (2 * List.getD (xls s0 a) k 0 + 1)) (nI_add _ _) ?_
                      refine lv_istore (lv' := [(9, .int (nI (2 * List.getD (xls s0 a) k 0 + 1))), (8, .int (nI (xpa (1 + 1) 0 k))), (7, .int (nI (0 + 1))), (6, .int (nI k)), (5, .ref b1), (4, .int (nI a)), (3, .ref b0), (0, .ref (bd 0)), (1, .int (nI c0_)), (2, .int (nI q))]) hx hb dX4_riffles_116 hl (by decide) rfl (fun ls hl => ?_)
                      refine lv_aload hx hb dX4_riffles_118 (lv_at hl 4 rfl) ?_
                      refine lv_iload hx hb dX4_riffles_120 (lv_at hl 1 rfl) ?_
                      refine x_iald hx hb hK hP 13 0 (f := (fun j => nI (List.getD (xls s0 a) j 0))) (n := 16) rfl rfl ht1 (by decide) dX4_riffles_122 ?_
                      refine x_topi (y := nI (List.getD (xls s0 a) (xpa (1 + 1) 0 k) 0)) (rfl) ?_
                      have hbt1 := hb9 (xpa (1 + 1) 0 k)
                      have hlt1 := hlb1 (xpa (1 + 1) 0 k)
                      by_cases hA1 : List.getD (xls s0 a) (xpa (1 + 1) 0 k) 0 = 0
                      · refine lv_if_ne (tgt := 148) hx hb dX4_riffles_123 (by decide) (fun c_ => absurd (congrArg nI hA1) c_) (fun _ => ?_)
                        refine lv_aload_n hx hb dX4_riffles_126 rfl (lv_at hl 6 rfl) ?_
                        refine lv_iload hx hb dX4_riffles_127 (lv_at hl 1 rfl) ?_
                        refine x_iald hx hb hK hP 12 0 (f := (fun j => nI (List.getD (xl1 (xls s0 a) k 0 (xlk (xls s0 a) a k)) j 0))) (n := 16) rfl rfl ht1 (by decide) dX4_riffles_129 ?_
                        refine x_topi (y := nI (List.getD (xl1 (xls s0 a) k 0 (xlk (xls s0 a) a k)) (xpa (1 + 1) 0 k) 0)) (rfl) ?_
                        by_cases hB1 : List.getD (xl1 (xls s0 a) k 0 (xlk (xls s0 a) a k)) (xpa (1 + 1) 0 k) 0 = 0
                        · refine lv_if_eq (tgt := 142) hx hb dX4_riffles_130 (by decide) (fun _ => ?_) (fun c_ => absurd (congrArg nI hB1) c_)
                          refine lv_aload_n hx hb dX4_riffles_142 rfl (lv_at hl 6 rfl) ?_
                          refine lv_iload hx hb dX4_riffles_143 (lv_at hl 1 rfl) ?_
                          refine lv_iload hx hb dX4_riffles_145 (lv_at hl 0 rfl) ?_
                          refine x_iast hx hb hK hP hD hS 12 0 (f := (fun j => nI (List.getD (xl1 (xls s0 a) k 0 (xlk (xls s0 a) a k)) j 0))) (n := 16) rfl rfl ht1 (by decide) dX4_riffles_147 (fun H locs hP hD hS => ?_)
                          have hP : va_P G vwCl ([(bd 0, .inr (4, [.int (nI 0), .ref (bd 1), .int (nI (mnw M)), .ref (bd 2), .ref (bd 3), .ref (bd 4), .ref (bd 5), .int (nI (mnp M)), .ref (bd 6), .ref (bd 7), .int (mle M), .int (mwy M), .int (mfc M), .int (nI (mta M))])), (bd 1, .inl (T 0, 16, .inl (mpk M))), (bd 2, .inl (T 0, 4, .inl (msh M))), (bd 3, .inl (T 3, 4, .inr (.inr (.inr (.inr (fun j => if j < 4 then some (bd (8 + j)) else none)))))), (bd 4, .inl (T 0, 4, .inl (man M))), (bd 5, .inl (T 0, 4, .inl (mgl M))), (bd 6, .inl (T 0, 4, .inl (mhb M))), (bd 7, .inl (T 0, 4, .inl (mtk M))), (bd 8, .inl (T 0, 16, .inl (mth M 0))), (bd 9, .inl (T 0, 16, .inl (mth M 1))), (bd 10, .inl (T 0, 16, .inl (mth M 2))), (bd 11, .inl (T 0, 16, .inl (mth M 3))), (b0, .inl (T 0, 16, .inl (upd (fun j => nI (List.getD (xl1 (xls s0 a) k 0 (xlk (xls s0 a) a k)) j 0)) (xpa (1 + 1) 0 k) (nI (2 * List.getD (xls s0 a) k 0 + 1))))), (b1, .inl (T 0, 16, .inl (fun j => nI (List.getD (xls s0 a) j 0))))]) H := hP
                          have hD : va_D A ([(bd 0, .inr (4, [.int (nI 0), .ref (bd 1), .int (nI (mnw M)), .ref (bd 2), .ref (bd 3), .ref (bd 4), .ref (bd 5), .int (nI (mnp M)), .ref (bd 6), .ref (bd 7), .int (mle M), .int (mwy M), .int (mfc M), .int (nI (mta M))])), (bd 1, .inl (T 0, 16, .inl (mpk M))), (bd 2, .inl (T 0, 4, .inl (msh M))), (bd 3, .inl (T 3, 4, .inr (.inr (.inr (.inr (fun j => if j < 4 then some (bd (8 + j)) else none)))))), (bd 4, .inl (T 0, 4, .inl (man M))), (bd 5, .inl (T 0, 4, .inl (mgl M))), (bd 6, .inl (T 0, 4, .inl (mhb M))), (bd 7, .inl (T 0, 4, .inl (mtk M))), (bd 8, .inl (T 0, 16, .inl (mth M 0))), (bd 9, .inl (T 0, 16, .inl (mth M 1))), (bd 10, .inl (T 0, 16, .inl (mth M 2))), (bd 11, .inl (T 0, 16, .inl (mth M 3))), (b0, .inl (T 0, 16, .inl (upd (fun j => nI (List.getD (xl1 (xls s0 a) k 0 (xlk (xls s0 a) a k)) j 0)) (xpa (1 + 1) 0 k) (nI (2 * List.getD (xls s0 a) k 0 + 1))))), (b1, .inl (T 0, 16, .inl (fun j => nI (List.getD (xls s0 a) j 0))))]) := hD
                          have el1 : (xl1 (xls s0 a) k 1 (xl1 (xls s0 a) k 0 (xlk (xls s0 a) a k))) = (List.set (xl1 (xls s0 a) k 0 (xlk (xls s0 a) a k)) (xpa (1 + 1) 0 k) (2 * List.getD (xls s0 a) k 0 + 1)) := if_pos ⟨hA1, Or.inl hB1⟩
                          have eu1 := xgd_up (L := (xl1 (xls s0 a) k 0 (xlk (xls s0 a) a k))) (i := (xpa (1 + 1) 0 k)) (by rw [hln1]; exact ht1) (2 * List.getD (xls s0 a) k 0 + 1)
                          rw [eu1] at hP hD
                          rw [← el1] at hP hD
                          have hP : va_P G vwCl [(bd 0, .inr (4, [.int (nI 0), .ref (bd 1), .int (nI (mnw M)), .ref (bd 2), .ref (bd 3), .ref (bd 4), .ref (bd 5), .int (nI (mnp M)), .ref (bd 6), .ref (bd 7), .int (mle M), .int (mwy M), .int (mfc M), .int (nI (mta M))])), (bd 1, .inl (T 0, 16, .inl (mpk M))), (bd 2, .inl (T 0, 4, .inl (msh M))), (bd 3, .inl (T 3, 4, .inr (.inr (.inr (.inr (fun j => if j < 4 then some (bd (8 + j)) else none)))))), (bd 4, .inl (T 0, 4, .inl (man M))), (bd 5, .inl (T 0, 4, .inl (mgl M))), (bd 6, .inl (T 0, 4, .inl (mhb M))), (bd 7, .inl (T 0, 4, .inl (mtk M))), (bd 8, .inl (T 0, 16, .inl (mth M 0))), (bd 9, .inl (T 0, 16, .inl (mth M 1))), (bd 10, .inl (T 0, 16, .inl (mth M 2))), (bd 11, .inl (T 0, 16, .inl (mth M 3))), (b0, .inl (T 0, 16, .inl (fun j => nI (List.getD (xl1 (xls s0 a) k 1 (xl1 (xls s0 a) k 0 (xlk (xls s0 a) a k))) j 0)))), (b1, .inl (T 0, 16, .inl (fun j => nI (List.getD (xls s0 a) j 0))))] _ := hP
                          have hD : va_D A [(bd 0, .inr (4, [.int (nI 0), .ref (bd 1), .int (nI (mnw M)), .ref (bd 2), .ref (bd 3), .ref (bd 4), .ref (bd 5), .int (nI (mnp M)), .ref (bd 6), .ref (bd 7), .int (mle M), .int (mwy M), .int (mfc M), .int (nI (mta M))])), (bd 1, .inl (T 0, 16, .inl (mpk M))), (bd 2, .inl (T 0, 4, .inl (msh M))), (bd 3, .inl (T 3, 4, .inr (.inr (.inr (.inr (fun j => if j < 4 then some (bd (8 + j)) else none)))))), (bd 4, .inl (T 0, 4, .inl (man M))), (bd 5, .inl (T 0, 4, .inl (mgl M))), (bd 6, .inl (T 0, 4, .inl (mhb M))), (bd 7, .inl (T 0, 4, .inl (mtk M))), (bd 8, .inl (T 0, 16, .inl (mth M 0))), (bd 9, .inl (T 0, 16, .inl (mth M 1))), (bd 10, .inl (T 0, 16, .inl (mth M 2))), (bd 11, .inl (T 0, 16, .inl (mth M 3))), (b0, .inl (T 0, 16, .inl (fun j => nI (List.getD (xl1 (xls s0 a) k 1 (xl1 (xls s0 a) k 0 (xlk (xls s0 a) a k))) j 0)))), (b1, .inl (T 0, 16, .inl (fun j => nI (List.getD (xls s0 a) j 0))))] := hD
                          refine lv_iinc (v := nI ((0 + 1) + 1)) (lv' := [(7, .int (nI ((0 + 1) + 1))), (9, .int (nI (2 * List.getD (xls s0 a) k 0 + 1))), (8, .int (nI (xpa (1 + 1) 0 k))), (6, .int (nI k)), (5, .ref b1), (4, .int (nI a)), (3, .ref b0), (0, .ref (bd 0)), (1, .int (nI c0_)), (2, .int (nI q))]) hx hb dX4_riffles_148 hl (k := 2) rfl (x_inc _) (by decide) rfl (fun ls hl => ?_)
                          refine lv_goto (tgt := 76) hx hb dX4_riffles_151 (by decide) ?_
                          refine lv_iload hx hb dX4_riffles_76 (lv_at hl 0 rfl) ?_
                          refine lv_iconst (v := nI 2) hx hb dX4_riffles_78 (by decide) ?_
                          refine lv_icmp_ge (tgt := 154) hx hb dX4_riffles_79 (by decide) (fun _ => ?_) (fun c_ => absurd (by decide) c_)
                          refine lv_iinc (v := nI (k + 1)) (lv' := [(6, .int (nI (k + 1))), (7, .int (nI ((0 + 1) + 1))), (9, .int (nI (2 * List.getD (xls s0 a) k 0 + 1))), (8, .int (nI (xpa (1 + 1) 0 k))), (5, .ref b1), (4, .int (nI a)), (3, .ref b0), (0, .ref (bd 0)), (1, .int (nI c0_)), (2, .int (nI q))]) hx hb dX4_riffles_154 hl (k := 3) rfl (x_inc _) (by decide) rfl (fun ls hl => ?_)
                          refine lv_goto (tgt := 66) hx hb dX4_riffles_157 (by decide) ?_
                          have ek : xlk (xls s0 a) a (k + 1) = (xl1 (xls s0 a) k 1 (xl1 (xls s0 a) k 0 (xlk (xls s0 a) a k))) := by show (if _ then _ else _) = _; rw [if_pos h1]
                          rw [← ek] at hP hD
                          exact ih2 (k + 1) (by omega) (by omega) _ _ hP hD hS ls (lv_sub hl [0, 4, 5, 6, 7, 8, 9] rfl)
                        · refine lv_if_eq (tgt := 142) hx hb dX4_riffles_130 (by decide) (fun c_ => absurd c_ (fun h => hB1 ((nI_eq (by omega) (by decide)).mp h))) (fun _ => ?_)
                          refine lv_iload hx hb dX4_riffles_133 (lv_at hl 0 rfl) ?_
                          refine lv_aload_n hx hb dX4_riffles_135 rfl (lv_at hl 6 rfl) ?_
                          refine lv_iload hx hb dX4_riffles_136 (lv_at hl 1 rfl) ?_
                          refine x_iald hx hb hK hP 12 0 (f := (fun j => nI (List.getD (xl1 (xls s0 a) k 0 (xlk (xls s0 a) a k)) j 0))) (n := 16) rfl rfl ht1 (by decide) dX4_riffles_138 ?_
                          refine x_topi (y := nI (List.getD (xl1 (xls s0 a) k 0 (xlk (xls s0 a) a k)) (xpa (1 + 1) 0 k) 0)) (rfl) ?_
                          by_cases hC1 : (2 * List.getD (xls s0 a) k 0 + 1) < List.getD (xl1 (xls s0 a) k 0 (xlk (xls s0 a) a k)) (xpa (1 + 1) 0 k) 0
                          · refine lv_icmp_ge (tgt := 148) hx hb dX4_riffles_139 (by decide) (fun c_ => absurd c_ (nI_ge hC1 (by omega))) (fun _ => ?_)
                            refine lv_aload_n hx hb dX4_riffles_142 rfl (lv_at hl 6 rfl) ?_
                            refine lv_iload hx hb dX4_riffles_143 (lv_at hl 1 rfl) ?_
                            refine lv_iload hx hb dX4_riffles_145 (lv_at hl 0 rfl) ?_
                            refine x_iast hx hb hK hP hD hS 12 0 (f := (fun j => nI (List.getD (xl1 (xls s0 a) k 0 (xlk (xls s0 a) a k)) j 0))) (n := 16) rfl rfl ht1 (by decide) dX4_riffles_147 (fun H locs hP hD hS => ?_)
                            have hP : va_P G vwCl ([(bd 0, .inr (4, [.int (nI 0), .ref (bd 1), .int (nI (mnw M)), .ref (bd 2), .ref (bd 3), .ref (bd 4), .ref (bd 5), .int (nI (mnp M)), .ref (bd 6), .ref (bd 7), .int (mle M), .int (mwy M), .int (mfc M), .int (nI (mta M))])), (bd 1, .inl (T 0, 16, .inl (mpk M))), (bd 2, .inl (T 0, 4, .inl (msh M))), (bd 3, .inl (T 3, 4, .inr (.inr (.inr (.inr (fun j => if j < 4 then some (bd (8 + j)) else none)))))), (bd 4, .inl (T 0, 4, .inl (man M))), (bd 5, .inl (T 0, 4, .inl (mgl M))), (bd 6, .inl (T 0, 4, .inl (mhb M))), (bd 7, .inl (T 0, 4, .inl (mtk M))), (bd 8, .inl (T 0, 16, .inl (mth M 0))), (bd 9, .inl (T 0, 16, .inl (mth M 1))), (bd 10, .inl (T 0, 16, .inl (mth M 2))), (bd 11, .inl (T 0, 16, .inl (mth M 3))), (b0, .inl (T 0, 16, .inl (upd (fun j => nI (List.getD (xl1 (xls s0 a) k 0 (xlk (xls s0 a) a k)) j 0)) (xpa (1 + 1) 0 k) (nI (2 * List.getD (xls s0 a) k 0 + 1))))), (b1, .inl (T 0, 16, .inl (fun j => nI (List.getD (xls s0 a) j 0))))]) H := hP
                            have hD : va_D A ([(bd 0, .inr (4, [.int (nI 0), .ref (bd 1), .int (nI (mnw M)), .ref (bd 2), .ref (bd 3), .ref (bd 4), .ref (bd 5), .int (nI (mnp M)), .ref (bd 6), .ref (bd 7), .int (mle M), .int (mwy M), .int (mfc M), .int (nI (mta M))])), (bd 1, .inl (T 0, 16, .inl (mpk M))), (bd 2, .inl (T 0, 4, .inl (msh M))), (bd 3, .inl (T 3, 4, .inr (.inr (.inr (.inr (fun j => if j < 4 then some (bd (8 + j)) else none)))))), (bd 4, .inl (T 0, 4, .inl (man M))), (bd 5, .inl (T 0, 4, .inl (mgl M))), (bd 6, .inl (T 0, 4, .inl (mhb M))), (bd 7, .inl (T 0, 4, .inl (mtk M))), (bd 8, .inl (T 0, 16, .inl (mth M 0))), (bd 9, .inl (T 0, 16, .inl (mth M 1))), (bd 10, .inl (T 0, 16, .inl (mth M 2))), (bd 11, .inl (T 0, 16, .inl (mth M 3))), (b0, .inl (T 0, 16, .inl (upd (fun j => nI (List.getD (xl1 (xls s0 a) k 0 (xlk (xls s0 a) a k)) j 0)) (xpa (1 + 1) 0 k) (nI (2 * List.getD (xls s0 a) k 0 + 1))))), (b1, .inl (T 0, 16, .inl (fun j => nI (List.getD (xls s0 a) j 0))))]) := hD
                            have el1 : (xl1 (xls s0 a) k 1 (xl1 (xls s0 a) k 0 (xlk (xls s0 a) a k))) = (List.set (xl1 (xls s0 a) k 0 (xlk (xls s0 a) a k)) (xpa (1 + 1) 0 k) (2 * List.getD (xls s0 a) k 0 + 1)) := if_pos ⟨hA1, Or.inr hC1⟩
                            have eu1 := xgd_up (L := (xl1 (xls s0 a) k 0 (xlk (xls s0 a) a k))) (i := (xpa (1 + 1) 0 k)) (by rw [hln1]; exact ht1) (2 * List.getD (xls s0 a) k 0 + 1)
                            rw [eu1] at hP hD
                            rw [← el1] at hP hD
                            have hP : va_P G vwCl [(bd 0, .inr (4, [.int (nI 0), .ref (bd 1), .int (nI (mnw M)), .ref (bd 2), .ref (bd 3), .ref (bd 4), .ref (bd 5), .int (nI (mnp M)), .ref (bd 6), .ref (bd 7), .int (mle M), .int (mwy M), .int (mfc M), .int (nI (mta M))])), (bd 1, .inl (T 0, 16, .inl (mpk M))), (bd 2, .inl (T 0, 4, .inl (msh M))), (bd 3, .inl (T 3, 4, .inr (.inr (.inr (.inr (fun j => if j < 4 then some (bd (8 + j)) else none)))))), (bd 4, .inl (T 0, 4, .inl (man M))), (bd 5, .inl (T 0, 4, .inl (mgl M))), (bd 6, .inl (T 0, 4, .inl (mhb M))), (bd 7, .inl (T 0, 4, .inl (mtk M))), (bd 8, .inl (T 0, 16, .inl (mth M 0))), (bd 9, .inl (T 0, 16, .inl (mth M 1))), (bd 10, .inl (T 0, 16, .inl (mth M 2))), (bd 11, .inl (T 0, 16, .inl (mth M 3))), (b0, .inl (T 0, 16, .inl (fun j => nI (List.getD (xl1 (xls s0 a) k 1 (xl1 (xls s0 a) k 0 (xlk (xls s0 a) a k))) j 0)))), (b1, .inl (T 0, 16, .inl (fun j => nI (List.getD (xls s0 a) j 0))))] _ := hP
                            have hD : va_D A [(bd 0, .inr (4, [.int (nI 0), .ref (bd 1), .int (nI (mnw M)), .ref (bd 2), .ref (bd 3), .ref (bd 4), .ref (bd 5), .int (nI (mnp M)), .ref (bd 6), .ref (bd 7), .int (mle M), .int (mwy M), .int (mfc M), .int (nI (mta M))])), (bd 1, .inl (T 0, 16, .inl (mpk M))), (bd 2, .inl (T 0, 4, .inl (msh M))), (bd 3, .inl (T 3, 4, .inr (.inr (.inr (.inr (fun j => if j < 4 then some (bd (8 + j)) else none)))))), (bd 4, .inl (T 0, 4, .inl (man M))), (bd 5, .inl (T 0, 4, .inl (mgl M))), (bd 6, .inl (T 0, 4, .inl (mhb M))), (bd 7, .inl (T 0, 4, .inl (mtk M))), (bd 8, .inl (T 0, 16, .inl (mth M 0))), (bd 9, .inl (T 0, 16, .inl (mth M 1))), (bd 10, .inl (T 0, 16, .inl (mth M 2))), (bd 11, .inl (T 0, 16, .inl (mth M 3))), (b0, .inl (T 0, 16, .inl (fun j => nI (List.getD (xl1 (xls s0 a) k 1 (xl1 (xls s0 a) k 0 (xlk (xls s0 a) a k))) j 0)))), (b1, .inl (T 0, 16, .inl (fun j => nI (List.getD (xls s0 a) j 0))))] := hD
                            refine lv_iinc (v := nI ((0 + 1) + 1)) (lv' := [(7, .int (nI ((0 + 1) + 1))), (9, .int (nI (2 * List.getD (xls s0 a) k 0 + 1))), (8, .int (nI (xpa (1 + 1) 0 k))), (6, .int (nI k)), (5, .ref b1), (4, .int (nI a)), (3, .ref b0), (0, .ref (bd 0)), (1, .int (nI c0_)), (2, .int (nI q))]) hx hb dX4_riffles_148 hl (k := 2) rfl (x_inc _) (by decide) rfl (fun ls hl => ?_)
                            refine lv_goto (tgt := 76) hx hb dX4_riffles_151 (by decide) ?_
                            refine lv_iload hx hb dX4_riffles_76 (lv_at hl 0 rfl) ?_
                            refine lv_iconst (v := nI 2) hx hb dX4_riffles_78 (by decide) ?_
                            refine lv_icmp_ge (tgt := 154) hx hb dX4_riffles_79 (by decide) (fun _ => ?_) (fun c_ => absurd (by decide) c_)
                            refine lv_iinc (v := nI (k + 1)) (lv' := [(6, .int (nI (k + 1))), (7, .int (nI ((0 + 1) + 1))), (9, .int (nI (2 * List.getD (xls s0 a) k 0 + 1))), (8, .int (nI (xpa (1 + 1) 0 k))), (5, .ref b1), (4, .int (nI a)), (3, .ref b0), (0, .ref (bd 0)), (1, .int (nI c0_)), (2, .int (nI q))]) hx hb dX4_riffles_154 hl (k := 3) rfl (x_inc _) (by decide) rfl (fun ls hl => ?_)
                            refine lv_goto (tgt := 66) hx hb dX4_riffles_157 (by decide) ?_
                            have ek : xlk (xls s0 a) a (k + 1) = (xl1 (xls s0 a) k 1 (xl1 (xls s0 a) k 0 (xlk (xls s0 a) a k))) := by show (if _ then _ else _) = _; rw [if_pos h1]
                            rw [← ek] at hP hD
                            exact ih2 (k + 1) (by omega) (by omega) _ _ hP hD hS ls (lv_sub hl [0, 4, 5, 6, 7, 8, 9] rfl)
                          · refine lv_icmp_ge (tgt := 148) hx hb dX4_riffles_139 (by decide) (fun _ => ?_) (fun c_ => absurd (nI_le (by omega) (by omega)) c_)
                            have el1 : (xl1 (xls s0 a) k 1 (xl1 (xls s0 a) k 0 (xlk (xls s0 a) a k))) = (xl1 (xls s0 a) k 0 (xlk (xls s0 a) a k)) := if_neg (fun h => by rcases h.2 with g | g; exact hB1 g; exact hC1 g)
                            rw [← el1] at hP hD
                            have hP : va_P G vwCl [(bd 0, .inr (4, [.int (nI 0), .ref (bd 1), .int (nI (mnw M)), .ref (bd 2), .ref (bd 3), .ref (bd 4), .ref (bd 5), .int (nI (mnp M)), .ref (bd 6), .ref (bd 7), .int (mle M), .int (mwy M), .int (mfc M), .int (nI (mta M))])), (bd 1, .inl (T 0, 16, .inl (mpk M))), (bd 2, .inl (T 0, 4, .inl (msh M))), (bd 3, .inl (T 3, 4, .inr (.inr (.inr (.inr (fun j => if j < 4 then some (bd (8 + j)) else none)))))), (bd 4, .inl (T 0, 4, .inl (man M))), (bd 5, .inl (T 0, 4, .inl (mgl M))), (bd 6, .inl (T 0, 4, .inl (mhb M))), (bd 7, .inl (T 0, 4, .inl (mtk M))), (bd 8, .inl (T 0, 16, .inl (mth M 0))), (bd 9, .inl (T 0, 16, .inl (mth M 1))), (bd 10, .inl (T 0, 16, .inl (mth M 2))), (bd 11, .inl (T 0, 16, .inl (mth M 3))), (b0, .inl (T 0, 16, .inl (fun j => nI (List.getD (xl1 (xls s0 a) k 1 (xl1 (xls s0 a) k 0 (xlk (xls s0 a) a k))) j 0)))), (b1, .inl (T 0, 16, .inl (fun j => nI (List.getD (xls s0 a) j 0))))] _ := hP
                            have hD : va_D A [(bd 0, .inr (4, [.int (nI 0), .ref (bd 1), .int (nI (mnw M)), .ref (bd 2), .ref (bd 3), .ref (bd 4), .ref (bd 5), .int (nI (mnp M)), .ref (bd 6), .ref (bd 7), .int (mle M), .int (mwy M), .int (mfc M), .int (nI (mta M))])), (bd 1, .inl (T 0, 16, .inl (mpk M))), (bd 2, .inl (T 0, 4, .inl (msh M))), (bd 3, .inl (T 3, 4, .inr (.inr (.inr (.inr (fun j => if j < 4 then some (bd (8 + j)) else none)))))), (bd 4, .inl (T 0, 4, .inl (man M))), (bd 5, .inl (T 0, 4, .inl (mgl M))), (bd 6, .inl (T 0, 4, .inl (mhb M))), (bd 7, .inl (T 0, 4, .inl (mtk M))), (bd 8, .inl (T 0, 16, .inl (mth M 0))), (bd 9, .inl (T 0, 16, .inl (mth M 1))), (bd 10, .inl (T 0, 16, .inl (mth M 2))), (bd 11, .inl (T 0, 16, .inl (mth M 3))), (b0, .inl (T 0, 16, .inl (fun j => nI (List.getD (xl1 (xls s0 a) k 1 (xl1 (xls s0 a) k 0 (xlk (xls s0 a) a k))) j 0)))), (b1, .inl (T 0, 16, .inl (fun j => nI (List.getD (xls s0 a) j 0))))] := hD
                            refine lv_iinc (v := nI ((0 + 1) + 1)) (lv' := [(7, .int (nI ((0 + 1) + 1))), (9, .int (nI (2 * List.getD (xls s0 a) k 0 + 1))), (8, .int (nI (xpa (1 + 1) 0 k))), (6, .int (nI k)), (5, .ref b1), (4, .int (nI a)), (3, .ref b0), (0, .ref (bd 0)), (1, .int (nI c0_)), (2, .int (nI q))]) hx hb dX4_riffles_148 hl (k := 2) rfl (x_inc _) (by decide) rfl (fun ls hl => ?_)
                            refine lv_goto (tgt := 76) hx hb dX4_riffles_151 (by decide) ?_
                            refine lv_iload hx hb dX4_riffles_76 (lv_at hl 0 rfl) ?_
                            refine lv_iconst (v := nI 2) hx hb dX4_riffles_78 (by decide) ?_
                            refine lv_icmp_ge (tgt := 154) hx hb dX4_riffles_79 (by decide) (fun _ => ?_) (fun c_ => absurd (by decide) c_)
                            refine lv_iinc (v := nI (k + 1)) (lv' := [(6, .int (nI (k + 1))), (7, .int (nI ((0 + 1) + 1))), (9, .int (nI (2 * List.getD (xls s0 a) k 0 + 1))), (8, .int (nI (xpa (1 + 1) 0 k))), (5, .ref b1), (4, .int (nI a)), (3, .ref b0), (0, .ref (bd 0)), (1, .int (nI c0_)), (2, .int (nI q))]) hx hb dX4_riffles_154 hl (k := 3) rfl (x_inc _) (by decide) rfl (fun ls hl => ?_)
                            refine lv_goto (tgt := 66) hx hb dX4_riffles_157 (by decide) ?_
                            have ek : xlk (xls s0 a) a (k + 1) = (xl1 (xls s0 a) k 1 (xl1 (xls s0 a) k 0 (xlk (xls s0 a) a k))) := by show (if _ then _ else _) = _; rw [if_pos h1]
                            rw [← ek] at hP hD
                            exact ih2 (k + 1) (by omega) (by omega) _ _ hP hD hS ls (lv_sub hl [0, 4, 5, 6, 7, 8, 9] rfl)
                      · refine lv_if_ne (tgt := 148) hx hb dX4_riffles_123 (by decide) (fun _ => ?_) (fun c_ => absurd c_ (fun h => hA1 ((nI_eq (by omega) (by decide)).mp h)))
                        have el1 : (xl1 (xls s0 a) k 1 (xl1 (xls s0 a) k 0 (xlk (xls s0 a) a k))) = (xl1 (xls s0 a) k 0 (xlk (xls s0 a) a k)) := if_neg (fun h => hA1 h.1)
                        rw [← el1] at hP hD
                        have hP : va_P G vwCl [(bd 0, .inr (4, [.int (nI 0), .ref (bd 1), .int (nI (mnw M)), .ref (bd 2), .ref (bd 3), .ref (bd 4), .ref (bd 5), .int (nI (mnp M)), .ref (bd 6), .ref (bd 7), .int (mle M), .int (mwy M), .int (mfc M), .int (nI (mta M))])), (bd 1, .inl (T 0, 16, .inl (mpk M))), (bd 2, .inl (T 0, 4, .inl (msh M))), (bd 3, .inl (T 3, 4, .inr (.inr (.inr (.inr (fun j => if j < 4 then some (bd (8 + j)) else none)))))), (bd 4, .inl (T 0, 4, .inl (man M))), (bd 5, .inl (T 0, 4, .inl (mgl M))), (bd 6, .inl (T 0, 4, .inl (mhb M))), (bd 7, .inl (T 0, 4, .inl (mtk M))), (bd 8, .inl (T 0, 16, .inl (mth M 0))), (bd 9, .inl (T 0, 16, .inl (mth M 1))), (bd 10, .inl (T 0, 16, .inl (mth M 2))), (bd 11, .inl (T 0, 16, .inl (mth M 3))), (b0, .inl (T 0, 16, .inl (fun j => nI (List.getD (xl1 (xls s0 a) k 1 (xl1 (xls s0 a) k 0 (xlk (xls s0 a) a k))) j 0)))), (b1, .inl (T 0, 16, .inl (fun j => nI (List.getD (xls s0 a) j 0))))] _ := hP
                        have hD : va_D A [(bd 0, .inr (4, [.int (nI 0), .ref (bd 1), .int (nI (mnw M)), .ref (bd 2), .ref (bd 3), .ref (bd 4), .ref (bd 5), .int (nI (mnp M)), .ref (bd 6), .ref (bd 7), .int (mle M), .int (mwy M), .int (mfc M), .int (nI (mta M))])), (bd 1, .inl (T 0, 16, .inl (mpk M))), (bd 2, .inl (T 0, 4, .inl (msh M))), (bd 3, .inl (T 3, 4, .inr (.inr (.inr (.inr (fun j => if j < 4 then some (bd (8 + j)) else none)))))), (bd 4, .inl (T 0, 4, .inl (man M))), (bd 5, .inl (T 0, 4, .inl (mgl M))), (bd 6, .inl (T 0, 4, .inl (mhb M))), (bd 7, .inl (T 0, 4, .inl (mtk M))), (bd 8, .inl (T 0, 16, .inl (mth M 0))), (bd 9, .inl (T 0, 16, .inl (mth M 1))), (bd 10, .inl (T 0, 16, .inl (mth M 2))), (bd 11, .inl (T 0, 16, .inl (mth M 3))), (b0, .inl (T 0, 16, .inl (fun j => nI (List.getD (xl1 (xls s0 a) k 1 (xl1 (xls s0 a) k 0 (xlk (xls s0 a) a k))) j 0)))), (b1, .inl (T 0, 16, .inl (fun j => nI (List.getD (xls s0 a) j 0))))] := hD
                        refine lv_iinc (v := nI ((0 + 1) + 1)) (lv' := [(7, .int (nI ((0 + 1) + 1))), (9, .int (nI (2 * List.getD (xls s0 a) k 0 + 1))), (8, .int (nI (xpa (1 + 1) 0 k))), (6, .int (nI k)), (5, .ref b1), (4, .int (nI a)), (3, .ref b0), (0, .ref (bd 0)), (1, .int (nI c0_)), (2, .int (nI q))]) hx hb dX4_riffles_148 hl (k := 2) rfl (x_inc _) (by decide) rfl (fun ls hl => ?_)
                        refine lv_goto (tgt := 76) hx hb dX4_riffles_151 (by decide) ?_
                        refine lv_iload hx hb dX4_riffles_76 (lv_at hl 0 rfl) ?_
                        refine lv_iconst (v := nI 2) hx hb dX4_riffles_78 (by decide) ?_
                        refine lv_icmp_ge (tgt := 154) hx hb dX4_riffles_79 (by decide) (fun _ => ?_) (fun c_ => absurd (by decide) c_)
                        refine lv_iinc (v := nI (k + 1)) (lv' := [(6, .int (nI (k + 1))), (7, .int (nI ((0 + 1) + 1))), (9, .int (nI (2 * List.getD (xls s0 a) k 0 + 1))), (8, .int (nI (xpa (1 + 1) 0 k))), (5, .ref b1), (4, .int (nI a)), (3, .ref b0), (0, .ref (bd 0)), (1, .int (nI c0_)), (2, .int (nI q))]) hx hb dX4_riffles_154 hl (k := 3) rfl (x_inc _) (by decide) rfl (fun ls hl => ?_)
                        refine lv_goto (tgt := 66) hx hb dX4_riffles_157 (by decide) ?_
                        have ek : xlk (xls s0 a) a (k + 1) = (xl1 (xls s0 a) k 1 (xl1 (xls s0 a) k 0 (xlk (xls s0 a) a k))) := by show (if _ then _ else _) = _; rw [if_pos h1]
                        rw [← ek] at hP hD
                        exact ih2 (k + 1) (by omega) (by omega) _ _ hP hD hS ls (lv_sub hl [0, 4, 5, 6, 7, 8, 9] rfl)
                    · refine lv_icmp_ge (tgt := 148) hx hb dX4_riffles_139 (by decide) (fun _ => ?_) (fun c_ => absurd (nI_le (by omega) (by omega)) c_)
                      have el0 : (xl1 (xls s0 a) k 0 (xlk (xls s0 a) a k)) = (xlk (xls s0 a) a k) := if_neg (fun h => by rcases h.2 with g | g; exact hB0 g; exact hC0 g)
                      rw [← el0] at hP hD
                      have hP : va_P G vwCl [(bd 0, .inr (4, [.int (nI 0), .ref (bd 1), .int (nI (mnw M)), .ref (bd 2), .ref (bd 3), .ref (bd 4), .ref (bd 5), .int (nI (mnp M)), .ref (bd 6), .ref (bd 7), .int (mle M), .int (mwy M), .int (mfc M), .int (nI (mta M))])), (bd 1, .inl (T 0, 16, .inl (mpk M))), (bd 2, .inl (T 0, 4, .inl (msh M))), (bd 3, .inl (T 3, 4, .inr (.inr (.inr (.inr (fun j => if j < 4 then some (bd (8 + j)) else none)))))), (bd 4, .inl (T 0, 4, .inl (man M))), (bd 5, .inl (T 0, 4, .inl (mgl M))), (bd 6, .inl (T 0, 4, .inl (mhb M))), (bd 7, .inl (T 0, 4, .inl (mtk M))), (bd 8, .inl (T 0, 16, .inl (mth M 0))), (bd 9, .inl (T 0, 16, .inl (mth M 1))), (bd 10, .inl (T 0, 16, .inl (mth M 2))), (bd 11, .inl (T 0, 16, .inl (mth M 3))), (b0, .inl (T 0, 16, .inl (fun j => nI (List.getD (xl1 (xls s0 a) k 0 (xlk (xls s0 a) a k)) j 0)))), (b1, .inl (T 0, 16, .inl (fun j => nI (List.getD (xls s0 a) j 0))))] _ := hP
                      have hD : va_D A [(bd 0, .inr (4, [.int (nI 0), .ref (bd 1), .int (nI (mnw M)), .ref (bd 2), .ref (bd 3), .ref (bd 4), .ref (bd 5), .int (nI (mnp M)), .ref (bd 6), .ref (bd 7), .int (mle M), .int (mwy M), .int (mfc M), .int (nI (mta M))])), (bd 1, .inl (T 0, 16, .inl (mpk M))), (bd 2, .inl (T 0, 4, .inl (msh M))), (bd 3, .inl (T 3, 4, .inr (.inr (.inr (.inr (fun j => if j < 4 then some (bd (8 + j)) else none)))))), (bd 4, .inl (T 0, 4, .inl (man M))), (bd 5, .inl (T 0, 4, .inl (mgl M))), (bd 6, .inl (T 0, 4, .inl (mhb M))), (bd 7, .inl (T 0, 4, .inl (mtk M))), (bd 8, .inl (T 0, 16, .inl (mth M 0))), (bd 9, .inl (T 0, 16, .inl (mth M 1))), (bd 10, .inl (T 0, 16, .inl (mth M 2))), (bd 11, .inl (T 0, 16, .inl (mth M 3))), (b0, .inl (T 0, 16, .inl (fun j => nI (List.getD (xl1 (xls s0 a) k 0 (xlk (xls s0 a) a k)) j 0)))), (b1, .inl (T 0, 16, .inl (fun j => nI (List.getD (xls s0 a) j 0))))] := hD
                      refine lv_iinc (v := nI (0 + 1)) (lv' := [(7, .int (nI (0 + 1))), (9, .int (nI (2 * List.getD (xls s0 a) k 0 + 0))), (8, .int (nI (xpa (1 + 0) 0 k))), (6, .int (nI k)), (5, .ref b1), (4, .int (nI a)), (3, .ref b0), (0, .ref (bd 0)), (1, .int (nI c0_)), (2, .int (nI q))]) hx hb dX4_riffles_148 hl (k := 2) rfl (x_inc _) (by decide) rfl (fun ls hl => ?_)
                      refine lv_goto (tgt := 76) hx hb dX4_riffles_151 (by decide) ?_
                      refine lv_iload hx hb dX4_riffles_76 (lv_at hl 0 rfl) ?_
                      refine lv_iconst (v := nI 2) hx hb dX4_riffles_78 (by decide) ?_
                      have hln1 : (xl1 (xls s0 a) k 0 (xlk (xls s0 a) a k)).length = 16 := (xl1_len _ _ _ _).trans hln
                      have hlb1 := xl1_lt (k := k) (Nat.zero_le 1) hb9 hlb
                      refine lv_icmp_ge (tgt := 154) hx hb dX4_riffles_79 (by decide) (fun c_ => absurd c_ (by decide)) (fun _ => ?_)
                      refine lv_aload hx hb dX4_riffles_82 (lv_at hl 4 rfl) ?_
                      refine lv_iload hx hb dX4_riffles_84 (lv_at hl 3 rfl) ?_
                      refine x_iald hx hb hK hP 13 0 (f := (fun j => nI (List.getD (xls s0 a) j 0))) (n := 16) rfl rfl hc (by decide) dX4_riffles_86 ?_
                      refine x_topi (y := nI (List.getD (xls s0 a) k 0)) (rfl) ?_
                      refine lv_iload hx hb dX4_riffles_87 (lv_at hl 5 rfl) ?_
                      refine lv_ishr hx hb dX4_riffles_89 ?_
                      refine x_topi (y := nI (List.getD (xls s0 a) k 0 / 2 ^ a)) (esh) ?_
                      refine lv_iconst (v := nI 1) hx hb dX4_riffles_90 (by decide) ?_
                      refine lv_icmp_ne (tgt := 154) hx hb dX4_riffles_91 (by decide) (fun c_ => absurd (congrArg nI h1) c_) (fun _ => ?_)
                      refine lv_iconst (v := nI 1) hx hb dX4_riffles_94 (by decide) ?_
                      refine lv_iload hx hb dX4_riffles_95 (lv_at hl 0 rfl) ?_
                      refine lv_iadd hx hb dX4_riffles_97 ?_
                      refine x_topi (y := nI (1 + 1)) (nI_add _ _) ?_
                      refine lv_iconst (v := nI 0) hx hb dX4_riffles_98 (by decide) ?_
                      refine lv_iload hx hb dX4_riffles_99 (lv_at hl 3 rfl) ?_
                      have ht1 : (xpa (1 + 1) 0 k) < 16 := (xway (k := 1 + 1) (n := 0) rfl hc).1
                      refine x_calli (va_runS (As := [.int (nI (1 + 1)), .int (nI 0), .int (nI k)]) (rest := []) ⟨hx, hb, hml, hown, hts⟩ (c_X4_to l G T _ (1 + 1) 0 k rfl hc) (va_cwS 3 hts gX4_riffles_X4_to rfl rfl rfl (by decide +kernel) ⟨Nat.le_of_ble_eq_true rfl, Nat.le_of_ble_eq_true rfl⟩) (x_preS (wc := []) hK hP hD hS hA hXB hZ [] rfl rfl _) rfl rfl hl.1 rfl (lv_room (Nat.le_of_ble_eq_true rfl)) dX4_riffles_101 ⟨show 1 + a + 1 + 0 ≤ 5 by omega, show 16 * (1 + a) + 16 + 0 ≤ 80 by omega⟩) hP hD hS hA [] rfl (fun _ _ _ => rfl) (fun t1 v1 H locs hwt1 hP hD hS => ?_)
                      have hP : va_P G vwCl ([(bd 0, .inr (4, [.int (nI 0), .ref (bd 1), .int (nI (mnw M)), .ref (bd 2), .ref (bd 3), .ref (bd 4), .ref (bd 5), .int (nI (mnp M)), .ref (bd 6), .ref (bd 7), .int (mle M), .int (mwy M), .int (mfc M), .int (nI (mta M))])), (bd 1, .inl (T 0, 16, .inl (mpk M))), (bd 2, .inl (T 0, 4, .inl (msh M))), (bd 3, .inl (T 3, 4, .inr (.inr (.inr (.inr (fun j => if j < 4 then some (bd (8 + j)) else none)))))), (bd 4, .inl (T 0, 4, .inl (man M))), (bd 5, .inl (T 0, 4, .inl (mgl M))), (bd 6, .inl (T 0, 4, .inl (mhb M))), (bd 7, .inl (T 0, 4, .inl (mtk M))), (bd 8, .inl (T 0, 16, .inl (mth M 0))), (bd 9, .inl (T 0, 16, .inl (mth M 1))), (bd 10, .inl (T 0, 16, .inl (mth M 2))), (bd 11, .inl (T 0, 16, .inl (mth M 3))), (b0, .inl (T 0, 16, .inl (fun j => nI (List.getD (xl1 (xls s0 a) k 0 (xlk (xls s0 a) a k)) j 0)))), (b1, .inl (T 0, 16, .inl (fun j => nI (List.getD (xls s0 a) j 0))))]) H := hP
                      have hD : va_D A ([(bd 0, .inr (4, [.int (nI 0), .ref (bd 1), .int (nI (mnw M)), .ref (bd 2), .ref (bd 3), .ref (bd 4), .ref (bd 5), .int (nI (mnp M)), .ref (bd 6), .ref (bd 7), .int (mle M), .int (mwy M), .int (mfc M), .int (nI (mta M))])), (bd 1, .inl (T 0, 16, .inl (mpk M))), (bd 2, .inl (T 0, 4, .inl (msh M))), (bd 3, .inl (T 3, 4, .inr (.inr (.inr (.inr (fun j => if j < 4 then some (bd (8 + j)) else none)))))), (bd 4, .inl (T 0, 4, .inl (man M))), (bd 5, .inl (T 0, 4, .inl (mgl M))), (bd 6, .inl (T 0, 4, .inl (mhb M))), (bd 7, .inl (T 0, 4, .inl (mtk M))), (bd 8, .inl (T 0, 16, .inl (mth M 0))), (bd 9, .inl (T 0, 16, .inl (mth M 1))), (bd 10, .inl (T 0, 16, .inl (mth M 2))), (bd 11, .inl (T 0, 16, .inl (mth M 3))), (b0, .inl (T 0, 16, .inl (fun j => nI (List.getD (xl1 (xls s0 a) k 0 (xlk (xls s0 a) a k)) j 0)))), (b1, .inl (T 0, 16, .inl (fun j => nI (List.getD (xls s0 a) j 0))))]) := hD
                      refine x_topi (y := nI (xpa (1 + 1) 0 k)) (hwt1) ?_
                      refine lv_istore (lv' := [(8, .int (nI (xpa (1 + 1) 0 k))), (7, .int (nI (0 + 1))), (9, .int (nI (2 * List.getD (xls s0 a) k 0 + 0))), (6, .int (nI k)), (5, .ref b1), (4, .int (nI a)), (3, .ref b0), (0, .ref (bd 0)), (1, .int (nI c0_)), (2, .int (nI q))]) hx hb dX4_riffles_104 hl (by decide) rfl (fun ls hl => ?_)
                      refine lv_iconst (v := nI 2) hx hb dX4_riffles_106 (by decide) ?_
                      refine lv_aload hx hb dX4_riffles_107 (lv_at hl 4 rfl) ?_
                      refine lv_iload hx hb dX4_riffles_109 (lv_at hl 3 rfl) ?_
                      refine x_iald hx hb hK hP 13 0 (f := (fun j => nI (List.getD (xls s0 a) j 0))) (n := 16) rfl rfl hc (by decide) dX4_riffles_111 ?_
                      refine x_topi (y := nI (List.getD (xls s0 a) k 0)) (rfl) ?_
                      refine lv_imul hx hb dX4_riffles_112 ?_
                      refine x_topi (y := nI (2 * List.getD (xls s0 a) k 0)) (pk_mul _ _) ?_
                      refine lv_iload hx hb dX4_riffles_113 (lv_at hl 1 rfl) ?_
                      refine lv_iadd hx hb dX4_riffles_115 ?_
                      refine x_topi (y := nI (2 * List.getD (xls s0 a) k 0 + 1)) (nI_add _ _) ?_
                      refine lv_istore (lv' := [(9, .int (nI (2 * List.getD (xls s0 a) k 0 + 1))), (8, .int (nI (xpa (1 + 1) 0 k))), (7, .int (nI (0 + 1))), (6, .int (nI k)), (5, .ref b1), (4, .int (nI a)), (3, .ref b0), (0, .ref (bd 0)), (1, .int (nI c0_)), (2, .int (nI q))]) hx hb dX4_riffles_116 hl (by decide) rfl (fun ls hl => ?_)
                      refine lv_aload hx hb dX4_riffles_118 (lv_at hl 4 rfl) ?_
                      refine lv_iload hx hb dX4_riffles_120 (lv_at hl 1 rfl) ?_
                      refine x_iald hx hb hK hP 13 0 (f := (fun j => nI (List.getD (xls s0 a) j 0))) (n := 16) rfl rfl ht1 (by decide) dX4_riffles_122 ?_
                      refine x_topi (y := nI (List.getD (xls s0 a) (xpa (1 + 1) 0 k) 0)) (rfl) ?_
                      have hbt1 := hb9 (xpa (1 + 1) 0 k)
                      have hlt1 := hlb1 (xpa (1 + 1) 0 k)
                      by_cases hA1 : List.getD (xls s0 a) (xpa (1 + 1) 0 k) 0 = 0
                      · refine lv_if_ne (tgt := 148) hx hb dX4_riffles_123 (by decide) (fun c_ => absurd (congrArg nI hA1) c_) (fun _ => ?_)
                        refine lv_aload_n hx hb dX4_riffles_126 rfl (lv_at hl 6 rfl) ?_
                        refine lv_iload hx hb dX4_riffles_127 (lv_at hl 1 rfl) ?_
                        refine x_iald hx hb hK hP 12 0 (f := (fun j => nI (List.getD (xl1 (xls s0 a) k 0 (xlk (xls s0 a) a k)) j 0))) (n := 16) rfl rfl ht1 (by decide) dX4_riffles_129 ?_
                        refine x_topi (y := nI (List.getD (xl1 (xls s0 a) k 0 (xlk (xls s0 a) a k)) (xpa (1 + 1) 0 k) 0)) (rfl) ?_
                        by_cases hB1 : List.getD (xl1 (xls s0 a) k 0 (xlk (xls s0 a) a k)) (xpa (1 + 1) 0 k) 0 = 0
                        · refine lv_if_eq (tgt := 142) hx hb dX4_riffles_130 (by decide) (fun _ => ?_) (fun c_ => absurd (congrArg nI hB1) c_)
                          refine lv_aload_n hx hb dX4_riffles_142 rfl (lv_at hl 6 rfl) ?_
                          refine lv_iload hx hb dX4_riffles_143 (lv_at hl 1 rfl) ?_
                          refine lv_iload hx hb dX4_riffles_145 (lv_at hl 0 rfl) ?_
                          refine x_iast hx hb hK hP hD hS 12 0 (f := (fun j => nI (List.getD (xl1 (xls s0 a) k 0 (xlk (xls s0 a) a k)) j 0))) (n := 16) rfl rfl ht1 (by decide) dX4_riffles_147 (fun H locs hP hD hS => ?_)
                          have hP : va_P G vwCl ([(bd 0, .inr (4, [.int (nI 0), .ref (bd 1), .int (nI (mnw M)), .ref (bd 2), .ref (bd 3), .ref (bd 4), .ref (bd 5), .int (nI (mnp M)), .ref (bd 6), .ref (bd 7), .int (mle M), .int (mwy M), .int (mfc M), .int (nI (mta M))])), (bd 1, .inl (T 0, 16, .inl (mpk M))), (bd 2, .inl (T 0, 4, .inl (msh M))), (bd 3, .inl (T 3, 4, .inr (.inr (.inr (.inr (fun j => if j < 4 then some (bd (8 + j)) else none)))))), (bd 4, .inl (T 0, 4, .inl (man M))), (bd 5, .inl (T 0, 4, .inl (mgl M))), (bd 6, .inl (T 0, 4, .inl (mhb M))), (bd 7, .inl (T 0, 4, .inl (mtk M))), (bd 8, .inl (T 0, 16, .inl (mth M 0))), (bd 9, .inl (T 0, 16, .inl (mth M 1))), (bd 10, .inl (T 0, 16, .inl (mth M 2))), (bd 11, .inl (T 0, 16, .inl (mth M 3))), (b0, .inl (T 0, 16, .inl (upd (fun j => nI (List.getD (xl1 (xls s0 a) k 0 (xlk (xls s0 a) a k)) j 0)) (xpa (1 + 1) 0 k) (nI (2 * List.getD (xls s0 a) k 0 + 1))))), (b1, .inl (T 0, 16, .inl (fun j => nI (List.getD (xls s0 a) j 0))))]) H := hP
                          have hD : va_D A ([(bd 0, .inr (4, [.int (nI 0), .ref (bd 1), .int (nI (mnw M)), .ref (bd 2), .ref (bd 3), .ref (bd 4), .ref (bd 5), .int (nI (mnp M)), .ref (bd 6), .ref (bd 7), .int (mle M), .int (mwy M), .int (mfc M), .int (nI (mta M))])), (bd 1, .inl (T 0, 16, .inl (mpk M))), (bd 2, .inl (T 0, 4, .inl (msh M))), (bd 3, .inl (T 3, 4, .inr (.inr (.inr (.inr (fun j => if j < 4 then some (bd (8 + j)) else none)))))), (bd 4, .inl (T 0, 4, .inl (man M))), (bd 5, .inl (T 0, 4, .inl (mgl M))), (bd 6, .inl (T 0, 4, .inl (mhb M))), (bd 7, .inl (T 0, 4, .inl (mtk M))), (bd 8, .inl (T 0, 16, .inl (mth M 0))), (bd 9, .inl (T 0, 16, .inl (mth M 1))), (bd 10, .inl (T 0, 16, .inl (mth M 2))), (bd 11, .inl (T 0, 16, .inl (mth M 3))), (b0, .inl (T 0, 16, .inl (upd (fun j => nI (List.getD (xl1 (xls s0 a) k 0 (xlk (xls s0 a) a k)) j 0)) (xpa (1 + 1) 0 k) (nI (2 * List.getD (xls s0 a) k 0 + 1))))), (b1, .inl (T 0, 16, .inl (fun j => nI (List.getD (xls s0 a) j 0))))]) := hD
                          have el1 : (xl1 (xls s0 a) k 1 (xl1 (xls s0 a) k 0 (xlk (xls s0 a) a k))) = (List.set (xl1 (xls s0 a) k 0 (xlk (xls s0 a) a k)) (xpa (1 + 1) 0 k) (2 * List.getD (xls s0 a) k 0 + 1)) := if_pos ⟨hA1, Or.inl hB1⟩
                          have eu1 := xgd_up (L := (xl1 (xls s0 a) k 0 (xlk (xls s0 a) a k))) (i := (xpa (1 + 1) 0 k)) (by rw [hln1]; exact ht1) (2 * List.getD (xls s0 a) k 0 + 1)
                          rw [eu1] at hP hD
                          rw [← el1] at hP hD
                          have hP : va_P G vwCl [(bd 0, .inr (4, [.int (nI 0), .ref (bd 1), .int (nI (mnw M)), .ref (bd 2), .ref (bd 3), .ref (bd 4), .ref (bd 5), .int (nI (mnp M)), .ref (bd 6), .ref (bd 7), .int (mle M), .int (mwy M), .int (mfc M), .int (nI (mta M))])), (bd 1, .inl (T 0, 16, .inl (mpk M))), (bd 2, .inl (T 0, 4, .inl (msh M))), (bd 3, .inl (T 3, 4, .inr (.inr (.inr (.inr (fun j => if j < 4 then some (bd (8 + j)) else none)))))), (bd 4, .inl (T 0, 4, .inl (man M))), (bd 5, .inl (T 0, 4, .inl (mgl M))), (bd 6, .inl (T 0, 4, .inl (mhb M))), (bd 7, .inl (T 0, 4, .inl (mtk M))), (bd 8, .inl (T 0, 16, .inl (mth M 0))), (bd 9, .inl (T 0, 16, .inl (mth M 1))), (bd 10, .inl (T 0, 16, .inl (mth M 2))), (bd 11, .inl (T 0, 16, .inl (mth M 3))), (b0, .inl (T 0, 16, .inl (fun j => nI (List.getD (xl1 (xls s0 a) k 1 (xl1 (xls s0 a) k 0 (xlk (xls s0 a) a k))) j 0)))), (b1, .inl (T 0, 16, .inl (fun j => nI (List.getD (xls s0 a) j 0))))] _ := hP
                          have hD : va_D A [(bd 0, .inr (4, [.int (nI 0), .ref (bd 1), .int (nI (mnw M)), .ref (bd 2), .ref (bd 3), .ref (bd 4), .ref (bd 5), .int (nI (mnp M)), .ref (bd 6), .ref (bd 7), .int (mle M), .int (mwy M), .int (mfc M), .int (nI (mta M))])), (bd 1, .inl (T 0, 16, .inl (mpk M))), (bd 2, .inl (T 0, 4, .inl (msh M))), (bd 3, .inl (T 3, 4, .inr (.inr (.inr (.inr (fun j => if j < 4 then some (bd (8 + j)) else none)))))), (bd 4, .inl (T 0, 4, .inl (man M))), (bd 5, .inl (T 0, 4, .inl (mgl M))), (bd 6, .inl (T 0, 4, .inl (mhb M))), (bd 7, .inl (T 0, 4, .inl (mtk M))), (bd 8, .inl (T 0, 16, .inl (mth M 0))), (bd 9, .inl (T 0, 16, .inl (mth M 1))), (bd 10, .inl (T 0, 16, .inl (mth M 2))), (bd 11, .inl (T 0, 16, .inl (mth M 3))), (b0, .inl (T 0, 16, .inl (fun j => nI (List.getD (xl1 (xls s0 a) k 1 (xl1 (xls s0 a) k 0 (xlk (xls s0 a) a k))) j 0)))), (b1, .inl (T 0, 16, .inl (fun j => nI (List.getD (xls s0 a) j 0))))] := hD
                          refine lv_iinc (v := nI ((0 + 1) + 1)) (lv' := [(7, .int (nI ((0 + 1) + 1))), (9, .int (nI (2 * List.getD (xls s0 a) k 0 + 1))), (8, .int (nI (xpa (1 + 1) 0 k))), (6, .int (nI k)), (5, .ref b1), (4, .int (nI a)), (3, .ref b0), (0, .ref (bd 0)), (1, .int (nI c0_)), (2, .int (nI q))]) hx hb dX4_riffles_148 hl (k := 2) rfl (x_inc _) (by decide) rfl (fun ls hl => ?_)
                          refine lv_goto (tgt := 76) hx hb dX4_riffles_151 (by decide) ?_
                          refine lv_iload hx hb dX4_riffles_76 (lv_at hl 0 rfl) ?_
                          refine lv_iconst (v := nI 2) hx hb dX4_riffles_78 (by decide) ?_
                          refine lv_icmp_ge (tgt := 154) hx hb dX4_riffles_79 (by decide) (fun _ => ?_) (fun c_ => absurd (by decide) c_)
                          refine lv_iinc (v := nI (k + 1)) (lv' := [(6, .int (nI (k + 1))), (7, .int (nI ((0 + 1) + 1))), (9, .int (nI (2 * List.getD (xls s0 a) k 0 + 1))), (8, .int (nI (xpa (1 + 1) 0 k))), (5, .ref b1), (4, .int (nI a)), (3, .ref b0), (0, .ref (bd 0)), (1, .int (nI c0_)), (2, .int (nI q))]) hx hb dX4_riffles_154 hl (k := 3) rfl (x_inc _) (by decide) rfl (fun ls hl => ?_)
                          refine lv_goto (tgt := 66) hx hb dX4_riffles_157 (by decide) ?_
                          have ek : xlk (xls s0 a) a (k + 1) = (xl1 (xls s0 a) k 1 (xl1 (xls s0 a) k 0 (xlk (xls s0 a) a k))) := by show (if _ then _ else _) = _; rw [if_pos h1]
                          rw [← ek] at hP hD
                          exact ih2 (k + 1) (by omega) (by omega) _ _ hP hD hS ls (lv_sub hl [0, 4, 5, 6, 7, 8, 9] rfl)
                        · refine lv_if_eq (tgt := 142) hx hb dX4_riffles_130 (by decide) (fun c_ => absurd c_ (fun h => hB1 ((nI_eq (by omega) (by decide)).mp h))) (fun _ => ?_)
                          refine lv_iload hx hb dX4_riffles_133 (lv_at hl 0 rfl) ?_
                          refine lv_aload_n hx hb dX4_riffles_135 rfl (lv_at hl 6 rfl) ?_
                          refine lv_iload hx hb dX4_riffles_136 (lv_at hl 1 rfl) ?_
                          refine x_iald hx hb hK hP 12 0 (f := (fun j => nI (List.getD (xl1 (xls s0 a) k 0 (xlk (xls s0 a) a k)) j 0))) (n := 16) rfl rfl ht1 (by decide) dX4_riffles_138 ?_
                          refine x_topi (y := nI (List.getD (xl1 (xls s0 a) k 0 (xlk (xls s0 a) a k)) (xpa (1 + 1) 0 k) 0)) (rfl) ?_
                          by_cases hC1 : (2 * List.getD (xls s0 a) k 0 + 1) < List.getD (xl1 (xls s0 a) k 0 (xlk (xls s0 a) a k)) (xpa (1 + 1) 0 k) 0
                          · refine lv_icmp_ge (tgt := 148) hx hb dX4_riffles_139 (by decide) (fun c_ => absurd c_ (nI_ge hC1 (by omega))) (fun _ => ?_)
                            refine lv_aload_n hx hb dX4_riffles_142 rfl (lv_at hl 6 rfl) ?_
                            refine lv_iload hx hb dX4_riffles_143 (lv_at hl 1 rfl) ?_
                            refine lv_iload hx hb dX4_riffles_145 (lv_at hl 0 rfl) ?_
                            refine x_iast hx hb hK hP hD hS 12 0 (f := (fun j => nI (List.getD (xl1 (xls s0 a) k 0 (xlk (xls s0 a) a k)) j 0))) (n := 16) rfl rfl ht1 (by decide) dX4_riffles_147 (fun H locs hP hD hS => ?_)
                            have hP : va_P G vwCl ([(bd 0, .inr (4, [.int (nI 0), .ref (bd 1), .int (nI (mnw M)), .ref (bd 2), .ref (bd 3), .ref (bd 4), .ref (bd 5), .int (nI (mnp M)), .ref (bd 6), .ref (bd 7), .int (mle M), .int (mwy M), .int (mfc M), .int (nI (mta M))])), (bd 1, .inl (T 0, 16, .inl (mpk M))), (bd 2, .inl (T 0, 4, .inl (msh M))), (bd 3, .inl (T 3, 4, .inr (.inr (.inr (.inr (fun j => if j < 4 then some (bd (8 + j)) else none)))))), (bd 4, .inl (T 0, 4, .inl (man M))), (bd 5, .inl (T 0, 4, .inl (mgl M))), (bd 6, .inl (T 0, 4, .inl (mhb M))), (bd 7, .inl (T 0, 4, .inl (mtk M))), (bd 8, .inl (T 0, 16, .inl (mth M 0))), (bd 9, .inl (T 0, 16, .inl (mth M 1))), (bd 10, .inl (T 0, 16, .inl (mth M 2))), (bd 11, .inl (T 0, 16, .inl (mth M 3))), (b0, .inl (T 0, 16, .inl (upd (fun j => nI (List.getD (xl1 (xls s0 a) k 0 (xlk (xls s0 a) a k)) j 0)) (xpa (1 + 1) 0 k) (nI (2 * List.getD (xls s0 a) k 0 + 1))))), (b1, .inl (T 0, 16, .inl (fun j => nI (List.getD (xls s0 a) j 0))))]) H := hP
                            have hD : va_D A ([(bd 0, .inr (4, [.int (nI 0), .ref (bd 1), .int (nI (mnw M)), .ref (bd 2), .ref (bd 3), .ref (bd 4), .ref (bd 5), .int (nI (mnp M)), .ref (bd 6), .ref (bd 7), .int (mle M), .int (mwy M), .int (mfc M), .int (nI (mta M))])), (bd 1, .inl (T 0, 16, .inl (mpk M))), (bd 2, .inl (T 0, 4, .inl (msh M))), (bd 3, .inl (T 3, 4, .inr (.inr (.inr (.inr (fun j => if j < 4 then some (bd (8 + j)) else none)))))), (bd 4, .inl (T 0, 4, .inl (man M))), (bd 5, .inl (T 0, 4, .inl (mgl M))), (bd 6, .inl (T 0, 4, .inl (mhb M))), (bd 7, .inl (T 0, 4, .inl (mtk M))), (bd 8, .inl (T 0, 16, .inl (mth M 0))), (bd 9, .inl (T 0, 16, .inl (mth M 1))), (bd 10, .inl (T 0, 16, .inl (mth M 2))), (bd 11, .inl (T 0, 16, .inl (mth M 3))), (b0, .inl (T 0, 16, .inl (upd (fun j => nI (List.getD (xl1 (xls s0 a) k 0 (xlk (xls s0 a) a k)) j 0)) (xpa (1 + 1) 0 k) (nI (2 * List.getD (xls s0 a) k 0 + 1))))), (b1, .inl (T 0, 16, .inl (fun j => nI (List.getD (xls s0 a) j 0))))]) := hD
                            have el1 : (xl1 (xls s0 a) k 1 (xl1 (xls s0 a) k 0 (xlk (xls s0 a) a k))) = (List.set (xl1 (xls s0 a) k 0 (xlk (xls s0 a) a k)) (xpa (1 + 1) 0 k) (2 * List.getD (xls s0 a) k 0 + 1)) := if_pos ⟨hA1, Or.inr hC1⟩
                            have eu1 := xgd_up (L := (xl1 (xls s0 a) k 0 (xlk (xls s0 a) a k))) (i := (xpa (1 + 1) 0 k)) (by rw [hln1]; exact ht1) (2 * List.getD (xls s0 a) k 0 + 1)
                            rw [eu1] at hP hD
                            rw [← el1] at hP hD
                            have hP : va_P G vwCl [(bd 0, .inr (4, [.int (nI 0), .ref (bd 1), .int (nI (mnw M)), .ref (bd 2), .ref (bd 3), .ref (bd 4), .ref (bd 5), .int (nI (mnp M)), .ref (bd 6), .ref (bd 7), .int (mle M), .int (mwy M), .int (mfc M), .int (nI (mta M))])), (bd 1, .inl (T 0, 16, .inl (mpk M))), (bd 2, .inl (T 0, 4, .inl (msh M))), (bd 3, .inl (T 3, 4, .inr (.inr (.inr (.inr (fun j => if j < 4 then some (bd (8 + j)) else none)))))), (bd 4, .inl (T 0, 4, .inl (man M))), (bd 5, .inl (T 0, 4, .inl (mgl M))), (bd 6, .inl (T 0, 4, .inl (mhb M))), (bd 7, .inl (T 0, 4, .inl (mtk M))), (bd 8, .inl (T 0, 16, .inl (mth M 0))), (bd 9, .inl (T 0, 16, .inl (mth M 1))), (bd 10, .inl (T 0, 16, .inl (mth M 2))), (bd 11, .inl (T 0, 16, .inl (mth M 3))), (b0, .inl (T 0, 16, .inl (fun j => nI (List.getD (xl1 (xls s0 a) k 1 (xl1 (xls s0 a) k 0 (xlk (xls s0 a) a k))) j 0)))), (b1, .inl (T 0, 16, .inl (fun j => nI (List.getD (xls s0 a) j 0))))] _ := hP
                            have hD : va_D A [(bd 0, .inr (4, [.int (nI 0), .ref (bd 1), .int (nI (mnw M)), .ref (bd 2), .ref (bd 3), .ref (bd 4), .ref (bd 5), .int (nI (mnp M)), .ref (bd 6), .ref (bd 7), .int (mle M), .int (mwy M), .int (mfc M), .int (nI (mta M))])), (bd 1, .inl (T 0, 16, .inl (mpk M))), (bd 2, .inl (T 0, 4, .inl (msh M))), (bd 3, .inl (T 3, 4, .inr (.inr (.inr (.inr (fun j => if j < 4 then some (bd (8 + j)) else none)))))), (bd 4, .inl (T 0, 4, .inl (man M))), (bd 5, .inl (T 0, 4, .inl (mgl M))), (bd 6, .inl (T 0, 4, .inl (mhb M))), (bd 7, .inl (T 0, 4, .inl (mtk M))), (bd 8, .inl (T 0, 16, .inl (mth M 0))), (bd 9, .inl (T 0, 16, .inl (mth M 1))), (bd 10, .inl (T 0, 16, .inl (mth M 2))), (bd 11, .inl (T 0, 16, .inl (mth M 3))), (b0, .inl (T 0, 16, .inl (fun j => nI (List.getD (xl1 (xls s0 a) k 1 (xl1 (xls s0 a) k 0 (xlk (xls s0 a) a k))) j 0)))), (b1, .inl (T 0, 16, .inl (fun j => nI (List.getD (xls s0 a) j 0))))] := hD
                            refine lv_iinc (v := nI ((0 + 1) + 1)) (lv' := [(7, .int (nI ((0 + 1) + 1))), (9, .int (nI (2 * List.getD (xls s0 a) k 0 + 1))), (8, .int (nI (xpa (1 + 1) 0 k))), (6, .int (nI k)), (5, .ref b1), (4, .int (nI a)), (3, .ref b0), (0, .ref (bd 0)), (1, .int (nI c0_)), (2, .int (nI q))]) hx hb dX4_riffles_148 hl (k := 2) rfl (x_inc _) (by decide) rfl (fun ls hl => ?_)
                            refine lv_goto (tgt := 76) hx hb dX4_riffles_151 (by decide) ?_
                            refine lv_iload hx hb dX4_riffles_76 (lv_at hl 0 rfl) ?_
                            refine lv_iconst (v := nI 2) hx hb dX4_riffles_78 (by decide) ?_
                            refine lv_icmp_ge (tgt := 154) hx hb dX4_riffles_79 (by decide) (fun _ => ?_) (fun c_ => absurd (by decide) c_)
                            refine lv_iinc (v := nI (k + 1)) (lv' := [(6, .int (nI (k + 1))), (7, .int (nI ((0 + 1) + 1))), (9, .int (nI (2 * List.getD (xls s0 a) k 0 + 1))), (8, .int (nI (xpa (1 + 1) 0 k))), (5, .ref b1), (4, .int (nI a)), (3, .ref b0), (0, .ref (bd 0)), (1, .int (nI c0_)), (2, .int (nI q))]) hx hb dX4_riffles_154 hl (k := 3) rfl (x_inc _) (by decide) rfl (fun ls hl => ?_)
                            refine lv_goto (tgt := 66) hx hb dX4_riffles_157 (by decide) ?_
                            have ek : xlk (xls s0 a) a (k + 1) = (xl1 (xls s0 a) k 1 (xl1 (xls s0 a) k 0 (xlk (xls s0 a) a k))) := by show (if _ then _ else _) = _; rw [if_pos h1]
                            rw [← ek] at hP hD
                            exact ih2 (k + 1) (by omega) (by omega) _ _ hP hD hS ls (lv_sub hl [0, 4, 5, 6, 7, 8, 9] rfl)
                          · refine lv_icmp_ge (tgt := 148) hx hb dX4_riffles_139 (by decide) (fun _ => ?_) (fun c_ => absurd (nI_le (by omega) (by omega)) c_)
                            have el1 : (xl1 (xls s0 a) k 1 (xl1 (xls s0 a) k 0 (xlk (xls s0 a) a k))) = (xl1 (xls s0 a) k 0 (xlk (xls s0 a) a k)) := if_neg (fun h => by rcases h.2 with g | g; exact hB1 g; exact hC1 g)
                            rw [← el1] at hP hD
                            have hP : va_P G vwCl [(bd 0, .inr (4, [.int (nI 0), .ref (bd 1), .int (nI (mnw M)), .ref (bd 2), .ref (bd 3), .ref (bd 4), .ref (bd 5), .int (nI (mnp M)), .ref (bd 6), .ref (bd 7), .int (mle M), .int (mwy M), .int (mfc M), .int (nI (mta M))])), (bd 1, .inl (T 0, 16, .inl (mpk M))), (bd 2, .inl (T 0, 4, .inl (msh M))), (bd 3, .inl (T 3, 4, .inr (.inr (.inr (.inr (fun j => if j < 4 then some (bd (8 + j)) else none)))))), (bd 4, .inl (T 0, 4, .inl (man M))), (bd 5, .inl (T 0, 4, .inl (mgl M))), (bd 6, .inl (T 0, 4, .inl (mhb M))), (bd 7, .inl (T 0, 4, .inl (mtk M))), (bd 8, .inl (T 0, 16, .inl (mth M 0))), (bd 9, .inl (T 0, 16, .inl (mth M 1))), (bd 10, .inl (T 0, 16, .inl (mth M 2))), (bd 11, .inl (T 0, 16, .inl (mth M 3))), (b0, .inl (T 0, 16, .inl (fun j => nI (List.getD (xl1 (xls s0 a) k 1 (xl1 (xls s0 a) k 0 (xlk (xls s0 a) a k))) j 0)))), (b1, .inl (T 0, 16, .inl (fun j => nI (List.getD (xls s0 a) j 0))))] _ := hP
                            have hD : va_D A [(bd 0, .inr (4, [.int (nI 0), .ref (bd 1), .int (nI (mnw M)), .ref (bd 2), .ref (bd 3), .ref (bd 4), .ref (bd 5), .int (nI (mnp M)), .ref (bd 6), .ref (bd 7), .int (mle M), .int (mwy M), .int (mfc M), .int (nI (mta M))])), (bd 1, .inl (T 0, 16, .inl (mpk M))), (bd 2, .inl (T 0, 4, .inl (msh M))), (bd 3, .inl (T 3, 4, .inr (.inr (.inr (.inr (fun j => if j < 4 then some (bd (8 + j)) else none)))))), (bd 4, .inl (T 0, 4, .inl (man M))), (bd 5, .inl (T 0, 4, .inl (mgl M))), (bd 6, .inl (T 0, 4, .inl (mhb M))), (bd 7, .inl (T 0, 4, .inl (mtk M))), (bd 8, .inl (T 0, 16, .inl (mth M 0))), (bd 9, .inl (T 0, 16, .inl (mth M 1))), (bd 10, .inl (T 0, 16, .inl (mth M 2))), (bd 11, .inl (T 0, 16, .inl (mth M 3))), (b0, .inl (T 0, 16, .inl (fun j => nI (List.getD (xl1 (xls s0 a) k 1 (xl1 (xls s0 a) k 0 (xlk (xls s0 a) a k))) j 0)))), (b1, .inl (T 0, 16, .inl (fun j => nI (List.getD (xls s0 a) j 0))))] := hD
                            refine lv_iinc (v := nI ((0 + 1) + 1)) (lv' := [(7, .int (nI ((0 + 1) + 1))), (9, .int (nI (2 * List.getD (xls s0 a) k 0 + 1))), (8, .int (nI (xpa (1 + 1) 0 k))), (6, .int (nI k)), (5, .ref b1), (4, .int (nI a)), (3, .ref b0), (0, .ref (bd 0)), (1, .int (nI c0_)), (2, .int (nI q))]) hx hb dX4_riffles_148 hl (k := 2) rfl (x_inc _) (by decide) rfl (fun ls hl => ?_)
                            refine lv_goto (tgt := 76) hx hb dX4_riffles_151 (by decide) ?_
                            refine lv_iload hx hb dX4_riffles_76 (lv_at hl 0 rfl) ?_
                            refine lv_iconst (v := nI 2) hx hb dX4_riffles_78 (by decide) ?_
                            refine lv_icmp_ge (tgt := 154) hx hb dX4_riffles_79 (by decide) (fun _ => ?_) (fun c_ => absurd (by decide) c_)
                            refine lv_iinc (v := nI (k + 1)) (lv' := [(6, .int (nI (k + 1))), (7, .int (nI ((0 + 1) + 1))), (9, .int (nI (2 * List.getD (xls s0 a) k 0 + 1))), (8, .int (nI (xpa (1 + 1) 0 k))), (5, .ref b1), (4, .int (nI a)), (3, .ref b0), (0, .ref (bd 0)), (1, .int (nI c0_)), (2, .int (nI q))]) hx hb dX4_riffles_154 hl (k := 3) rfl (x_inc _) (by decide) rfl (fun ls hl => ?_)
                            refine lv_goto (tgt := 66) hx hb dX4_riffles_157 (by decide) ?_
                            have ek : xlk (xls s0 a) a (k + 1) = (xl1 (xls s0 a) k 1 (xl1 (xls s0 a) k 0 (xlk (xls s0 a) a k))) := by show (if _ then _ else _) = _; rw [if_pos h1]
                            rw [← ek] at hP hD
                            exact ih2 (k + 1) (by omega) (by omega) _ _ hP hD hS ls (lv_sub hl [0, 4, 5, 6, 7, 8, 9] rfl)
                      · refine lv_if_ne (tgt := 148) hx hb dX4_riffles_123 (by decide) (fun _ => ?_) (fun c_ => absurd c_ (fun h => hA1 ((nI_eq (by omega) (by decide)).mp h)))
                        have el1 : (xl1 (xls s0 a) k 1 (xl1 (xls s0 a) k 0 (xlk (xls s0 a) a k))) = (xl1 (xls s0 a) k 0 (xlk (xls s0 a) a k)) := if_neg (fun h => hA1 h.1)
                        rw [← el1] at hP hD
                        have hP : va_P G vwCl [(bd 0, .inr (4, [.int (nI 0), .ref (bd 1), .int (nI (mnw M)), .ref (bd 2), .ref (bd 3), .ref (bd 4), .ref (bd 5), .int (nI (mnp M)), .ref (bd 6), .ref (bd 7), .int (mle M), .int (mwy M), .int (mfc M), .int (nI (mta M))])), (bd 1, .inl (T 0, 16, .inl (mpk M))), (bd 2, .inl (T 0, 4, .inl (msh M))), (bd 3, .inl (T 3, 4, .inr (.inr (.inr (.inr (fun j => if j < 4 then some (bd (8 + j)) else none)))))), (bd 4, .inl (T 0, 4, .inl (man M))), (bd 5, .inl (T 0, 4, .inl (mgl M))), (bd 6, .inl (T 0, 4, .inl (mhb M))), (bd 7, .inl (T 0, 4, .inl (mtk M))), (bd 8, .inl (T 0, 16, .inl (mth M 0))), (bd 9, .inl (T 0, 16, .inl (mth M 1))), (bd 10, .inl (T 0, 16, .inl (mth M 2))), (bd 11, .inl (T 0, 16, .inl (mth M 3))), (b0, .inl (T 0, 16, .inl (fun j => nI (List.getD (xl1 (xls s0 a) k 1 (xl1 (xls s0 a) k 0 (xlk (xls s0 a) a k))) j 0)))), (b1, .inl (T 0, 16, .inl (fun j => nI (List.getD (xls s0 a) j 0))))] _ := hP
                        have hD : va_D A [(bd 0, .inr (4, [.int (nI 0), .ref (bd 1), .int (nI (mnw M)), .ref (bd 2), .ref (bd 3), .ref (bd 4), .ref (bd 5), .int (nI (mnp M)), .ref (bd 6), .ref (bd 7), .int (mle M), .int (mwy M), .int (mfc M), .int (nI (mta M))])), (bd 1, .inl (T 0, 16, .inl (mpk M))), (bd 2, .inl (T 0, 4, .inl (msh M))), (bd 3, .inl (T 3, 4, .inr (.inr (.inr (.inr (fun j => if j < 4 then some (bd (8 + j)) else none)))))), (bd 4, .inl (T 0, 4, .inl (man M))), (bd 5, .inl (T 0, 4, .inl (mgl M))), (bd 6, .inl (T 0, 4, .inl (mhb M))), (bd 7, .inl (T 0, 4, .inl (mtk M))), (bd 8, .inl (T 0, 16, .inl (mth M 0))), (bd 9, .inl (T 0, 16, .inl (mth M 1))), (bd 10, .inl (T 0, 16, .inl (mth M 2))), (bd 11, .inl (T 0, 16, .inl (mth M 3))), (b0, .inl (T 0, 16, .inl (fun j => nI (List.getD (xl1 (xls s0 a) k 1 (xl1 (xls s0 a) k 0 (xlk (xls s0 a) a k))) j 0)))), (b1, .inl (T 0, 16, .inl (fun j => nI (List.getD (xls s0 a) j 0))))] := hD
                        refine lv_iinc (v := nI ((0 + 1) + 1)) (lv' := [(7, .int (nI ((0 + 1) + 1))), (9, .int (nI (2 * List.getD (xls s0 a) k 0 + 1))), (8, .int (nI (xpa (1 + 1) 0 k))), (6, .int (nI k)), (5, .ref b1), (4, .int (nI a)), (3, .ref b0), (0, .ref (bd 0)), (1, .int (nI c0_)), (2, .int (nI q))]) hx hb dX4_riffles_148 hl (k := 2) rfl (x_inc _) (by decide) rfl (fun ls hl => ?_)
                        refine lv_goto (tgt := 76) hx hb dX4_riffles_151 (by decide) ?_
                        refine lv_iload hx hb dX4_riffles_76 (lv_at hl 0 rfl) ?_
                        refine lv_iconst (v := nI 2) hx hb dX4_riffles_78 (by decide) ?_
                        refine lv_icmp_ge (tgt := 154) hx hb dX4_riffles_79 (by decide) (fun _ => ?_) (fun c_ => absurd (by decide) c_)
                        refine lv_iinc (v := nI (k + 1)) (lv' := [(6, .int (nI (k + 1))), (7, .int (nI ((0 + 1) + 1))), (9, .int (nI (2 * List.getD (xls s0 a) k 0 + 1))), (8, .int (nI (xpa (1 + 1) 0 k))), (5, .ref b1), (4, .int (nI a)), (3, .ref b0), (0, .ref (bd 0)), (1, .int (nI c0_)), (2, .int (nI q))]) hx hb dX4_riffles_154 hl (k := 3) rfl (x_inc _) (by decide) rfl (fun ls hl => ?_)
                        refine lv_goto (tgt := 66) hx hb dX4_riffles_157 (by decide) ?_
                        have ek : xlk (xls s0 a) a (k + 1) = (xl1 (xls s0 a) k 1 (xl1 (xls s0 a) k 0 (xlk (xls s0 a) a k))) := by show (if _ then _ else _) = _; rw [if_pos h1]
                        rw [← ek] at hP hD
                        exact ih2 (k + 1) (by omega) (by omega) _ _ hP hD hS ls (lv_sub hl [0, 4, 5, 6, 7, 8, 9] rfl)
                · refine lv_if_ne (tgt := 148) hx hb dX4_riffles_123 (by decide) (fun _ => ?_) (fun c_ => absurd c_ (fun h => hA0 ((nI_eq (by omega) (by decide)).mp h)))
                  have el0 : (xl1 (xls s0 a) k 0 (xlk (xls s0 a) a k)) = (xlk (xls s0 a) a k) := if_neg (fun h => hA0 h.1)
                  rw [← el0] at hP hD
                  have hP : va_P G vwCl [(bd 0, .inr (4, [.int (nI 0), .ref (bd 1), .int (nI (mnw M)), .ref (bd 2), .ref (bd 3), .ref (bd 4), .ref (bd 5), .int (nI (mnp M)), .ref (bd 6), .ref (bd 7), .int (mle M), .int (mwy M), .int (mfc M), .int (nI (mta M))])), (bd 1, .inl (T 0, 16, .inl (mpk M))), (bd 2, .inl (T 0, 4, .inl (msh M))), (bd 3, .inl (T 3, 4, .inr (.inr (.inr (.inr (fun j => if j < 4 then some (bd (8 + j)) else none)))))), (bd 4, .inl (T 0, 4, .inl (man M))), (bd 5, .inl (T 0, 4, .inl (mgl M))), (bd 6, .inl (T 0, 4, .inl (mhb M))), (bd 7, .inl (T 0, 4, .inl (mtk M))), (bd 8, .inl (T 0, 16, .inl (mth M 0))), (bd 9, .inl (T 0, 16, .inl (mth M 1))), (bd 10, .inl (T 0, 16, .inl (mth M 2))), (bd 11, .inl (T 0, 16, .inl (mth M 3))), (b0, .inl (T 0, 16, .inl (fun j => nI (List.getD (xl1 (xls s0 a) k 0 (xlk (xls s0 a) a k)) j 0)))), (b1, .inl (T 0, 16, .inl (fun j => nI (List.getD (xls s0 a) j 0))))] _ := hP
                  have hD : va_D A [(bd 0, .inr (4, [.int (nI 0), .ref (bd 1), .int (nI (mnw M)), .ref (bd 2), .ref (bd 3), .ref (bd 4), .ref (bd 5), .int (nI (mnp M)), .ref (bd 6), .ref (bd 7), .int (mle M), .int (mwy M), .int (mfc M), .int (nI (mta M))])), (bd 1, .inl (T 0, 16, .inl (mpk M))), (bd 2, .inl (T 0, 4, .inl (msh M))), (bd 3, .inl (T 3, 4, .inr (.inr (.inr (.inr (fun j => if j < 4 then some (bd (8 + j)) else none)))))), (bd 4, .inl (T 0, 4, .inl (man M))), (bd 5, .inl (T 0, 4, .inl (mgl M))), (bd 6, .inl (T 0, 4, .inl (mhb M))), (bd 7, .inl (T 0, 4, .inl (mtk M))), (bd 8, .inl (T 0, 16, .inl (mth M 0))), (bd 9, .inl (T 0, 16, .inl (mth M 1))), (bd 10, .inl (T 0, 16, .inl (mth M 2))), (bd 11, .inl (T 0, 16, .inl (mth M 3))), (b0, .inl (T 0, 16, .inl (fun j => nI (List.getD (xl1 (xls s0 a) k 0 (xlk (xls s0 a) a k)) j 0)))), (b1, .inl (T 0, 16, .inl (fun j => nI (List.getD (xls s0 a) j 0))))] := hD
                  refine lv_iinc (v := nI (0 + 1)) (lv' := [(7, .int (nI (0 + 1))), (9, .int (nI (2 * List.getD (xls s0 a) k 0 + 0))), (8, .int (nI (xpa (1 + 0) 0 k))), (6, .int (nI k)), (5, .ref b1), (4, .int (nI a)), (3, .ref b0), (0, .ref (bd 0)), (1, .int (nI c0_)), (2, .int (nI q))]) hx hb dX4_riffles_148 hl (k := 2) rfl (x_inc _) (by decide) rfl (fun ls hl => ?_)
                  refine lv_goto (tgt := 76) hx hb dX4_riffles_151 (by decide) ?_
                  refine lv_iload hx hb dX4_riffles_76 (lv_at hl 0 rfl) ?_
                  refine lv_iconst (v := nI 2) hx hb dX4_riffles_78 (by decide) ?_
                  have hln1 : (xl1 (xls s0 a) k 0 (xlk (xls s0 a) a k)).length = 16 := (xl1_len _ _ _ _).trans hln
                  have hlb1 := xl1_lt (k := k) (Nat.zero_le 1) hb9 hlb
                  refine lv_icmp_ge (tgt := 154) hx hb dX4_riffles_79 (by decide) (fun c_ => absurd c_ (by decide)) (fun _ => ?_)
                  refine lv_aload hx hb dX4_riffles_82 (lv_at hl 4 rfl) ?_
                  refine lv_iload hx hb dX4_riffles_84 (lv_at hl 3 rfl) ?_
                  refine x_iald hx hb hK hP 13 0 (f := (fun j => nI (List.getD (xls s0 a) j 0))) (n := 16) rfl rfl hc (by decide) dX4_riffles_86 ?_
                  refine x_topi (y := nI (List.getD (xls s0 a) k 0)) (rfl) ?_
                  refine lv_iload hx hb dX4_riffles_87 (lv_at hl 5 rfl) ?_
                  refine lv_ishr hx hb dX4_riffles_89 ?_
                  refine x_topi (y := nI (List.getD (xls s0 a) k 0 / 2 ^ a)) (esh) ?_
                  refine lv_iconst (v := nI 1) hx hb dX4_riffles_90 (by decide) ?_
                  refine lv_icmp_ne (tgt := 154) hx hb dX4_riffles_91 (by decide) (fun c_ => absurd (congrArg nI h1) c_) (fun _ => ?_)
                  refine lv_iconst (v := nI 1) hx hb dX4_riffles_94 (by decide) ?_
                  refine lv_iload hx hb dX4_riffles_95 (lv_at hl 0 rfl) ?_
                  refine lv_iadd hx hb dX4_riffles_97 ?_
                  refine x_topi (y := nI (1 + 1)) (nI_add _ _) ?_
                  refine lv_iconst (v := nI 0) hx hb dX4_riffles_98 (by decide) ?_
                  refine lv_iload hx hb dX4_riffles_99 (lv_at hl 3 rfl) ?_
                  have ht1 : (xpa (1 + 1) 0 k) < 16 := (xway (k := 1 + 1) (n := 0) rfl hc).1
                  refine x_calli (va_runS (As := [.int (nI (1 + 1)), .int (nI 0), .int (nI k)]) (rest := []) ⟨hx, hb, hml, hown, hts⟩ (c_X4_to l G T _ (1 + 1) 0 k rfl hc) (va_cwS 3 hts gX4_riffles_X4_to rfl rfl rfl (by decide +kernel) ⟨Nat.le_of_ble_eq_true rfl, Nat.le_of_ble_eq_true rfl⟩) (x_preS (wc := []) hK hP hD hS hA hXB hZ [] rfl rfl _) rfl rfl hl.1 rfl (lv_room (Nat.le_of_ble_eq_true rfl)) dX4_riffles_101 ⟨show 1 + a + 1 + 0 ≤ 5 by omega, show 16 * (1 + a) + 16 + 0 ≤ 80 by omega⟩) hP hD hS hA [] rfl (fun _ _ _ => rfl) (fun t1 v1 H locs hwt1 hP hD hS => ?_)
                  have hP : va_P G vwCl ([(bd 0, .inr (4, [.int (nI 0), .ref (bd 1), .int (nI (mnw M)), .ref (bd 2), .ref (bd 3), .ref (bd 4), .ref (bd 5), .int (nI (mnp M)), .ref (bd 6), .ref (bd 7), .int (mle M), .int (mwy M), .int (mfc M), .int (nI (mta M))])), (bd 1, .inl (T 0, 16, .inl (mpk M))), (bd 2, .inl (T 0, 4, .inl (msh M))), (bd 3, .inl (T 3, 4, .inr (.inr (.inr (.inr (fun j => if j < 4 then some (bd (8 + j)) else none)))))), (bd 4, .inl (T 0, 4, .inl (man M))), (bd 5, .inl (T 0, 4, .inl (mgl M))), (bd 6, .inl (T 0, 4, .inl (mhb M))), (bd 7, .inl (T 0, 4, .inl (mtk M))), (bd 8, .inl (T 0, 16, .inl (mth M 0))), (bd 9, .inl (T 0, 16, .inl (mth M 1))), (bd 10, .inl (T 0, 16, .inl (mth M 2))), (bd 11, .inl (T 0, 16, .inl (mth M 3))), (b0, .inl (T 0, 16, .inl (fun j => nI (List.getD (xl1 (xls s0 a) k 0 (xlk (xls s0 a) a k)) j 0)))), (b1, .inl (T 0, 16, .inl (fun j => nI (List.getD (xls s0 a) j 0))))]) H := hP
                  have hD : va_D A ([(bd 0, .inr (4, [.int (nI 0), .ref (bd 1), .int (nI (mnw M)), .ref (bd 2), .ref (bd 3), .ref (bd 4), .ref (bd 5), .int (nI (mnp M)), .ref (bd 6), .ref (bd 7), .int (mle M), .int (mwy M), .int (mfc M), .int (nI (mta M))])), (bd 1, .inl (T 0, 16, .inl (mpk M))), (bd 2, .inl (T 0, 4, .inl (msh M))), (bd 3, .inl (T 3, 4, .inr (.inr (.inr (.inr (fun j => if j < 4 then some (bd (8 + j)) else none)))))), (bd 4, .inl (T 0, 4, .inl (man M))), (bd 5, .inl (T 0, 4, .inl (mgl M))), (bd 6, .inl (T 0, 4, .inl (mhb M))), (bd 7, .inl (T 0, 4, .inl (mtk M))), (bd 8, .inl (T 0, 16, .inl (mth M 0))), (bd 9, .inl (T 0, 16, .inl (mth M 1))), (bd 10, .inl (T 0, 16, .inl (mth M 2))), (bd 11, .inl (T 0, 16, .inl (mth M 3))), (b0, .inl (T 0, 16, .inl (fun j => nI (List.getD (xl1 (xls s0 a) k 0 (xlk (xls s0 a) a k)) j 0)))), (b1, .inl (T 0, 16, .inl (fun j => nI (List.getD (xls s0 a) j 0))))]) := hD
                  refine x_topi (y := nI (xpa (1 + 1) 0 k)) (hwt1) ?_
                  refine lv_istore (lv' := [(8, .int (nI (xpa (1 + 1) 0 k))), (7, .int (nI (0 + 1))), (9, .int (nI (2 * List.getD (xls s0 a) k 0 + 0))), (6, .int (nI k)), (5, .ref b1), (4, .int (nI a)), (3, .ref b0), (0, .ref (bd 0)), (1, .int (nI c0_)), (2, .int (nI q))]) hx hb dX4_riffles_104 hl (by decide) rfl (fun ls hl => ?_)
                  refine lv_iconst (v := nI 2) hx hb dX4_riffles_106 (by decide) ?_
                  refine lv_aload hx hb dX4_riffles_107 (lv_at hl 4 rfl) ?_
                  refine lv_iload hx hb dX4_riffles_109 (lv_at hl 3 rfl) ?_
                  refine x_iald hx hb hK hP 13 0 (f := (fun j => nI (List.getD (xls s0 a) j 0))) (n := 16) rfl rfl hc (by decide) dX4_riffles_111 ?_
                  refine x_topi (y := nI (List.getD (xls s0 a) k 0)) (rfl) ?_
                  refine lv_imul hx hb dX4_riffles_112 ?_
                  refine x_topi (y := nI (2 * List.getD (xls s0 a) k 0)) (pk_mul _ _) ?_
                  refine lv_iload hx hb dX4_riffles_113 (lv_at hl 1 rfl) ?_
                  refine lv_iadd hx hb dX4_riffles_115 ?_
                  refine x_topi (y := nI (2 * List.getD (xls s0 a) k 0 + 1)) (nI_add _ _) ?_
                  refine lv_istore (lv' := [(9, .int (nI (2 * List.getD (xls s0 a) k 0 + 1))), (8, .int (nI (xpa (1 + 1) 0 k))), (7, .int (nI (0 + 1))), (6, .int (nI k)), (5, .ref b1), (4, .int (nI a)), (3, .ref b0), (0, .ref (bd 0)), (1, .int (nI c0_)), (2, .int (nI q))]) hx hb dX4_riffles_116 hl (by decide) rfl (fun ls hl => ?_)
                  refine lv_aload hx hb dX4_riffles_118 (lv_at hl 4 rfl) ?_
                  refine lv_iload hx hb dX4_riffles_120 (lv_at hl 1 rfl) ?_
                  refine x_iald hx hb hK hP 13 0 (f := (fun j => nI (List.getD (xls s0 a) j 0))) (n := 16) rfl rfl ht1 (by decide) dX4_riffles_122 ?_
                  refine x_topi (y := nI (List.getD (xls s0 a) (xpa (1 + 1) 0 k) 0)) (rfl) ?_
                  have hbt1 := hb9 (xpa (1 + 1) 0 k)
                  have hlt1 := hlb1 (xpa (1 + 1) 0 k)
                  by_cases hA1 : List.getD (xls s0 a) (xpa (1 + 1) 0 k) 0 = 0
                  · refine lv_if_ne (tgt := 148) hx hb dX4_riffles_123 (by decide) (fun c_ => absurd (congrArg nI hA1) c_) (fun _ => ?_)
                    refine lv_aload_n hx hb dX4_riffles_126 rfl (lv_at hl 6 rfl) ?_
                    refine lv_iload hx hb dX4_riffles_127 (lv_at hl 1 rfl) ?_
                    refine x_iald hx hb hK hP 12 0 (f := (fun j => nI (List.getD (xl1 (xls s0 a) k 0 (xlk (xls s0 a) a k)) j 0))) (n := 16) rfl rfl ht1 (by decide) dX4_riffles_129 ?_
                    refine x_topi (y := nI (List.getD (xl1 (xls s0 a) k 0 (xlk (xls s0 a) a k)) (xpa (1 + 1) 0 k) 0)) (rfl) ?_
                    by_cases hB1 : List.getD (xl1 (xls s0 a) k 0 (xlk (xls s0 a) a k)) (xpa (1 + 1) 0 k) 0 = 0
                    · refine lv_if_eq (tgt := 142) hx hb dX4_riffles_130 (by decide) (fun _ => ?_) (fun c_ => absurd (congrArg nI hB1) c_)
                      refine lv_aload_n hx hb dX4_riffles_142 rfl (lv_at hl 6 rfl) ?_
                      refine lv_iload hx hb dX4_riffles_143 (lv_at hl 1 rfl) ?_
                      refine lv_iload hx hb dX4_riffles_145 (lv_at hl 0 rfl) ?_
                      refine x_iast hx hb hK hP hD hS 12 0 (f := (fun j => nI (List.getD (xl1 (xls s0 a) k 0 (xlk (xls s0 a) a k)) j 0))) (n := 16) rfl rfl ht1 (by decide) dX4_riffles_147 (fun H locs hP hD hS => ?_)
                      have hP : va_P G vwCl ([(bd 0, .inr (4, [.int (nI 0), .ref (bd 1), .int (nI (mnw M)), .ref (bd 2), .ref (bd 3), .ref (bd 4), .ref (bd 5), .int (nI (mnp M)), .ref (bd 6), .ref (bd 7), .int (mle M), .int (mwy M), .int (mfc M), .int (nI (mta M))])), (bd 1, .inl (T 0, 16, .inl (mpk M))), (bd 2, .inl (T 0, 4, .inl (msh M))), (bd 3, .inl (T 3, 4, .inr (.inr (.inr (.inr (fun j => if j < 4 then some (bd (8 + j)) else none)))))), (bd 4, .inl (T 0, 4, .inl (man M))), (bd 5, .inl (T 0, 4, .inl (mgl M))), (bd 6, .inl (T 0, 4, .inl (mhb M))), (bd 7, .inl (T 0, 4, .inl (mtk M))), (bd 8, .inl (T 0, 16, .inl (mth M 0))), (bd 9, .inl (T 0, 16, .inl (mth M 1))), (bd 10, .inl (T 0, 16, .inl (mth M 2))), (bd 11, .inl (T 0, 16, .inl (mth M 3))), (b0, .inl (T 0, 16, .inl (upd (fun j => nI (List.getD (xl1 (xls s0 a) k 0 (xlk (xls s0 a) a k)) j 0)) (xpa (1 + 1) 0 k) (nI (2 * List.getD (xls s0 a) k 0 + 1))))), (b1, .inl (T 0, 16, .inl (fun j => nI (List.getD (xls s0 a) j 0))))]) H := hP
                      have hD : va_D A ([(bd 0, .inr (4, [.int (nI 0), .ref (bd 1), .int (nI (mnw M)), .ref (bd 2), .ref (bd 3), .ref (bd 4), .ref (bd 5), .int (nI (mnp M)), .ref (bd 6), .ref (bd 7), .int (mle M), .int (mwy M), .int (mfc M), .int (nI (mta M))])), (bd 1, .inl (T 0, 16, .inl (mpk M))), (bd 2, .inl (T 0, 4, .inl (msh M))), (bd 3, .inl (T 3, 4, .inr (.inr (.inr (.inr (fun j => if j < 4 then some (bd (8 + j)) else none)))))), (bd 4, .inl (T 0, 4, .inl (man M))), (bd 5, .inl (T 0, 4, .inl (mgl M))), (bd 6, .inl (T 0, 4, .inl (mhb M))), (bd 7, .inl (T 0, 4, .inl (mtk M))), (bd 8, .inl (T 0, 16, .inl (mth M 0))), (bd 9, .inl (T 0, 16, .inl (mth M 1))), (bd 10, .inl (T 0, 16, .inl (mth M 2))), (bd 11, .inl (T 0, 16, .inl (mth M 3))), (b0, .inl (T 0, 16, .inl (upd (fun j => nI (List.getD (xl1 (xls s0 a) k 0 (xlk (xls s0 a) a k)) j 0)) (xpa (1 + 1) 0 k) (nI (2 * List.getD (xls s0 a) k 0 + 1))))), (b1, .inl (T 0, 16, .inl (fun j => nI (List.getD (xls s0 a) j 0))))]) := hD
                      have el1 : (xl1 (xls s0 a) k 1 (xl1 (xls s0 a) k 0 (xlk (xls s0 a) a k))) = (List.set (xl1 (xls s0 a) k 0 (xlk (xls s0 a) a k)) (xpa (1 + 1) 0 k) (2 * List.getD (xls s0 a) k 0 + 1)) := if_pos ⟨hA1, Or.inl hB1⟩
                      have eu1 := xgd_up (L := (xl1 (xls s0 a) k 0 (xlk (xls s0 a) a k))) (i := (xpa (1 + 1) 0 k)) (by rw [hln1]; exact ht1) (2 * List.getD (xls s0 a) k 0 + 1)
                      rw [eu1] at hP hD
                      rw [← el1] at hP hD
                      have hP : va_P G vwCl [(bd 0, .inr (4, [.int (nI 0), .ref (bd 1), .int (nI (mnw M)), .ref (bd 2), .ref (bd 3), .ref (bd 4), .ref (bd 5), .int (nI (mnp M)), .ref (bd 6), .ref (bd 7), .int (mle M), .int (mwy M), .int (mfc M), .int (nI (mta M))])), (bd 1, .inl (T 0, 16, .inl (mpk M))), (bd 2, .inl (T 0, 4, .inl (msh M))), (bd 3, .inl (T 3, 4, .inr (.inr (.inr (.inr (fun j => if j < 4 then some (bd (8 + j)) else none)))))), (bd 4, .inl (T 0, 4, .inl (man M))), (bd 5, .inl (T 0, 4, .inl (mgl M))), (bd 6, .inl (T 0, 4, .inl (mhb M))), (bd 7, .inl (T 0, 4, .inl (mtk M))), (bd 8, .inl (T 0, 16, .inl (mth M 0))), (bd 9, .inl (T 0, 16, .inl (mth M 1))), (bd 10, .inl (T 0, 16, .inl (mth M 2))), (bd 11, .inl (T 0, 16, .inl (mth M 3))), (b0, .inl (T 0, 16, .inl (fun j => nI (List.getD (xl1 (xls s0 a) k 1 (xl1 (xls s0 a) k 0 (xlk (xls s0 a) a k))) j 0)))), (b1, .inl (T 0, 16, .inl (fun j => nI (List.getD (xls s0 a) j 0))))] _ := hP
                      have hD : va_D A [(bd 0, .inr (4, [.int (nI 0), .ref (bd 1), .int (nI (mnw M)), .ref (bd 2), .ref (bd 3), .ref (bd 4), .ref (bd 5), .int (nI (mnp M)), .ref (bd 6), .ref (bd 7), .int (mle M), .int (mwy M), .int (mfc M), .int (nI (mta M))])), (bd 1, .inl (T 0, 16, .inl (mpk M))), (bd 2, .inl (T 0, 4, .inl (msh M))), (bd 3, .inl (T 3, 4, .inr (.inr (.inr (.inr (fun j => if j < 4 then some (bd (8 + j)) else none)))))), (bd 4, .inl (T 0, 4, .inl (man M))), (bd 5, .inl (T 0, 4, .inl (mgl M))), (bd 6, .inl (T 0, 4, .inl (mhb M))), (bd 7, .inl (T 0, 4, .inl (mtk M))), (bd 8, .inl (T 0, 16, .inl (mth M 0))), (bd 9, .inl (T 0, 16, .inl (mth M 1))), (bd 10, .inl (T 0, 16, .inl (mth M 2))), (bd 11, .inl (T 0, 16, .inl (mth M 3))), (b0, .inl (T 0, 16, .inl (fun j => nI (List.getD (xl1 (xls s0 a) k 1 (xl1 (xls s0 a) k 0 (xlk (xls s0 a) a k))) j 0)))), (b1, .inl (T 0, 16, .inl (fun j => nI (List.getD (xls s0 a) j 0))))] := hD
                      refine lv_iinc (v := nI ((0 + 1) + 1)) (lv' := [(7, .int (nI ((0 + 1) + 1))), (9, .int (nI (2 * List.getD (xls s0 a) k 0 + 1))), (8, .int (nI (xpa (1 + 1) 0 k))), (6, .int (nI k)), (5, .ref b1), (4, .int (nI a)), (3, .ref b0), (0, .ref (bd 0)), (1, .int (nI c0_)), (2, .int (nI q))]) hx hb dX4_riffles_148 hl (k := 2) rfl (x_inc _) (by decide) rfl (fun ls hl => ?_)
                      refine lv_goto (tgt := 76) hx hb dX4_riffles_151 (by decide) ?_
                      refine lv_iload hx hb dX4_riffles_76 (lv_at hl 0 rfl) ?_
                      refine lv_iconst (v := nI 2) hx hb dX4_riffles_78 (by decide) ?_
                      refine lv_icmp_ge (tgt := 154) hx hb dX4_riffles_79 (by decide) (fun _ => ?_) (fun c_ => absurd (by decide) c_)
                      refine lv_iinc (v := nI (k + 1)) (lv' := [(6, .int (nI (k + 1))), (7, .int (nI ((0 + 1) + 1))), (9, .int (nI (2 * List.getD (xls s0 a) k 0 + 1))), (8, .int (nI (xpa (1 + 1) 0 k))), (5, .ref b1), (4, .int (nI a)), (3, .ref b0), (0, .ref (bd 0)), (1, .int (nI c0_)), (2, .int (nI q))]) hx hb dX4_riffles_154 hl (k := 3) rfl (x_inc _) (by decide) rfl (fun ls hl => ?_)
                      refine lv_goto (tgt := 66) hx hb dX4_riffles_157 (by decide) ?_
                      have ek : xlk (xls s0 a) a (k + 1) = (xl1 (xls s0 a) k 1 (xl1 (xls s0 a) k 0 (xlk (xls s0 a) a k))) := by show (if _ then _ else _) = _; rw [if_pos h1]
                      rw [← ek] at hP hD
                      exact ih2 (k + 1) (by omega) (by omega) _ _ hP hD hS ls (lv_sub hl [0, 4, 5, 6, 7, 8, 9] rfl)
                    · refine lv_if_eq (tgt := 142) hx hb dX4_riffles_130 (by decide) (fun c_ => absurd c_ (fun h => hB1 ((nI_eq (by omega) (by decide)).mp h))) (fun _ => ?_)
                      refine lv_iload hx hb dX4_riffles_133 (lv_at hl 0 rfl) ?_
                      refine lv_aload_n hx hb dX4_riffles_135 rfl (lv_at hl 6 rfl) ?_
                      refine lv_iload hx hb dX4_riffles_136 (lv_at hl 1 rfl) ?_
                      refine x_iald hx hb hK hP 12 0 (f := (fun j => nI (List.getD (xl1 (xls s0 a) k 0 (xlk (xls s0 a) a k)) j 0))) (n := 16) rfl rfl ht1 (by decide) dX4_riffles_138 ?_
                      refine x_topi (y := nI (List.getD (xl1 (xls s0 a) k 0 (xlk (xls s0 a) a k)) (xpa (1 + 1) 0 k) 0)) (rfl) ?_
                      by_cases hC1 : (2 * List.getD (xls s0 a) k 0 + 1) < List.getD (xl1 (xls s0 a) k 0 (xlk (xls s0 a) a k)) (xpa (1 + 1) 0 k) 0
                      · refine lv_icmp_ge (tgt := 148) hx hb dX4_riffles_139 (by decide) (fun c_ => absurd c_ (nI_ge hC1 (by omega))) (fun _ => ?_)
                        refine lv_aload_n hx hb dX4_riffles_142 rfl (lv_at hl 6 rfl) ?_
                        refine lv_iload hx hb dX4_riffles_143 (lv_at hl 1 rfl) ?_
                        refine lv_iload hx hb dX4_riffles_145 (lv_at hl 0 rfl) ?_
                        refine x_iast hx hb hK hP hD hS 12 0 (f := (fun j => nI (List.getD (xl1 (xls s0 a) k 0 (xlk (xls s0 a) a k)) j 0))) (n := 16) rfl rfl ht1 (by decide) dX4_riffles_147 (fun H locs hP hD hS => ?_)
                        have hP : va_P G vwCl ([(bd 0, .inr (4, [.int (nI 0), .ref (bd 1), .int (nI (mnw M)), .ref (bd 2), .ref (bd 3), .ref (bd 4), .ref (bd 5), .int (nI (mnp M)), .ref (bd 6), .ref (bd 7), .int (mle M), .int (mwy M), .int (mfc M), .int (nI (mta M))])), (bd 1, .inl (T 0, 16, .inl (mpk M))), (bd 2, .inl (T 0, 4, .inl (msh M))), (bd 3, .inl (T 3, 4, .inr (.inr (.inr (.inr (fun j => if j < 4 then some (bd (8 + j)) else none)))))), (bd 4, .inl (T 0, 4, .inl (man M))), (bd 5, .inl (T 0, 4, .inl (mgl M))), (bd 6, .inl (T 0, 4, .inl (mhb M))), (bd 7, .inl (T 0, 4, .inl (mtk M))), (bd 8, .inl (T 0, 16, .inl (mth M 0))), (bd 9, .inl (T 0, 16, .inl (mth M 1))), (bd 10, .inl (T 0, 16, .inl (mth M 2))), (bd 11, .inl (T 0, 16, .inl (mth M 3))), (b0, .inl (T 0, 16, .inl (upd (fun j => nI (List.getD (xl1 (xls s0 a) k 0 (xlk (xls s0 a) a k)) j 0)) (xpa (1 + 1) 0 k) (nI (2 * List.getD (xls s0 a) k 0 + 1))))), (b1, .inl (T 0, 16, .inl (fun j => nI (List.getD (xls s0 a) j 0))))]) H := hP
                        have hD : va_D A ([(bd 0, .inr (4, [.int (nI 0), .ref (bd 1), .int (nI (mnw M)), .ref (bd 2), .ref (bd 3), .ref (bd 4), .ref (bd 5), .int (nI (mnp M)), .ref (bd 6), .ref (bd 7), .int (mle M), .int (mwy M), .int (mfc M), .int (nI (mta M))])), (bd 1, .inl (T 0, 16, .inl (mpk M))), (bd 2, .inl (T 0, 4, .inl (msh M))), (bd 3, .inl (T 3, 4, .inr (.inr (.inr (.inr (fun j => if j < 4 then some (bd (8 + j)) else none)))))), (bd 4, .inl (T 0, 4, .inl (man M))), (bd 5, .inl (T 0, 4, .inl (mgl M))), (bd 6, .inl (T 0, 4, .inl (mhb M))), (bd 7, .inl (T 0, 4, .inl (mtk M))), (bd 8, .inl (T 0, 16, .inl (mth M 0))), (bd 9, .inl (T 0, 16, .inl (mth M 1))), (bd 10, .inl (T 0, 16, .inl (mth M 2))), (bd 11, .inl (T 0, 16, .inl (mth M 3))), (b0, .inl (T 0, 16, .inl (upd (fun j => nI (List.getD (xl1 (xls s0 a) k 0 (xlk (xls s0 a) a k)) j 0)) (xpa (1 + 1) 0 k) (nI (2 * List.getD (xls s0 a) k 0 + 1))))), (b1, .inl (T 0, 16, .inl (fun j => nI (List.getD (xls s0 a) j 0))))]) := hD
                        have el1 : (xl1 (xls s0 a) k 1 (xl1 (xls s0 a) k 0 (xlk (xls s0 a) a k))) = (List.set (xl1 (xls s0 a) k 0 (xlk (xls s0 a) a k)) (xpa (1 + 1) 0 k) (2 * List.getD (xls s0 a) k 0 + 1)) := if_pos ⟨hA1, Or.inr hC1⟩
                        have eu1 := xgd_up (L := (xl1 (xls s0 a) k 0 (xlk (xls s0 a) a k))) (i := (xpa (1 + 1) 0 k)) (by rw [hln1]; exact ht1) (2 * List.getD (xls s0 a) k 0 + 1)
                        rw [eu1] at hP hD
                        rw [← el1] at hP hD
                        have hP : va_P G vwCl [(bd 0, .inr (4, [.int (nI 0), .ref (bd 1), .int (nI (mnw M)), .ref (bd 2), .ref (bd 3), .ref (bd 4), .ref (bd 5), .int (nI (mnp M)), .ref (bd 6), .ref (bd 7), .int (mle M), .int (mwy M), .int (mfc M), .int (nI (mta M))])), (bd 1, .inl (T 0, 16, .inl (mpk M))), (bd 2, .inl (T 0, 4, .inl (msh M))), (bd 3, .inl (T 3, 4, .inr (.inr (.inr (.inr (fun j => if j < 4 then some (bd (8 + j)) else none)))))), (bd 4, .inl (T 0, 4, .inl (man M))), (bd 5, .inl (T 0, 4, .inl (mgl M))), (bd 6, .inl (T 0, 4, .inl (mhb M))), (bd 7, .inl (T 0, 4, .inl (mtk M))), (bd 8, .inl (T 0, 16, .inl (mth M 0))), (bd 9, .inl (T 0, 16, .inl (mth M 1))), (bd 10, .inl (T 0, 16, .inl (mth M 2))), (bd 11, .inl (T 0, 16, .inl (mth M 3))), (b0, .inl (T 0, 16, .inl (fun j => nI (List.getD (xl1 (xls s0 a) k 1 (xl1 (xls s0 a) k 0 (xlk (xls s0 a) a k))) j 0)))), (b1, .inl (T 0, 16, .inl (fun j => nI (List.getD (xls s0 a) j 0))))] _ := hP
                        have hD : va_D A [(bd 0, .inr (4, [.int (nI 0), .ref (bd 1), .int (nI (mnw M)), .ref (bd 2), .ref (bd 3), .ref (bd 4), .ref (bd 5), .int (nI (mnp M)), .ref (bd 6), .ref (bd 7), .int (mle M), .int (mwy M), .int (mfc M), .int (nI (mta M))])), (bd 1, .inl (T 0, 16, .inl (mpk M))), (bd 2, .inl (T 0, 4, .inl (msh M))), (bd 3, .inl (T 3, 4, .inr (.inr (.inr (.inr (fun j => if j < 4 then some (bd (8 + j)) else none)))))), (bd 4, .inl (T 0, 4, .inl (man M))), (bd 5, .inl (T 0, 4, .inl (mgl M))), (bd 6, .inl (T 0, 4, .inl (mhb M))), (bd 7, .inl (T 0, 4, .inl (mtk M))), (bd 8, .inl (T 0, 16, .inl (mth M 0))), (bd 9, .inl (T 0, 16, .inl (mth M 1))), (bd 10, .inl (T 0, 16, .inl (mth M 2))), (bd 11, .inl (T 0, 16, .inl (mth M 3))), (b0, .inl (T 0, 16, .inl (fun j => nI (List.getD (xl1 (xls s0 a) k 1 (xl1 (xls s0 a) k 0 (xlk (xls s0 a) a k))) j 0)))), (b1, .inl (T 0, 16, .inl (fun j => nI (List.getD (xls s0 a) j 0))))] := hD
                        refine lv_iinc (v := nI ((0 + 1) + 1)) (lv' := [(7, .int (nI ((0 + 1) + 1))), (9, .int (nI (2 * List.getD (xls s0 a) k 0 + 1))), (8, .int (nI (xpa (1 + 1) 0 k))), (6, .int (nI k)), (5, .ref b1), (4, .int (nI a)), (3, .ref b0), (0, .ref (bd 0)), (1, .int (nI c0_)), (2, .int (nI q))]) hx hb dX4_riffles_148 hl (k := 2) rfl (x_inc _) (by decide) rfl (fun ls hl => ?_)
                        refine lv_goto (tgt := 76) hx hb dX4_riffles_151 (by decide) ?_
                        refine lv_iload hx hb dX4_riffles_76 (lv_at hl 0 rfl) ?_
                        refine lv_iconst (v := nI 2) hx hb dX4_riffles_78 (by decide) ?_
                        refine lv_icmp_ge (tgt := 154) hx hb dX4_riffles_79 (by decide) (fun _ => ?_) (fun c_ => absurd (by decide) c_)
                        refine lv_iinc (v := nI (k + 1)) (lv' := [(6, .int (nI (k + 1))), (7, .int (nI ((0 + 1) + 1))), (9, .int (nI (2 * List.getD (xls s0 a) k 0 + 1))), (8, .int (nI (xpa (1 + 1) 0 k))), (5, .ref b1), (4, .int (nI a)), (3, .ref b0), (0, .ref (bd 0)), (1, .int (nI c0_)), (2, .int (nI q))]) hx hb dX4_riffles_154 hl (k := 3) rfl (x_inc _) (by decide) rfl (fun ls hl => ?_)
                        refine lv_goto (tgt := 66) hx hb dX4_riffles_157 (by decide) ?_
                        have ek : xlk (xls s0 a) a (k + 1) = (xl1 (xls s0 a) k 1 (xl1 (xls s0 a) k 0 (xlk (xls s0 a) a k))) := by show (if _ then _ else _) = _; rw [if_pos h1]
                        rw [← ek] at hP hD
                        exact ih2 (k + 1) (by omega) (by omega) _ _ hP hD hS ls (lv_sub hl [0, 4, 5, 6, 7, 8, 9] rfl)
                      · refine lv_icmp_ge (tgt := 148) hx hb dX4_riffles_139 (by decide) (fun _ => ?_) (fun c_ => absurd (nI_le (by omega) (by omega)) c_)
                        have el1 : (xl1 (xls s0 a) k 1 (xl1 (xls s0 a) k 0 (xlk (xls s0 a) a k))) = (xl1 (xls s0 a) k 0 (xlk (xls s0 a) a k)) := if_neg (fun h => by rcases h.2 with g | g; exact hB1 g; exact hC1 g)
                        rw [← el1] at hP hD
                        have hP : va_P G vwCl [(bd 0, .inr (4, [.int (nI 0), .ref (bd 1), .int (nI (mnw M)), .ref (bd 2), .ref (bd 3), .ref (bd 4), .ref (bd 5), .int (nI (mnp M)), .ref (bd 6), .ref (bd 7), .int (mle M), .int (mwy M), .int (mfc M), .int (nI (mta M))])), (bd 1, .inl (T 0, 16, .inl (mpk M))), (bd 2, .inl (T 0, 4, .inl (msh M))), (bd 3, .inl (T 3, 4, .inr (.inr (.inr (.inr (fun j => if j < 4 then some (bd (8 + j)) else none)))))), (bd 4, .inl (T 0, 4, .inl (man M))), (bd 5, .inl (T 0, 4, .inl (mgl M))), (bd 6, .inl (T 0, 4, .inl (mhb M))), (bd 7, .inl (T 0, 4, .inl (mtk M))), (bd 8, .inl (T 0, 16, .inl (mth M 0))), (bd 9, .inl (T 0, 16, .inl (mth M 1))), (bd 10, .inl (T 0, 16, .inl (mth M 2))), (bd 11, .inl (T 0, 16, .inl (mth M 3))), (b0, .inl (T 0, 16, .inl (fun j => nI (List.getD (xl1 (xls s0 a) k 1 (xl1 (xls s0 a) k 0 (xlk (xls s0 a) a k))) j 0)))), (b1, .inl (T 0, 16, .inl (fun j => nI (List.getD (xls s0 a) j 0))))] _ := hP
                        have hD : va_D A [(bd 0, .inr (4, [.int (nI 0), .ref (bd 1), .int (nI (mnw M)), .ref (bd 2), .ref (bd 3), .ref (bd 4), .ref (bd 5), .int (nI (mnp M)), .ref (bd 6), .ref (bd 7), .int (mle M), .int (mwy M), .int (mfc M), .int (nI (mta M))])), (bd 1, .inl (T 0, 16, .inl (mpk M))), (bd 2, .inl (T 0, 4, .inl (msh M))), (bd 3, .inl (T 3, 4, .inr (.inr (.inr (.inr (fun j => if j < 4 then some (bd (8 + j)) else none)))))), (bd 4, .inl (T 0, 4, .inl (man M))), (bd 5, .inl (T 0, 4, .inl (mgl M))), (bd 6, .inl (T 0, 4, .inl (mhb M))), (bd 7, .inl (T 0, 4, .inl (mtk M))), (bd 8, .inl (T 0, 16, .inl (mth M 0))), (bd 9, .inl (T 0, 16, .inl (mth M 1))), (bd 10, .inl (T 0, 16, .inl (mth M 2))), (bd 11, .inl (T 0, 16, .inl (mth M 3))), (b0, .inl (T 0, 16, .inl (fun j => nI (List.getD (xl1 (xls s0 a) k 1 (xl1 (xls s0 a) k 0 (xlk (xls s0 a) a k))) j 0)))), (b1, .inl (T 0, 16, .inl (fun j => nI (List.getD (xls s0 a) j 0))))] := hD
                        refine lv_iinc (v := nI ((0 + 1) + 1)) (lv' := [(7, .int (nI ((0 + 1) + 1))), (9, .int (nI (2 * List.getD (xls s0 a) k 0 + 1))), (8, .int (nI (xpa (1 + 1) 0 k))), (6, .int (nI k)), (5, .ref b1), (4, .int (nI a)), (3, .ref b0), (0, .ref (bd 0)), (1, .int (nI c0_)), (2, .int (nI q))]) hx hb dX4_riffles_148 hl (k := 2) rfl (x_inc _) (by decide) rfl (fun ls hl => ?_)
                        refine lv_goto (tgt := 76) hx hb dX4_riffles_151 (by decide) ?_
                        refine lv_iload hx hb dX4_riffles_76 (lv_at hl 0 rfl) ?_
                        refine lv_iconst (v := nI 2) hx hb dX4_riffles_78 (by decide) ?_
                        refine lv_icmp_ge (tgt := 154) hx hb dX4_riffles_79 (by decide) (fun _ => ?_) (fun c_ => absurd (by decide) c_)
                        refine lv_iinc (v := nI (k + 1)) (lv' := [(6, .int (nI (k + 1))), (7, .int (nI ((0 + 1) + 1))), (9, .int (nI (2 * List.getD (xls s0 a) k 0 + 1))), (8, .int (nI (xpa (1 + 1) 0 k))), (5, .ref b1), (4, .int (nI a)), (3, .ref b0), (0, .ref (bd 0)), (1, .int (nI c0_)), (2, .int (nI q))]) hx hb dX4_riffles_154 hl (k := 3) rfl (x_inc _) (by decide) rfl (fun ls hl => ?_)
                        refine lv_goto (tgt := 66) hx hb dX4_riffles_157 (by decide) ?_
                        have ek : xlk (xls s0 a) a (k + 1) = (xl1 (xls s0 a) k 1 (xl1 (xls s0 a) k 0 (xlk (xls s0 a) a k))) := by show (if _ then _ else _) = _; rw [if_pos h1]
                        rw [← ek] at hP hD
                        exact ih2 (k + 1) (by omega) (by omega) _ _ hP hD hS ls (lv_sub hl [0, 4, 5, 6, 7, 8, 9] rfl)
                  · refine lv_if_ne (tgt := 148) hx hb dX4_riffles_123 (by decide) (fun _ => ?_) (fun c_ => absurd c_ (fun h => hA1 ((nI_eq (by omega) (by decide)).mp h)))
                    have el1 : (xl1 (xls s0 a) k 1 (xl1 (xls s0 a) k 0 (xlk (xls s0 a) a k))) = (xl1 (xls s0 a) k 0 (xlk (xls s0 a) a k)) := if_neg (fun h => hA1 h.1)
                    rw [← el1] at hP hD
                    have hP : va_P G vwCl [(bd 0, .inr (4, [.int (nI 0), .ref (bd 1), .int (nI (mnw M)), .ref (bd 2), .ref (bd 3), .ref (bd 4), .ref (bd 5), .int (nI (mnp M)), .ref (bd 6), .ref (bd 7), .int (mle M), .int (mwy M), .int (mfc M), .int (nI (mta M))])), (bd 1, .inl (T 0, 16, .inl (mpk M))), (bd 2, .inl (T 0, 4, .inl (msh M))), (bd 3, .inl (T 3, 4, .inr (.inr (.inr (.inr (fun j => if j < 4 then some (bd (8 + j)) else none)))))), (bd 4, .inl (T 0, 4, .inl (man M))), (bd 5, .inl (T 0, 4, .inl (mgl M))), (bd 6, .inl (T 0, 4, .inl (mhb M))), (bd 7, .inl (T 0, 4, .inl (mtk M))), (bd 8, .inl (T 0, 16, .inl (mth M 0))), (bd 9, .inl (T 0, 16, .inl (mth M 1))), (bd 10, .inl (T 0, 16, .inl (mth M 2))), (bd 11, .inl (T 0, 16, .inl (mth M 3))), (b0, .inl (T 0, 16, .inl (fun j => nI (List.getD (xl1 (xls s0 a) k 1 (xl1 (xls s0 a) k 0 (xlk (xls s0 a) a k))) j 0)))), (b1, .inl (T 0, 16, .inl (fun j => nI (List.getD (xls s0 a) j 0))))] _ := hP
                    have hD : va_D A [(bd 0, .inr (4, [.int (nI 0), .ref (bd 1), .int (nI (mnw M)), .ref (bd 2), .ref (bd 3), .ref (bd 4), .ref (bd 5), .int (nI (mnp M)), .ref (bd 6), .ref (bd 7), .int (mle M), .int (mwy M), .int (mfc M), .int (nI (mta M))])), (bd 1, .inl (T 0, 16, .inl (mpk M))), (bd 2, .inl (T 0, 4, .inl (msh M))), (bd 3, .inl (T 3, 4, .inr (.inr (.inr (.inr (fun j => if j < 4 then some (bd (8 + j)) else none)))))), (bd 4, .inl (T 0, 4, .inl (man M))), (bd 5, .inl (T 0, 4, .inl (mgl M))), (bd 6, .inl (T 0, 4, .inl (mhb M))), (bd 7, .inl (T 0, 4, .inl (mtk M))), (bd 8, .inl (T 0, 16, .inl (mth M 0))), (bd 9, .inl (T 0, 16, .inl (mth M 1))), (bd 10, .inl (T 0, 16, .inl (mth M 2))), (bd 11, .inl (T 0, 16, .inl (mth M 3))), (b0, .inl (T 0, 16, .inl (fun j => nI (List.getD (xl1 (xls s0 a) k 1 (xl1 (xls s0 a) k 0 (xlk (xls s0 a) a k))) j 0)))), (b1, .inl (T 0, 16, .inl (fun j => nI (List.getD (xls s0 a) j 0))))] := hD
                    refine lv_iinc (v := nI ((0 + 1) + 1)) (lv' := [(7, .int (nI ((0 + 1) + 1))), (9, .int (nI (2 * List.getD (xls s0 a) k 0 + 1))), (8, .int (nI (xpa (1 + 1) 0 k))), (6, .int (nI k)), (5, .ref b1), (4, .int (nI a)), (3, .ref b0), (0, .ref (bd 0)), (1, .int (nI c0_)), (2, .int (nI q))]) hx hb dX4_riffles_148 hl (k := 2) rfl (x_inc _) (by decide) rfl (fun ls hl => ?_)
                    refine lv_goto (tgt := 76) hx hb dX4_riffles_151 (by decide) ?_
                    refine lv_iload hx hb dX4_riffles_76 (lv_at hl 0 rfl) ?_
                    refine lv_iconst (v := nI 2) hx hb dX4_riffles_78 (by decide) ?_
                    refine lv_icmp_ge (tgt := 154) hx hb dX4_riffles_79 (by decide) (fun _ => ?_) (fun c_ => absurd (by decide) c_)
                    refine lv_iinc (v := nI (k + 1)) (lv' := [(6, .int (nI (k + 1))), (7, .int (nI ((0 + 1) + 1))), (9, .int (nI (2 * List.getD (xls s0 a) k 0 + 1))), (8, .int (nI (xpa (1 + 1) 0 k))), (5, .ref b1), (4, .int (nI a)), (3, .ref b0), (0, .ref (bd 0)), (1, .int (nI c0_)), (2, .int (nI q))]) hx hb dX4_riffles_154 hl (k := 3) rfl (x_inc _) (by decide) rfl (fun ls hl => ?_)
                    refine lv_goto (tgt := 66) hx hb dX4_riffles_157 (by decide) ?_
                    have ek : xlk (xls s0 a) a (k + 1) = (xl1 (xls s0 a) k 1 (xl1 (xls s0 a) k 0 (xlk (xls s0 a) a k))) := by show (if _ then _ else _) = _; rw [if_pos h1]
                    rw [← ek] at hP hD
                    exact ih2 (k + 1) (by omega) (by omega) _ _ hP hD hS ls (lv_sub hl [0, 4, 5, 6, 7, 8, 9] rfl)
              · refine lv_icmp_ge (tgt := 154) hx hb dX4_riffles_79 (by decide) (fun c_ => absurd c_ (by decide)) (fun _ => ?_)
                refine lv_aload hx hb dX4_riffles_82 (lv_at hl 2 rfl) ?_
                refine lv_iload hx hb dX4_riffles_84 (lv_at hl 1 rfl) ?_
                refine x_iald hx hb hK hP 13 0 (f := (fun j => nI (List.getD (xls s0 a) j 0))) (n := 16) rfl rfl hc (by decide) dX4_riffles_86 ?_
                refine x_topi (y := nI (List.getD (xls s0 a) k 0)) (rfl) ?_
                refine lv_iload hx hb dX4_riffles_87 (lv_at hl 3 rfl) ?_
                refine lv_ishr hx hb dX4_riffles_89 ?_
                refine x_topi (y := nI (List.getD (xls s0 a) k 0 / 2 ^ a)) (esh) ?_
                refine lv_iconst (v := nI 1) hx hb dX4_riffles_90 (by decide) ?_
                refine lv_icmp_ne (tgt := 154) hx hb dX4_riffles_91 (by decide) (fun _ => ?_) (fun c_ => absurd c_ (fun h => h1 ((nI_eq (by omega) (by decide)).mp h)))
                refine lv_iinc (v := nI (k + 1)) (lv' := [(6, .int (nI (k + 1))), (7, .int (nI 0)), (5, .ref b1), (4, .int (nI a)), (3, .ref b0), (0, .ref (bd 0)), (1, .int (nI c0_)), (2, .int (nI q))]) hx hb dX4_riffles_154 hl (k := 1) rfl (x_inc _) (by decide) rfl (fun ls hl => ?_)
                refine lv_goto (tgt := 66) hx hb dX4_riffles_157 (by decide) ?_
                have ek : xlk (xls s0 a) a (k + 1) = (xlk (xls s0 a) a k) := by show (if _ then _ else _) = _; rw [if_neg h1]
                rw [← ek] at hP hD
                exact ih2 (k + 1) (by omega) (by omega) _ _ hP hD hS ls (lv_sub hl [0, 2, 3, 4, 5, 6, 7] rfl)
            · obtain rfl : k = 16 := by omega
              refine lv_icmp_ge (tgt := 160) hx hb dX4_riffles_70 (by decide) (fun _ => ?_) (fun c_ => absurd (nI_le (by omega) (by omega)) c_)
              have hP : va_P G vwCl [(bd 0, .inr (4, [.int (nI 0), .ref (bd 1), .int (nI (mnw M)), .ref (bd 2), .ref (bd 3), .ref (bd 4), .ref (bd 5), .int (nI (mnp M)), .ref (bd 6), .ref (bd 7), .int (mle M), .int (mwy M), .int (mfc M), .int (nI (mta M))])), (bd 1, .inl (T 0, 16, .inl (mpk M))), (bd 2, .inl (T 0, 4, .inl (msh M))), (bd 3, .inl (T 3, 4, .inr (.inr (.inr (.inr (fun j => if j < 4 then some (bd (8 + j)) else none)))))), (bd 4, .inl (T 0, 4, .inl (man M))), (bd 5, .inl (T 0, 4, .inl (mgl M))), (bd 6, .inl (T 0, 4, .inl (mhb M))), (bd 7, .inl (T 0, 4, .inl (mtk M))), (bd 8, .inl (T 0, 16, .inl (mth M 0))), (bd 9, .inl (T 0, 16, .inl (mth M 1))), (bd 10, .inl (T 0, 16, .inl (mth M 2))), (bd 11, .inl (T 0, 16, .inl (mth M 3))), (b0, .inl (T 0, 16, .inl (fun j => nI (List.getD (xls s0 (a + 1)) j 0))))] H := hP.sub [0, 1, 2, 3, 4, 5, 6, 7, 8, 9, 10, 11, 12] rfl
              have hD : va_D A [(bd 0, .inr (4, [.int (nI 0), .ref (bd 1), .int (nI (mnw M)), .ref (bd 2), .ref (bd 3), .ref (bd 4), .ref (bd 5), .int (nI (mnp M)), .ref (bd 6), .ref (bd 7), .int (mle M), .int (mwy M), .int (mfc M), .int (nI (mta M))])), (bd 1, .inl (T 0, 16, .inl (mpk M))), (bd 2, .inl (T 0, 4, .inl (msh M))), (bd 3, .inl (T 3, 4, .inr (.inr (.inr (.inr (fun j => if j < 4 then some (bd (8 + j)) else none)))))), (bd 4, .inl (T 0, 4, .inl (man M))), (bd 5, .inl (T 0, 4, .inl (mgl M))), (bd 6, .inl (T 0, 4, .inl (mhb M))), (bd 7, .inl (T 0, 4, .inl (mtk M))), (bd 8, .inl (T 0, 16, .inl (mth M 0))), (bd 9, .inl (T 0, 16, .inl (mth M 1))), (bd 10, .inl (T 0, 16, .inl (mth M 2))), (bd 11, .inl (T 0, 16, .inl (mth M 3))), (b0, .inl (T 0, 16, .inl (fun j => nI (List.getD (xls s0 (a + 1)) j 0))))] := hD.sub [0, 1, 2, 3, 4, 5, 6, 7, 8, 9, 10, 11, 12] rfl rfl
              refine lv_iinc (v := nI (a + 1)) (lv' := [(4, .int (nI (a + 1))), (6, .int (nI 16)), (5, .ref b1), (3, .ref b0), (0, .ref (bd 0)), (1, .int (nI c0_)), (2, .int (nI q))]) hx hb dX4_riffles_160 hl (k := 2) rfl (x_inc _) (by decide) rfl (fun ls hl => ?_)
              refine lv_goto (tgt := 41) hx hb dX4_riffles_163 (by decide) ?_
              exact ih1 (a + 1) (by omega) (by omega) _ _ hP hD hS ls (lv_sub hl [0, 3, 4, 5, 6] rfl)
        · refine lv_if_ne (tgt := 166) hx hb dX4_riffles_51 (by decide) (fun _ => ?_) (fun c_ => absurd c_ (fun h => hz ((nI_eq (by omega) (by decide)).mp h)))
          refine lv_aload_n hx hb dX4_riffles_166 rfl (lv_at hl 1 rfl) ?_
          refine lv_iload_n hx hb dX4_riffles_167 rfl (lv_at hl 4 rfl) ?_
          refine x_iald hx hb hK hP 12 0 (f := (fun j => nI (List.getD (xls s0 a) j 0))) (n := 16) rfl rfl hq (by decide) dX4_riffles_168 ?_
          refine x_topi (y := nI (List.getD (xls s0 a) q 0)) (rfl) ?_
          refine lv_if_ne (tgt := 176) hx hb dX4_riffles_169 (by decide) (fun _ => ?_) (fun c_ => absurd c_ (fun h => hz ((nI_eq (by omega) (by decide)).mp h)))
          refine lv_aload_n hx hb dX4_riffles_176 rfl (lv_at hl 1 rfl) ?_
          refine lv_iload_n hx hb dX4_riffles_177 rfl (lv_at hl 4 rfl) ?_
          refine x_iald hx hb hK hP 12 0 (f := (fun j => nI (List.getD (xls s0 a) j 0))) (n := 16) rfl rfl hq (by decide) dX4_riffles_178 ?_
          refine x_topi (y := nI (List.getD (xls s0 a) q 0)) (rfl) ?_
          have ev : List.getD (xls s0 a) q 0 = xrf s0 q := by rcases ho9.1 with h | h; exact absurd h hz; exact h
          refine W.widen (k := 5) (n := 80) (by omega) (by omega) ?_
          exact W.iret (v := nI (List.getD (xls s0 a) q 0)) hx hb hr (fun t9_ ht hW => ⟨⟨nI (List.getD (xls s0 a) q 0), (nI 0), rfl, Or.inl ⟨hv12, rfl, congrArg nI ev⟩, x_at ht (hP.sub [0, 1, 2, 3, 4, 5, 6, 7, 8, 9, 10, 11] rfl)⟩, hS.F ht⟩) hS.2.2 dX4_riffles_179
    · refine lv_aload_n hx hb dX4_riffles_19 rfl (lv_at hl 0 rfl) ?_
      refine lv_iconst (v := nI 1) hx hb dX4_riffles_20 (by decide) ?_
      refine x_calliW (va_runV (As := [.int (nI 1)]) (rest := []) ⟨hx, hb, hml, hown, hts⟩ (c_X4_no l G T _ bd (nI 0) M (nI 1)) (cwV 1 hts gX4_riffles_X4_no rfl rfl rfl (by decide +kernel) ⟨Nat.le_of_ble_eq_true rfl, Nat.le_of_ble_eq_true rfl⟩) (x_preVW (wc := (xD T bd (nI 0) M)) hK hP hD hS hA hXB hZ _ _ 0 4 rfl rfl) rfl rfl hl.1 rfl (lv_room (Nat.le_of_ble_eq_true rfl)) dX4_riffles_21 ⟨Nat.le_of_ble_eq_true rfl, Nat.le_of_ble_eq_true rfl⟩) hP hD hS hA (fun _ _ _ => xd_self rfl hD) (fun r8 u8 H locs hw8 hP hD hS => ?_)
      have hP : va_P G vwCl (xD T bd (nI 1) M) H := hP
      have hD : va_D A (xD T bd (nI 1) M) := hD
      refine W.widen (k := 5) (n := 80) (by omega) (by omega) ?_
      exact W.iret (v := r8) hx hb hr (fun t9_ ht hW => ⟨⟨r8, (nI 1), rfl, Or.inr ⟨by rw [hv1, xb_of_eq hw2 c1]; rfl, rfl⟩, x_at ht hP⟩, hS.F ht⟩) hS.2.2 dX4_riffles_24
end XR8
