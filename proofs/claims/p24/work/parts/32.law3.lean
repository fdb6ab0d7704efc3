section XLW3
set_option maxHeartbeats 4000000 in
set_option maxRecDepth 100000 in
/-- the law: asking leaves the checksum -/
theorem L_ask {p : Program} {l : Launch} {e : Env} {s : State} {m : MethodId} {below : List Frame} {meth : Method} {c : Code} {G : va_G} {T : Nat → ClassId} {b L : Nat} {xs : Nat → Int32} (C0 : xLC p l s m meth c b L xs G T) (wn t n pl kd nm hn : Nat) (op : Bool) (sn xv : Int32) (q : Nat → Nat) (pk : Nat) (RR : va_W) (ad : Nat → Nat) (sc : Nat → Nat → Int32) (M : XM) (hJ : xJ M wn n) (hpl : pl < 16) (hw : xwn kd nm = true) (ce sl : Nat) (hce : ce + 130 ≤ 600130) (hsl9 : sl + 800 ≤ 7301080) (H : Heap) (locs : List Loc) (hP : va_P G vwCl (RR ++ xC T ad sc M) H) (hD : va_D (fun q : Nat => s.heap.size ≤ q) (RR ++ xC T ad sc M)) (hS : va_S (fun q : Nat => s.heap.size ≤ q) s.heap H locs) (ls : Array Slot) (hl : lv_has ls 24 [(0, .ref b), (1, .ref (ad 0)), (2, .int (nI wn)), (3, .int (nI t)), (4, .int xv), (5, .ref (q 0)), (6, .ref (q 1)), (7, .ref (q 2)), (8, .ref (q 3)), (9, .ref pk), (10, .int sn), (11, .int (nI pl)), (12, .int (xb op)), (13, .int (nI hn)), (14, .int (nI kd)), (15, .int (nI nm))]) (kk : ∀ (sc1 : Nat → Nat → Int32) (H1 : Heap) (locs1 : List Loc), va_P G vwCl (RR ++ xC T ad sc1 M) H1 → va_D (fun q : Nat => s.heap.size ≤ q) (RR ++ xC T ad sc1 M) → va_S (fun q : Nat => s.heap.size ≤ q) s.heap H1 locs1 → ∀ ls1 : Array Slot, lv_has ls1 24 [(0, .ref b), (1, .ref (ad 0)), (2, .int (nI wn)), (3, .int (nI t)), (4, .int xv), (5, .ref (q 0)), (6, .ref (q 1)), (7, .ref (q 2)), (8, .ref (q 3)), (9, .ref pk), (10, .int sn), (11, .int (nI pl)), (12, .int (xb op)), (13, .int (nI hn)), (14, .int (nI kd)), (15, .int (nI nm))] → W p l e room_1 s m #[Value.ref b] below meth c H1 locs1 (ce + 130) (sl + 800) (lw_Z below #[Value.ref b] s) (F0 m 665 ls1 [])) : W p l e room_1 s m #[Value.ref b] below meth c H locs ce sl (lw_Z below #[Value.ref b] s) (F0 m 595 ls []) := by
  obtain ⟨hx, hb, hr, hml, hown, hts, hX, hbl, hlocks, hK, hXB, hZ, hL9, hsl⟩ := C0
  have hA : ∀ q : Nat, s.heap.size ≤ q → (fun q : Nat => s.heap.size ≤ q) q := fun _ h => h
  have hbA : ¬ (fun q : Nat => s.heap.size ≤ q) b := Nat.not_le.mpr hbl
  generalize hAe : (fun q : Nat => s.heap.size ≤ q) = A at hA hbA hZ hD hS kk
  have hI := hJ.1
  have hn4 : mnw M ≤ 4 := hI.1
  have hnw : mnw M = wn := hJ.2.1
  have hnp : mnp M = 2 := hJ.2.2.1
  have hsh := hI.2.2.2.2.1
  have hsur := hI.2.2.2.1
  have hm4 : mnp M ≤ 4 := hI.2.1
  have hW4 := xJ_4 hJ
  have hob := xord_ok hw
  obtain ⟨i9, hi9, e9, -⟩ := xfp_in (hsur pl hpl)
  refine lv_aload_n hx hb dL_law_595 rfl (lv_at hl 1 rfl) ?_
  refine x_calllB (va_runV (As := []) (rest := []) ⟨hx, hb, hml, hown, hts⟩ (c_X3_digest l hsl G T _ ad sc M  hn4 hm4 hsh) (cwV 0 hts gL_law_X3_digest rfl rfl rfl (by decide +kernel) ⟨Nat.le_of_ble_eq_true rfl, Nat.le_of_ble_eq_true rfl⟩) (x_preVB (wc := (xC T ad sc M)) (wr := (RR)) hK hP hD hS hA hXB hZ _ _ 0 3 rfl rfl) rfl rfl hl.1 rfl (lv_room (Nat.le_of_ble_eq_true rfl)) dL_law_596 ⟨show ce + 59 ≤ 600130 by omega, show sl + 354 ≤ 7301080 by omega⟩) hP hD hS hA (fun _ _ _ => xd_self (xC_fst T ad sc _ M _ rfl rfl) (xd_r hD)) (fun r1 u1 H locs hw1 hP hD hS => ?_)
  have hP : va_P G vwCl (RR ++ xC T ad sc M) H := hP
  have hD : va_D A (RR ++ xC T ad sc M) := hD
  subst hw1
  refine lv_lstore (lv' := [(16, .long (xdP M (mnp M))), (0, .ref b), (1, .ref (ad 0)), (2, .int (nI wn)), (3, .int (nI t)), (4, .int xv), (5, .ref (q 0)), (6, .ref (q 1)), (7, .ref (q 2)), (8, .ref (q 3)), (9, .ref pk), (10, .int sn), (11, .int (nI pl)), (12, .int (xb op)), (13, .int (nI hn)), (14, .int (nI kd)), (15, .int (nI nm))]) hx hb dL_law_599 hl (by decide) rfl (fun ls hl => ?_)
  refine lv_aload_n hx hb dL_law_601 rfl (lv_at hl 2 rfl) ?_
  refine lv_iload hx hb dL_law_602 (lv_at hl 15 rfl) ?_
  refine lv_iload hx hb dL_law_604 (lv_at hl 16 rfl) ?_
  refine x_calliB (va_runV (As := [.int (nI kd), .int (nI nm)]) (rest := []) ⟨hx, hb, hml, hown, hts⟩ (k_back l hsl G T _ ad sc M kd nm hw) (cwV 2 hts gL_law_X3_back rfl rfl rfl (by decide +kernel) ⟨Nat.le_of_ble_eq_true rfl, Nat.le_of_ble_eq_true rfl⟩) (x_preVB (wc := (xC T ad sc M)) (wr := (RR)) hK hP hD hS hA hXB hZ _ _ 0 3 rfl rfl) rfl rfl hl.1 rfl (lv_room (Nat.le_of_ble_eq_true rfl)) dL_law_606 ⟨show (ce + 59) + 1 ≤ 600130 by omega, show (sl + 354) + 6 ≤ 7301080 by omega⟩) hP hD hS hA (fun _ _ _ => xd_self (xC_fst T ad sc _ M _ rfl rfl) (xd_r hD)) (fun r1 sc1 H locs hw1 hP hD hS => ?_)
  have hP : va_P G vwCl (RR ++ xC T ad sc1 M) H := hP
  have hD : va_D A (RR ++ xC T ad sc1 M) := hD
  subst hw1
  refine lv_iconst (v := nI 1) hx hb dL_law_609 (by decide) ?_
  refine lv_icmp_lt (tgt := 663) hx hb dL_law_610 (by decide) (fun c_ => absurd c_ (nI_nlt (by omega) (by omega))) (fun _ => ?_)
  refine lv_aload_n hx hb dL_law_613 rfl (lv_at hl 2 rfl) ?_
  refine lv_iload hx hb dL_law_614 (lv_at hl 12 rfl) ?_
  refine lv_iload hx hb dL_law_616 (lv_at hl 5 rfl) ?_
  refine lv_bipush (v := nI 7) hx hb dL_law_618 (by decide) ?_
  refine lv_ishr hx hb dL_law_620 ?_
  refine lv_bipush (v := nI 16) hx hb dL_law_621 (by decide) ?_
  refine x_calli (va_runS (As := [.int (xv >>> (nI 7 &&& 31)), .int (nI 16)]) (rest := [.int (nI pl), .ref (ad 0)]) ⟨hx, hb, hml, hown, hts⟩ (c_L_below l G T _ _ 16 (by decide) (by decide)) (va_cwS 2 hts gL_law_L_below rfl rfl rfl (by decide +kernel) ⟨Nat.le_of_ble_eq_true rfl, Nat.le_of_ble_eq_true rfl⟩) (x_preS (wc := []) hK hP hD hS hA hXB hZ [] rfl rfl _) rfl rfl hl.1 rfl (lv_room (Nat.le_of_ble_eq_true rfl)) dL_law_623 ⟨show ((ce + 59) + 1) + 0 ≤ 600130 by omega, show ((sl + 354) + 6) + 0 ≤ 7301080 by omega⟩) hP hD hS hA [] rfl (fun _ _ _ => rfl) (fun r1 u1 H locs hw1 hP hD hS => ?_)
  have hP : va_P G vwCl (RR ++ xC T ad sc1 M) H := hP
  have hD : va_D A (RR ++ xC T ad sc1 M) := hD
  obtain ⟨y1, hy1, rfl⟩ := hw1
  refine x_calliB (va_runV (As := [.int (nI pl), .int (nI y1)]) (rest := []) ⟨hx, hb, hml, hown, hts⟩ (k_bring l hsl G T _ ad sc1 M pl y1 hsur hpl hy1) (cwV 2 hts gL_law_X3_bring rfl rfl rfl (by decide +kernel) ⟨Nat.le_of_ble_eq_true rfl, Nat.le_of_ble_eq_true rfl⟩) (x_preVB (wc := (xC T ad sc1 M)) (wr := (RR)) hK hP hD hS hA hXB hZ _ _ 0 3 rfl rfl) rfl rfl hl.1 rfl (lv_room (Nat.le_of_ble_eq_true rfl)) dL_law_626 ⟨show ((ce + 59) + 1) + 2 ≤ 600130 by omega, show ((sl + 354) + 6) + 12 ≤ 7301080 by omega⟩) hP hD hS hA (fun _ _ _ => xd_self (xC_fst T ad sc1 _ M _ rfl rfl) (xd_r hD)) (fun r1 u1 H locs hw1 hP hD hS => ?_)
  have hP : va_P G vwCl (RR ++ xC T ad sc1 M) H := hP
  have hD : va_D A (RR ++ xC T ad sc1 M) := hD
  rw [e9, xka_n (by omega)] at hw1
  subst hw1
  refine lv_bipush (v := nI 16) hx hb dL_law_629 (by decide) ?_
  refine lv_icmp_gt (tgt := 663) hx hb dL_law_631 (by decide) (fun c_ => absurd c_ (nI_nlt (by have := (xbr_ok hi9 hy1).1; omega) (by decide))) (fun _ => ?_)
  refine lv_aload_n hx hb dL_law_634 rfl (lv_at hl 2 rfl) ?_
  refine lv_iload hx hb dL_law_635 (lv_at hl 12 rfl) ?_
  refine lv_iload hx hb dL_law_637 (lv_at hl 5 rfl) ?_
  refine lv_bipush (v := nI 7) hx hb dL_law_639 (by decide) ?_
  refine lv_ishr hx hb dL_law_641 ?_
  refine lv_bipush (v := nI 16) hx hb dL_law_642 (by decide) ?_
  refine x_calli (va_runS (As := [.int (xv >>> (nI 7 &&& 31)), .int (nI 16)]) (rest := [.int (nI pl), .ref (ad 0)]) ⟨hx, hb, hml, hown, hts⟩ (c_L_below l G T _ _ 16 (by decide) (by decide)) (va_cwS 2 hts gL_law_L_below rfl rfl rfl (by decide +kernel) ⟨Nat.le_of_ble_eq_true rfl, Nat.le_of_ble_eq_true rfl⟩) (x_preS (wc := []) hK hP hD hS hA hXB hZ [] rfl rfl _) rfl rfl hl.1 rfl (lv_room (Nat.le_of_ble_eq_true rfl)) dL_law_644 ⟨show (((ce + 59) + 1) + 2) + 0 ≤ 600130 by omega, show (((sl + 354) + 6) + 12) + 0 ≤ 7301080 by omega⟩) hP hD hS hA [] rfl (fun _ _ _ => rfl) (fun r1 u1 H locs hw1 hP hD hS => ?_)
  have hP : va_P G vwCl (RR ++ xC T ad sc1 M) H := hP
  have hD : va_D A (RR ++ xC T ad sc1 M) := hD
  obtain ⟨y2, hy2, rfl⟩ := hw1
  refine x_calliB (va_runV (As := [.int (nI pl), .int (nI y2)]) (rest := []) ⟨hx, hb, hml, hown, hts⟩ (k_riffles l hsl G T _ ad sc1 M pl y2 hsur hpl hy2) (cwV 2 hts gL_law_X3_riffles rfl rfl rfl (by decide +kernel) ⟨Nat.le_of_ble_eq_true rfl, Nat.le_of_ble_eq_true rfl⟩) (x_preVB (wc := (xC T ad sc1 M)) (wr := (RR)) hK hP hD hS hA hXB hZ _ _ 0 3 rfl rfl) rfl rfl hl.1 rfl (lv_room (Nat.le_of_ble_eq_true rfl)) dL_law_647 ⟨show (((ce + 59) + 1) + 2) + 2 ≤ 600130 by omega, show (((sl + 354) + 6) + 12) + 12 ≤ 7301080 by omega⟩) hP hD hS hA (fun _ _ _ => xd_self (xC_fst T ad sc1 _ M _ rfl rfl) (xd_r hD)) (fun r1 u1 H locs hw1 hP hD hS => ?_)
  have hP : va_P G vwCl (RR ++ xC T ad sc1 M) H := hP
  have hD : va_D A (RR ++ xC T ad sc1 M) := hD
  rw [e9, xka_n (by omega)] at hw1
  subst hw1
  refine lv_if_eq (tgt := 663) hx hb dL_law_650 (by decide) (fun c_ => absurd c_ (nI_ne0 (xrf_bd hi9 hy2).1 (by have := (xrf_bd hi9 hy2).2; omega))) (fun _ => ?_)
  refine lv_aload_n hx hb dL_law_653 rfl (lv_at hl 2 rfl) ?_
  refine x_calllB (va_runV (As := []) (rest := []) ⟨hx, hb, hml, hown, hts⟩ (c_X3_digest l hsl G T _ ad sc1 M  hn4 hm4 hsh) (cwV 0 hts gL_law_X3_digest rfl rfl rfl (by decide +kernel) ⟨Nat.le_of_ble_eq_true rfl, Nat.le_of_ble_eq_true rfl⟩) (x_preVB (wc := (xC T ad sc1 M)) (wr := (RR)) hK hP hD hS hA hXB hZ _ _ 0 3 rfl rfl) rfl rfl hl.1 rfl (lv_room (Nat.le_of_ble_eq_true rfl)) dL_law_654 ⟨show ((((ce + 59) + 1) + 2) + 2) + 59 ≤ 600130 by omega, show ((((sl + 354) + 6) + 12) + 12) + 354 ≤ 7301080 by omega⟩) hP hD hS hA (fun _ _ _ => xd_self (xC_fst T ad sc1 _ M _ rfl rfl) (xd_r hD)) (fun r1 u1 H locs hw1 hP hD hS => ?_)
  have hP : va_P G vwCl (RR ++ xC T ad sc1 M) H := hP
  have hD : va_D A (RR ++ xC T ad sc1 M) := hD
  subst hw1
  refine lv_lload hx hb dL_law_657 (lv_at hl 0 rfl) ?_
  refine x_lcmp0 hx hb dL_law_659 ?_
  refine lv_if_eq (tgt := 665) hx hb dL_law_660 (by decide) (fun _ => ?_) (fun c_ => absurd (rfl) c_)
  refine W.widen (k := ce + 130) (n := sl + 800) (by omega) (by omega) ?_
  exact kk sc1 _ _ hP hD hS ls (lv_sub hl [1, 2, 3, 4, 5, 6, 7, 8, 9, 10, 11, 12, 13, 14, 15, 16] rfl)

set_option maxHeartbeats 4000000 in
set_option maxRecDepth 100000 in
/-- the law: each card once, and the mean -/
theorem L_cards {p : Program} {l : Launch} {e : Env} {s : State} {m : MethodId} {below : List Frame} {meth : Method} {c : Code} {G : va_G} {T : Nat → ClassId} {b L : Nat} {xs : Nat → Int32} (C0 : xLC p l s m meth c b L xs G T) (wn t n pl kd nm hn : Nat) (op : Bool) (sn xv : Int32) (q : Nat → Nat) (pk : Nat) (RR : va_W) (ad : Nat → Nat) (sc : Nat → Nat → Int32) (M0 M : XM) (hJ : xJ M wn n) (hw1n : 1 ≤ wn) (hhn : hn < 6) (hpk : 1 < hn → ∀ k, k < 16 → mpk M k = mpk M0 k) (ce sl : Nat) (hce : ce + 64 ≤ 600130) (hsl9 : sl + 384 ≤ 7301080) (H : Heap) (locs : List Loc) (hP : va_P G vwCl (((pk, .inl (T 0, 16, .inl (xfn 16 (mpk M0)))) :: RR) ++ xC T ad sc M) H) (hD : va_D (fun q : Nat => s.heap.size ≤ q) (((pk, .inl (T 0, 16, .inl (xfn 16 (mpk M0)))) :: RR) ++ xC T ad sc M)) (hS : va_S (fun q : Nat => s.heap.size ≤ q) s.heap H locs) (ls : Array Slot) (hl : lv_has ls 24 [(0, .ref b), (1, .ref (ad 0)), (2, .int (nI wn)), (3, .int (nI t)), (4, .int xv), (5, .ref (q 0)), (6, .ref (q 1)), (7, .ref (q 2)), (8, .ref (q 3)), (9, .ref pk), (10, .int sn), (11, .int (nI pl)), (12, .int (xb op)), (13, .int (nI hn)), (14, .int (nI kd)), (15, .int (nI nm))]) (kk : ∀ (H1 : Heap) (locs1 : List Loc), va_P G vwCl (((pk, .inl (T 0, 16, .inl (xfn 16 (mpk M0)))) :: RR) ++ xC T ad sc M) H1 → va_D (fun q : Nat => s.heap.size ≤ q) (((pk, .inl (T 0, 16, .inl (xfn 16 (mpk M0)))) :: RR) ++ xC T ad sc M) → va_S (fun q : Nat => s.heap.size ≤ q) s.heap H1 locs1 → ∀ ls1 : Array Slot, lv_has ls1 24 [(0, .ref b), (1, .ref (ad 0)), (2, .int (nI wn)), (3, .int (nI t)), (4, .int xv), (5, .ref (q 0)), (6, .ref (q 1)), (7, .ref (q 2)), (8, .ref (q 3)), (9, .ref pk), (10, .int sn), (11, .int (nI pl)), (12, .int (xb op)), (13, .int (nI hn)), (14, .int (nI kd)), (15, .int (nI nm))] → W p l e room_1 s m #[Value.ref b] below meth c H1 locs1 (ce + 64) (sl + 384) (lw_Z below #[Value.ref b] s) (F0 m 763 ls1 [])) : W p l e room_1 s m #[Value.ref b] below meth c H locs ce sl (lw_Z below #[Value.ref b] s) (F0 m 665 ls []) := by
  obtain ⟨hx, hb, hr, hml, hown, hts, hX, hbl, hlocks, hK, hXB, hZ, hL9, hsl⟩ := C0
  have hA : ∀ q : Nat, s.heap.size ≤ q → (fun q : Nat => s.heap.size ≤ q) q := fun _ h => h
  have hbA : ¬ (fun q : Nat => s.heap.size ≤ q) b := Nat.not_le.mpr hbl
  generalize hAe : (fun q : Nat => s.heap.size ≤ q) = A at hA hbA hZ hD hS kk
  have hI := hJ.1
  have hn4 : mnw M ≤ 4 := hI.1
  have hnw : mnw M = wn := hJ.2.1
  have hnp : mnp M = 2 := hJ.2.2.1
  have hsh := hI.2.2.2.2.1
  have hsur := hI.2.2.2.1
  have hm4 : mnp M ≤ 4 := hI.2.1
  have hW4 := xJ_4 hJ
  refine lv_iconst (v := nI 0) hx hb dL_law_665 (by decide) ?_
  refine lv_istore (lv' := [(18, .int (nI 0)), (0, .ref b), (1, .ref (ad 0)), (2, .int (nI wn)), (3, .int (nI t)), (4, .int xv), (5, .ref (q 0)), (6, .ref (q 1)), (7, .ref (q 2)), (8, .ref (q 3)), (9, .ref pk), (10, .int sn), (11, .int (nI pl)), (12, .int (xb op)), (13, .int (nI hn)), (14, .int (nI kd)), (15, .int (nI nm))]) hx hb dL_law_666 hl (by decide) rfl (fun ls hl => ?_)
  refine lv_iconst (v := nI 0) hx hb dL_law_668 (by decide) ?_
  refine lv_istore (lv' := [(19, .int (nI 0)), (18, .int (nI 0)), (0, .ref b), (1, .ref (ad 0)), (2, .int (nI wn)), (3, .int (nI t)), (4, .int xv), (5, .ref (q 0)), (6, .ref (q 1)), (7, .ref (q 2)), (8, .ref (q 3)), (9, .ref pk), (10, .int sn), (11, .int (nI pl)), (12, .int (xb op)), (13, .int (nI hn)), (14, .int (nI kd)), (15, .int (nI nm))]) hx hb dL_law_669 hl (by decide) rfl (fun ls hl => ?_)
  refine W.widen (k := ce + 4 * 0) (n := sl + 24 * 0) (by omega) (by omega) ?_
  suffices LP1 : ∀ (n1 : Nat) (k : Nat), (k ≤ 16) → (16 < k + n1) → ∀ (H : Heap) (locs : List Loc), va_P G vwCl (((pk, .inl (T 0, 16, .inl (xfn 16 (mpk M0)))) :: RR) ++ xC T ad sc M) H → va_D A (((pk, .inl (T 0, 16, .inl (xfn 16 (mpk M0)))) :: RR) ++ xC T ad sc M) → va_S A s.heap H locs → ∀ (ls : Array Slot), lv_has ls 24 [(0, .ref b), (1, .ref (ad 0)), (2, .int (nI wn)), (3, .int (nI t)), (4, .int xv), (5, .ref (q 0)), (6, .ref (q 1)), (7, .ref (q 2)), (8, .ref (q 3)), (9, .ref pk), (10, .int sn), (11, .int (nI pl)), (12, .int (xb op)), (13, .int (nI hn)), (14, .int (nI kd)), (15, .int (nI nm)), (18, .int (xorl (mpk M) k)), (19, .int (nI k))] → W p l e room_1 s m #[Value.ref b] below meth c H locs (ce + 4 * k) (sl + 24 * k) (lw_Z below #[Value.ref b] s) (F0 m 671 ls []) from LP1 17 0 (by decide) (by decide) _ _ hP hD hS ls (lv_sub hl [2, 3, 4, 5, 6, 7, 8, 9, 10, 11, 12, 13, 14, 15, 16, 17, 1, 0] rfl)
  clear hP hD hS hl
  intro n1
  induction n1 with
  | zero => intro k hk hn1 H locs _ _ _ ls _; exfalso; omega
  | succ n1 ih1 =>
    intro k hk hn1 H locs hP hD hS ls hl
    refine lv_iload hx hb dL_law_671 (lv_at hl 17 rfl) ?_
    refine lv_bipush (v := nI 16) hx hb dL_law_673 (by decide) ?_
    by_cases hc : k < 16
    · refine lv_icmp_ge (tgt := 734) hx hb dL_law_675 (by decide) (fun c_ => absurd c_ (nI_ge hc (by omega))) (fun _ => ?_)
      have hyk : xvb 16 (mpk M k) = true := (xvb_iff (by decide)).mpr (hI.2.2.1 k hc)
      refine lv_iload hx hb dL_law_678 (lv_at hl 16 rfl) ?_
      refine lv_iconst (v := nI 1) hx hb dL_law_680 (by decide) ?_
      refine lv_aload_n hx hb dL_law_681 rfl (lv_at hl 1 rfl) ?_
      refine lv_iload hx hb dL_law_682 (lv_at hl 17 rfl) ?_
      refine x_calliB (va_runV (As := [.int (nI k)]) (rest := [.int (nI 1), .int (xorl (mpk M) k)]) ⟨hx, hb, hml, hown, hts⟩ (k_card l hsl G T _ ad sc M k hc) (cwV 1 hts gL_law_X3_card rfl rfl rfl (by decide +kernel) ⟨Nat.le_of_ble_eq_true rfl, Nat.le_of_ble_eq_true rfl⟩) (x_preVB (wc := (xC T ad sc M)) (wr := (((pk, .inl (T 0, 16, .inl (xfn 16 (mpk M0)))) :: RR))) hK hP hD hS hA hXB hZ _ _ 0 3 rfl rfl) rfl rfl hl.1 rfl (lv_room (Nat.le_of_ble_eq_true rfl)) dL_law_684 ⟨show ce + 4 * k + 1 ≤ 600130 by omega, show sl + 24 * k + 6 ≤ 7301080 by omega⟩) hP hD hS hA (fun _ _ _ => xd_self (xC_fst T ad sc _ M _ rfl rfl) (xd_r hD)) (fun r1 u1 H locs hw1 hP hD hS => ?_)
      have hP : va_P G vwCl (((pk, .inl (T 0, 16, .inl (xfn 16 (mpk M0)))) :: RR) ++ xC T ad sc M) H := hP
      have hD : va_D A (((pk, .inl (T 0, 16, .inl (xfn 16 (mpk M0)))) :: RR) ++ xC T ad sc M) := hD
      subst hw1
      refine lv_ishl hx hb dL_law_687 ?_
      refine lv_ior hx hb dL_law_688 ?_
      refine lv_istore (lv' := [(18, .int (xorl (mpk M) k ||| (nI 1 <<< ((mpk M k) &&& 31)))), (0, .ref b), (1, .ref (ad 0)), (2, .int (nI wn)), (3, .int (nI t)), (4, .int xv), (5, .ref (q 0)), (6, .ref (q 1)), (7, .ref (q 2)), (8, .ref (q 3)), (9, .ref pk), (10, .int sn), (11, .int (nI pl)), (12, .int (xb op)), (13, .int (nI hn)), (14, .int (nI kd)), (15, .int (nI nm)), (19, .int (nI k))]) hx hb dL_law_689 hl (by decide) rfl (fun ls hl => ?_)
      refine lv_aload_n hx hb dL_law_691 rfl (lv_at hl 2 rfl) ?_
      refine lv_aload_n hx hb dL_law_692 rfl (lv_at hl 2 rfl) ?_
      refine lv_iload hx hb dL_law_693 (lv_at hl 17 rfl) ?_
      refine x_calliB (va_runV (As := [.int (nI k)]) (rest := [.ref (ad 0)]) ⟨hx, hb, hml, hown, hts⟩ (k_card l hsl G T _ ad sc M k hc) (cwV 1 hts gL_law_X3_card rfl rfl rfl (by decide +kernel) ⟨Nat.le_of_ble_eq_true rfl, Nat.le_of_ble_eq_true rfl⟩) (x_preVB (wc := (xC T ad sc M)) (wr := (((pk, .inl (T 0, 16, .inl (xfn 16 (mpk M0)))) :: RR))) hK hP hD hS hA hXB hZ _ _ 0 3 rfl rfl) rfl rfl hl.1 rfl (lv_room (Nat.le_of_ble_eq_true rfl)) dL_law_695 ⟨show (ce + 4 * k + 1) + 1 ≤ 600130 by omega, show (sl + 24 * k + 6) + 6 ≤ 7301080 by omega⟩) hP hD hS hA (fun _ _ _ => xd_self (xC_fst T ad sc _ M _ rfl rfl) (xd_r hD)) (fun r1 u1 H locs hw1 hP hD hS => ?_)
      have hP : va_P G vwCl (((pk, .inl (T 0, 16, .inl (xfn 16 (mpk M0)))) :: RR) ++ xC T ad sc M) H := hP
      have hD : va_D A (((pk, .inl (T 0, 16, .inl (xfn 16 (mpk M0)))) :: RR) ++ xC T ad sc M) := hD
      subst hw1
      refine x_calliB (va_runV (As := [.int (mpk M k)]) (rest := []) ⟨hx, hb, hml, hown, hts⟩ (k_find l hsl G T _ ad sc M (mpk M k) hyk) (cwV 1 hts gL_law_X3_find rfl rfl rfl (by decide +kernel) ⟨Nat.le_of_ble_eq_true rfl, Nat.le_of_ble_eq_true rfl⟩) (x_preVB (wc := (xC T ad sc M)) (wr := (((pk, .inl (T 0, 16, .inl (xfn 16 (mpk M0)))) :: RR))) hK hP hD hS hA hXB hZ _ _ 0 3 rfl rfl) rfl rfl hl.1 rfl (lv_room (Nat.le_of_ble_eq_true rfl)) dL_law_698 ⟨show ((ce + 4 * k + 1) + 1) + 1 ≤ 600130 by omega, show ((sl + 24 * k + 6) + 6) + 6 ≤ 7301080 by omega⟩) hP hD hS hA (fun _ _ _ => xd_self (xC_fst T ad sc _ M _ rfl rfl) (xd_r hD)) (fun r1 u1 H locs hw1 hP hD hS => ?_)
      have hP : va_P G vwCl (((pk, .inl (T 0, 16, .inl (xfn 16 (mpk M0)))) :: RR) ++ xC T ad sc M) H := hP
      have hD : va_D A (((pk, .inl (T 0, 16, .inl (xfn 16 (mpk M0)))) :: RR) ++ xC T ad sc M) := hD
      rw [xfind_ok hJ hc] at hw1
      subst hw1
      refine lv_iload hx hb dL_law_701 (lv_at hl 17 rfl) ?_
      refine lv_icmp_ne (tgt := 726) hx hb dL_law_703 (by decide) (fun c_ => absurd (rfl) c_) (fun _ => ?_)
      refine lv_iload hx hb dL_law_706 (lv_at hl 14 rfl) ?_
      refine lv_iconst (v := nI 1) hx hb dL_law_708 (by decide) ?_
      by_cases h1 : hn ≤ 1
      · refine lv_icmp_le (tgt := 728) hx hb dL_law_709 (by decide) (fun _ => ?_) (fun c_ => absurd (nI_le h1 (by decide)) c_)
        refine lv_iinc (v := nI (k + 1)) (lv' := [(19, .int (nI (k + 1))), (18, .int (xorl (mpk M) k ||| (nI 1 <<< ((mpk M k) &&& 31)))), (0, .ref b), (1, .ref (ad 0)), (2, .int (nI wn)), (3, .int (nI t)), (4, .int xv), (5, .ref (q 0)), (6, .ref (q 1)), (7, .ref (q 2)), (8, .ref (q 3)), (9, .ref pk), (10, .int sn), (11, .int (nI pl)), (12, .int (xb op)), (13, .int (nI hn)), (14, .int (nI kd)), (15, .int (nI nm))]) hx hb dL_law_728 hl (k := 17) rfl (x_inc _) (by decide) rfl (fun ls hl => ?_)
        refine lv_goto (tgt := 671) hx hb dL_law_731 (by decide) ?_
        refine W.widen (k := ce + 4 * (k + 1)) (n := sl + 24 * (k + 1)) (by omega) (by omega) ?_
        exact ih1 (k + 1) (by omega) (by omega) _ _ hP hD hS ls (lv_sub hl [2, 3, 4, 5, 6, 7, 8, 9, 10, 11, 12, 13, 14, 15, 16, 17, 1, 0] rfl)
      · refine lv_icmp_le (tgt := 728) hx hb dL_law_709 (by decide) (fun c_ => absurd c_ (nI_ge (by omega) (by omega))) (fun _ => ?_)
        refine lv_aload_n hx hb dL_law_712 rfl (lv_at hl 2 rfl) ?_
        refine lv_iload hx hb dL_law_713 (lv_at hl 17 rfl) ?_
        refine x_calliB (va_runV (As := [.int (nI k)]) (rest := []) ⟨hx, hb, hml, hown, hts⟩ (k_card l hsl G T _ ad sc M k hc) (cwV 1 hts gL_law_X3_card rfl rfl rfl (by decide +kernel) ⟨Nat.le_of_ble_eq_true rfl, Nat.le_of_ble_eq_true rfl⟩) (x_preVB (wc := (xC T ad sc M)) (wr := (((pk, .inl (T 0, 16, .inl (xfn 16 (mpk M0)))) :: RR))) hK hP hD hS hA hXB hZ _ _ 0 3 rfl rfl) rfl rfl hl.1 rfl (lv_room (Nat.le_of_ble_eq_true rfl)) dL_law_715 ⟨show (((ce + 4 * k + 1) + 1) + 1) + 1 ≤ 600130 by omega, show (((sl + 24 * k + 6) + 6) + 6) + 6 ≤ 7301080 by omega⟩) hP hD hS hA (fun _ _ _ => xd_self (xC_fst T ad sc _ M _ rfl rfl) (xd_r hD)) (fun r1 u1 H locs hw1 hP hD hS => ?_)
        have hP : va_P G vwCl (((pk, .inl (T 0, 16, .inl (xfn 16 (mpk M0)))) :: RR) ++ xC T ad sc M) H := hP
        have hD : va_D A (((pk, .inl (T 0, 16, .inl (xfn 16 (mpk M0)))) :: RR) ++ xC T ad sc M) := hD
        subst hw1
        refine lv_aload hx hb dL_law_718 (lv_at hl 10 rfl) ?_
        refine lv_iload hx hb dL_law_720 (lv_at hl 17 rfl) ?_
        refine x_iald hx hb hK hP (0) 0 (f := (xfn 16 (mpk M0))) (n := 16) rfl rfl hc (by decide) dL_law_722 ?_
        refine x_topi (y := mpk M0 k) (xfn_at _ hc) ?_
        refine lv_icmp_eq (tgt := 728) hx hb dL_law_723 (by decide) (fun _ => ?_) (fun c_ => absurd (hpk (by omega) k hc) c_)
        refine lv_iinc (v := nI (k + 1)) (lv' := [(19, .int (nI (k + 1))), (18, .int (xorl (mpk M) k ||| (nI 1 <<< ((mpk M k) &&& 31)))), (0, .ref b), (1, .ref (ad 0)), (2, .int (nI wn)), (3, .int (nI t)), (4, .int xv), (5, .ref (q 0)), (6, .ref (q 1)), (7, .ref (q 2)), (8, .ref (q 3)), (9, .ref pk), (10, .int sn), (11, .int (nI pl)), (12, .int (xb op)), (13, .int (nI hn)), (14, .int (nI kd)), (15, .int (nI nm))]) hx hb dL_law_728 hl (k := 17) rfl (x_inc _) (by decide) rfl (fun ls hl => ?_)
        refine lv_goto (tgt := 671) hx hb dL_law_731 (by decide) ?_
        refine W.widen (k := ce + 4 * (k + 1)) (n := sl + 24 * (k + 1)) (by omega) (by omega) ?_
        exact ih1 (k + 1) (by omega) (by omega) _ _ hP hD hS ls (lv_sub hl [2, 3, 4, 5, 6, 7, 8, 9, 10, 11, 12, 13, 14, 15, 16, 17, 1, 0] rfl)
    · refine lv_icmp_ge (tgt := 734) hx hb dL_law_675 (by decide) (fun _ => ?_) (fun c_ => absurd (nI_le (by omega) (by omega)) c_)
      have ek : k = 16 := by omega
      subst ek
      refine lv_iload hx hb dL_law_734 (lv_at hl 16 rfl) ?_
      refine lv_ldc (v := nI 65535) hx hb hown (hts (.constant RL 89 (65535)) (by decide +kernel)) dL_law_736 ?_
      refine lv_icmp_ne (tgt := 761) hx hb dL_law_738 (by decide) (fun c_ => absurd (xorl_all hI.2.2.1 hsur) c_) (fun _ => ?_)
      refine lv_aload_n hx hb dL_law_741 rfl (lv_at hl 1 rfl) ?_
      refine x_calldB (va_runV (As := []) (rest := []) ⟨hx, hb, hml, hown, hts⟩ (c_X3_mean l G T _ ad sc M  hn4 (fun v hv j hj => (hI.2.2.2.2.2.1 v hv j hj).1)) (cwV 0 hts gL_law_X3_mean rfl rfl rfl (by decide +kernel) ⟨Nat.le_of_ble_eq_true rfl, Nat.le_of_ble_eq_true rfl⟩) (x_preVB (wc := (xC T ad sc M)) (wr := (((pk, .inl (T 0, 16, .inl (xfn 16 (mpk M0)))) :: RR))) hK hP hD hS hA hXB hZ _ _ 0 3 rfl rfl) rfl rfl hl.1 rfl (lv_room (Nat.le_of_ble_eq_true rfl)) dL_law_742 ⟨show (ce + 4 * 16) + 0 ≤ 600130 by omega, show (sl + 24 * 16) + 0 ≤ 7301080 by omega⟩) hP hD hS hA (fun _ _ _ => xd_self (xC_fst T ad sc _ M _ rfl rfl) (xd_r hD)) (fun r1 u1 H locs hw1 hP hD hS => ?_)
      have hP : va_P G vwCl (((pk, .inl (T 0, 16, .inl (xfn 16 (mpk M0)))) :: RR) ++ xC T ad sc M) H := hP
      have hD : va_D A (((pk, .inl (T 0, 16, .inl (xfn 16 (mpk M0)))) :: RR) ++ xC T ad sc M) := hD
      subst hw1
      refine lv_dconst1 hx hb dL_law_745 ?_
      obtain ⟨m1, m2⟩ := xmean_bd hn4 (by omega) hI.2.2.2.2.2.1
      refine lv_dcmp hx hb dL_law_746 ?_
      refine lv_if_lt (tgt := 761) hx hb dL_law_747 (by decide) (fun c_ => absurd c_ (m1)) (fun _ => ?_)
      refine lv_aload_n hx hb dL_law_750 rfl (lv_at hl 1 rfl) ?_
      refine x_calldB (va_runV (As := []) (rest := []) ⟨hx, hb, hml, hown, hts⟩ (c_X3_mean l G T _ ad sc M  hn4 (fun v hv j hj => (hI.2.2.2.2.2.1 v hv j hj).1)) (cwV 0 hts gL_law_X3_mean rfl rfl rfl (by decide +kernel) ⟨Nat.le_of_ble_eq_true rfl, Nat.le_of_ble_eq_true rfl⟩) (x_preVB (wc := (xC T ad sc M)) (wr := (((pk, .inl (T 0, 16, .inl (xfn 16 (mpk M0)))) :: RR))) hK hP hD hS hA hXB hZ _ _ 0 3 rfl rfl) rfl rfl hl.1 rfl (lv_room (Nat.le_of_ble_eq_true rfl)) dL_law_751 ⟨show (ce + 4 * 16) + 0 ≤ 600130 by omega, show (sl + 24 * 16) + 0 ≤ 7301080 by omega⟩) hP hD hS hA (fun _ _ _ => xd_self (xC_fst T ad sc _ M _ rfl rfl) (xd_r hD)) (fun r1 u1 H locs hw1 hP hD hS => ?_)
      have hP : va_P G vwCl (((pk, .inl (T 0, 16, .inl (xfn 16 (mpk M0)))) :: RR) ++ xC T ad sc M) H := hP
      have hD : va_D A (((pk, .inl (T 0, 16, .inl (xfn 16 (mpk M0)))) :: RR) ++ xC T ad sc M) := hD
      subst hw1
      refine lv_ldc2d (v := 4625196817309499392) hx hb hown (hts (.constantDouble RL 94 4625196817309499392) (by decide +kernel)) dL_law_754 ?_
      refine lv_dcmp hx hb dL_law_757 ?_
      refine lv_if_le (tgt := 763) hx hb dL_law_758 (by decide) (fun _ => ?_) (fun c_ => absurd (m2) c_)
      refine W.widen (k := ce + 64) (n := sl + 384) (by omega) (by omega) ?_
      exact kk _ _ hP hD hS ls (lv_sub hl [0, 1, 2, 3, 4, 5, 6, 7, 8, 9, 10, 11, 12, 13, 14, 15] rfl)
end XLW3
