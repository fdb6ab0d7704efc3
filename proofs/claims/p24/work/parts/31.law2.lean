section XLW2
set_option maxHeartbeats 4000000 in
set_option maxRecDepth 100000 in
/-- the law: a way -/
theorem L_go {p : Program} {l : Launch} {e : Env} {s : State} {m : MethodId} {below : List Frame} {meth : Method} {c : Code} {G : va_G} {T : Nat → ClassId} {b L : Nat} {xs : Nat → Int32} (C0 : xLC p l s m meth c b L xs G T) (wn t n pl kd nm hn : Nat) (op : Bool) (xv : Int32) (q : Nat → Nat) (pk : Nat) (RR : va_W) (ad : Nat → Nat) (sc : Nat → Nat → Int32) (M : XM) (hJ : xJ M wn n) (hn5 : n + 2 ≤ 512) (hpl : pl < 16) (hw : xwn kd nm = true) (h2 : hn < 2) (ce sl : Nat) (hce : ce + 50 ≤ 600130) (hsl9 : sl + 300 ≤ 7301080) (H : Heap) (locs : List Loc) (hP : va_P G vwCl (((pk, .inl (T 0, 16, .inl (xfn 16 (mpk M)))) :: RR) ++ xC T ad sc M) H) (hD : va_D (fun q : Nat => s.heap.size ≤ q) (((pk, .inl (T 0, 16, .inl (xfn 16 (mpk M)))) :: RR) ++ xC T ad sc M)) (hS : va_S (fun q : Nat => s.heap.size ≤ q) s.heap H locs) (ls : Array Slot) (hl : lv_has ls 24 [(0, .ref b), (1, .ref (ad 0)), (2, .int (nI wn)), (3, .int (nI t)), (4, .int xv), (5, .ref (q 0)), (6, .ref (q 1)), (7, .ref (q 2)), (8, .ref (q 3)), (9, .ref pk), (10, .int (-1)), (11, .int (nI pl)), (12, .int (xb op)), (13, .int (nI hn)), (14, .int (nI kd)), (15, .int (nI nm))]) (kk : ∀ (sc1 : Nat → Nat → Int32) (M1 : XM) (sn1 : Int32) (H1 : Heap) (locs1 : List Loc), xJ M1 wn (n + 2) → xRl hn op sn1 pl kd nm wn M M1 → va_P G vwCl (((pk, .inl (T 0, 16, .inl (xfn 16 (mpk M)))) :: RR) ++ xC T ad sc1 M1) H1 → va_D (fun q : Nat => s.heap.size ≤ q) (((pk, .inl (T 0, 16, .inl (xfn 16 (mpk M)))) :: RR) ++ xC T ad sc1 M1) → va_S (fun q : Nat => s.heap.size ≤ q) s.heap H1 locs1 → ∀ ls1 : Array Slot, lv_has ls1 24 [(0, .ref b), (1, .ref (ad 0)), (2, .int (nI wn)), (3, .int (nI t)), (4, .int xv), (5, .ref (q 0)), (6, .ref (q 1)), (7, .ref (q 2)), (8, .ref (q 3)), (9, .ref pk), (10, .int sn1), (11, .int (nI pl)), (12, .int (xb op)), (13, .int (nI hn)), (14, .int (nI kd)), (15, .int (nI nm))] → W p l e room_1 s m #[Value.ref b] below meth c H1 locs1 (ce + 50) (sl + 300) (lw_Z below #[Value.ref b] s) (F0 m 595 ls1 [])) : W p l e room_1 s m #[Value.ref b] below meth c H locs ce sl (lw_Z below #[Value.ref b] s) (F0 m 364 ls []) := by
  obtain ⟨hx, hb, hr, hml, hown, hts, hX, hbl, hlocks, hK, hXB, hZ, hL9, hsl⟩ := C0
  have hA : ∀ q : Nat, s.heap.size ≤ q → (fun q : Nat => s.heap.size ≤ q) q := fun _ h => h
  have hbA : ¬ (fun q : Nat => s.heap.size ≤ q) b := Nat.not_le.mpr hbl
  generalize hAe : (fun q : Nat => s.heap.size ≤ q) = A at hA hbA hZ hD hS kk
  have hI := hJ.1
  have hn4 : mnw M ≤ 4 := hI.1
  have hnw : mnw M = wn := hJ.2.1
  have hnp : mnp M = 2 := hJ.2.2.1
  have hsh := hI.2.2.2.2.1
  have hsur := hI.2.2.2.1
  have hm4 : mnp M ≤ 4 := hI.2.1
  have hW4 := xJ_4 hJ
  refine lv_aload_n hx hb dL_law_364 rfl (lv_at hl 1 rfl) ?_
  refine lv_iload hx hb dL_law_365 (lv_at hl 14 rfl) ?_
  refine lv_iload hx hb dL_law_367 (lv_at hl 15 rfl) ?_
  refine lv_iload hx hb dL_law_369 (lv_at hl 12 rfl) ?_
  refine x_calliB (va_runV (As := [.int (nI kd), .int (nI nm), .int (xb op)]) (rest := []) ⟨hx, hb, hml, hown, hts⟩ (k_go l hsl G T _ ad sc M kd nm (xb op) hn4 hw) (cwV 3 hts gL_law_X3_go rfl rfl rfl (by decide +kernel) ⟨Nat.le_of_ble_eq_true rfl, Nat.le_of_ble_eq_true rfl⟩) (x_preVB (wc := (xC T ad sc M)) (wr := (((pk, .inl (T 0, 16, .inl (xfn 16 (mpk M)))) :: RR))) hK hP hD hS hA hXB hZ _ _ 0 3 rfl rfl) rfl rfl hl.1 rfl (lv_room (Nat.le_of_ble_eq_true rfl)) dL_law_371 ⟨show ce + 1 ≤ 600130 by omega, show sl + 6 ≤ 7301080 by omega⟩) hP hD hS hA (fun _ _ _ => xd_self (xC_fst T ad sc _ M _ rfl rfl) (xd_r hD)) (fun r1 sc1 H locs hw1 hP hD hS => ?_)
  have hP : va_P G vwCl (((pk, .inl (T 0, 16, .inl (xfn 16 (mpk M)))) :: RR) ++ xC T ad sc1 (xMgo M kd nm (xb op))) H := hP
  have hD : va_D A (((pk, .inl (T 0, 16, .inl (xfn 16 (mpk M)))) :: RR) ++ xC T ad sc1 (xMgo M kd nm (xb op))) := hD
  subst hw1
  refine lv_aload_n hx hb dL_law_374 rfl (lv_at hl 1 rfl) ?_
  refine lv_iconst (v := nI 0) hx hb dL_law_375 (by decide) ?_
  refine x_calliB (va_runV (As := [.int (nI 0)]) (rest := [.int (mpk M (xpb kd nm 0))]) ⟨hx, hb, hml, hown, hts⟩ (k_card l hsl G T _ ad sc1 (xMgo M kd nm (xb op)) 0 (by decide)) (cwV 1 hts gL_law_X3_card rfl rfl rfl (by decide +kernel) ⟨Nat.le_of_ble_eq_true rfl, Nat.le_of_ble_eq_true rfl⟩) (x_preVB (wc := (xC T ad sc1 (xMgo M kd nm (xb op)))) (wr := (((pk, .inl (T 0, 16, .inl (xfn 16 (mpk M)))) :: RR))) hK hP hD hS hA hXB hZ _ _ 0 3 rfl rfl) rfl rfl hl.1 rfl (lv_room (Nat.le_of_ble_eq_true rfl)) dL_law_376 ⟨show (ce + 1) + 1 ≤ 600130 by omega, show (sl + 6) + 6 ≤ 7301080 by omega⟩) hP hD hS hA (fun _ _ _ => xd_self (xC_fst T ad sc1 _ (xMgo M kd nm (xb op)) _ rfl rfl) (xd_r hD)) (fun r1 u1 H locs hw1 hP hD hS => ?_)
  have hP : va_P G vwCl (((pk, .inl (T 0, 16, .inl (xfn 16 (mpk M)))) :: RR) ++ xC T ad sc1 (xMgo M kd nm (xb op))) H := hP
  have hD : va_D A (((pk, .inl (T 0, 16, .inl (xfn 16 (mpk M)))) :: RR) ++ xC T ad sc1 (xMgo M kd nm (xb op))) := hD
  subst hw1
  refine lv_icmp_eq (tgt := 384) hx hb dL_law_379 (by decide) (fun _ => ?_) (fun c_ => absurd (rfl) c_)
  refine lv_iconst (v := nI 0) hx hb dL_law_384 (by decide) ?_
  refine lv_istore (lv' := [(16, .int (nI 0)), (0, .ref b), (1, .ref (ad 0)), (2, .int (nI wn)), (3, .int (nI t)), (4, .int xv), (5, .ref (q 0)), (6, .ref (q 1)), (7, .ref (q 2)), (8, .ref (q 3)), (9, .ref pk), (10, .int (-1)), (11, .int (nI pl)), (12, .int (xb op)), (13, .int (nI hn)), (14, .int (nI kd)), (15, .int (nI nm))]) hx hb dL_law_385 hl (by decide) rfl (fun ls hl => ?_)
  refine W.widen (k := ce + 2 + 3 * 0) (n := sl + 12 + 18 * 0) (by omega) (by omega) ?_
  suffices LP1 : ∀ (n1 : Nat) (k : Nat), (k ≤ 16) → (16 < k + n1) → ∀ (H : Heap) (locs : List Loc), va_P G vwCl (((pk, .inl (T 0, 16, .inl (xfn 16 (mpk M)))) :: RR) ++ xC T ad sc1 (xMgo M kd nm (xb op))) H → va_D A (((pk, .inl (T 0, 16, .inl (xfn 16 (mpk M)))) :: RR) ++ xC T ad sc1 (xMgo M kd nm (xb op))) → va_S A s.heap H locs → ∀ (ls : Array Slot), lv_has ls 24 [(0, .ref b), (1, .ref (ad 0)), (2, .int (nI wn)), (3, .int (nI t)), (4, .int xv), (5, .ref (q 0)), (6, .ref (q 1)), (7, .ref (q 2)), (8, .ref (q 3)), (9, .ref pk), (10, .int (-1)), (11, .int (nI pl)), (12, .int (xb op)), (13, .int (nI hn)), (14, .int (nI kd)), (15, .int (nI nm)), (16, .int (nI k))] → W p l e room_1 s m #[Value.ref b] below meth c H locs (ce + 2 + 3 * k) (sl + 12 + 18 * k) (lw_Z below #[Value.ref b] s) (F0 m 387 ls []) from LP1 17 0 (by decide) (by decide) _ _ hP hD hS ls (lv_sub hl [1, 2, 3, 4, 5, 6, 7, 8, 9, 10, 11, 12, 13, 14, 15, 16, 0] rfl)
  clear hP hD hS hl
  intro n1
  induction n1 with
  | zero => intro k hk hn1 H locs _ _ _ ls _; exfalso; omega
  | succ n1 ih1 =>
    intro k hk hn1 H locs hP hD hS ls hl
    refine lv_iload hx hb dL_law_387 (lv_at hl 16 rfl) ?_
    refine lv_bipush (v := nI 16) hx hb dL_law_389 (by decide) ?_
    by_cases hc : k < 16
    · refine lv_icmp_ge (tgt := 424) hx hb dL_law_391 (by decide) (fun c_ => absurd c_ (nI_ge hc (by omega))) (fun _ => ?_)
      refine lv_aload_n hx hb dL_law_394 rfl (lv_at hl 1 rfl) ?_
      refine lv_aload_n hx hb dL_law_395 rfl (lv_at hl 1 rfl) ?_
      refine lv_iload hx hb dL_law_396 (lv_at hl 14 rfl) ?_
      refine lv_iload hx hb dL_law_398 (lv_at hl 15 rfl) ?_
      refine lv_iload hx hb dL_law_400 (lv_at hl 16 rfl) ?_
      refine x_calliB (va_runV (As := [.int (nI kd), .int (nI nm), .int (nI k)]) (rest := [.ref (ad 0)]) ⟨hx, hb, hml, hown, hts⟩ (k_comes l hsl G T _ ad sc1 (xMgo M kd nm (xb op)) kd nm k hw hc) (cwV 3 hts gL_law_X3_comes rfl rfl rfl (by decide +kernel) ⟨Nat.le_of_ble_eq_true rfl, Nat.le_of_ble_eq_true rfl⟩) (x_preVB (wc := (xC T ad sc1 (xMgo M kd nm (xb op)))) (wr := (((pk, .inl (T 0, 16, .inl (xfn 16 (mpk M)))) :: RR))) hK hP hD hS hA hXB hZ _ _ 0 3 rfl rfl) rfl rfl hl.1 rfl (lv_room (Nat.le_of_ble_eq_true rfl)) dL_law_402 ⟨show ce + 2 + 3 * k + 2 ≤ 600130 by omega, show sl + 12 + 18 * k + 12 ≤ 7301080 by omega⟩) hP hD hS hA (fun _ _ _ => xd_self (xC_fst T ad sc1 _ (xMgo M kd nm (xb op)) _ rfl rfl) (xd_r hD)) (fun r1 u1 H locs hw1 hP hD hS => ?_)
      have hP : va_P G vwCl (((pk, .inl (T 0, 16, .inl (xfn 16 (mpk M)))) :: RR) ++ xC T ad sc1 (xMgo M kd nm (xb op))) H := hP
      have hD : va_D A (((pk, .inl (T 0, 16, .inl (xfn 16 (mpk M)))) :: RR) ++ xC T ad sc1 (xMgo M kd nm (xb op))) := hD
      subst hw1
      refine x_calliB (va_runV (As := [.int (nI (xpa kd nm k))]) (rest := []) ⟨hx, hb, hml, hown, hts⟩ (k_card l hsl G T _ ad sc1 (xMgo M kd nm (xb op)) (xpa kd nm k) (xway hw hc).1) (cwV 1 hts gL_law_X3_card rfl rfl rfl (by decide +kernel) ⟨Nat.le_of_ble_eq_true rfl, Nat.le_of_ble_eq_true rfl⟩) (x_preVB (wc := (xC T ad sc1 (xMgo M kd nm (xb op)))) (wr := (((pk, .inl (T 0, 16, .inl (xfn 16 (mpk M)))) :: RR))) hK hP hD hS hA hXB hZ _ _ 0 3 rfl rfl) rfl rfl hl.1 rfl (lv_room (Nat.le_of_ble_eq_true rfl)) dL_law_405 ⟨show (ce + 2 + 3 * k + 2) + 1 ≤ 600130 by omega, show (sl + 12 + 18 * k + 12) + 6 ≤ 7301080 by omega⟩) hP hD hS hA (fun _ _ _ => xd_self (xC_fst T ad sc1 _ (xMgo M kd nm (xb op)) _ rfl rfl) (xd_r hD)) (fun r1 u1 H locs hw1 hP hD hS => ?_)
      have hP : va_P G vwCl (((pk, .inl (T 0, 16, .inl (xfn 16 (mpk M)))) :: RR) ++ xC T ad sc1 (xMgo M kd nm (xb op))) H := hP
      have hD : va_D A (((pk, .inl (T 0, 16, .inl (xfn 16 (mpk M)))) :: RR) ++ xC T ad sc1 (xMgo M kd nm (xb op))) := hD
      subst hw1
      refine lv_aload hx hb dL_law_408 (lv_at hl 9 rfl) ?_
      refine lv_iload hx hb dL_law_410 (lv_at hl 16 rfl) ?_
      refine x_iald hx hb hK hP (0) 0 (f := (xfn 16 (mpk M))) (n := 16) rfl rfl hc (by decide) dL_law_412 ?_
      refine x_topi (y := mpk M k) (xfn_at _ hc) ?_
      refine lv_icmp_eq (tgt := 418) hx hb dL_law_413 (by decide) (fun _ => ?_) (fun c_ => absurd (show mpk M (xpb kd nm (xpa kd nm k)) = mpk M k by rw [(xway hw hc).2.2.2]) c_)
      refine lv_iinc (v := nI (k + 1)) (lv' := [(16, .int (nI (k + 1))), (0, .ref b), (1, .ref (ad 0)), (2, .int (nI wn)), (3, .int (nI t)), (4, .int xv), (5, .ref (q 0)), (6, .ref (q 1)), (7, .ref (q 2)), (8, .ref (q 3)), (9, .ref pk), (10, .int (-1)), (11, .int (nI pl)), (12, .int (xb op)), (13, .int (nI hn)), (14, .int (nI kd)), (15, .int (nI nm))]) hx hb dL_law_418 hl (k := 16) rfl (x_inc _) (by decide) rfl (fun ls hl => ?_)
      refine lv_goto (tgt := 387) hx hb dL_law_421 (by decide) ?_
      refine W.widen (k := ce + 2 + 3 * (k + 1)) (n := sl + 12 + 18 * (k + 1)) (by omega) (by omega) ?_
      exact ih1 (k + 1) (by omega) (by omega) _ _ hP hD hS ls (lv_sub hl [1, 2, 3, 4, 5, 6, 7, 8, 9, 10, 11, 12, 13, 14, 15, 16, 0] rfl)
    · refine lv_icmp_ge (tgt := 424) hx hb dL_law_391 (by decide) (fun _ => ?_) (fun c_ => absurd (nI_le (by omega) (by omega)) c_)
      refine lv_goto (tgt := 595) hx hb dL_law_424 (by decide) ?_
      refine W.widen (k := ce + 50) (n := sl + 300) (by omega) (by omega) ?_
      exact kk sc1 _ _ _ _ (xJ_s (xJ_go hJ (by omega) hw (xb op)) (by omega)) (xR_go hJ hw op h2 pl) hP hD hS ls (lv_sub hl [0, 1, 2, 3, 4, 5, 6, 7, 8, 9, 10, 11, 12, 13, 14, 15] rfl)

set_option maxHeartbeats 4000000 in
set_option maxRecDepth 100000 in
/-- the law: a false cut -/
theorem L_fc {p : Program} {l : Launch} {e : Env} {s : State} {m : MethodId} {below : List Frame} {meth : Method} {c : Code} {G : va_G} {T : Nat → ClassId} {b L : Nat} {xs : Nat → Int32} (C0 : xLC p l s m meth c b L xs G T) (wn t n pl kd nm hn : Nat) (op : Bool) (xv : Int32) (q : Nat → Nat) (pk : Nat) (RR : va_W) (ad : Nat → Nat) (sc : Nat → Nat → Int32) (M : XM) (hJ : xJ M wn n) (hn5 : n + 2 ≤ 512) (hpl : pl < 16) (h2 : hn = 2) (ce sl : Nat) (hce : ce + 50 ≤ 600130) (hsl9 : sl + 300 ≤ 7301080) (H : Heap) (locs : List Loc) (hP : va_P G vwCl (((pk, .inl (T 0, 16, .inl (xfn 16 (mpk M)))) :: RR) ++ xC T ad sc M) H) (hD : va_D (fun q : Nat => s.heap.size ≤ q) (((pk, .inl (T 0, 16, .inl (xfn 16 (mpk M)))) :: RR) ++ xC T ad sc M)) (hS : va_S (fun q : Nat => s.heap.size ≤ q) s.heap H locs) (ls : Array Slot) (hl : lv_has ls 24 [(0, .ref b), (1, .ref (ad 0)), (2, .int (nI wn)), (3, .int (nI t)), (4, .int xv), (5, .ref (q 0)), (6, .ref (q 1)), (7, .ref (q 2)), (8, .ref (q 3)), (9, .ref pk), (10, .int (-1)), (11, .int (nI pl)), (12, .int (xb op)), (13, .int (nI hn)), (14, .int (nI kd)), (15, .int (nI nm))]) (kk : ∀ (sc1 : Nat → Nat → Int32) (M1 : XM) (sn1 : Int32) (H1 : Heap) (locs1 : List Loc), xJ M1 wn (n + 2) → xRl hn op sn1 pl kd nm wn M M1 → va_P G vwCl (((pk, .inl (T 0, 16, .inl (xfn 16 (mpk M)))) :: RR) ++ xC T ad sc1 M1) H1 → va_D (fun q : Nat => s.heap.size ≤ q) (((pk, .inl (T 0, 16, .inl (xfn 16 (mpk M)))) :: RR) ++ xC T ad sc1 M1) → va_S (fun q : Nat => s.heap.size ≤ q) s.heap H1 locs1 → ∀ ls1 : Array Slot, lv_has ls1 24 [(0, .ref b), (1, .ref (ad 0)), (2, .int (nI wn)), (3, .int (nI t)), (4, .int xv), (5, .ref (q 0)), (6, .ref (q 1)), (7, .ref (q 2)), (8, .ref (q 3)), (9, .ref pk), (10, .int sn1), (11, .int (nI pl)), (12, .int (xb op)), (13, .int (nI hn)), (14, .int (nI kd)), (15, .int (nI nm))] → W p l e room_1 s m #[Value.ref b] below meth c H1 locs1 (ce + 50) (sl + 300) (lw_Z below #[Value.ref b] s) (F0 m 595 ls1 [])) : W p l e room_1 s m #[Value.ref b] below meth c H locs ce sl (lw_Z below #[Value.ref b] s) (F0 m 427 ls []) := by
  obtain ⟨hx, hb, hr, hml, hown, hts, hX, hbl, hlocks, hK, hXB, hZ, hL9, hsl⟩ := C0
  have hA : ∀ q : Nat, s.heap.size ≤ q → (fun q : Nat => s.heap.size ≤ q) q := fun _ h => h
  have hbA : ¬ (fun q : Nat => s.heap.size ≤ q) b := Nat.not_le.mpr hbl
  generalize hAe : (fun q : Nat => s.heap.size ≤ q) = A at hA hbA hZ hD hS kk
  have hI := hJ.1
  have hn4 : mnw M ≤ 4 := hI.1
  have hnw : mnw M = wn := hJ.2.1
  have hnp : mnp M = 2 := hJ.2.2.1
  have hsh := hI.2.2.2.2.1
  have hsur := hI.2.2.2.1
  have hm4 : mnp M ≤ 4 := hI.2.1
  have hW4 := xJ_4 hJ
  subst h2
  refine lv_aload_n hx hb dL_law_427 rfl (lv_at hl 1 rfl) ?_
  refine lv_iconst (v := nI 1) hx hb dL_law_428 (by decide) ?_
  refine lv_iload hx hb dL_law_429 (lv_at hl 4 rfl) ?_
  refine lv_iconst (v := nI 5) hx hb dL_law_431 (by decide) ?_
  refine lv_ishr hx hb dL_law_432 ?_
  refine lv_bipush (v := nI 15) hx hb dL_law_433 (by decide) ?_
  refine x_calli (va_runS (As := [.int (xv >>> (nI 5 &&& 31)), .int (nI 15)]) (rest := [.int (nI 1), .ref (ad 0)]) ⟨hx, hb, hml, hown, hts⟩ (c_L_below l G T _ _ 15 (by decide) (by decide)) (va_cwS 2 hts gL_law_L_below rfl rfl rfl (by decide +kernel) ⟨Nat.le_of_ble_eq_true rfl, Nat.le_of_ble_eq_true rfl⟩) (x_preS (wc := []) hK hP hD hS hA hXB hZ [] rfl rfl _) rfl rfl hl.1 rfl (lv_room (Nat.le_of_ble_eq_true rfl)) dL_law_435 ⟨show ce + 0 ≤ 600130 by omega, show sl + 0 ≤ 7301080 by omega⟩) hP hD hS hA [] rfl (fun _ _ _ => rfl) (fun r1 u1 H locs hw1 hP hD hS => ?_)
  have hP : va_P G vwCl (((pk, .inl (T 0, 16, .inl (xfn 16 (mpk M)))) :: RR) ++ xC T ad sc M) H := hP
  have hD : va_D A (((pk, .inl (T 0, 16, .inl (xfn 16 (mpk M)))) :: RR) ++ xC T ad sc M) := hD
  obtain ⟨b1, hb1, rfl⟩ := hw1
  refine lv_iadd hx hb dL_law_438 ?_
  refine x_topi (y := nI (1 + b1)) (nI_add 1 b1) ?_
  have hwb : xwn 0 (1 + b1) = true := by simp [xwn]; omega
  refine x_calliB (va_runV (As := [.int (nI (1 + b1))]) (rest := []) ⟨hx, hb, hml, hown, hts⟩ (k_falseCut l hsl G T _ ad sc M (1 + b1) hn4 hwb) (cwV 1 hts gL_law_X3_falseCut rfl rfl rfl (by decide +kernel) ⟨Nat.le_of_ble_eq_true rfl, Nat.le_of_ble_eq_true rfl⟩) (x_preVB (wc := (xC T ad sc M)) (wr := (((pk, .inl (T 0, 16, .inl (xfn 16 (mpk M)))) :: RR))) hK hP hD hS hA hXB hZ _ _ 0 3 rfl rfl) rfl rfl hl.1 rfl (lv_room (Nat.le_of_ble_eq_true rfl)) dL_law_439 ⟨show ce + 1 ≤ 600130 by omega, show sl + 6 ≤ 7301080 by omega⟩) hP hD hS hA (fun _ _ _ => xd_self (xC_fst T ad sc _ M _ rfl rfl) (xd_r hD)) (fun r1 sc1 H locs hw1 hP hD hS => ?_)
  have hP : va_P G vwCl (((pk, .inl (T 0, 16, .inl (xfn 16 (mpk M)))) :: RR) ++ xC T ad sc1 (xMfc M (1 + b1))) H := hP
  have hD : va_D A (((pk, .inl (T 0, 16, .inl (xfn 16 (mpk M)))) :: RR) ++ xC T ad sc1 (xMfc M (1 + b1))) := hD
  subst hw1
  refine lv_iload_n hx hb dL_law_442 rfl (lv_at hl 2 rfl) ?_
  refine lv_icmp_le (tgt := 595) hx hb dL_law_443 (by decide) (fun _ => ?_) (fun c_ => absurd (nI_le (xct_max (fun v hv => by rw [Bool.and_eq_true] at hv; have := of_decide_eq_true hv.1; omega) 4) (by omega)) c_)
  refine W.widen (k := ce + 50) (n := sl + 300) (by omega) (by omega) ?_
  exact kk sc1 _ _ _ _ (xJ_s (xJ_fc hJ (by omega) hwb) (by omega)) (xR_fc hJ hwb op pl kd nm) hP hD hS ls (lv_sub hl [0, 1, 2, 3, 4, 5, 6, 7, 8, 9, 10, 11, 12, 13, 14, 15] rfl)

set_option maxHeartbeats 4000000 in
set_option maxRecDepth 100000 in
/-- the law: a forced card -/
theorem L_force {p : Program} {l : Launch} {e : Env} {s : State} {m : MethodId} {below : List Frame} {meth : Method} {c : Code} {G : va_G} {T : Nat → ClassId} {b L : Nat} {xs : Nat → Int32} (C0 : xLC p l s m meth c b L xs G T) (wn t n pl kd nm hn : Nat) (op : Bool) (xv : Int32) (q : Nat → Nat) (pk : Nat) (RR : va_W) (ad : Nat → Nat) (sc : Nat → Nat → Int32) (M : XM) (hJ : xJ M wn n) (hn5 : n + 2 ≤ 512) (hpl : pl < 16) (h2 : hn = 3) (ce sl : Nat) (hce : ce + 50 ≤ 600130) (hsl9 : sl + 300 ≤ 7301080) (H : Heap) (locs : List Loc) (hP : va_P G vwCl (((pk, .inl (T 0, 16, .inl (xfn 16 (mpk M)))) :: RR) ++ xC T ad sc M) H) (hD : va_D (fun q : Nat => s.heap.size ≤ q) (((pk, .inl (T 0, 16, .inl (xfn 16 (mpk M)))) :: RR) ++ xC T ad sc M)) (hS : va_S (fun q : Nat => s.heap.size ≤ q) s.heap H locs) (ls : Array Slot) (hl : lv_has ls 24 [(0, .ref b), (1, .ref (ad 0)), (2, .int (nI wn)), (3, .int (nI t)), (4, .int xv), (5, .ref (q 0)), (6, .ref (q 1)), (7, .ref (q 2)), (8, .ref (q 3)), (9, .ref pk), (10, .int (-1)), (11, .int (nI pl)), (12, .int (xb op)), (13, .int (nI hn)), (14, .int (nI kd)), (15, .int (nI nm))]) (kk : ∀ (sc1 : Nat → Nat → Int32) (M1 : XM) (sn1 : Int32) (H1 : Heap) (locs1 : List Loc), xJ M1 wn (n + 2) → xRl hn op sn1 pl kd nm wn M M1 → va_P G vwCl (((pk, .inl (T 0, 16, .inl (xfn 16 (mpk M)))) :: RR) ++ xC T ad sc1 M1) H1 → va_D (fun q : Nat => s.heap.size ≤ q) (((pk, .inl (T 0, 16, .inl (xfn 16 (mpk M)))) :: RR) ++ xC T ad sc1 M1) → va_S (fun q : Nat => s.heap.size ≤ q) s.heap H1 locs1 → ∀ ls1 : Array Slot, lv_has ls1 24 [(0, .ref b), (1, .ref (ad 0)), (2, .int (nI wn)), (3, .int (nI t)), (4, .int xv), (5, .ref (q 0)), (6, .ref (q 1)), (7, .ref (q 2)), (8, .ref (q 3)), (9, .ref pk), (10, .int sn1), (11, .int (nI pl)), (12, .int (xb op)), (13, .int (nI hn)), (14, .int (nI kd)), (15, .int (nI nm))] → W p l e room_1 s m #[Value.ref b] below meth c H1 locs1 (ce + 50) (sl + 300) (lw_Z below #[Value.ref b] s) (F0 m 595 ls1 [])) : W p l e room_1 s m #[Value.ref b] below meth c H locs ce sl (lw_Z below #[Value.ref b] s) (F0 m 448 ls []) := by
  obtain ⟨hx, hb, hr, hml, hown, hts, hX, hbl, hlocks, hK, hXB, hZ, hL9, hsl⟩ := C0
  have hA : ∀ q : Nat, s.heap.size ≤ q → (fun q : Nat => s.heap.size ≤ q) q := fun _ h => h
  have hbA : ¬ (fun q : Nat => s.heap.size ≤ q) b := Nat.not_le.mpr hbl
  generalize hAe : (fun q : Nat => s.heap.size ≤ q) = A at hA hbA hZ hD hS kk
  have hI := hJ.1
  have hn4 : mnw M ≤ 4 := hI.1
  have hnw : mnw M = wn := hJ.2.1
  have hnp : mnp M = 2 := hJ.2.2.1
  have hsh := hI.2.2.2.2.1
  have hsur := hI.2.2.2.1
  have hm4 : mnp M ≤ 4 := hI.2.1
  have hW4 := xJ_4 hJ
  subst h2
  refine lv_iload hx hb dL_law_448 (lv_at hl 4 rfl) ?_
  refine lv_iconst (v := nI 5) hx hb dL_law_450 (by decide) ?_
  refine lv_ishr hx hb dL_law_451 ?_
  refine lv_iconst (v := nI 2) hx hb dL_law_452 (by decide) ?_
  refine x_calli (va_runS (As := [.int (xv >>> (nI 5 &&& 31)), .int (nI 2)]) (rest := []) ⟨hx, hb, hml, hown, hts⟩ (c_L_below l G T _ _ 2 (by decide) (by decide)) (va_cwS 2 hts gL_law_L_below rfl rfl rfl (by decide +kernel) ⟨Nat.le_of_ble_eq_true rfl, Nat.le_of_ble_eq_true rfl⟩) (x_preS (wc := []) hK hP hD hS hA hXB hZ [] rfl rfl _) rfl rfl hl.1 rfl (lv_room (Nat.le_of_ble_eq_true rfl)) dL_law_453 ⟨show ce + 0 ≤ 600130 by omega, show sl + 0 ≤ 7301080 by omega⟩) hP hD hS hA [] rfl (fun _ _ _ => rfl) (fun r1 u1 H locs hw1 hP hD hS => ?_)
  have hP : va_P G vwCl (((pk, .inl (T 0, 16, .inl (xfn 16 (mpk M)))) :: RR) ++ xC T ad sc M) H := hP
  have hD : va_D A (((pk, .inl (T 0, 16, .inl (xfn 16 (mpk M)))) :: RR) ++ xC T ad sc M) := hD
  obtain ⟨p1, hp1, rfl⟩ := hw1
  refine lv_istore (lv' := [(16, .int (nI p1)), (0, .ref b), (1, .ref (ad 0)), (2, .int (nI wn)), (3, .int (nI t)), (4, .int xv), (5, .ref (q 0)), (6, .ref (q 1)), (7, .ref (q 2)), (8, .ref (q 3)), (9, .ref pk), (10, .int (-1)), (11, .int (nI pl)), (12, .int (xb op)), (13, .int (nI 3)), (14, .int (nI kd)), (15, .int (nI nm))]) hx hb dL_law_456 hl (by decide) rfl (fun ls hl => ?_)
  refine lv_aload_n hx hb dL_law_458 rfl (lv_at hl 2 rfl) ?_
  refine lv_iload hx hb dL_law_459 (lv_at hl 0 rfl) ?_
  refine lv_iload hx hb dL_law_461 (lv_at hl 12 rfl) ?_
  have hx1 : p1 < mnp M := by omega
  obtain ⟨due, hd, e1, e2, e3⟩ := xF_ok hJ hp1 hpl
  refine x_calliB (va_runV (As := [.int (nI p1), .int (nI pl)]) (rest := []) ⟨hx, hb, hml, hown, hts⟩ (k_force l hsl G T _ ad sc M p1 pl hn4 hm4 hx1 hpl) (cwV 2 hts gL_law_X3_force rfl rfl rfl (by decide +kernel) ⟨Nat.le_of_ble_eq_true rfl, Nat.le_of_ble_eq_true rfl⟩) (x_preVB (wc := (xC T ad sc M)) (wr := (((pk, .inl (T 0, 16, .inl (xfn 16 (mpk M)))) :: RR))) hK hP hD hS hA hXB hZ _ _ 0 3 rfl rfl) rfl rfl hl.1 rfl (lv_room (Nat.le_of_ble_eq_true rfl)) dL_law_463 ⟨show ce + 2 ≤ 600130 by omega, show sl + 12 ≤ 7301080 by omega⟩) hP hD hS hA (fun _ _ _ => xd_self (xC_fst T ad sc _ M _ rfl rfl) (xd_r hD)) (fun r1 u1 H locs hw1 hP hD hS => ?_)
  have hP : va_P G vwCl (((pk, .inl (T 0, 16, .inl (xfn 16 (mpk M)))) :: RR) ++ xC T ad sc M) H := hP
  have hD : va_D A (((pk, .inl (T 0, 16, .inl (xfn 16 (mpk M)))) :: RR) ++ xC T ad sc M) := hD
  rw [e1] at hw1
  subst hw1
  refine lv_istore (lv' := [(17, .int (nI due)), (16, .int (nI p1)), (0, .ref b), (1, .ref (ad 0)), (2, .int (nI wn)), (3, .int (nI t)), (4, .int xv), (5, .ref (q 0)), (6, .ref (q 1)), (7, .ref (q 2)), (8, .ref (q 3)), (9, .ref pk), (10, .int (-1)), (11, .int (nI pl)), (12, .int (xb op)), (13, .int (nI 3)), (14, .int (nI kd)), (15, .int (nI nm))]) hx hb dL_law_466 hl (by decide) rfl (fun ls hl => ?_)
  refine lv_iload hx hb dL_law_468 (lv_at hl 0 rfl) ?_
  refine lv_if_lt (tgt := 480) hx hb dL_law_470 (by decide) (fun c_ => absurd c_ (nI_pos (by omega))) (fun _ => ?_)
  refine lv_iload hx hb dL_law_473 (lv_at hl 0 rfl) ?_
  refine lv_bipush (v := nI 15) hx hb dL_law_475 (by decide) ?_
  refine lv_icmp_le (tgt := 482) hx hb dL_law_477 (by decide) (fun _ => ?_) (fun c_ => absurd (nI_le (by omega) (by decide)) c_)
  have hJ1 := xJ_fan hJ (by omega) hd
  refine lv_aload_n hx hb dL_law_482 rfl (lv_at hl 3 rfl) ?_
  refine lv_iload hx hb dL_law_483 (lv_at hl 0 rfl) ?_
  refine x_calliB (va_runV (As := [.int (nI due)]) (rest := []) ⟨hx, hb, hml, hown, hts⟩ (k_fan l hsl G T _ ad sc M due hd) (cwV 1 hts gL_law_X3_fan rfl rfl rfl (by decide +kernel) ⟨Nat.le_of_ble_eq_true rfl, Nat.le_of_ble_eq_true rfl⟩) (x_preVB (wc := (xC T ad sc M)) (wr := (((pk, .inl (T 0, 16, .inl (xfn 16 (mpk M)))) :: RR))) hK hP hD hS hA hXB hZ _ _ 0 3 rfl rfl) rfl rfl hl.1 rfl (lv_room (Nat.le_of_ble_eq_true rfl)) dL_law_485 ⟨show (ce + 2) + 1 ≤ 600130 by omega, show (sl + 12) + 6 ≤ 7301080 by omega⟩) hP hD hS hA (fun _ _ _ => xd_self (xC_fst T ad sc _ M _ rfl rfl) (xd_r hD)) (fun r1 u1 H locs hw1 hP hD hS => ?_)
  have hP : va_P G vwCl (((pk, .inl (T 0, 16, .inl (xfn 16 (mpk M)))) :: RR) ++ xC T ad sc (xMf M (nI due))) H := hP
  have hD : va_D A (((pk, .inl (T 0, 16, .inl (xfn 16 (mpk M)))) :: RR) ++ xC T ad sc (xMf M (nI due))) := hD
  refine lv_pop hx hb dL_law_488 rfl ?_
  refine lv_aload_n hx hb dL_law_489 rfl (lv_at hl 3 rfl) ?_
  refine lv_iload hx hb dL_law_490 (lv_at hl 1 rfl) ?_
  have hI1 := hJ1.1
  have hn41 : mnw (xMf M (nI due)) ≤ 4 := hI1.1
  have hnw1 : mnw (xMf M (nI due)) = wn := hJ1.2.1
  have hnp1 : mnp (xMf M (nI due)) = 2 := hJ1.2.2.1
  have hsh1 := hI1.2.2.2.2.1
  have hsur1 := hI1.2.2.2.1
  have hm41 : mnp (xMf M (nI due)) ≤ 4 := hI1.2.1
  refine x_calliB (va_runV (As := [.int (nI p1)]) (rest := []) ⟨hx, hb, hml, hown, hts⟩ (k_take l hsl G T _ ad sc (xMf M (nI due)) p1 hn41 hm41 hI1.2.2.2.2.2.2.2.1 hI1.2.2.2.2.2.2.2.2.1 (Nat.le_trans hI1.2.2.2.2.2.2.2.2.2.1 hI1.2.2.2.2.2.2.2.2.2.2) hx1) (cwV 1 hts gL_law_X3_take rfl rfl rfl (by decide +kernel) ⟨Nat.le_of_ble_eq_true rfl, Nat.le_of_ble_eq_true rfl⟩) (x_preVB (wc := (xC T ad sc (xMf M (nI due)))) (wr := (((pk, .inl (T 0, 16, .inl (xfn 16 (mpk M)))) :: RR))) hK hP hD hS hA hXB hZ _ _ 0 3 rfl rfl) rfl rfl hl.1 rfl (lv_room (Nat.le_of_ble_eq_true rfl)) dL_law_492 ⟨show ((ce + 2) + 1) + 1 ≤ 600130 by omega, show ((sl + 12) + 6) + 6 ≤ 7301080 by omega⟩) hP hD hS hA (fun _ _ _ => xd_self (xC_fst T ad sc _ (xMf M (nI due)) _ rfl rfl) (xd_r hD)) (fun r1 u1 H locs hw1 hP hD hS => ?_)
  have hP : va_P G vwCl (((pk, .inl (T 0, 16, .inl (xfn 16 (mpk M)))) :: RR) ++ xC T ad sc (xMt (xMf M (nI due)) p1)) H := hP
  have hD : va_D A (((pk, .inl (T 0, 16, .inl (xfn 16 (mpk M)))) :: RR) ++ xC T ad sc (xMt (xMf M (nI due)) p1)) := hD
  rw [e2] at hw1
  subst hw1
  have hJ2 := xJ_take hJ1 (by omega) p1
  have hI2 := hJ2.1
  have hn42 : mnw (xMt (xMf M (nI due)) p1) ≤ 4 := hI2.1
  have hnw2 : mnw (xMt (xMf M (nI due)) p1) = wn := hJ2.2.1
  have hnp2 : mnp (xMt (xMf M (nI due)) p1) = 2 := hJ2.2.2.1
  have hsh2 := hI2.2.2.2.2.1
  have hsur2 := hI2.2.2.2.1
  have hm42 : mnp (xMt (xMf M (nI due)) p1) ≤ 4 := hI2.2.1
  refine lv_iload hx hb dL_law_495 (lv_at hl 13 rfl) ?_
  refine lv_icmp_ne (tgt := 530) hx hb dL_law_497 (by decide) (fun c_ => absurd (rfl) c_) (fun _ => ?_)
  refine lv_aload_n hx hb dL_law_500 rfl (lv_at hl 3 rfl) ?_
  refine lv_iload hx hb dL_law_501 (lv_at hl 1 rfl) ?_
  refine x_calliB (va_runV (As := [.int (nI p1)]) (rest := []) ⟨hx, hb, hml, hown, hts⟩ (k_took l hsl G T _ ad sc (xMt (xMf M (nI due)) p1) p1 hn42 hm42 hx1) (cwV 1 hts gL_law_X3_took rfl rfl rfl (by decide +kernel) ⟨Nat.le_of_ble_eq_true rfl, Nat.le_of_ble_eq_true rfl⟩) (x_preVB (wc := (xC T ad sc (xMt (xMf M (nI due)) p1))) (wr := (((pk, .inl (T 0, 16, .inl (xfn 16 (mpk M)))) :: RR))) hK hP hD hS hA hXB hZ _ _ 0 3 rfl rfl) rfl rfl hl.1 rfl (lv_room (Nat.le_of_ble_eq_true rfl)) dL_law_503 ⟨show (((ce + 2) + 1) + 1) + 1 ≤ 600130 by omega, show (((sl + 12) + 6) + 6) + 6 ≤ 7301080 by omega⟩) hP hD hS hA (fun _ _ _ => xd_self (xC_fst T ad sc _ (xMt (xMf M (nI due)) p1) _ rfl rfl) (xd_r hD)) (fun r1 u1 H locs hw1 hP hD hS => ?_)
  have hP : va_P G vwCl (((pk, .inl (T 0, 16, .inl (xfn 16 (mpk M)))) :: RR) ++ xC T ad sc (xMt (xMf M (nI due)) p1)) H := hP
  have hD : va_D A (((pk, .inl (T 0, 16, .inl (xfn 16 (mpk M)))) :: RR) ++ xC T ad sc (xMt (xMf M (nI due)) p1)) := hD
  rw [show mtk (xMt (xMf M (nI due)) p1) p1 = nI pl from pk_us.trans e2] at hw1
  subst hw1
  refine lv_iload hx hb dL_law_506 (lv_at hl 13 rfl) ?_
  refine lv_icmp_ne (tgt := 530) hx hb dL_law_508 (by decide) (fun c_ => absurd (rfl) c_) (fun _ => ?_)
  refine lv_aload_n hx hb dL_law_511 rfl (lv_at hl 3 rfl) ?_
  refine lv_iload hx hb dL_law_512 (lv_at hl 1 rfl) ?_
  refine lv_iload hx hb dL_law_514 (lv_at hl 13 rfl) ?_
  refine x_calliB (va_runV (As := [.int (nI p1), .int (nI pl)]) (rest := []) ⟨hx, hb, hml, hown, hts⟩ (k_force l hsl G T _ ad sc (xMt (xMf M (nI due)) p1) p1 pl hn42 hm42 hx1 hpl) (cwV 2 hts gL_law_X3_force rfl rfl rfl (by decide +kernel) ⟨Nat.le_of_ble_eq_true rfl, Nat.le_of_ble_eq_true rfl⟩) (x_preVB (wc := (xC T ad sc (xMt (xMf M (nI due)) p1))) (wr := (((pk, .inl (T 0, 16, .inl (xfn 16 (mpk M)))) :: RR))) hK hP hD hS hA hXB hZ _ _ 0 3 rfl rfl) rfl rfl hl.1 rfl (lv_room (Nat.le_of_ble_eq_true rfl)) dL_law_516 ⟨show ((((ce + 2) + 1) + 1) + 1) + 2 ≤ 600130 by omega, show ((((sl + 12) + 6) + 6) + 6) + 12 ≤ 7301080 by omega⟩) hP hD hS hA (fun _ _ _ => xd_self (xC_fst T ad sc _ (xMt (xMf M (nI due)) p1) _ rfl rfl) (xd_r hD)) (fun r1 u1 H locs hw1 hP hD hS => ?_)
  have hP : va_P G vwCl (((pk, .inl (T 0, 16, .inl (xfn 16 (mpk M)))) :: RR) ++ xC T ad sc (xMt (xMf M (nI due)) p1)) H := hP
  have hD : va_D A (((pk, .inl (T 0, 16, .inl (xfn 16 (mpk M)))) :: RR) ++ xC T ad sc (xMt (xMf M (nI due)) p1)) := hD
  have hw1 : r1 = xfm (xfp (mpk M) (nI pl) - mhb M p1 - nI (mta M + 1)) := hw1
  rw [e3] at hw1
  subst hw1
  refine lv_iload hx hb dL_law_519 (lv_at hl 0 rfl) ?_
  refine lv_bipush (v := nI 15) hx hb dL_law_521 (by decide) ?_
  refine lv_iadd hx hb dL_law_523 ?_
  refine lv_bipush (v := nI 16) hx hb dL_law_524 (by decide) ?_
  refine lv_irem hx hb dL_law_526 (by decide) ?_
  refine x_topi (y := nI ((due + 15) % 16)) (by rw [nI_add]; exact pk_rem (by omega) (by decide) (by decide)) ?_
  refine lv_icmp_eq (tgt := 595) hx hb dL_law_527 (by decide) (fun _ => ?_) (fun c_ => absurd (rfl) c_)
  refine W.widen (k := ce + 50) (n := sl + 300) (by omega) (by omega) ?_
  exact kk sc _ _ _ _ hJ2 (xR_tk hJ (nI due) p1 op pl kd nm) hP hD hS ls (lv_sub hl [2, 3, 4, 5, 6, 7, 8, 9, 10, 11, 12, 13, 14, 15, 16, 17] rfl)

set_option maxHeartbeats 4000000 in
set_option maxRecDepth 100000 in
/-- the law: a glimpse -/
theorem L_glimpse {p : Program} {l : Launch} {e : Env} {s : State} {m : MethodId} {below : List Frame} {meth : Method} {c : Code} {G : va_G} {T : Nat → ClassId} {b L : Nat} {xs : Nat → Int32} (C0 : xLC p l s m meth c b L xs G T) (wn t n pl kd nm hn : Nat) (op : Bool) (xv : Int32) (q : Nat → Nat) (pk : Nat) (RR : va_W) (ad : Nat → Nat) (sc : Nat → Nat → Int32) (M : XM) (hJ : xJ M wn n) (hn5 : n + 2 ≤ 512) (hpl : pl < 16) (h2 : 3 < hn) (hw1n : 1 ≤ wn) (ce sl : Nat) (hce : ce + 50 ≤ 600130) (hsl9 : sl + 300 ≤ 7301080) (H : Heap) (locs : List Loc) (hP : va_P G vwCl (((pk, .inl (T 0, 16, .inl (xfn 16 (mpk M)))) :: RR) ++ xC T ad sc M) H) (hD : va_D (fun q : Nat => s.heap.size ≤ q) (((pk, .inl (T 0, 16, .inl (xfn 16 (mpk M)))) :: RR) ++ xC T ad sc M)) (hS : va_S (fun q : Nat => s.heap.size ≤ q) s.heap H locs) (ls : Array Slot) (hl : lv_has ls 24 [(0, .ref b), (1, .ref (ad 0)), (2, .int (nI wn)), (3, .int (nI t)), (4, .int xv), (5, .ref (q 0)), (6, .ref (q 1)), (7, .ref (q 2)), (8, .ref (q 3)), (9, .ref pk), (10, .int (-1)), (11, .int (nI pl)), (12, .int (xb op)), (13, .int (nI hn)), (14, .int (nI kd)), (15, .int (nI nm))]) (kk : ∀ (sc1 : Nat → Nat → Int32) (M1 : XM) (sn1 : Int32) (H1 : Heap) (locs1 : List Loc), xJ M1 wn (n + 2) → xRl hn op sn1 pl kd nm wn M M1 → va_P G vwCl (((pk, .inl (T 0, 16, .inl (xfn 16 (mpk M)))) :: RR) ++ xC T ad sc1 M1) H1 → va_D (fun q : Nat => s.heap.size ≤ q) (((pk, .inl (T 0, 16, .inl (xfn 16 (mpk M)))) :: RR) ++ xC T ad sc1 M1) → va_S (fun q : Nat => s.heap.size ≤ q) s.heap H1 locs1 → ∀ ls1 : Array Slot, lv_has ls1 24 [(0, .ref b), (1, .ref (ad 0)), (2, .int (nI wn)), (3, .int (nI t)), (4, .int xv), (5, .ref (q 0)), (6, .ref (q 1)), (7, .ref (q 2)), (8, .ref (q 3)), (9, .ref pk), (10, .int sn1), (11, .int (nI pl)), (12, .int (xb op)), (13, .int (nI hn)), (14, .int (nI kd)), (15, .int (nI nm))] → W p l e room_1 s m #[Value.ref b] below meth c H1 locs1 (ce + 50) (sl + 300) (lw_Z below #[Value.ref b] s) (F0 m 595 ls1 [])) : W p l e room_1 s m #[Value.ref b] below meth c H locs ce sl (lw_Z below #[Value.ref b] s) (F0 m 532 ls []) := by
  obtain ⟨hx, hb, hr, hml, hown, hts, hX, hbl, hlocks, hK, hXB, hZ, hL9, hsl⟩ := C0
  have hA : ∀ q : Nat, s.heap.size ≤ q → (fun q : Nat => s.heap.size ≤ q) q := fun _ h => h
  have hbA : ¬ (fun q : Nat => s.heap.size ≤ q) b := Nat.not_le.mpr hbl
  generalize hAe : (fun q : Nat => s.heap.size ≤ q) = A at hA hbA hZ hD hS kk
  have hI := hJ.1
  have hn4 : mnw M ≤ 4 := hI.1
  have hnw : mnw M = wn := hJ.2.1
  have hnp : mnp M = 2 := hJ.2.2.1
  have hsh := hI.2.2.2.2.1
  have hsur := hI.2.2.2.1
  have hm4 : mnp M ≤ 4 := hI.2.1
  have hW4 := xJ_4 hJ
  obtain ⟨N, hN⟩ : ∃ N : Nat, N = 257 := ⟨_, rfl⟩
  refine lv_iload hx hb dL_law_532 (lv_at hl 4 rfl) ?_
  refine lv_bipush (v := nI 6) hx hb dL_law_534 (by decide) ?_
  refine lv_ishr hx hb dL_law_536 ?_
  refine lv_iload_n hx hb dL_law_537 rfl (lv_at hl 2 rfl) ?_
  refine x_calli (va_runS (As := [.int (xv >>> (nI 6 &&& 31)), .int (nI wn)]) (rest := []) ⟨hx, hb, hml, hown, hts⟩ (c_L_below l G T _ _ wn (by omega) (by omega)) (va_cwS 2 hts gL_law_L_below rfl rfl rfl (by decide +kernel) ⟨Nat.le_of_ble_eq_true rfl, Nat.le_of_ble_eq_true rfl⟩) (x_preS (wc := []) hK hP hD hS hA hXB hZ [] rfl rfl _) rfl rfl hl.1 rfl (lv_room (Nat.le_of_ble_eq_true rfl)) dL_law_538 ⟨show ce + 0 ≤ 600130 by omega, show sl + 0 ≤ 7301080 by omega⟩) hP hD hS hA [] rfl (fun _ _ _ => rfl) (fun r1 u1 H locs hw1 hP hD hS => ?_)
  have hP : va_P G vwCl (((pk, .inl (T 0, 16, .inl (xfn 16 (mpk M)))) :: RR) ++ xC T ad sc M) H := hP
  have hD : va_D A (((pk, .inl (T 0, 16, .inl (xfn 16 (mpk M)))) :: RR) ++ xC T ad sc M) := hD
  obtain ⟨s1, hs1, rfl⟩ := hw1
  refine lv_istore (lv' := [(10, .int (nI s1)), (0, .ref b), (1, .ref (ad 0)), (2, .int (nI wn)), (3, .int (nI t)), (4, .int xv), (5, .ref (q 0)), (6, .ref (q 1)), (7, .ref (q 2)), (8, .ref (q 3)), (9, .ref pk), (11, .int (nI pl)), (12, .int (xb op)), (13, .int (nI hn)), (14, .int (nI kd)), (15, .int (nI nm))]) hx hb dL_law_541 hl (by decide) rfl (fun ls hl => ?_)
  refine lv_aload_n hx hb dL_law_543 rfl (lv_at hl 2 rfl) ?_
  refine lv_iload hx hb dL_law_544 (lv_at hl 0 rfl) ?_
  refine lv_iload hx hb dL_law_546 (lv_at hl 11 rfl) ?_
  have hx1 : s1 < mnw M := by omega
  have hpk := hI.2.2.1 pl hpl
  have hyp : xvb 16 (mpk M pl) = true := (xvb_iff (by decide)).mpr hpk
  obtain ⟨g1, g2⟩ := xG_ok hN hJ hs1 hpl
  have hJ1 := xJ_gl hJ (by omega) N hs1 hpl
  refine x_calliB (va_runV (As := [.int (nI s1), .int (nI pl)]) (rest := []) ⟨hx, hb, hml, hown, hts⟩ (k_glimpse l hsl G T _ N hN ad sc M s1 pl hn4 hx1 hpl) (cwV 2 hts gL_law_X3_glimpse rfl rfl rfl (by decide +kernel) ⟨Nat.le_of_ble_eq_true rfl, Nat.le_of_ble_eq_true rfl⟩) (x_preVB (wc := (xC T ad sc M)) (wr := (((pk, .inl (T 0, 16, .inl (xfn 16 (mpk M)))) :: RR))) hK hP hD hS hA hXB hZ _ _ 0 3 rfl rfl) rfl rfl hl.1 rfl (lv_room (Nat.le_of_ble_eq_true rfl)) dL_law_548 ⟨show ce + 2 ≤ 600130 by omega, show sl + 12 ≤ 7301080 by omega⟩) hP hD hS hA (fun _ _ _ => xd_self (xC_fst T ad sc _ M _ rfl rfl) (xd_r hD)) (fun r1 sc1 H locs hw1 hP hD hS => ?_)
  have hP : va_P G vwCl (((pk, .inl (T 0, 16, .inl (xfn 16 (mpk M)))) :: RR) ++ xC T ad sc1 (xMg N M s1 pl)) H := hP
  have hD : va_D A (((pk, .inl (T 0, 16, .inl (xfn 16 (mpk M)))) :: RR) ++ xC T ad sc1 (xMg N M s1 pl)) := hD
  subst hw1
  have hI1 := hJ1.1
  have hn41 : mnw (xMg N M s1 pl) ≤ 4 := hI1.1
  have hnw1 : mnw (xMg N M s1 pl) = wn := hJ1.2.1
  have hnp1 : mnp (xMg N M s1 pl) = 2 := hJ1.2.2.1
  have hsh1 := hI1.2.2.2.2.1
  have hsur1 := hI1.2.2.2.1
  have hm41 : mnp (xMg N M s1 pl) ≤ 4 := hI1.2.1
  refine lv_aload hx hb dL_law_551 (lv_at hl 10 rfl) ?_
  refine lv_iload hx hb dL_law_553 (lv_at hl 11 rfl) ?_
  refine x_iald hx hb hK hP (0) 0 (f := (xfn 16 (mpk M))) (n := 16) rfl rfl hpl (by decide) dL_law_555 ?_
  refine x_topi (y := mpk M pl) (xfn_at _ hpl) ?_
  refine lv_icmp_ne (tgt := 593) hx hb dL_law_556 (by decide) (fun c_ => absurd (rfl) c_) (fun _ => ?_)
  refine lv_aload_n hx hb dL_law_559 rfl (lv_at hl 2 rfl) ?_
  refine lv_iload hx hb dL_law_560 (lv_at hl 0 rfl) ?_
  refine lv_iload hx hb dL_law_562 (lv_at hl 11 rfl) ?_
  refine x_calliB (va_runV (As := [.int (nI s1), .int (nI pl)]) (rest := []) ⟨hx, hb, hml, hown, hts⟩ (k_thinks l hsl G T _ ad sc1 (xMg N M s1 pl) s1 pl hn41 hx1 hpl) (cwV 2 hts gL_law_X3_thinks rfl rfl rfl (by decide +kernel) ⟨Nat.le_of_ble_eq_true rfl, Nat.le_of_ble_eq_true rfl⟩) (x_preVB (wc := (xC T ad sc1 (xMg N M s1 pl))) (wr := (((pk, .inl (T 0, 16, .inl (xfn 16 (mpk M)))) :: RR))) hK hP hD hS hA hXB hZ _ _ 0 3 rfl rfl) rfl rfl hl.1 rfl (lv_room (Nat.le_of_ble_eq_true rfl)) dL_law_564 ⟨show (ce + 2) + 2 ≤ 600130 by omega, show (sl + 12) + 12 ≤ 7301080 by omega⟩) hP hD hS hA (fun _ _ _ => xd_self (xC_fst T ad sc1 _ (xMg N M s1 pl) _ rfl rfl) (xd_r hD)) (fun r1 u1 H locs hw1 hP hD hS => ?_)
  have hP : va_P G vwCl (((pk, .inl (T 0, 16, .inl (xfn 16 (mpk M)))) :: RR) ++ xC T ad sc1 (xMg N M s1 pl)) H := hP
  have hD : va_D A (((pk, .inl (T 0, 16, .inl (xfn 16 (mpk M)))) :: RR) ++ xC T ad sc1 (xMg N M s1 pl)) := hD
  rw [g1] at hw1
  subst hw1
  refine lv_iconst (v := nI 1) hx hb dL_law_567 (by decide) ?_
  refine lv_aload hx hb dL_law_568 (lv_at hl 10 rfl) ?_
  refine lv_iload hx hb dL_law_570 (lv_at hl 11 rfl) ?_
  refine x_iald hx hb hK hP (0) 0 (f := (xfn 16 (mpk M))) (n := 16) rfl rfl hpl (by decide) dL_law_572 ?_
  refine x_topi (y := mpk M pl) (xfn_at _ hpl) ?_
  refine lv_ishl hx hb dL_law_573 ?_
  refine lv_icmp_ne (tgt := 593) hx hb dL_law_574 (by decide) (fun c_ => absurd (rfl) c_) (fun _ => ?_)
  refine lv_aload_n hx hb dL_law_577 rfl (lv_at hl 2 rfl) ?_
  refine lv_iload hx hb dL_law_578 (lv_at hl 0 rfl) ?_
  refine lv_aload hx hb dL_law_580 (lv_at hl 10 rfl) ?_
  refine lv_iload hx hb dL_law_582 (lv_at hl 11 rfl) ?_
  refine x_iald hx hb hK hP (0) 0 (f := (xfn 16 (mpk M))) (n := 16) rfl rfl hpl (by decide) dL_law_584 ?_
  refine x_topi (y := mpk M pl) (xfn_at _ hpl) ?_
  refine x_calliB (va_runV (As := [.int (nI s1), .int (mpk M pl)]) (rest := []) ⟨hx, hb, hml, hown, hts⟩ (k_sure l hsl G T _ ad sc1 (xMg N M s1 pl) s1 (mpk M pl) hn41 hx1 hyp) (cwV 2 hts gL_law_X3_sure rfl rfl rfl (by decide +kernel) ⟨Nat.le_of_ble_eq_true rfl, Nat.le_of_ble_eq_true rfl⟩) (x_preVB (wc := (xC T ad sc1 (xMg N M s1 pl))) (wr := (((pk, .inl (T 0, 16, .inl (xfn 16 (mpk M)))) :: RR))) hK hP hD hS hA hXB hZ _ _ 0 3 rfl rfl) rfl rfl hl.1 rfl (lv_room (Nat.le_of_ble_eq_true rfl)) dL_law_585 ⟨show ((ce + 2) + 2) + 2 ≤ 600130 by omega, show ((sl + 12) + 12) + 12 ≤ 7301080 by omega⟩) hP hD hS hA (fun _ _ _ => xd_self (xC_fst T ad sc1 _ (xMg N M s1 pl) _ rfl rfl) (xd_r hD)) (fun r1 u1 H locs hw1 hP hD hS => ?_)
  have hP : va_P G vwCl (((pk, .inl (T 0, 16, .inl (xfn 16 (mpk M)))) :: RR) ++ xC T ad sc1 (xMg N M s1 pl)) H := hP
  have hD : va_D A (((pk, .inl (T 0, 16, .inl (xfn 16 (mpk M)))) :: RR) ++ xC T ad sc1 (xMg N M s1 pl)) := hD
  rw [g2] at hw1
  subst hw1
  refine lv_iload hx hb dL_law_588 (lv_at hl 11 rfl) ?_
  refine lv_icmp_eq (tgt := 595) hx hb dL_law_590 (by decide) (fun _ => ?_) (fun c_ => absurd (rfl) c_)
  refine W.widen (k := ce + 50) (n := sl + 300) (by omega) (by omega) ?_
  exact kk sc1 _ _ _ _ (xJ_s hJ1 (by omega)) (xR_gl hN hJ h2 hs1 hpl op kd nm) hP hD hS ls (lv_sub hl [1, 2, 3, 4, 5, 6, 7, 8, 9, 10, 0, 11, 12, 13, 14, 15] rfl)
end XLW2
