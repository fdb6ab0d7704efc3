section XLW3
theorem xmean_all : ((List.range 5).all fun n => (List.range 1025).all fun t => n == 0 || decide (Op.cmpValue (FP.dcmp (FP.ddiv (FP.i2d (nI t)) (FP.i2d (nI (n * 16)))) (FP.ddiv (FP.i2d (nI t)) (FP.i2d (nI (n * 16))))) .l = 0)) = true := by decide +kernel
theorem xmean_cmp {M : XM} (hn4 : mnw M ≤ 4) (hth : ∀ w, w < mnw M → ∀ j, j < 16 → (mth M w j).toBitVec.toNat < 65536) : Op.cmpValue (FP.dcmp (xmean M) (xmean M)) .l = 0 := by
  unfold xmean
  by_cases h0 : mnw M = 0
  · rw [if_pos h0]; decide +kernel
  · rw [if_neg h0]
    obtain ⟨t, ht, e⟩ := xsu_le hth 4
    rw [e]
    have h1 := List.all_eq_true.mp xmean_all (mnw M) (List.mem_range.mpr (by omega))
    have h2 := List.all_eq_true.mp h1 t (List.mem_range.mpr (by omega))
    simp only [Bool.or_eq_true, beq_iff_eq, decide_eq_true_eq] at h2
    rcases h2 with h2 | h2
    · exact absurd h2 h0
    · exact h2
theorem xgt {L i : Nat} (hL : L ≤ 2048) (hi : i ≤ 2060) : nI L - nI 4 < nI i ↔ L < i + 4 := by
  rw [xIlt, pk_sub_toInt (by omega) (by decide), nI_toInt (by omega)]
  omega
theorem x31 (x : Int32) : ∃ q, q < 32 ∧ x &&& nI 31 = nI q := by
  refine ⟨x.toBitVec.toNat &&& 31, Nat.lt_succ_of_le Nat.and_le_right, ?_⟩
  rw [← x_and, ← x_ofn]

set_option maxHeartbeats 4000000 in
set_option maxRecDepth 100000 in
/-- the law: mean -/
theorem lc_mean {p : Program} {l : Launch} {e : Env} {s : State} {m : MethodId} {below : List Frame} {meth : Method} {c : Code} {G : va_G} {T : Nat → ClassId} {b L : Nat} {xs : Nat → Int32} (C0 : xLC p l s m meth c b L xs G T) (i j : Nat) (hi : i + 4 ≤ L) (hj : j < 512) (ad : Nat → Nat) (sc : Nat → Nat → Int32) (M : XM) (bd : Nat → Nat) (thr : Int32) (o0 : Nat) (h : Nat → Int64) (hI : xI M j) (ce sl : Nat) (hce : ce + 90 ≤ 651071) (hsl9 : sl + 547 ≤ 7142890) (H : Heap) (locs : List Loc) (hP : va_P G vwCl ((xC T ad sc M ++ [(o0, .inl (T 4, 1, .inr (.inl h)))]) ++ (xD T bd thr M)) H) (hD : va_D (fun q : Nat => s.heap.size ≤ q) ((xC T ad sc M ++ [(o0, .inl (T 4, 1, .inr (.inl h)))]) ++ (xD T bd thr M))) (hS : va_S (fun q : Nat => s.heap.size ≤ q) s.heap H locs) (ls : Array Slot) (hl : lv_has ls 9 [(0, .ref b), (1, .ref (ad 0)), (2, .ref (bd 0)), (3, .ref o0), (4, .int (nI i))]) (kk : ∀ (ad1 : Nat → Nat) (sc1 : Nat → Nat → Int32) (M1 : XM) (thr1 : Int32) (h1 : Nat → Int64) (H1 : Heap) (locs1 : List Loc), ad1 0 = ad 0 → xI M1 (j + 1) → va_P G vwCl ((xC T ad1 sc1 M1 ++ [(o0, .inl (T 4, 1, .inr (.inl h1)))]) ++ (xD T bd thr1 M1)) H1 → va_D (fun q : Nat => s.heap.size ≤ q) ((xC T ad1 sc1 M1 ++ [(o0, .inl (T 4, 1, .inr (.inl h1)))]) ++ (xD T bd thr1 M1)) → va_S (fun q : Nat => s.heap.size ≤ q) s.heap H1 locs1 → ∀ ls1 : Array Slot, lv_has ls1 9 [(0, .ref b), (1, .ref (ad 0)), (2, .ref (bd 0)), (3, .ref o0), (4, .int (nI i))] → W p l e room_1 s m #[Value.ref b] below meth c H1 locs1 (ce + 90) (sl + 547) (lw_Z below #[Value.ref b] s) (F0 m 1431 ls1 [])) : W p l e room_1 s m #[Value.ref b] below meth c H locs ce sl (lw_Z below #[Value.ref b] s) (F0 m 1376 ls []) := by
  obtain ⟨hx, hb, hr, hml, hown, hts, hX, hbl, hlocks, hK, hXB, hZ, hL9, hsl⟩ := C0
  have hA : ∀ q : Nat, s.heap.size ≤ q → (fun q : Nat => s.heap.size ≤ q) q := fun _ h => h
  have hbA : ¬ (fun q : Nat => s.heap.size ≤ q) b := Nat.not_le.mpr hbl
  obtain ⟨hn4, hm4, hpk, hsur, hsh, hth, hz0, hhb, hle, hta, hj5⟩ := id hI
  generalize hAe : (fun q : Nat => s.heap.size ≤ q) = A at hA hbA hZ hD hS kk
  refine lv_aload_n hx hb dL_law_1376 rfl (lv_at hl 1 rfl) ?_
  have hP : va_P G vwCl ((xC T ad sc M) ++ ([(o0, .inl (T 4, 1, .inr (.inl h)))] ++ (xD T bd thr M))) H := by rw [← List.append_assoc]; exact hP
  have hD : va_D A ((xC T ad sc M) ++ ([(o0, .inl (T 4, 1, .inr (.inl h)))] ++ (xD T bd thr M))) := by rw [← List.append_assoc]; exact hD
  refine x_calldA (va_runV (As := []) (rest := []) ⟨hx, hb, hml, hown, hts⟩ (c_X3_mean l G T _ ad sc M hn4 (fun w hw j hj => (hth w hw j hj).1)) (cwV 0 hts gL_law_X3_mean rfl rfl rfl (by decide +kernel) ⟨Nat.le_of_ble_eq_true rfl, Nat.le_of_ble_eq_true rfl⟩) (x_preVA (wc := (xC T ad sc M)) (wr := ([(o0, .inl (T 4, 1, .inr (.inl h)))] ++ (xD T bd thr M))) hK hP hD hS hA hXB hZ _ _ 0 3 rfl rfl) rfl rfl hl.1 rfl (lv_room (Nat.le_of_ble_eq_true rfl)) dL_law_1377 ⟨show ce + 0 ≤ 651071 by omega, show sl + 0 ≤ 7142890 by omega⟩) hP hD hS hA (fun _ _ _ => (xd_l hD).self) (fun r1 u1 H locs hw1 hP hD hS => ?_)
  have hP : va_P G vwCl ((xC T ad sc M) ++ ([(o0, .inl (T 4, 1, .inr (.inl h)))] ++ (xD T bd thr M))) H := hP
  have hD : va_D A ((xC T ad sc M) ++ ([(o0, .inl (T 4, 1, .inr (.inl h)))] ++ (xD T bd thr M))) := hD
  subst hw1
  have hP : va_P G vwCl ((xC T ad sc M ++ [(o0, .inl (T 4, 1, .inr (.inl h)))]) ++ (xD T bd thr M)) H := by rw [List.append_assoc]; exact hP
  have hD : va_D A ((xC T ad sc M ++ [(o0, .inl (T 4, 1, .inr (.inl h)))]) ++ (xD T bd thr M)) := by rw [List.append_assoc]; exact hD
  refine lv_dstore (lv' := [(5, .double (xmean M)), (0, .ref b), (1, .ref (ad 0)), (2, .ref (bd 0)), (3, .ref o0), (4, .int (nI i))]) hx hb dL_law_1380 hl (by decide) rfl (fun ls hl => ?_)
  refine lv_aload_n hx hb dL_law_1382 rfl (lv_at hl 3 rfl) ?_
  have hP := xp_perm (List.perm_append_comm (l₁ := (xC T ad sc M ++ [(o0, .inl (T 4, 1, .inr (.inl h)))])) (l₂ := (xD T bd thr M))) hP
  have hD := xd_perm (List.perm_append_comm (l₁ := (xC T ad sc M ++ [(o0, .inl (T 4, 1, .inr (.inl h)))])) (l₂ := (xD T bd thr M))) hD
  refine x_calldA (va_runV (As := []) (rest := []) ⟨hx, hb, hml, hown, hts⟩ (c_X4_mean l G T _ bd thr M hn4 (fun w hw j hj => (hth w hw j hj).1)) (cwV 0 hts gL_law_X4_mean rfl rfl rfl (by decide +kernel) ⟨Nat.le_of_ble_eq_true rfl, Nat.le_of_ble_eq_true rfl⟩) (x_preVA (wc := (xD T bd thr M)) (wr := (xC T ad sc M ++ [(o0, .inl (T 4, 1, .inr (.inl h)))])) hK hP hD hS hA hXB hZ _ _ 0 4 rfl rfl) rfl rfl hl.1 rfl (lv_room (Nat.le_of_ble_eq_true rfl)) dL_law_1383 ⟨show (ce + 0) + 0 ≤ 651071 by omega, show (sl + 0) + 0 ≤ 7142890 by omega⟩) hP hD hS hA (fun _ _ _ => xd_self rfl (xd_l hD)) (fun r2 u2 H locs hw2 hP hD hS => ?_)
  have hP : va_P G vwCl ((xD T bd u2 M) ++ (xC T ad sc M ++ [(o0, .inl (T 4, 1, .inr (.inl h)))])) H := hP
  have hD : va_D A ((xD T bd u2 M) ++ (xC T ad sc M ++ [(o0, .inl (T 4, 1, .inr (.inl h)))])) := hD
  obtain ⟨rfl, rfl⟩ := hw2
  have hP := xp_perm (List.perm_append_comm (l₁ := (xD T bd (nI 0) M)) (l₂ := (xC T ad sc M ++ [(o0, .inl (T 4, 1, .inr (.inl h)))]))) hP
  have hD := xd_perm (List.perm_append_comm (l₁ := (xD T bd (nI 0) M)) (l₂ := (xC T ad sc M ++ [(o0, .inl (T 4, 1, .inr (.inl h)))]))) hD
  refine lv_dstore (lv' := [(7, .double (xmean M)), (5, .double (xmean M)), (0, .ref b), (1, .ref (ad 0)), (2, .ref (bd 0)), (3, .ref o0), (4, .int (nI i))]) hx hb dL_law_1386 hl (by decide) rfl (fun ls hl => ?_)
  refine lv_dload hx hb dL_law_1388 (lv_at hl 1 rfl) ?_
  refine lv_dload hx hb dL_law_1390 (lv_at hl 0 rfl) ?_
  refine lv_dcmp hx hb dL_law_1392 ?_
  refine x_topi (y := 0) (xmean_cmp hn4 (fun w hw j hj => (hth w hw j hj).1)) ?_
  refine lv_if_eq (tgt := 1414) hx hb dL_law_1393 (by decide) (fun _ => ?_) (fun c_ => absurd (rfl) c_)
  refine lv_goto (tgt := 1431) hx hb dL_law_1414 (by decide) ?_
  refine W.widen (k := ce + 90) (n := sl + 547) (by omega) (by omega) ?_
  exact kk _ _ _ _ _ _ _ rfl (xI_s hI hj) hP hD hS ls (lv_sub hl [2, 3, 4, 5, 6] rfl)

set_option maxHeartbeats 4000000 in
set_option maxRecDepth 100000 in
/-- the law: digest -/
theorem lc_digest {p : Program} {l : Launch} {e : Env} {s : State} {m : MethodId} {below : List Frame} {meth : Method} {c : Code} {G : va_G} {T : Nat → ClassId} {b L : Nat} {xs : Nat → Int32} (C0 : xLC p l s m meth c b L xs G T) (i j : Nat) (hi : i + 4 ≤ L) (hj : j < 512) (ad : Nat → Nat) (sc : Nat → Nat → Int32) (M : XM) (bd : Nat → Nat) (thr : Int32) (o0 : Nat) (h : Nat → Int64) (hI : xI M j) (ce sl : Nat) (hce : ce + 90 ≤ 651071) (hsl9 : sl + 547 ≤ 7142890) (H : Heap) (locs : List Loc) (hP : va_P G vwCl ((xC T ad sc M ++ [(o0, .inl (T 4, 1, .inr (.inl h)))]) ++ (xD T bd thr M)) H) (hD : va_D (fun q : Nat => s.heap.size ≤ q) ((xC T ad sc M ++ [(o0, .inl (T 4, 1, .inr (.inl h)))]) ++ (xD T bd thr M))) (hS : va_S (fun q : Nat => s.heap.size ≤ q) s.heap H locs) (ls : Array Slot) (hl : lv_has ls 9 [(0, .ref b), (1, .ref (ad 0)), (2, .ref (bd 0)), (3, .ref o0), (4, .int (nI i))]) (kk : ∀ (ad1 : Nat → Nat) (sc1 : Nat → Nat → Int32) (M1 : XM) (thr1 : Int32) (h1 : Nat → Int64) (H1 : Heap) (locs1 : List Loc), ad1 0 = ad 0 → xI M1 (j + 1) → va_P G vwCl ((xC T ad1 sc1 M1 ++ [(o0, .inl (T 4, 1, .inr (.inl h1)))]) ++ (xD T bd thr1 M1)) H1 → va_D (fun q : Nat => s.heap.size ≤ q) ((xC T ad1 sc1 M1 ++ [(o0, .inl (T 4, 1, .inr (.inl h1)))]) ++ (xD T bd thr1 M1)) → va_S (fun q : Nat => s.heap.size ≤ q) s.heap H1 locs1 → ∀ ls1 : Array Slot, lv_has ls1 9 [(0, .ref b), (1, .ref (ad 0)), (2, .ref (bd 0)), (3, .ref o0), (4, .int (nI i))] → W p l e room_1 s m #[Value.ref b] below meth c H1 locs1 (ce + 90) (sl + 547) (lw_Z below #[Value.ref b] s) (F0 m 1431 ls1 [])) : W p l e room_1 s m #[Value.ref b] below meth c H locs ce sl (lw_Z below #[Value.ref b] s) (F0 m 1417 ls []) := by
  obtain ⟨hx, hb, hr, hml, hown, hts, hX, hbl, hlocks, hK, hXB, hZ, hL9, hsl⟩ := C0
  have hA : ∀ q : Nat, s.heap.size ≤ q → (fun q : Nat => s.heap.size ≤ q) q := fun _ h => h
  have hbA : ¬ (fun q : Nat => s.heap.size ≤ q) b := Nat.not_le.mpr hbl
  obtain ⟨hn4, hm4, hpk, hsur, hsh, hth, hz0, hhb, hle, hta, hj5⟩ := id hI
  generalize hAe : (fun q : Nat => s.heap.size ≤ q) = A at hA hbA hZ hD hS kk
  refine lv_aload_n hx hb dL_law_1417 rfl (lv_at hl 1 rfl) ?_
  have hP : va_P G vwCl ((xC T ad sc M) ++ ([(o0, .inl (T 4, 1, .inr (.inl h)))] ++ (xD T bd thr M))) H := by rw [← List.append_assoc]; exact hP
  have hD : va_D A ((xC T ad sc M) ++ ([(o0, .inl (T 4, 1, .inr (.inl h)))] ++ (xD T bd thr M))) := by rw [← List.append_assoc]; exact hD
  refine x_calllA (va_runV (As := []) (rest := []) ⟨hx, hb, hml, hown, hts⟩ (c_X3_digest l hsl G T _ ad sc M hn4 hm4 hsh) (cwV 0 hts gL_law_X3_digest rfl rfl rfl (by decide +kernel) ⟨Nat.le_of_ble_eq_true rfl, Nat.le_of_ble_eq_true rfl⟩) (x_preVA (wc := (xC T ad sc M)) (wr := ([(o0, .inl (T 4, 1, .inr (.inl h)))] ++ (xD T bd thr M))) hK hP hD hS hA hXB hZ _ _ 0 3 rfl rfl) rfl rfl hl.1 rfl (lv_room (Nat.le_of_ble_eq_true rfl)) dL_law_1418 ⟨show ce + 59 ≤ 651071 by omega, show sl + 354 ≤ 7142890 by omega⟩) hP hD hS hA (fun _ _ _ => (xd_l hD).self) (fun r1 u1 H locs hw1 hP hD hS => ?_)
  have hP : va_P G vwCl ((xC T ad sc M) ++ ([(o0, .inl (T 4, 1, .inr (.inl h)))] ++ (xD T bd thr M))) H := hP
  have hD : va_D A ((xC T ad sc M) ++ ([(o0, .inl (T 4, 1, .inr (.inl h)))] ++ (xD T bd thr M))) := hD
  subst hw1
  have hP : va_P G vwCl ((xC T ad sc M ++ [(o0, .inl (T 4, 1, .inr (.inl h)))]) ++ (xD T bd thr M)) H := by rw [List.append_assoc]; exact hP
  have hD : va_D A ((xC T ad sc M ++ [(o0, .inl (T 4, 1, .inr (.inl h)))]) ++ (xD T bd thr M)) := by rw [List.append_assoc]; exact hD
  refine lv_aload_n hx hb dL_law_1421 rfl (lv_at hl 2 rfl) ?_
  have hP := xp_perm (List.perm_append_comm (l₁ := (xC T ad sc M ++ [(o0, .inl (T 4, 1, .inr (.inl h)))])) (l₂ := (xD T bd thr M))) hP
  have hD := xd_perm (List.perm_append_comm (l₁ := (xC T ad sc M ++ [(o0, .inl (T 4, 1, .inr (.inl h)))])) (l₂ := (xD T bd thr M))) hD
  refine x_calllA (va_runV (As := []) (rest := [.long (xdP M (mnp M))]) ⟨hx, hb, hml, hown, hts⟩ (c_X4_digest l G T _ bd thr M hn4 hm4 (fun w hw j hj => (hth w hw j hj).1) hpk) (cwV 0 hts gL_law_X4_digest rfl rfl rfl (by decide +kernel) ⟨Nat.le_of_ble_eq_true rfl, Nat.le_of_ble_eq_true rfl⟩) (x_preVA (wc := (xD T bd thr M)) (wr := (xC T ad sc M ++ [(o0, .inl (T 4, 1, .inr (.inl h)))])) hK hP hD hS hA hXB hZ _ _ 0 4 rfl rfl) rfl rfl hl.1 rfl (lv_room (Nat.le_of_ble_eq_true rfl)) dL_law_1422 ⟨show (ce + 59) + 31 ≤ 651071 by omega, show (sl + 354) + 193 ≤ 7142890 by omega⟩) hP hD hS hA (fun _ _ _ => xd_self rfl (xd_l hD)) (fun r2 u2 H locs hw2 hP hD hS => ?_)
  have hP : va_P G vwCl ((xD T bd u2 M) ++ (xC T ad sc M ++ [(o0, .inl (T 4, 1, .inr (.inl h)))])) H := hP
  have hD : va_D A ((xD T bd u2 M) ++ (xC T ad sc M ++ [(o0, .inl (T 4, 1, .inr (.inl h)))])) := hD
  obtain ⟨rfl, rfl⟩ := hw2
  have hP := xp_perm (List.perm_append_comm (l₁ := (xD T bd (nI 0) M)) (l₂ := (xC T ad sc M ++ [(o0, .inl (T 4, 1, .inr (.inl h)))]))) hP
  have hD := xd_perm (List.perm_append_comm (l₁ := (xD T bd (nI 0) M)) (l₂ := (xC T ad sc M ++ [(o0, .inl (T 4, 1, .inr (.inl h)))]))) hD
  refine x_lcmp0 hx hb dL_law_1425 ?_
  refine lv_if_eq (tgt := 1431) hx hb dL_law_1426 (by decide) (fun _ => ?_) (fun c_ => absurd (rfl) c_)
  refine W.widen (k := ce + 90) (n := sl + 547) (by omega) (by omega) ?_
  exact kk _ _ _ _ _ _ _ rfl (xI_s hI hj) hP hD hS ls (lv_sub hl [0, 1, 2, 3, 4] rfl)

set_option maxHeartbeats 4000000 in
set_option maxRecDepth 100000 in
/-- the law's loop -/
theorem law_loop {p : Program} {l : Launch} {e : Env} {s : State} {m : MethodId} {below : List Frame} {meth : Method} {c : Code} {G : va_G} {T : Nat → ClassId} {b L : Nat} {xs : Nat → Int32} (C0 : xLC p l s m meth c b L xs G T) (bd : Nat → Nat) (o0 x0 c0 s0 : Nat) (hc0 : c0 + 90 * 512 ≤ 651071) (hs0 : s0 + 547 * 512 ≤ 7142890) : ∀ (nf i j : Nat) (ad : Nat → Nat) (sc : Nat → Nat → Int32) (M : XM) (thr : Int32) (h : Nat → Int64), i = 4 * j → i ≤ L → L < i + nf → ad 0 = x0 → xI M j → ∀ (H : Heap) (locs : List Loc), va_P G vwCl ((xC T ad sc M ++ [(o0, .inl (T 4, 1, .inr (.inl h)))]) ++ (xD T bd thr M)) H → va_D (fun q : Nat => s.heap.size ≤ q) ((xC T ad sc M ++ [(o0, .inl (T 4, 1, .inr (.inl h)))]) ++ (xD T bd thr M)) → va_S (fun q : Nat => s.heap.size ≤ q) s.heap H locs → ∀ ls : Array Slot, lv_has ls 9 [(0, .ref b), (1, .ref x0), (2, .ref (bd 0)), (3, .ref o0), (4, .int (nI i))] → W p l e room_1 s m #[Value.ref b] below meth c H locs (c0 + 90 * j) (s0 + 547 * j) (lw_Z below #[Value.ref b] s) (F0 m 23 ls []) := by
  have C1 := C0
  obtain ⟨hx, hb, hr, hml, hown, hts, hX, hbl, hlocks, hK, hXB, hZ, hL9, hsl⟩ := C1
  have hA : ∀ q : Nat, s.heap.size ≤ q → (fun q : Nat => s.heap.size ≤ q) q := fun _ h => h
  have hbA : ¬ (fun q : Nat => s.heap.size ≤ q) b := Nat.not_le.mpr hbl
  intro nf
  induction nf with
  | zero => intro i j ad sc M thr h ei hj5 hn; intro hx0 hI H locs hP hD hS ls hl; exfalso; omega
  | succ nf ih =>
    intro i j ad sc M thr h ei hj5 hn hx0 hI H locs hP hD hS ls hl
    subst hx0
    refine lv_iload hx hb dL_law_23 (lv_at hl 4 rfl) ?_
    refine lv_aload_n hx hb dL_law_25 rfl (lv_at hl 0 rfl) ?_
    refine va_slen hx hb hX hbl hbA hS dL_law_26 ?_
    refine lv_iconst (v := nI 4) hx hb dL_law_27 (by decide) ?_
    refine lv_isub hx hb dL_law_28 ?_
    by_cases hc : i + 4 ≤ L
    · refine lv_icmp_gt (tgt := 1437) hx hb dL_law_29 (by decide) (fun c_ => absurd ((xgt hL9 (by omega)).mp c_) (by omega)) (fun _ => ?_)
      refine lv_aload_n hx hb dL_law_32 rfl (lv_at hl 0 rfl) ?_
      refine lv_iload hx hb dL_law_33 (lv_at hl 4 rfl) ?_
      refine va_sld hx hb hX hbl hbA hS (vp_in_nI (n := i) (N := L) (by omega) (by omega)) dL_law_35 ?_
      refine x_topi (y := (xs i)) (by rw [nI_clamp (by omega)]) ?_
      refine lv_bipush (v := nI 31) hx hb dL_law_36 (by decide) ?_
      refine lv_iand hx hb dL_law_38 ?_
      obtain ⟨q, hq, eq9⟩ := x31 (xs i)
      refine x_topi (y := nI q) (eq9) ?_
      have K9 : ∀ (ad1 : Nat → Nat) (sc1 : Nat → Nat → Int32) (M1 : XM) (thr1 : Int32) (h1 : Nat → Int64) (H1 : Heap) (locs1 : List Loc), ad1 0 = ad 0 → xI M1 (j + 1) → va_P G vwCl ((xC T ad1 sc1 M1 ++ [(o0, .inl (T 4, 1, .inr (.inl h1)))]) ++ (xD T bd thr1 M1)) H1 → va_D (fun q : Nat => s.heap.size ≤ q) ((xC T ad1 sc1 M1 ++ [(o0, .inl (T 4, 1, .inr (.inl h1)))]) ++ (xD T bd thr1 M1)) → va_S (fun q : Nat => s.heap.size ≤ q) s.heap H1 locs1 → ∀ ls1 : Array Slot, lv_has ls1 9 [(0, .ref b), (1, .ref (ad 0)), (2, .ref (bd 0)), (3, .ref o0), (4, .int (nI i))] → W p l e room_1 s m #[Value.ref b] below meth c H1 locs1 (c0 + 90 * j + 90) (s0 + 547 * j + 547) (lw_Z below #[Value.ref b] s) (F0 m 1431 ls1 []) := by
        intro ad1 sc1 M1 thr1 h1 H1 locs1 hx1 hI1 hP hD hS ls hl
        refine lv_iinc (v := nI (i + 4)) (lv' := [(4, .int (nI (i + 4))), (0, .ref b), (1, .ref (ad 0)), (2, .ref (bd 0)), (3, .ref o0)]) hx hb dL_law_1431 hl (k := 4) rfl (x_inc4 _) (by decide) rfl (fun ls hl => ?_)
        refine lv_goto (tgt := 23) hx hb dL_law_1434 (by decide) ?_
        refine W.widen (k := c0 + 90 * (j + 1)) (n := s0 + 547 * (j + 1)) (by omega) (by omega) ?_
        exact ih (i + 4) (j + 1) ad1 sc1 M1 thr1 h1 (by omega) (by omega) (by omega) hx1 hI1 _ _ hP hD hS ls (lv_sub hl [1, 2, 3, 4, 0] rfl)
      rcases (show q = 0 ∨ q = 1 ∨ q = 2 ∨ q = 3 ∨ q = 4 ∨ q = 5 ∨ q = 6 ∨ q = 7 ∨ q = 8 ∨ q = 9 ∨ q = 10 ∨ q = 11 ∨ q = 12 ∨ q = 13 ∨ q = 14 ∨ q = 15 ∨ q = 16 ∨ q = 17 ∨ q = 18 ∨ q = 19 ∨ q = 20 ∨ 21 ≤ q by omega) with rfl | rfl | rfl | rfl | rfl | rfl | rfl | rfl | rfl | rfl | rfl | rfl | rfl | rfl | rfl | rfl | rfl | rfl | rfl | rfl | rfl | hge
      · refine lv_tableIn (off := 97) (tgt := 136) hx hb dL_law_39 (by decide) (by decide) (by decide) (by decide) ?_
        exact lc_go C0 i j (by omega) (by omega) ad sc M bd thr o0 h hI _ _ (by omega) (by omega) H locs hP hD hS ls hl K9
      · refine lv_tableIn (off := 193) (tgt := 232) hx hb dL_law_39 (by decide) (by decide) (by decide) (by decide) ?_
        exact lc_falseCut C0 i j (by omega) (by omega) ad sc M bd thr o0 h hI _ _ (by omega) (by omega) H locs hP hD hS ls hl K9
      · refine lv_tableIn (off := 249) (tgt := 288) hx hb dL_law_39 (by decide) (by decide) (by decide) (by decide) ?_
        exact lc_comes C0 i j (by omega) (by omega) ad sc M bd thr o0 h hI _ _ (by omega) (by omega) H locs hP hD hS ls hl K9
      · refine lv_tableIn (off := 329) (tgt := 368) hx hb dL_law_39 (by decide) (by decide) (by decide) (by decide) ?_
        exact lc_card C0 i j (by omega) (by omega) ad sc M bd thr o0 h hI _ _ (by omega) (by omega) H locs hP hD hS ls hl K9
      · refine lv_tableIn (off := 385) (tgt := 424) hx hb dL_law_39 (by decide) (by decide) (by decide) (by decide) ?_
        exact lc_find C0 i j (by omega) (by omega) ad sc M bd thr o0 h hI _ _ (by omega) (by omega) H locs hP hD hS ls hl K9
      · refine lv_tableIn (off := 441) (tgt := 480) hx hb dL_law_39 (by decide) (by decide) (by decide) (by decide) ?_
        exact lc_watch C0 i j (by omega) (by omega) ad sc M bd thr o0 h hI _ _ (by omega) (by omega) H locs hP hD hS ls hl K9
      · refine lv_tableIn (off := 513) (tgt := 552) hx hb dL_law_39 (by decide) (by decide) (by decide) (by decide) ?_
        exact lc_glimpse C0 i j (by omega) (by omega) ad sc M bd thr o0 h hI _ _ (by omega) (by omega) H locs hP hD hS ls hl K9
      · refine lv_tableIn (off := 581) (tgt := 620) hx hb dL_law_39 (by decide) (by decide) (by decide) (by decide) ?_
        exact lc_thinks C0 i j (by omega) (by omega) ad sc M bd thr o0 h hI _ _ (by omega) (by omega) H locs hP hD hS ls hl K9
      · refine lv_tableIn (off := 649) (tgt := 688) hx hb dL_law_39 (by decide) (by decide) (by decide) (by decide) ?_
        exact lc_sure C0 i j (by omega) (by omega) ad sc M bd thr o0 h hI _ _ (by omega) (by omega) H locs hP hD hS ls hl K9
      · refine lv_tableIn (off := 717) (tgt := 756) hx hb dL_law_39 (by decide) (by decide) (by decide) (by decide) ?_
        exact lc_watcher C0 i j (by omega) (by omega) ad sc M bd thr o0 h hI _ _ (by omega) (by omega) H locs hP hD hS ls hl K9
      · refine lv_tableIn (off := 785) (tgt := 824) hx hb dL_law_39 (by decide) (by decide) (by decide) (by decide) ?_
        exact lc_sit C0 i j (by omega) (by omega) ad sc M bd thr o0 h hI _ _ (by omega) (by omega) H locs hP hD hS ls hl K9
      · refine lv_tableIn (off := 841) (tgt := 880) hx hb dL_law_39 (by decide) (by decide) (by decide) (by decide) ?_
        exact lc_fan C0 i j (by omega) (by omega) ad sc M bd thr o0 h hI _ _ (by omega) (by omega) H locs hP hD hS ls hl K9
      · refine lv_tableIn (off := 897) (tgt := 936) hx hb dL_law_39 (by decide) (by decide) (by decide) (by decide) ?_
        exact lc_take C0 i j (by omega) (by omega) ad sc M bd thr o0 h hI _ _ (by omega) (by omega) H locs hP hD hS ls hl K9
      · refine lv_tableIn (off := 953) (tgt := 992) hx hb dL_law_39 (by decide) (by decide) (by decide) (by decide) ?_
        exact lc_force C0 i j (by omega) (by omega) ad sc M bd thr o0 h hI _ _ (by omega) (by omega) H locs hP hD hS ls hl K9
      · refine lv_tableIn (off := 1021) (tgt := 1060) hx hb dL_law_39 (by decide) (by decide) (by decide) (by decide) ?_
        exact lc_took C0 i j (by omega) (by omega) ad sc M bd thr o0 h hI _ _ (by omega) (by omega) H locs hP hD hS ls hl K9
      · refine lv_tableIn (off := 1077) (tgt := 1116) hx hb dL_law_39 (by decide) (by decide) (by decide) (by decide) ?_
        exact lc_count C0 i j (by omega) (by omega) ad sc M bd thr o0 h hI _ _ (by omega) (by omega) H locs hP hD hS ls hl K9
      · refine lv_tableIn (off := 1133) (tgt := 1172) hx hb dL_law_39 (by decide) (by decide) (by decide) (by decide) ?_
        exact lc_back C0 i j (by omega) (by omega) ad sc M bd thr o0 h hI _ _ (by omega) (by omega) H locs hP hD hS ls hl K9
      · refine lv_tableIn (off := 1201) (tgt := 1240) hx hb dL_law_39 (by decide) (by decide) (by decide) (by decide) ?_
        exact lc_bring C0 i j (by omega) (by omega) ad sc M bd thr o0 h hI _ _ (by omega) (by omega) H locs hP hD hS ls hl K9
      · refine lv_tableIn (off := 1269) (tgt := 1308) hx hb dL_law_39 (by decide) (by decide) (by decide) (by decide) ?_
        exact lc_riffles C0 i j (by omega) (by omega) ad sc M bd thr o0 h hI _ _ (by omega) (by omega) H locs hP hD hS ls hl K9
      · refine lv_tableIn (off := 1337) (tgt := 1376) hx hb dL_law_39 (by decide) (by decide) (by decide) (by decide) ?_
        exact lc_mean C0 i j (by omega) (by omega) ad sc M bd thr o0 h hI _ _ (by omega) (by omega) H locs hP hD hS ls hl K9
      · refine lv_tableIn (off := 1378) (tgt := 1417) hx hb dL_law_39 (by decide) (by decide) (by decide) (by decide) ?_
        exact lc_digest C0 i j (by omega) (by omega) ad sc M bd thr o0 h hI _ _ (by omega) (by omega) H locs hP hD hS ls hl K9
      · refine lv_tableOut (tgt := 1431) hx hb dL_law_39 (Or.inr (by rw [nI_toInt (by omega)]; omega)) (by decide) ?_
        refine W.widen (k := c0 + 90 * j + 90) (n := s0 + 547 * j + 547) (by omega) (by omega) ?_
        exact K9 _ _ _ _ _ _ _ rfl (xI_s hI (by omega)) hP hD hS ls hl
    · refine lv_icmp_gt (tgt := 1437) hx hb dL_law_29 (by decide) (fun _ => ?_) (fun c_ => absurd ((xgt hL9 (by omega)).mpr (by omega)) c_)
      refine lv_iconst (v := nI 1) hx hb dL_law_1437 (by decide) ?_
      refine va_forget (fun q hq => hS.2.2 q hq) ?_
      refine W.widen (k := 651071) (n := 7142890) (by omega) (by omega) ?_
      refine W.base ?_
      exact lw_ret (Drawn.sameBut.refl s.drawn lw_cs) hx hb hr hlocks dL_law_1438
end XLW3
