section XLW5
theorem x_lay {X R : va_W} (a1 a2 a3 a4 : Nat × va_E) : (((((X ++ [a1]) ++ [a2]) ++ [a3]) ++ [a4]) ++ R).Perm ((a1 :: a2 :: a3 :: a4 :: R) ++ X) := by
  rw [List.append_assoc, List.append_assoc, List.append_assoc, List.append_assoc]
  exact List.perm_append_comm
def xq4 (a5 a6 a7 b3 : Nat) (r : Nat → Nat) : Nat → Nat := fun k => [a5, a6, a7, b3, r 0, r 1, r 2, r 3].getD k 0
theorem xrf4q (a5 a6 a7 b3 : Nat) (r : Nat → Nat) : (fun i => if i < 4 then some (r i) else none) = (fun i => if i < 4 then some (xq4 a5 a6 a7 b3 r (4 + i)) else none) := by
  funext j
  by_cases h : j < 4
  · rw [if_pos h, if_pos h]
    rcases (show j = 0 ∨ j = 1 ∨ j = 2 ∨ j = 3 by omega) with rfl | rfl | rfl | rfl <;> rfl
  · rw [if_neg h, if_neg h]
set_option maxHeartbeats 4000000 in
set_option maxRecDepth 100000 in
/-- the law's rounds -/
theorem law_loop {p : Program} {l : Launch} {e : Env} {s : State} {m : MethodId} {below : List Frame} {meth : Method} {c : Code} {G : va_G} {T : Nat → ClassId} {b L : Nat} {xs : Nat → Int32} (C0 : xLC p l s m meth c b L xs G T) (hAO : va_AOA .int s) (wn : Nat) (hw1n : 1 ≤ wn) (ad : Nat → Nat) (c0 s0 : Nat) (hc0 : c0 + 1010 * 56 ≤ 600130) (hs0 : s0 + 6100 * 56 ≤ 7301080) : ∀ (n1 t : Nat) (sc : Nat → Nat → Int32) (M : XM), t ≤ 56 → 56 < t + n1 → xJ M wn (6 + 2 * t) → ∀ (H : Heap) (locs : List Loc), va_P G vwCl (xC T ad sc M) H → va_D (fun q : Nat => s.heap.size ≤ q) (xC T ad sc M) → va_S (fun q : Nat => s.heap.size ≤ q) s.heap H locs → ∀ (ls : Array Slot), lv_has ls 24 [(0, .ref b), (1, .ref (ad 0)), (2, .int (nI wn)), (3, .int (nI t))] → W p l e room_1 s m #[Value.ref b] below meth c H locs (c0 + 1010 * t) (s0 + 6100 * t) (lw_Z below #[Value.ref b] s) (F0 m 105 ls []) := by
  have C1 := C0
  obtain ⟨hx, hb, hr, hml, hown, hts, hX, hbl, hlocks, hK, hXB, hZ, hL9, hsl⟩ := C1
  have hA : ∀ q : Nat, s.heap.size ≤ q → (fun q : Nat => s.heap.size ≤ q) q := fun _ h => h
  have hbA : ¬ (fun q : Nat => s.heap.size ≤ q) b := Nat.not_le.mpr hbl
  intro n1
  induction n1 with
  | zero => intro t sc M ht hn1 hJ H locs hP hD hS ls hl; exfalso; omega
  | succ n1 ih =>
    intro t sc M ht hn1 hJ H locs hP hD hS ls hl
    refine lv_iload_n hx hb dL_law_105 rfl (lv_at hl 3 rfl) ?_
    refine lv_bipush (v := nI 56) hx hb dL_law_106 (by decide) ?_
    by_cases hc : t < 56
    · refine lv_icmp_ge (tgt := 1125) hx hb dL_law_108 (by decide) (fun c_ => absurd c_ (nI_ge hc (by omega))) (fun _ => ?_)
      refine lv_aload_n hx hb dL_law_111 rfl (lv_at hl 0 rfl) ?_
      refine lv_iload_n hx hb dL_law_112 rfl (lv_at hl 3 rfl) ?_
      refine lv_bipush (v := nI 16) hx hb dL_law_113 (by decide) ?_
      refine lv_irem hx hb dL_law_115 (by decide) ?_
      refine x_topi (y := nI (t % 16)) (pk_rem (by omega) (by decide) (by decide)) ?_
      refine x_calli (va_runS (As := [.ref b, .int (nI (t % 16))]) (rest := []) ⟨hx, hb, hml, hown, hts⟩ (c_L_cell l G T _ b L (t % 16) xs (by omega) (by omega)) (va_cwS 2 hts gL_law_L_cell rfl rfl rfl (by decide +kernel) ⟨Nat.le_of_ble_eq_true rfl, Nat.le_of_ble_eq_true rfl⟩) (x_preX hK hP hD hS hA hXB hZ hX hbl hbA _) rfl rfl hl.1 rfl (lv_room (Nat.le_of_ble_eq_true rfl)) dL_law_116 ⟨show c0 + 1010 * t + 0 ≤ 600130 by omega, show s0 + 6100 * t + 0 ≤ 7301080 by omega⟩) hP hD hS hA [] rfl (fun _ _ _ => rfl) (fun r1 u1 H locs hw1 hP hD hS => ?_)
      have hP : va_P G vwCl (xC T ad sc M) H := hP
      have hD : va_D (fun q : Nat => s.heap.size ≤ q) (xC T ad sc M) := hD
      refine lv_iload_n hx hb dL_law_119 rfl (lv_at hl 3 rfl) ?_
      refine lv_bipush (v := nI 16) hx hb dL_law_120 (by decide) ?_
      refine lv_idiv hx hb dL_law_122 (by decide) ?_
      refine x_topi (y := nI (t / 16)) (pk_div (by omega) (by decide) (by decide)) ?_
      refine lv_bipush (v := nI 6) hx hb dL_law_123 (by decide) ?_
      refine lv_imul hx hb dL_law_125 ?_
      refine lv_ishr hx hb dL_law_126 ?_
      refine lv_topi (fun xv exv => ?_)
      refine lv_istore (lv' := [(4, .int xv), (0, .ref b), (1, .ref (ad 0)), (2, .int (nI wn)), (3, .int (nI t))]) hx hb dL_law_127 hl (by decide) rfl (fun ls hl => ?_)
      refine lv_iconst (v := nI 4) hx hb dL_law_129 (by decide) ?_
      refine x_newai (N := 4) hx hb (hts (.arrayClass .int) (by decide +kernel)) hK 0 rfl hP hD hS hA (by decide) (by decide) (show c0 + 1010 * t + 1 ≤ 600130 by omega) (show s0 + 6100 * t + 4 ≤ 7301080 by omega) dL_law_130 (fun a5 H hP hD hS => ?_)
      have hP : va_P G vwCl ((xC T ad sc M) ++ [(a5, .inl (T 0, 4, .inl (fun _ => 0)))]) H := hP
      have hD : va_D (fun q : Nat => s.heap.size ≤ q) ((xC T ad sc M) ++ [(a5, .inl (T 0, 4, .inl (fun _ => 0)))]) := hD
      refine lv_astore (lv' := [(5, .ref a5), (4, .int xv), (0, .ref b), (1, .ref (ad 0)), (2, .int (nI wn)), (3, .int (nI t))]) hx hb dL_law_132 hl (by decide) rfl (fun ls hl => ?_)
      refine lv_iconst (v := nI 4) hx hb dL_law_134 (by decide) ?_
      refine x_newai (N := 4) hx hb (hts (.arrayClass .int) (by decide +kernel)) hK 0 rfl hP hD hS hA (by decide) (by decide) (show (c0 + 1010 * t + 1) + 1 ≤ 600130 by omega) (show (s0 + 6100 * t + 4) + 4 ≤ 7301080 by omega) dL_law_135 (fun a6 H hP hD hS => ?_)
      have hP : va_P G vwCl (((xC T ad sc M) ++ [(a5, .inl (T 0, 4, .inl (fun _ => 0)))]) ++ [(a6, .inl (T 0, 4, .inl (fun _ => 0)))]) H := hP
      have hD : va_D (fun q : Nat => s.heap.size ≤ q) (((xC T ad sc M) ++ [(a5, .inl (T 0, 4, .inl (fun _ => 0)))]) ++ [(a6, .inl (T 0, 4, .inl (fun _ => 0)))]) := hD
      refine lv_astore (lv' := [(6, .ref a6), (5, .ref a5), (4, .int xv), (0, .ref b), (1, .ref (ad 0)), (2, .int (nI wn)), (3, .int (nI t))]) hx hb dL_law_137 hl (by decide) rfl (fun ls hl => ?_)
      refine lv_iconst (v := nI 4) hx hb dL_law_139 (by decide) ?_
      refine x_newai (N := 4) hx hb (hts (.arrayClass .int) (by decide +kernel)) hK 0 rfl hP hD hS hA (by decide) (by decide) (show ((c0 + 1010 * t + 1) + 1) + 1 ≤ 600130 by omega) (show ((s0 + 6100 * t + 4) + 4) + 4 ≤ 7301080 by omega) dL_law_140 (fun a7 H hP hD hS => ?_)
      have hP : va_P G vwCl ((((xC T ad sc M) ++ [(a5, .inl (T 0, 4, .inl (fun _ => 0)))]) ++ [(a6, .inl (T 0, 4, .inl (fun _ => 0)))]) ++ [(a7, .inl (T 0, 4, .inl (fun _ => 0)))]) H := hP
      have hD : va_D (fun q : Nat => s.heap.size ≤ q) ((((xC T ad sc M) ++ [(a5, .inl (T 0, 4, .inl (fun _ => 0)))]) ++ [(a6, .inl (T 0, 4, .inl (fun _ => 0)))]) ++ [(a7, .inl (T 0, 4, .inl (fun _ => 0)))]) := hD
      refine lv_astore (lv' := [(7, .ref a7), (6, .ref a6), (5, .ref a5), (4, .int xv), (0, .ref b), (1, .ref (ad 0)), (2, .int (nI wn)), (3, .int (nI t))]) hx hb dL_law_142 hl (by decide) rfl (fun ls hl => ?_)
      refine lv_iconst (v := nI 4) hx hb dL_law_144 (by decide) ?_
      refine lv_bipush (v := nI 16) hx hb dL_law_145 (by decide) ?_
      have hP : va_P G vwCl (((((xC T ad sc M) ++ [(a5, .inl (T 0, 4, .inl (fun _ => 0)))]) ++ [(a6, .inl (T 0, 4, .inl (fun _ => 0)))]) ++ [(a7, .inl (T 0, 4, .inl (fun _ => 0)))]) ++ va_pl [] (fun _ => .inl (T 0, 0, .inl (fun _ => 0)))) H := by rw [show va_pl [] (fun _ => (.inl (T 0, 0, .inl (fun _ => 0)) : va_E)) = [] from rfl, List.append_nil]; exact hP
      have hD : va_D (fun q : Nat => s.heap.size ≤ q) (((((xC T ad sc M) ++ [(a5, .inl (T 0, 4, .inl (fun _ => 0)))]) ++ [(a6, .inl (T 0, 4, .inl (fun _ => 0)))]) ++ [(a7, .inl (T 0, 4, .inl (fun _ => 0)))]) ++ va_pl [] (fun _ => .inl (T 0, 0, .inl (fun _ => 0)))) := by rw [show va_pl [] (fun _ => (.inl (T 0, 0, .inl (fun _ => 0)) : va_E)) = [] from rfl, List.append_nil]; exact hD
      refine va_mna (ty := .int) (cy := T 0) (N' := 4) (K' := 16) (z := (16, .inl (fun _ => 0))) hx hb hown (hts (.classLink RL 30 "[[I") (by decide +kernel)) hAO (hts (.arrayClass .int) (by decide +kernel)) (hK.2 0 _ rfl).2 hK hP hD hS hA (by decide) (by decide) (by decide) (by decide) (by decide) (by decide) (by decide) (by decide) (by decide) (show (((c0 + 1010 * t + 1) + 1) + 1) + (1 + 4) ≤ 600130 by omega) (show (((s0 + 6100 * t + 4) + 4) + 4) + (4 + 4 * 16) ≤ 7301080 by omega) xin16 dL_law_147 (fun b3 r cA H _ _ hK1 hP hD hS => ?_)
      have ecA : cA = T 3 := Option.some.inj (((hK1.2 4 (cA, .array .int) rfl).2).symm.trans (hK.2 3 _ rfl).2)
      subst ecA
      rw [xpl4, xrf4q a5 a6 a7 b3 r] at hP hD
      have hP := xp_perm (x_lay _ _ _ _) hP
      have hD := xd_perm (x_lay _ _ _ _) hD
      obtain ⟨q, rfl, rfl, rfl, rfl, hP, hD⟩ : ∃ q : Nat → Nat, q 0 = a5 ∧ q 1 = a6 ∧ q 2 = a7 ∧ q 3 = b3 ∧ va_P G vwCl (xR0 T q (xfn 0 (fun v => xtold M v 1)) (xfn 0 (fun v => xtold M v 2)) (xfn 0 (man M)) (xft M 0) ++ xC T ad sc M) H ∧ va_D (fun q : Nat => s.heap.size ≤ q) (xR0 T q (xfn 0 (fun v => xtold M v 1)) (xfn 0 (fun v => xtold M v 2)) (xfn 0 (man M)) (xft M 0) ++ xC T ad sc M) := ⟨xq4 a5 a6 a7 b3 r, rfl, rfl, rfl, rfl, by rw [xft_00]; exact hP, by rw [xft_00]; exact hD⟩
      refine lv_astore (lv' := [(8, .ref (q 3)), (7, .ref (q 2)), (6, .ref (q 1)), (5, .ref (q 0)), (4, .int xv), (0, .ref b), (1, .ref (ad 0)), (2, .int (nI wn)), (3, .int (nI t))]) hx hb dL_law_151 hl (by decide) rfl (fun ls hl => ?_)
      refine lv_iconst (v := nI 0) hx hb dL_law_153 (by decide) ?_
      refine lv_istore (lv' := [(9, .int (nI 0)), (8, .ref (q 3)), (7, .ref (q 2)), (6, .ref (q 1)), (5, .ref (q 0)), (4, .int xv), (0, .ref b), (1, .ref (ad 0)), (2, .int (nI wn)), (3, .int (nI t))]) hx hb dL_law_154 hl (by decide) rfl (fun ls hl => ?_)
      refine L_fill C0 wn t _ xv q ad sc M hJ _ _ (by omega) (by omega) H locs hP hD hS ls (lv_sub hl [6, 7, 8, 9, 5, 4, 3, 2, 1, 0] rfl) (fun H locs hP hD hS ls hl => ?_)
      refine lv_bipush (v := nI 16) hx hb dL_law_236 (by decide) ?_
      refine x_newai (N := 16) hx hb (hts (.arrayClass .int) (by decide +kernel)) hK 0 rfl hP hD hS hA (by decide) (by decide) (show (((((c0 + 1010 * t + 1) + 1) + 1) + 1 + 4) + 152) + 1 ≤ 600130 by omega) (show (((((s0 + 6100 * t + 4) + 4) + 4) + 4 + 4 * 16) + 912) + 16 ≤ 7301080 by omega) dL_law_238 (fun pk H hP hD hS => ?_)
      have hP : va_P G vwCl ((xR0 T q (xfn wn (fun v => xtold M v 1)) (xfn wn (fun v => xtold M v 2)) (xfn wn (man M)) (xft M wn) ++ xC T ad sc M) ++ [(pk, .inl (T 0, 16, .inl (fun _ => 0)))]) H := hP
      have hD : va_D (fun q : Nat => s.heap.size ≤ q) ((xR0 T q (xfn wn (fun v => xtold M v 1)) (xfn wn (fun v => xtold M v 2)) (xfn wn (man M)) (xft M wn) ++ xC T ad sc M) ++ [(pk, .inl (T 0, 16, .inl (fun _ => 0)))]) := hD
      have hP := xp_perm (List.perm_append_comm (l₁ := (xR0 T q (xfn wn (fun v => xtold M v 1)) (xfn wn (fun v => xtold M v 2)) (xfn wn (man M)) (xft M wn) ++ xC T ad sc M)) (l₂ := [(pk, .inl (T 0, 16, .inl (fun _ => 0)))])) hP
      have hD := xd_perm (List.perm_append_comm (l₁ := (xR0 T q (xfn wn (fun v => xtold M v 1)) (xfn wn (fun v => xtold M v 2)) (xfn wn (man M)) (xft M wn) ++ xC T ad sc M)) (l₂ := [(pk, .inl (T 0, 16, .inl (fun _ => 0)))])) hD
      have hP : va_P G vwCl (((pk, .inl (T 0, 16, .inl (xfn 0 (mpk M)))) :: xR0 T q (xfn wn (fun v => xtold M v 1)) (xfn wn (fun v => xtold M v 2)) (xfn wn (man M)) (xft M wn)) ++ xC T ad sc M) H := hP
      have hD : va_D (fun q : Nat => s.heap.size ≤ q) (((pk, .inl (T 0, 16, .inl (xfn 0 (mpk M)))) :: xR0 T q (xfn wn (fun v => xtold M v 1)) (xfn wn (fun v => xtold M v 2)) (xfn wn (man M)) (xft M wn)) ++ xC T ad sc M) := hD
      refine lv_astore (lv' := [(9, .ref pk), (0, .ref b), (1, .ref (ad 0)), (2, .int (nI wn)), (3, .int (nI t)), (4, .int xv), (5, .ref (q 0)), (6, .ref (q 1)), (7, .ref (q 2)), (8, .ref (q 3))]) hx hb dL_law_240 hl (by decide) rfl (fun ls hl => ?_)
      refine lv_iconst (v := nI 0) hx hb dL_law_242 (by decide) ?_
      refine lv_istore (lv' := [(10, .int (nI 0)), (9, .ref pk), (0, .ref b), (1, .ref (ad 0)), (2, .int (nI wn)), (3, .int (nI t)), (4, .int xv), (5, .ref (q 0)), (6, .ref (q 1)), (7, .ref (q 2)), (8, .ref (q 3))]) hx hb dL_law_243 hl (by decide) rfl (fun ls hl => ?_)
      refine L_pack C0 wn t xv q pk (xR0 T q (xfn wn (fun v => xtold M v 1)) (xfn wn (fun v => xtold M v 2)) (xfn wn (man M)) (xft M wn)) ad sc M _ _ (by omega) (by omega) H locs hP hD hS ls (lv_sub hl [2, 3, 4, 5, 6, 7, 8, 9, 10, 1, 0] rfl) (fun H locs hP hD hS ls hl => ?_)
      refine lv_iconst (v := (-1)) hx hb dL_law_269 (by decide) ?_
      refine lv_istore (lv' := [(10, .int (-1)), (0, .ref b), (1, .ref (ad 0)), (2, .int (nI wn)), (3, .int (nI t)), (4, .int xv), (5, .ref (q 0)), (6, .ref (q 1)), (7, .ref (q 2)), (8, .ref (q 3)), (9, .ref pk)]) hx hb dL_law_270 hl (by decide) rfl (fun ls hl => ?_)
      refine lv_iload hx hb dL_law_272 (lv_at hl 5 rfl) ?_
      refine lv_iconst (v := nI 4) hx hb dL_law_274 (by decide) ?_
      refine lv_ishr hx hb dL_law_275 ?_
      refine lv_bipush (v := nI 16) hx hb dL_law_276 (by decide) ?_
      refine x_calli (va_runS (As := [.int (xv >>> (nI 4 &&& 31)), .int (nI 16)]) (rest := []) ⟨hx, hb, hml, hown, hts⟩ (c_L_below l G T _ _ 16 (by decide) (by decide)) (va_cwS 2 hts gL_law_L_below rfl rfl rfl (by decide +kernel) ⟨Nat.le_of_ble_eq_true rfl, Nat.le_of_ble_eq_true rfl⟩) (x_preS (wc := []) hK hP hD hS hA hXB hZ [] rfl rfl _) rfl rfl hl.1 rfl (lv_room (Nat.le_of_ble_eq_true rfl)) dL_law_278 ⟨show (((((((c0 + 1010 * t + 1) + 1) + 1) + 1 + 4) + 152) + 1) + 16) + 0 ≤ 600130 by omega, show (((((((s0 + 6100 * t + 4) + 4) + 4) + 4 + 4 * 16) + 912) + 16) + 96) + 0 ≤ 7301080 by omega⟩) hP hD hS hA [] rfl (fun _ _ _ => rfl) (fun r1 u1 H locs hw1 hP hD hS => ?_)
      have hP : va_P G vwCl (((pk, .inl (T 0, 16, .inl (xfn 16 (mpk M)))) :: xR0 T q (xfn wn (fun v => xtold M v 1)) (xfn wn (fun v => xtold M v 2)) (xfn wn (man M)) (xft M wn)) ++ xC T ad sc M) H := hP
      have hD : va_D (fun q : Nat => s.heap.size ≤ q) (((pk, .inl (T 0, 16, .inl (xfn 16 (mpk M)))) :: xR0 T q (xfn wn (fun v => xtold M v 1)) (xfn wn (fun v => xtold M v 2)) (xfn wn (man M)) (xft M wn)) ++ xC T ad sc M) := hD
      obtain ⟨pl, hpl, rfl⟩ := hw1
      refine lv_istore (lv' := [(11, .int (nI pl)), (10, .int (-1)), (0, .ref b), (1, .ref (ad 0)), (2, .int (nI wn)), (3, .int (nI t)), (4, .int xv), (5, .ref (q 0)), (6, .ref (q 1)), (7, .ref (q 2)), (8, .ref (q 3)), (9, .ref pk)]) hx hb dL_law_281 hl (by decide) rfl (fun ls hl => ?_)
      refine lv_iload hx hb dL_law_283 (lv_at hl 6 rfl) ?_
      refine lv_iconst (v := nI 3) hx hb dL_law_285 (by decide) ?_
      refine lv_ishr hx hb dL_law_286 ?_
      refine lv_iconst (v := nI 2) hx hb dL_law_287 (by decide) ?_
      refine x_calli (va_runS (As := [.int (xv >>> (nI 3 &&& 31)), .int (nI 2)]) (rest := []) ⟨hx, hb, hml, hown, hts⟩ (c_L_below l G T _ _ 2 (by decide) (by decide)) (va_cwS 2 hts gL_law_L_below rfl rfl rfl (by decide +kernel) ⟨Nat.le_of_ble_eq_true rfl, Nat.le_of_ble_eq_true rfl⟩) (x_preS (wc := []) hK hP hD hS hA hXB hZ [] rfl rfl _) rfl rfl hl.1 rfl (lv_room (Nat.le_of_ble_eq_true rfl)) dL_law_288 ⟨show (((((((c0 + 1010 * t + 1) + 1) + 1) + 1 + 4) + 152) + 1) + 16) + 0 ≤ 600130 by omega, show (((((((s0 + 6100 * t + 4) + 4) + 4) + 4 + 4 * 16) + 912) + 16) + 96) + 0 ≤ 7301080 by omega⟩) hP hD hS hA [] rfl (fun _ _ _ => rfl) (fun r1 u1 H locs hw1 hP hD hS => ?_)
      have hP : va_P G vwCl (((pk, .inl (T 0, 16, .inl (xfn 16 (mpk M)))) :: xR0 T q (xfn wn (fun v => xtold M v 1)) (xfn wn (fun v => xtold M v 2)) (xfn wn (man M)) (xft M wn)) ++ xC T ad sc M) H := hP
      have hD : va_D (fun q : Nat => s.heap.size ≤ q) (((pk, .inl (T 0, 16, .inl (xfn 16 (mpk M)))) :: xR0 T q (xfn wn (fun v => xtold M v 1)) (xfn wn (fun v => xtold M v 2)) (xfn wn (man M)) (xft M wn)) ++ xC T ad sc M) := hD
      obtain ⟨b2, hb2, rfl⟩ := hw1
      refine W.widen (k := c0 + 1010 * t + 180) (n := s0 + 6100 * t + 1110) (by omega) (by omega) ?_
      have K301 : ∀ (op : Bool) (ls : Array Slot), lv_has ls 24 [(0, .ref b), (1, .ref (ad 0)), (2, .int (nI wn)), (3, .int (nI t)), (4, .int xv), (5, .ref (q 0)), (6, .ref (q 1)), (7, .ref (q 2)), (8, .ref (q 3)), (9, .ref pk), (10, .int (-1)), (11, .int (nI pl)), (12, .int (xb op))] → W p l e room_1 s m #[Value.ref b] below meth c H locs (c0 + 1010 * t + 180) (s0 + 6100 * t + 1110) (lw_Z below #[Value.ref b] s) (F0 m 301 ls []) := by
        intro op ls hl
        refine lv_iload hx hb dL_law_301 (lv_at hl 4 rfl) ?_
        refine lv_bipush (v := nI 6) hx hb dL_law_303 (by decide) ?_
        refine x_calli (va_runS (As := [.int xv, .int (nI 6)]) (rest := []) ⟨hx, hb, hml, hown, hts⟩ (c_L_below l G T _ _ 6 (by decide) (by decide)) (va_cwS 2 hts gL_law_L_below rfl rfl rfl (by decide +kernel) ⟨Nat.le_of_ble_eq_true rfl, Nat.le_of_ble_eq_true rfl⟩) (x_preS (wc := []) hK hP hD hS hA hXB hZ [] rfl rfl _) rfl rfl hl.1 rfl (lv_room (Nat.le_of_ble_eq_true rfl)) dL_law_305 ⟨show c0 + 1010 * t + 180 + 0 ≤ 600130 by omega, show s0 + 6100 * t + 1110 + 0 ≤ 7301080 by omega⟩) hP hD hS hA [] rfl (fun _ _ _ => rfl) (fun r1 u1 H locs hw1 hP hD hS => ?_)
        have hP : va_P G vwCl (((pk, .inl (T 0, 16, .inl (xfn 16 (mpk M)))) :: xR0 T q (xfn wn (fun v => xtold M v 1)) (xfn wn (fun v => xtold M v 2)) (xfn wn (man M)) (xft M wn)) ++ xC T ad sc M) H := hP
        have hD : va_D (fun q : Nat => s.heap.size ≤ q) (((pk, .inl (T 0, 16, .inl (xfn 16 (mpk M)))) :: xR0 T q (xfn wn (fun v => xtold M v 1)) (xfn wn (fun v => xtold M v 2)) (xfn wn (man M)) (xft M wn)) ++ xC T ad sc M) := hD
        obtain ⟨hn, hhn, rfl⟩ := hw1
        refine lv_istore (lv' := [(13, .int (nI hn)), (0, .ref b), (1, .ref (ad 0)), (2, .int (nI wn)), (3, .int (nI t)), (4, .int xv), (5, .ref (q 0)), (6, .ref (q 1)), (7, .ref (q 2)), (8, .ref (q 3)), (9, .ref pk), (10, .int (-1)), (11, .int (nI pl)), (12, .int (xb op))]) hx hb dL_law_308 hl (by decide) rfl (fun ls hl => ?_)
        refine lv_iload hx hb dL_law_310 (lv_at hl 5 rfl) ?_
        refine lv_iconst (v := nI 5) hx hb dL_law_312 (by decide) ?_
        refine lv_ishr hx hb dL_law_313 ?_
        refine lv_iconst (v := nI 5) hx hb dL_law_314 (by decide) ?_
        refine x_calli (va_runS (As := [.int (xv >>> (nI 5 &&& 31)), .int (nI 5)]) (rest := []) ⟨hx, hb, hml, hown, hts⟩ (c_L_below l G T _ _ 5 (by decide) (by decide)) (va_cwS 2 hts gL_law_L_below rfl rfl rfl (by decide +kernel) ⟨Nat.le_of_ble_eq_true rfl, Nat.le_of_ble_eq_true rfl⟩) (x_preS (wc := []) hK hP hD hS hA hXB hZ [] rfl rfl _) rfl rfl hl.1 rfl (lv_room (Nat.le_of_ble_eq_true rfl)) dL_law_315 ⟨show c0 + 1010 * t + 180 + 0 ≤ 600130 by omega, show s0 + 6100 * t + 1110 + 0 ≤ 7301080 by omega⟩) hP hD hS hA [] rfl (fun _ _ _ => rfl) (fun r1 u1 H locs hw1 hP hD hS => ?_)
        have hP : va_P G vwCl (((pk, .inl (T 0, 16, .inl (xfn 16 (mpk M)))) :: xR0 T q (xfn wn (fun v => xtold M v 1)) (xfn wn (fun v => xtold M v 2)) (xfn wn (man M)) (xft M wn)) ++ xC T ad sc M) H := hP
        have hD : va_D (fun q : Nat => s.heap.size ≤ q) (((pk, .inl (T 0, 16, .inl (xfn 16 (mpk M)))) :: xR0 T q (xfn wn (fun v => xtold M v 1)) (xfn wn (fun v => xtold M v 2)) (xfn wn (man M)) (xft M wn)) ++ xC T ad sc M) := hD
        obtain ⟨kd, hkd, rfl⟩ := hw1
        refine lv_istore (lv' := [(14, .int (nI kd)), (13, .int (nI hn)), (0, .ref b), (1, .ref (ad 0)), (2, .int (nI wn)), (3, .int (nI t)), (4, .int xv), (5, .ref (q 0)), (6, .ref (q 1)), (7, .ref (q 2)), (8, .ref (q 3)), (9, .ref pk), (10, .int (-1)), (11, .int (nI pl)), (12, .int (xb op))]) hx hb dL_law_318 hl (by decide) rfl (fun ls hl => ?_)
        refine lv_iload hx hb dL_law_320 (lv_at hl 0 rfl) ?_
        refine lv_iload hx hb dL_law_322 (lv_at hl 6 rfl) ?_
        refine lv_iconst (v := nI 2) hx hb dL_law_324 (by decide) ?_
        refine lv_ishr hx hb dL_law_325 ?_
        refine x_calli (va_runS (As := [.int (nI kd), .int (xv >>> (nI 2 &&& 31))]) (rest := []) ⟨hx, hb, hml, hown, hts⟩ (c_L_numberOf l G T _ kd _ hkd) (va_cwS 2 hts gL_law_L_numberOf rfl rfl rfl (by decide +kernel) ⟨Nat.le_of_ble_eq_true rfl, Nat.le_of_ble_eq_true rfl⟩) (x_preS (wc := []) hK hP hD hS hA hXB hZ [] rfl rfl _) rfl rfl hl.1 rfl (lv_room (Nat.le_of_ble_eq_true rfl)) dL_law_326 ⟨show c0 + 1010 * t + 180 + 0 ≤ 600130 by omega, show s0 + 6100 * t + 1110 + 0 ≤ 7301080 by omega⟩) hP hD hS hA [] rfl (fun _ _ _ => rfl) (fun r1 u1 H locs hw1 hP hD hS => ?_)
        have hP : va_P G vwCl (((pk, .inl (T 0, 16, .inl (xfn 16 (mpk M)))) :: xR0 T q (xfn wn (fun v => xtold M v 1)) (xfn wn (fun v => xtold M v 2)) (xfn wn (man M)) (xft M wn)) ++ xC T ad sc M) H := hP
        have hD : va_D (fun q : Nat => s.heap.size ≤ q) (((pk, .inl (T 0, 16, .inl (xfn 16 (mpk M)))) :: xR0 T q (xfn wn (fun v => xtold M v 1)) (xfn wn (fun v => xtold M v 2)) (xfn wn (man M)) (xft M wn)) ++ xC T ad sc M) := hD
        obtain ⟨nm, hw, rfl⟩ := hw1
        refine lv_istore (lv' := [(15, .int (nI nm)), (14, .int (nI kd)), (13, .int (nI hn)), (0, .ref b), (1, .ref (ad 0)), (2, .int (nI wn)), (3, .int (nI t)), (4, .int xv), (5, .ref (q 0)), (6, .ref (q 1)), (7, .ref (q 2)), (8, .ref (q 3)), (9, .ref pk), (10, .int (-1)), (11, .int (nI pl)), (12, .int (xb op))]) hx hb dL_law_329 hl (by decide) rfl (fun ls hl => ?_)
        refine lv_iload hx hb dL_law_331 (lv_at hl 2 rfl) ?_
        have K595 : ∀ (sc1 : Nat → Nat → Int32) (M1 : XM) (sn1 : Int32) (H1 : Heap) (locs1 : List Loc), xJ M1 wn (6 + 2 * t + 2) → xRl hn op sn1 pl kd nm wn M M1 → va_P G vwCl (((pk, .inl (T 0, 16, .inl (xfn 16 (mpk M)))) :: xR0 T q (xfn wn (fun v => xtold M v 1)) (xfn wn (fun v => xtold M v 2)) (xfn wn (man M)) (xft M wn)) ++ xC T ad sc1 M1) H1 → va_D (fun q : Nat => s.heap.size ≤ q) (((pk, .inl (T 0, 16, .inl (xfn 16 (mpk M)))) :: xR0 T q (xfn wn (fun v => xtold M v 1)) (xfn wn (fun v => xtold M v 2)) (xfn wn (man M)) (xft M wn)) ++ xC T ad sc1 M1) → va_S (fun q : Nat => s.heap.size ≤ q) s.heap H1 locs1 → ∀ ls1 : Array Slot, lv_has ls1 24 [(0, .ref b), (1, .ref (ad 0)), (2, .int (nI wn)), (3, .int (nI t)), (4, .int xv), (5, .ref (q 0)), (6, .ref (q 1)), (7, .ref (q 2)), (8, .ref (q 3)), (9, .ref pk), (10, .int sn1), (11, .int (nI pl)), (12, .int (xb op)), (13, .int (nI hn)), (14, .int (nI kd)), (15, .int (nI nm))] → W p l e room_1 s m #[Value.ref b] below meth c H1 locs1 (c0 + 1010 * t + 180 + 50) (s0 + 6100 * t + 1110 + 300) (lw_Z below #[Value.ref b] s) (F0 m 595 ls1 []) := by
          intro sc1 M1 sn1 H locs hJ1 hR hP hD hS ls hl
          refine L_ask C0 wn t _ pl kd nm hn op sn1 xv q pk ((pk, .inl (T 0, 16, .inl (xfn 16 (mpk M)))) :: xR0 T q (xfn wn (fun v => xtold M v 1)) (xfn wn (fun v => xtold M v 2)) (xfn wn (man M)) (xft M wn)) ad sc1 M1 hJ1 hpl hw _ _ (by omega) (by omega) H locs hP hD hS ls (lv_sub hl [0, 1, 2, 3, 4, 5, 6, 7, 8, 9, 10, 11, 12, 13, 14, 15] rfl) (fun sc2 H locs hP hD hS ls hl => ?_)
          refine L_cards C0 wn t _ pl kd nm hn op sn1 xv q pk (xR0 T q (xfn wn (fun v => xtold M v 1)) (xfn wn (fun v => xtold M v 2)) (xfn wn (man M)) (xft M wn)) ad sc2 M M1 hJ1 hw1n hhn hR.1 _ _ (by omega) (by omega) H locs hP hD hS ls (lv_sub hl [0, 1, 2, 3, 4, 5, 6, 7, 8, 9, 10, 11, 12, 13, 14, 15] rfl) (fun H locs hP hD hS ls hl => ?_)
          refine L_G C0 wn t _ pl kd nm hn op sn1 xv q pk ad sc2 M M1 hJ1 hpl hw hhn hR _ _ (by omega) (by omega) H locs hP hD hS ls (lv_sub hl [0, 1, 2, 3, 4, 5, 6, 7, 8, 9, 10, 11, 12, 13, 14, 15] rfl) (fun H locs hP hD hS ls hl => ?_)
          refine lv_iinc (v := nI (t + 1)) (lv' := [(3, .int (nI (t + 1))), (0, .ref b), (1, .ref (ad 0)), (2, .int (nI wn)), (4, .int xv), (5, .ref (q 0)), (6, .ref (q 1)), (7, .ref (q 2)), (8, .ref (q 3)), (9, .ref pk), (10, .int sn1), (11, .int (nI pl)), (12, .int (xb op)), (13, .int (nI hn)), (14, .int (nI kd)), (15, .int (nI nm))]) hx hb dL_law_1119 hl (k := 3) rfl (x_inc _) (by decide) rfl (fun ls hl => ?_)
          refine lv_goto (tgt := 105) hx hb dL_law_1122 (by decide) ?_
          refine W.widen (k := c0 + 1010 * (t + 1)) (n := s0 + 6100 * (t + 1)) (by omega) (by omega) ?_
          exact ih (t + 1) sc2 M1 (by omega) (by omega) (by rw [show 6 + 2 * (t + 1) = 6 + 2 * t + 2 by omega]; exact hJ1) _ _ (xp_mem hP (fun q9 h9 => List.mem_append_right _ h9)) (xd_r hD) hS ls (lv_sub hl [1, 2, 3, 0] rfl)
        rcases (show hn = 0 ∨ hn = 1 ∨ hn = 2 ∨ hn = 3 ∨ 4 ≤ hn by omega) with rfl | rfl | rfl | rfl | hge
        · refine lv_tableIn (off := 31) (tgt := 364) hx hb dL_law_333 (by decide) (by decide) (by decide) (by decide) ?_
          exact L_go C0 wn t _ pl kd nm 0 op xv q pk (xR0 T q (xfn wn (fun v => xtold M v 1)) (xfn wn (fun v => xtold M v 2)) (xfn wn (man M)) (xft M wn)) ad sc M hJ (by omega) hpl hw (by decide) _ _ (by omega) (by omega) H locs hP hD hS ls (lv_sub hl [3, 4, 5, 6, 7, 8, 9, 10, 11, 12, 13, 14, 15, 2, 1, 0] rfl) K595
        · refine lv_tableIn (off := 31) (tgt := 364) hx hb dL_law_333 (by decide) (by decide) (by decide) (by decide) ?_
          exact L_go C0 wn t _ pl kd nm 1 op xv q pk (xR0 T q (xfn wn (fun v => xtold M v 1)) (xfn wn (fun v => xtold M v 2)) (xfn wn (man M)) (xft M wn)) ad sc M hJ (by omega) hpl hw (by decide) _ _ (by omega) (by omega) H locs hP hD hS ls (lv_sub hl [3, 4, 5, 6, 7, 8, 9, 10, 11, 12, 13, 14, 15, 2, 1, 0] rfl) K595
        · refine lv_tableIn (off := 94) (tgt := 427) hx hb dL_law_333 (by decide) (by decide) (by decide) (by decide) ?_
          exact L_fc C0 wn t _ pl kd nm 2 op xv q pk (xR0 T q (xfn wn (fun v => xtold M v 1)) (xfn wn (fun v => xtold M v 2)) (xfn wn (man M)) (xft M wn)) ad sc M hJ (by omega) hpl rfl _ _ (by omega) (by omega) H locs hP hD hS ls (lv_sub hl [3, 4, 5, 6, 7, 8, 9, 10, 11, 12, 13, 14, 15, 2, 1, 0] rfl) K595
        · refine lv_tableIn (off := 115) (tgt := 448) hx hb dL_law_333 (by decide) (by decide) (by decide) (by decide) ?_
          exact L_force C0 wn t _ pl kd nm 3 op xv q pk (xR0 T q (xfn wn (fun v => xtold M v 1)) (xfn wn (fun v => xtold M v 2)) (xfn wn (man M)) (xft M wn)) ad sc M hJ (by omega) hpl rfl _ _ (by omega) (by omega) H locs hP hD hS ls (lv_sub hl [3, 4, 5, 6, 7, 8, 9, 10, 11, 12, 13, 14, 15, 2, 1, 0] rfl) K595
        · refine lv_tableOut (tgt := 532) hx hb dL_law_333 (Or.inr (by rw [nI_toInt (by omega)]; omega)) (by decide) ?_
          exact L_glimpse C0 wn t _ pl kd nm hn op xv q pk (xR0 T q (xfn wn (fun v => xtold M v 1)) (xfn wn (fun v => xtold M v 2)) (xfn wn (man M)) (xft M wn)) ad sc M hJ (by omega) hpl (by omega) hw1n _ _ (by omega) (by omega) H locs hP hD hS ls (lv_sub hl [3, 4, 5, 6, 7, 8, 9, 10, 11, 12, 13, 14, 15, 2, 1, 0] rfl) K595
      by_cases hb0 : b2 = 0
      · subst hb0
        refine lv_if_ne (tgt := 298) hx hb dL_law_291 (by decide) (fun c_ => absurd (by decide) c_) (fun _ => ?_)
        refine lv_iconst (v := nI 1) hx hb dL_law_294 (by decide) ?_
        refine lv_goto (tgt := 299) hx hb dL_law_295 (by decide) ?_
        refine lv_istore (lv' := [(12, .int (nI 1)), (11, .int (nI pl)), (10, .int (-1)), (0, .ref b), (1, .ref (ad 0)), (2, .int (nI wn)), (3, .int (nI t)), (4, .int xv), (5, .ref (q 0)), (6, .ref (q 1)), (7, .ref (q 2)), (8, .ref (q 3)), (9, .ref pk)]) hx hb dL_law_299 hl (by decide) rfl (fun ls hl => ?_)
        exact K301 true ls (lv_sub hl [3, 4, 5, 6, 7, 8, 9, 10, 11, 12, 2, 1, 0] rfl)
      · refine lv_if_ne (tgt := 298) hx hb dL_law_291 (by decide) (fun _ => ?_) (fun c_ => absurd c_ (nI_ne0 (by omega) (by omega)))
        refine lv_iconst (v := nI 0) hx hb dL_law_298 (by decide) ?_
        refine lv_istore (lv' := [(12, .int (nI 0)), (11, .int (nI pl)), (10, .int (-1)), (0, .ref b), (1, .ref (ad 0)), (2, .int (nI wn)), (3, .int (nI t)), (4, .int xv), (5, .ref (q 0)), (6, .ref (q 1)), (7, .ref (q 2)), (8, .ref (q 3)), (9, .ref pk)]) hx hb dL_law_299 hl (by decide) rfl (fun ls hl => ?_)
        exact K301 false ls (lv_sub hl [3, 4, 5, 6, 7, 8, 9, 10, 11, 12, 2, 1, 0] rfl)
    · refine lv_icmp_ge (tgt := 1125) hx hb dL_law_108 (by decide) (fun _ => ?_) (fun c_ => absurd (nI_le (by omega) (by omega)) c_)
      refine lv_iconst (v := nI 1) hx hb dL_law_1125 (by decide) ?_
      refine va_forget (fun q hq => hS.2.2 q hq) ?_
      refine W.widen (k := 600130) (n := 7301080) (by omega) (by omega) ?_
      refine W.base ?_
      exact lw_ret (Drawn.sameBut.refl s.drawn lw_cs) hx hb hr hlocks dL_law_1126
end XLW5
