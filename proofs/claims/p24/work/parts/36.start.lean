theorem xI_mono {M : XM} {n n2 : Nat} (h : xI M n) (hn : n ≤ n2) (h2 : n2 ≤ 512) : xI M n2 := by
  obtain ⟨h1, h2, h3, h4, h5, h6, h7, h8, h9, h10, h11⟩ := h
  exact ⟨h1, h2, h3, h4, h5, h6, h7, h8, h9, by omega, by omega⟩
theorem xJ_start {M : XM} {wn n : Nat} (hI : xI M n) (hn : n ≤ 6) (h1 : mnw M = wn) (h2 : mnp M = 2) (h3 : mpk M = fun j => nI j) (h4 : man M = fun _ => 0) : xJ M wn (6 + 2 * 0) :=
  ⟨xI_mono hI hn (by decide), h1, h2, fun i j hi hj e => by rw [h3] at e; exact (nI_eq (by omega) (by omega)).mp e, fun w hw => ⟨0, Nat.zero_le _, by rw [h4]; rfl⟩⟩
set_option maxHeartbeats 4000000 in
set_option maxRecDepth 100000 in
theorem whole_start {p : Program} {e : Env} {s : State} {m : MethodId} {below : List Frame} {meth : Method} {c : Code} (l : Launch) (hflags : l.flags = flags0) {b L : Nat} {xs : Nat → Int32} (hL : L ≤ 260) (C0 : lw_At p s m meth c b L xs) : W p l e room_1 s m #[Value.ref b] below meth c s.heap [] 0 0 (lw_Z below #[Value.ref b] s) (entryFrame m ([Value.ref b] : List Value).toArray 24) := by
  obtain ⟨hx, hb, hr, hml, hown, hts0, hX, hbl, hlocks, hgv⟩ := id C0
  obtain ⟨G, T, hK, o0_, o2_, oa⟩ := x_knownK hts0
  have hXB := x_knownB hts0 hgv hK o0_ o2_
  have hZ := x_knownS hts0 hgv
  have hsl := x_noTrace hflags
  have hts : ∀ w ∈ wsL_law, w.before #[Value.ref b] s = true := fun w hw => hts0 w (wsL_law_in w hw)
  have C1 : xLC p l s m meth c b L xs G T := ⟨hx, hb, hr, hml, hown, hts, hX, hbl, hlocks, hK, hXB, hZ, hL, hsl⟩
  have hL9 := hL
  have hA : ∀ q : Nat, s.heap.size ≤ q → (fun q : Nat => s.heap.size ≤ q) q := fun _ h => h
  have hbA : ¬ (fun q : Nat => s.heap.size ≤ q) b := Nat.not_le.mpr hbl
  have hS : va_S (fun q : Nat => s.heap.size ≤ q) s.heap s.heap [] := va_S.rf
  have hP : va_P G vwCl [] s.heap := fun k q h => by simp at h
  have hD : va_D (fun q : Nat => s.heap.size ≤ q) [] := ⟨fun i j p q h => by simp at h, fun k q h => by simp at h⟩
  have hl := lv_entry ([.ref b]) (n := 24) (Nat.le_of_ble_eq_true rfl)
  rw [lg_entry_eq]
  generalize (lg_sl ([.ref b]) ++ List.replicate (24 - (lg_sl ([.ref b])).length) Slot.unset).toArray = ls at hl ⊢
  have hl : lv_has ls 24 [(0, .ref b)] := hl
  generalize hAe : (fun q : Nat => s.heap.size ≤ q) = A at hA hbA hZ hD hS
  have hiX3 : ∀ w ∈ u_ws RX3 TX3 10, w ∈ lw_tbl := fun w hw => inX3 w ((by decide +kernel : ∀ w ∈ u_ws RX3 TX3 10, w ∈ wsX30) w hw)
  refine va_new (ci := 3) (fs := [.null, .null, .null, .null, .int 0, .int 0, .int 0, .int 0, .int 0, .int 0]) (C := RX3) (T := TX3) (N := 10) hx hb hts0 hiX3 tyX3 tyX3_ok hown (hts0 (.classLink RL 15 RX3) (by decide +kernel)) (hts0 (.instantiable RX3 10) (by decide +kernel)) (hts0 (.initialized RX3) (by decide +kernel)) hK hP hD hS hA rfl (fun j hj => by rcases (show j = 0 ∨ j = 1 ∨ j = 2 ∨ j = 3 ∨ j = 4 ∨ j = 5 ∨ j = 6 ∨ j = 7 ∨ j = 8 ∨ j = 9 by omega) with rfl | rfl | rfl | rfl | rfl | rfl | rfl | rfl | rfl | rfl <;> rfl) (Nat.le_of_ble_eq_true rfl) (Nat.le_of_ble_eq_true rfl) dL_law_0 (fun x0 H hP hD hS => ?_)
  have hP : va_P G vwCl ([(x0, .inr (3, [.null, .null, .null, .null, .int 0, .int 0, .int 0, .int 0, .int 0, .int 0]))]) H := hP
  have hD : va_D A ([(x0, .inr (3, [.null, .null, .null, .null, .int 0, .int 0, .int 0, .int 0, .int 0, .int 0]))]) := hD
  refine lv_dup hx hb dL_law_3 rfl ?_
  refine x_callvA (va_runI (As := []) (rest := [.ref x0]) ⟨hx, hb, hml, hown, hts⟩ (c_X3_init l G T _ x0) (cwI 0 hts gL_law_X3_init rfl rfl rfl (hts0 (.initialized RX3) (by decide +kernel)) (hts0 (.methodLink RL 17 yX3_init) (by decide +kernel)) (hts0 (.instanceMethod yX3_init) (by decide +kernel)) rfl (by decide +kernel) ⟨Nat.le_of_ble_eq_true rfl, Nat.le_of_ble_eq_true rfl⟩) (x_preSA (wc := [(x0, .inr (3, [.null, .null, .null, .null, .int 0, .int 0, .int 0, .int 0, .int 0, .int 0]))]) (wr := []) hK hP hD hS hA hXB hZ _) rfl rfl hl.1 rfl (lv_room (Nat.le_of_ble_eq_true rfl)) dL_law_4 ⟨Nat.le_of_ble_eq_true rfl, Nat.le_of_ble_eq_true rfl⟩) hP hD hS hA (fun _ h => h.2) (fun u0 H locs hw hP hD hS => ?_)
  obtain ⟨hu1, hd1⟩ := hw
  rw [List.append_nil] at hP hD
  refine lv_astore_n (lv' := [(1, .ref x0), (0, .ref b)]) hx hb dL_law_7 rfl hl (by decide) rfl (fun ls hl => ?_)
  refine lv_iconst (v := nI 1) hx hb dL_law_8 (by decide) ?_
  refine lv_aload_n hx hb dL_law_9 rfl (lv_at hl 1 rfl) ?_
  refine lv_iconst (v := nI 0) hx hb dL_law_10 (by decide) ?_
  refine x_calli (va_runS (As := [.ref b, .int (nI 0)]) (rest := [.int (nI 1)]) ⟨hx, hb, hml, hown, hts⟩ (c_L_cell l G T _ b L 0 xs (by omega) (by omega)) (va_cwS 2 hts gL_law_L_cell rfl rfl rfl (by decide +kernel) ⟨Nat.le_of_ble_eq_true rfl, Nat.le_of_ble_eq_true rfl⟩) (x_preX hK hP hD hS hA hXB hZ hX hbl hbA _) rfl rfl hl.1 rfl (lv_room (Nat.le_of_ble_eq_true rfl)) dL_law_11 ⟨show 9 + 0 ≤ 600130 by omega, show 86 + 0 ≤ 7301080 by omega⟩) hP hD hS hA [] rfl (fun _ _ _ => rfl) (fun r1 u1 H locs hw1 hP hD hS => ?_)
  have hP : va_P G vwCl (xC T u0 (fun _ _ => 0) xM0) H := hP
  have hD : va_D A (xC T u0 (fun _ _ => 0) xM0) := hD
  refine lv_iconst (v := nI 4) hx hb dL_law_14 (by decide) ?_
  refine x_calli (va_runS (As := [.int r1, .int (nI 4)]) (rest := [.int (nI 1)]) ⟨hx, hb, hml, hown, hts⟩ (c_L_below l G T _ _ 4 (by decide) (by decide)) (va_cwS 2 hts gL_law_L_below rfl rfl rfl (by decide +kernel) ⟨Nat.le_of_ble_eq_true rfl, Nat.le_of_ble_eq_true rfl⟩) (x_preS (wc := []) hK hP hD hS hA hXB hZ [] rfl rfl _) rfl rfl hl.1 rfl (lv_room (Nat.le_of_ble_eq_true rfl)) dL_law_15 ⟨show 9 + 0 ≤ 600130 by omega, show 86 + 0 ≤ 7301080 by omega⟩) hP hD hS hA [] rfl (fun _ _ _ => rfl) (fun r1 u1 H locs hw1 hP hD hS => ?_)
  have hP : va_P G vwCl (xC T u0 (fun _ _ => 0) xM0) H := hP
  have hD : va_D A (xC T u0 (fun _ _ => 0) xM0) := hD
  obtain ⟨b1, hb1, rfl⟩ := hw1
  obtain ⟨wn, hwn, hw1n, hw4⟩ : ∃ wn : Nat, wn = 1 + b1 ∧ 1 ≤ wn ∧ wn ≤ 4 := ⟨1 + b1, rfl, by omega, by omega⟩
  refine lv_iadd hx hb dL_law_18 ?_
  refine x_topi (y := nI wn) (by rw [hwn]; exact nI_add 1 b1) ?_
  refine lv_istore_n (lv' := [(2, .int (nI wn)), (1, .ref x0), (0, .ref b)]) hx hb dL_law_19 rfl hl (by decide) rfl (fun ls hl => ?_)
  refine lv_iconst (v := nI 0) hx hb dL_law_20 (by decide) ?_
  refine lv_istore_n (lv' := [(3, .int (nI 0)), (2, .int (nI wn)), (1, .ref x0), (0, .ref b)]) hx hb dL_law_21 rfl hl (by decide) rfl (fun ls hl => ?_)
  refine W.widen (k := 9 + 4 * 0) (n := 86 + 38 * 0) (by omega) (by omega) ?_
  suffices LP1 : ∀ (n1 : Nat) (v : Nat) (ad : Nat → Nat) (sc : Nat → Nat → Int32) (M : XM), (v ≤ wn) → (wn < v + n1) → (ad 0 = x0) → (xI M v) → (mnw M = v) → (mnp M = 0) → (mpk M = (fun j => nI j)) → (man M = (fun _ => 0)) → ∀ (H : Heap) (locs : List Loc), va_P G vwCl (xC T ad sc M) H → va_D A (xC T ad sc M) → va_S A s.heap H locs → ∀ (ls : Array Slot), lv_has ls 24 [(0, .ref b), (1, .ref x0), (2, .int (nI wn)), (3, .int (nI v))] → W p l e room_1 s m #[Value.ref b] below meth c H locs (9 + 4 * v) (86 + 38 * v) (lw_Z below #[Value.ref b] s) (F0 m 22 ls []) from LP1 (wn + 1) 0 u0 (fun _ _ => 0) xM0 (by omega) (by omega) hu1 xI_0 rfl rfl rfl rfl _ _ hP hD hS ls (lv_sub hl [3, 2, 1, 0] rfl)
  clear hP hD hS hl
  intro n1
  induction n1 with
  | zero => intro v ad sc M hv hn1 hx0 hI hnw hnp hpk hman H locs _ _ _ ls _; exfalso; omega
  | succ n1 ih1 =>
    intro v ad sc M hv hn1 hx0 hI hnw hnp hpk hman H locs hP hD hS ls hl
    rw [← hx0] at hl
    refine lv_iload_n hx hb dL_law_22 rfl (lv_at hl 3 rfl) ?_
    refine lv_iload_n hx hb dL_law_23 rfl (lv_at hl 2 rfl) ?_
    by_cases hc : v < wn
    · refine lv_icmp_ge (tgt := 64) hx hb dL_law_24 (by decide) (fun c_ => absurd c_ (nI_ge hc (by omega))) (fun _ => ?_)
      refine lv_aload_n hx hb dL_law_27 rfl (lv_at hl 1 rfl) ?_
      refine lv_aload_n hx hb dL_law_28 rfl (lv_at hl 0 rfl) ?_
      refine lv_iconst (v := nI 0) hx hb dL_law_29 (by decide) ?_
      refine x_calli (va_runS (As := [.ref b, .int (nI 0)]) (rest := [.ref (ad 0)]) ⟨hx, hb, hml, hown, hts⟩ (c_L_cell l G T _ b L 0 xs (by omega) (by omega)) (va_cwS 2 hts gL_law_L_cell rfl rfl rfl (by decide +kernel) ⟨Nat.le_of_ble_eq_true rfl, Nat.le_of_ble_eq_true rfl⟩) (x_preX hK hP hD hS hA hXB hZ hX hbl hbA _) rfl rfl hl.1 rfl (lv_room (Nat.le_of_ble_eq_true rfl)) dL_law_30 ⟨show 9 + 4 * v + 0 ≤ 600130 by omega, show 86 + 38 * v + 0 ≤ 7301080 by omega⟩) hP hD hS hA [] rfl (fun _ _ _ => rfl) (fun r1 u1 H locs hw1 hP hD hS => ?_)
      have hP : va_P G vwCl (xC T ad sc M) H := hP
      have hD : va_D A (xC T ad sc M) := hD
      refine lv_iconst (v := nI 2) hx hb dL_law_33 (by decide) ?_
      refine lv_iload_n hx hb dL_law_34 rfl (lv_at hl 3 rfl) ?_
      refine lv_iadd hx hb dL_law_35 ?_
      refine lv_ishr hx hb dL_law_36 ?_
      refine lv_iconst (v := nI 2) hx hb dL_law_37 (by decide) ?_
      refine x_calli (va_runS (As := [.int (r1 >>> ((nI 2 + nI v) &&& 31)), .int (nI 2)]) (rest := [.ref (ad 0)]) ⟨hx, hb, hml, hown, hts⟩ (c_L_below l G T _ _ 2 (by decide) (by decide)) (va_cwS 2 hts gL_law_L_below rfl rfl rfl (by decide +kernel) ⟨Nat.le_of_ble_eq_true rfl, Nat.le_of_ble_eq_true rfl⟩) (x_preS (wc := []) hK hP hD hS hA hXB hZ [] rfl rfl _) rfl rfl hl.1 rfl (lv_room (Nat.le_of_ble_eq_true rfl)) dL_law_38 ⟨show 9 + 4 * v + 0 ≤ 600130 by omega, show 86 + 38 * v + 0 ≤ 7301080 by omega⟩) hP hD hS hA [] rfl (fun _ _ _ => rfl) (fun r1 u1 H locs hw1 hP hD hS => ?_)
      have hP : va_P G vwCl (xC T ad sc M) H := hP
      have hD : va_D A (xC T ad sc M) := hD
      obtain ⟨b2, hb2, rfl⟩ := hw1
      have hw4n : mnw M < 4 := by omega
      have hz : man M (mnw M) = 0 ∧ mgl M (mnw M) = 0 := hI.2.2.2.2.2.2.1 _ (Nat.le_refl _)
      by_cases hb0 : b2 = 0
      · refine lv_if_ne (tgt := 48) hx hb dL_law_41 (by decide) (fun c_ => absurd (by rw [hb0]; rfl) c_) (fun _ => ?_)
        refine lv_iconst (v := nI 1) hx hb dL_law_44 (by decide) ?_
        refine lv_goto (tgt := 49) hx hb dL_law_45 (by decide) ?_
        refine x_calliW (va_runV (As := [.int (nI 1)]) (rest := []) ⟨hx, hb, hml, hown, hts⟩ (k_watch l hsl G T _ ad sc M (nI 1) rfl rfl hw4n (by omega) hz) (cwV 1 hts gL_law_X3_watch rfl rfl rfl (by decide +kernel) ⟨Nat.le_of_ble_eq_true rfl, Nat.le_of_ble_eq_true rfl⟩) (x_preVW (wc := (xC T ad sc M)) hK hP hD hS hA hXB hZ _ _ 0 3 rfl rfl) rfl rfl hl.1 rfl (lv_room (Nat.le_of_ble_eq_true rfl)) dL_law_49 ⟨show 9 + 4 * v + 4 ≤ 600130 by omega, show 86 + 38 * v + 38 ≤ 7301080 by omega⟩) hP hD hS hA (fun _ _ hw => hw.2.2) (fun r1 u1 H locs hw1 hP hD hS => ?_)
        have hP : va_P G vwCl (xC T u1.1 u1.2 (xmk (mpk M) (va_up (mth M) (mnw M) (fun _ => nI 65535)) (upd (msh M) (mnw M) (nI 1)) (man M) (mgl M) (mhb M) (mtk M) (mnw M + 1) (mnp M) (mle M) (mwy M) (mfc M) (mta M))) H := hP
        have hD : va_D A (xC T u1.1 u1.2 (xmk (mpk M) (va_up (mth M) (mnw M) (fun _ => nI 65535)) (upd (msh M) (mnw M) (nI 1)) (man M) (mgl M) (mhb M) (mtk M) (mnw M + 1) (mnp M) (mle M) (mwy M) (mfc M) (mta M))) := hD
        obtain ⟨rfl, hx1, hd1⟩ := hw1
        refine lv_iload_n hx hb dL_law_52 rfl (lv_at hl 3 rfl) ?_
        refine lv_icmp_eq (tgt := 58) hx hb dL_law_53 (by decide) (fun _ => ?_) (fun c_ => absurd (by rw [hnw]) c_)
        refine lv_iinc (v := nI (v + 1)) (lv' := [(3, .int (nI (v + 1))), (0, .ref b), (1, .ref (ad 0)), (2, .int (nI wn))]) hx hb dL_law_58 hl (k := 3) rfl (x_inc _) (by decide) rfl (fun ls hl => ?_)
        refine lv_goto (tgt := 22) hx hb dL_law_61 (by decide) ?_
        refine W.widen (k := 9 + 4 * (v + 1)) (n := 86 + 38 * (v + 1)) (by omega) (by omega) ?_
        rw [hx0] at hl
        exact ih1 (v + 1) u1.1 u1.2 (xmk (mpk M) (va_up (mth M) (mnw M) (fun _ => nI 65535)) (upd (msh M) (mnw M) (nI 1)) (man M) (mgl M) (mhb M) (mtk M) (mnw M + 1) (mnp M) (mle M) (mwy M) (mfc M) (mta M)) (by omega) (by omega) (hx1.trans hx0) (xI_watch hI (by omega) hw4n (Or.inr rfl)) (show mnw M + 1 = v + 1 by omega) hnp hpk hman _ _ hP hD hS ls (lv_sub hl [1, 2, 3, 0] rfl)
      · refine lv_if_ne (tgt := 48) hx hb dL_law_41 (by decide) (fun _ => ?_) (fun c_ => absurd c_ (nI_ne0 (by omega) (by omega)))
        refine lv_iconst (v := nI 0) hx hb dL_law_48 (by decide) ?_
        refine x_calliW (va_runV (As := [.int (nI 0)]) (rest := []) ⟨hx, hb, hml, hown, hts⟩ (k_watch l hsl G T _ ad sc M (nI 0) rfl rfl hw4n (by omega) hz) (cwV 1 hts gL_law_X3_watch rfl rfl rfl (by decide +kernel) ⟨Nat.le_of_ble_eq_true rfl, Nat.le_of_ble_eq_true rfl⟩) (x_preVW (wc := (xC T ad sc M)) hK hP hD hS hA hXB hZ _ _ 0 3 rfl rfl) rfl rfl hl.1 rfl (lv_room (Nat.le_of_ble_eq_true rfl)) dL_law_49 ⟨show 9 + 4 * v + 4 ≤ 600130 by omega, show 86 + 38 * v + 38 ≤ 7301080 by omega⟩) hP hD hS hA (fun _ _ hw => hw.2.2) (fun r1 u1 H locs hw1 hP hD hS => ?_)
        have hP : va_P G vwCl (xC T u1.1 u1.2 (xmk (mpk M) (va_up (mth M) (mnw M) (fun _ => nI 65535)) (upd (msh M) (mnw M) (nI 0)) (man M) (mgl M) (mhb M) (mtk M) (mnw M + 1) (mnp M) (mle M) (mwy M) (mfc M) (mta M))) H := hP
        have hD : va_D A (xC T u1.1 u1.2 (xmk (mpk M) (va_up (mth M) (mnw M) (fun _ => nI 65535)) (upd (msh M) (mnw M) (nI 0)) (man M) (mgl M) (mhb M) (mtk M) (mnw M + 1) (mnp M) (mle M) (mwy M) (mfc M) (mta M))) := hD
        obtain ⟨rfl, hx1, hd1⟩ := hw1
        refine lv_iload_n hx hb dL_law_52 rfl (lv_at hl 3 rfl) ?_
        refine lv_icmp_eq (tgt := 58) hx hb dL_law_53 (by decide) (fun _ => ?_) (fun c_ => absurd (by rw [hnw]) c_)
        refine lv_iinc (v := nI (v + 1)) (lv' := [(3, .int (nI (v + 1))), (0, .ref b), (1, .ref (ad 0)), (2, .int (nI wn))]) hx hb dL_law_58 hl (k := 3) rfl (x_inc _) (by decide) rfl (fun ls hl => ?_)
        refine lv_goto (tgt := 22) hx hb dL_law_61 (by decide) ?_
        refine W.widen (k := 9 + 4 * (v + 1)) (n := 86 + 38 * (v + 1)) (by omega) (by omega) ?_
        rw [hx0] at hl
        exact ih1 (v + 1) u1.1 u1.2 (xmk (mpk M) (va_up (mth M) (mnw M) (fun _ => nI 65535)) (upd (msh M) (mnw M) (nI 0)) (man M) (mgl M) (mhb M) (mtk M) (mnw M + 1) (mnp M) (mle M) (mwy M) (mfc M) (mta M)) (by omega) (by omega) (hx1.trans hx0) (xI_watch hI (by omega) hw4n (Or.inl rfl)) (show mnw M + 1 = v + 1 by omega) hnp hpk hman _ _ hP hD hS ls (lv_sub hl [1, 2, 3, 0] rfl)
    · refine lv_icmp_ge (tgt := 64) hx hb dL_law_24 (by decide) (fun _ => ?_) (fun c_ => absurd (nI_le (by omega) (by omega)) c_)
      refine lv_aload_n hx hb dL_law_64 rfl (lv_at hl 1 rfl) ?_
      refine lv_aload_n hx hb dL_law_65 rfl (lv_at hl 0 rfl) ?_
      refine lv_iconst (v := nI 1) hx hb dL_law_66 (by decide) ?_
      refine x_calli (va_runS (As := [.ref b, .int (nI 1)]) (rest := [.ref (ad 0)]) ⟨hx, hb, hml, hown, hts⟩ (c_L_cell l G T _ b L 1 xs (by omega) (by omega)) (va_cwS 2 hts gL_law_L_cell rfl rfl rfl (by decide +kernel) ⟨Nat.le_of_ble_eq_true rfl, Nat.le_of_ble_eq_true rfl⟩) (x_preX hK hP hD hS hA hXB hZ hX hbl hbA _) rfl rfl hl.1 rfl (lv_room (Nat.le_of_ble_eq_true rfl)) dL_law_67 ⟨show 9 + 4 * v + 0 ≤ 600130 by omega, show 86 + 38 * v + 0 ≤ 7301080 by omega⟩) hP hD hS hA [] rfl (fun _ _ _ => rfl) (fun r1 u1 H locs hw1 hP hD hS => ?_)
      have hP : va_P G vwCl (xC T ad sc M) H := hP
      have hD : va_D A (xC T ad sc M) := hD
      refine lv_bipush (v := nI 16) hx hb dL_law_70 (by decide) ?_
      refine x_calli (va_runS (As := [.int r1, .int (nI 16)]) (rest := [.ref (ad 0)]) ⟨hx, hb, hml, hown, hts⟩ (c_L_below l G T _ _ 16 (by decide) (by decide)) (va_cwS 2 hts gL_law_L_below rfl rfl rfl (by decide +kernel) ⟨Nat.le_of_ble_eq_true rfl, Nat.le_of_ble_eq_true rfl⟩) (x_preS (wc := []) hK hP hD hS hA hXB hZ [] rfl rfl _) rfl rfl hl.1 rfl (lv_room (Nat.le_of_ble_eq_true rfl)) dL_law_72 ⟨show 9 + 4 * v + 0 ≤ 600130 by omega, show 86 + 38 * v + 0 ≤ 7301080 by omega⟩) hP hD hS hA [] rfl (fun _ _ _ => rfl) (fun r1 u1 H locs hw1 hP hD hS => ?_)
      have hP : va_P G vwCl (xC T ad sc M) H := hP
      have hD : va_D A (xC T ad sc M) := hD
      obtain ⟨h1, hh1, rfl⟩ := hw1
      refine x_calliW (va_runV (As := [.int (nI h1)]) (rest := []) ⟨hx, hb, hml, hown, hts⟩ (k_sit l hsl G T _ ad sc M h1 hh1 (by omega) (by omega)) (cwV 1 hts gL_law_X3_sit rfl rfl rfl (by decide +kernel) ⟨Nat.le_of_ble_eq_true rfl, Nat.le_of_ble_eq_true rfl⟩) (x_preVW (wc := (xC T ad sc M)) hK hP hD hS hA hXB hZ _ _ 0 3 rfl rfl) rfl rfl hl.1 rfl (lv_room (Nat.le_of_ble_eq_true rfl)) dL_law_75 ⟨show 9 + 4 * v + 2 ≤ 600130 by omega, show 86 + 38 * v + 12 ≤ 7301080 by omega⟩) hP hD hS hA (fun _ _ hw => hw.2.2) (fun r1 ua H locs hw1 hP hD hS => ?_)
      have hP : va_P G vwCl (xC T ua sc (xmk (mpk M) (mth M) (msh M) (man M) (mgl M) (upd (mhb M) (mnp M) (nI h1)) (upd (mtk M) (mnp M) (-1)) (mnw M) (mnp M + 1) (mle M) (mwy M) (mfc M) (mta M))) H := hP
      have hD : va_D A (xC T ua sc (xmk (mpk M) (mth M) (msh M) (man M) (mgl M) (upd (mhb M) (mnp M) (nI h1)) (upd (mtk M) (mnp M) (-1)) (mnw M) (mnp M + 1) (mle M) (mwy M) (mfc M) (mta M))) := hD
      obtain ⟨rfl, hx1, hd1⟩ := hw1
      rw [← hx1] at hl
      have hI2 := xI_sit hI (by omega) (xvb_k (n := 16) hh1 (by decide)) (show mnp M < 4 by omega)
      obtain ⟨M2, hM2, hnw2, hnp2, hpk2, hman2⟩ : ∃ M2 : XM, M2 = (xmk (mpk M) (mth M) (msh M) (man M) (mgl M) (upd (mhb M) (mnp M) (nI h1)) (upd (mtk M) (mnp M) (-1)) (mnw M) (mnp M + 1) (mle M) (mwy M) (mfc M) (mta M)) ∧ mnw M2 = wn ∧ mnp M2 = 1 ∧ mpk M2 = (fun j => nI j) ∧ man M2 = (fun _ => 0) := ⟨_, rfl, (show mnw M = wn by omega), (show mnp M + 1 = 1 by omega), hpk, hman⟩
      rw [← hM2] at hP hD hI2
      refine lv_if_ne (tgt := 101) hx hb dL_law_78 (by decide) (fun c_ => absurd (by rw [hnp]; rfl) c_) (fun _ => ?_)
      refine lv_aload_n hx hb dL_law_81 rfl (lv_at hl 1 rfl) ?_
      refine lv_aload_n hx hb dL_law_82 rfl (lv_at hl 0 rfl) ?_
      refine lv_iconst (v := nI 1) hx hb dL_law_83 (by decide) ?_
      refine x_calli (va_runS (As := [.ref b, .int (nI 1)]) (rest := [.ref (ua 0)]) ⟨hx, hb, hml, hown, hts⟩ (c_L_cell l G T _ b L 1 xs (by omega) (by omega)) (va_cwS 2 hts gL_law_L_cell rfl rfl rfl (by decide +kernel) ⟨Nat.le_of_ble_eq_true rfl, Nat.le_of_ble_eq_true rfl⟩) (x_preX hK hP hD hS hA hXB hZ hX hbl hbA _) rfl rfl hl.1 rfl (lv_room (Nat.le_of_ble_eq_true rfl)) dL_law_84 ⟨show (9 + 4 * v + 2) + 0 ≤ 600130 by omega, show (86 + 38 * v + 12) + 0 ≤ 7301080 by omega⟩) hP hD hS hA [] rfl (fun _ _ _ => rfl) (fun r1 u1 H locs hw1 hP hD hS => ?_)
      have hP : va_P G vwCl (xC T ua sc M2) H := hP
      have hD : va_D A (xC T ua sc M2) := hD
      refine lv_iconst (v := nI 4) hx hb dL_law_87 (by decide) ?_
      refine lv_ishr hx hb dL_law_88 ?_
      refine lv_bipush (v := nI 16) hx hb dL_law_89 (by decide) ?_
      refine x_calli (va_runS (As := [.int (r1 >>> (nI 4 &&& 31)), .int (nI 16)]) (rest := [.ref (ua 0)]) ⟨hx, hb, hml, hown, hts⟩ (c_L_below l G T _ _ 16 (by decide) (by decide)) (va_cwS 2 hts gL_law_L_below rfl rfl rfl (by decide +kernel) ⟨Nat.le_of_ble_eq_true rfl, Nat.le_of_ble_eq_true rfl⟩) (x_preS (wc := []) hK hP hD hS hA hXB hZ [] rfl rfl _) rfl rfl hl.1 rfl (lv_room (Nat.le_of_ble_eq_true rfl)) dL_law_91 ⟨show (9 + 4 * v + 2) + 0 ≤ 600130 by omega, show (86 + 38 * v + 12) + 0 ≤ 7301080 by omega⟩) hP hD hS hA [] rfl (fun _ _ _ => rfl) (fun r1 u1 H locs hw1 hP hD hS => ?_)
      have hP : va_P G vwCl (xC T ua sc M2) H := hP
      have hD : va_D A (xC T ua sc M2) := hD
      obtain ⟨h2, hh2, rfl⟩ := hw1
      refine x_calliW (va_runV (As := [.int (nI h2)]) (rest := []) ⟨hx, hb, hml, hown, hts⟩ (k_sit l hsl G T _ ua sc M2 h2 hh2 (by omega) (by omega)) (cwV 1 hts gL_law_X3_sit rfl rfl rfl (by decide +kernel) ⟨Nat.le_of_ble_eq_true rfl, Nat.le_of_ble_eq_true rfl⟩) (x_preVW (wc := (xC T ua sc M2)) hK hP hD hS hA hXB hZ _ _ 0 3 rfl rfl) rfl rfl hl.1 rfl (lv_room (Nat.le_of_ble_eq_true rfl)) dL_law_94 ⟨show (9 + 4 * v + 2) + 2 ≤ 600130 by omega, show (86 + 38 * v + 12) + 12 ≤ 7301080 by omega⟩) hP hD hS hA (fun _ _ hw => hw.2.2) (fun r2 ub H locs hw2 hP hD hS => ?_)
      have hP : va_P G vwCl (xC T ub sc (xmk (mpk M2) (mth M2) (msh M2) (man M2) (mgl M2) (upd (mhb M2) (mnp M2) (nI h2)) (upd (mtk M2) (mnp M2) (-1)) (mnw M2) (mnp M2 + 1) (mle M2) (mwy M2) (mfc M2) (mta M2))) H := hP
      have hD : va_D A (xC T ub sc (xmk (mpk M2) (mth M2) (msh M2) (man M2) (mgl M2) (upd (mhb M2) (mnp M2) (nI h2)) (upd (mtk M2) (mnp M2) (-1)) (mnw M2) (mnp M2 + 1) (mle M2) (mwy M2) (mfc M2) (mta M2))) := hD
      obtain ⟨rfl, hx2, hd2⟩ := hw2
      rw [← hx2] at hl
      have hI3 := xI_sit hI2 (by omega) (xvb_k (n := 16) hh2 (by decide)) (show mnp M2 < 4 by omega)
      refine lv_iconst (v := nI 1) hx hb dL_law_97 (by decide) ?_
      refine lv_icmp_eq (tgt := 103) hx hb dL_law_98 (by decide) (fun _ => ?_) (fun c_ => absurd (by rw [hnp2]) c_)
      refine lv_iconst (v := nI 0) hx hb dL_law_103 (by decide) ?_
      refine lv_istore_n (lv' := [(3, .int (nI 0)), (0, .ref b), (1, .ref (ub 0)), (2, .int (nI wn))]) hx hb dL_law_104 rfl hl (by decide) rfl (fun ls hl => ?_)
      refine W.widen (k := 29) (n := 262) (by omega) (by omega) ?_
      subst hAe
      exact law_loop C1 oa wn hw1n ub 29 262 (by decide) (by decide) 57 0 sc (xmk (mpk M2) (mth M2) (msh M2) (man M2) (mgl M2) (upd (mhb M2) (mnp M2) (nI h2)) (upd (mtk M2) (mnp M2) (-1)) (mnw M2) (mnp M2 + 1) (mle M2) (mwy M2) (mfc M2) (mta M2)) (by decide) (by decide) (xJ_start hI3 (by omega) hnw2 (show mnp M2 + 1 = 2 by omega) hpk2 hman2) _ _ hP hD hS ls (lv_sub hl [1, 2, 3, 0] rfl)
-- ===== YOUR PART ENDS =====
set_option maxHeartbeats 4000000 in
theorem lw_walk (l : Launch) (hflags : l.flags = flags0) (b : Addr) (xs : List Int32) : MetFree l x (headSpec (Jvm.Cond.code x code maxLocals ret :: tables_1) room_1) (lw_P b xs) (fun _ _ _ _ _ => True) lw_Q := by
  refine MetFree.of_bodyS (code := code) (maxLocals := maxLocals) (ret := ret) (by decide) ?_ ?_
  · intro args s m h hn
    obtain ⟨meth, c, h1, h2, h3, h4, h5, h6, -, -⟩ := Cond.code_spec hn (atoms_spec (ws := Jvm.Cond.code x code maxLocals ret :: tables_1) h _ List.mem_cons_self)
    exact ⟨meth, c, h1, h2, h3, h4, h5, h6⟩
  · intro p e s m args below meth c s₁ B hml0 hP _
    obtain ⟨rfl, hx, hbd, hgv⟩ := hP
    obtain ⟨scr, harrAt, hlist, hof, hsmall⟩ := hx
    obtain ⟨hcb, hkn, -, -⟩ := State.arrayAt?_spec harrAt
    have hown : s.vm.findClass R_law = some m.cls := findClass_of_methodNamed B.named
    have hts0 : ∀ c ∈ (Jvm.Cond.code x code maxLocals ret :: tables_1), c.before #[Value.ref b] s = true := atoms_spec (ws := Jvm.Cond.code x code maxLocals ret :: tables_1) B.pre
    have hts : ∀ w ∈ lw_tbl, w.before #[Value.ref b] s = true := k2_hts_sels lw_privs (fun w hw => hts0 w (List.mem_cons_of_mem _ hw)) lw_privs_ok
    have hml : c.maxLocals = 24 := B.maxLocals_eq (hts0 _ List.mem_cons_self)
    have X₀ : Stand p l e room_1 s m #[Value.ref b] below meth c s₁ [] 0 0 := Stand.of_body B
    have hh0 : s₁.heap = s.heap := by rw [B.state]; rfl
    have hsz : scr.slots.size = xs.length := by rw [← Array.length_toList, hlist, List.length_map]
    have hval : ∀ j : Nat, j < xs.length → scr.slots[j]? = some (.int (xs.getD j 0)) := fun j hj => by
      rw [← Array.getElem?_toList, hlist]
      simp [hj]
    have hbl : b < s.heap.size := (Array.getElem?_eq_some_iff.mp hcb).1
    have hX : va_X b xs.length (fun j => xs.getD j 0) s s.heap := ⟨scr, hcb, hof, hkn, hsz, hval⟩
    have K : W p l e room_1 s m #[Value.ref b] below meth c s₁.heap [] 0 0 (lw_Z below #[Value.ref b] s) (entryFrame m ([Value.ref b] : List Value).toArray 24) := by
      rw [hh0]
      exact whole_start l hflags hbd ⟨B.exec, B.bytes, B.returns, hml, hown, hts, hX, hbl, B.notSynchronized, hgv⟩
    obtain ⟨t, a1, o, b1, b2, b3⟩ := K s₁ rfl X₀
    exact ⟨t, o, a1, b1, b2, b3⟩
theorem lw_pre_spec {args : Array Value} {s : State} (h : (Jvm.Cond.and given_1 narrow_1).before args s = true) (hr : rest_1_c.before args s = true) : ∃ (b : Addr) (xs : List Int32), lw_P b xs args s := by
  have hs := flat_of_before _ h
  have hq := flat_of_before _ hr
  have hc : (Cond.count 1).before args s = true := hs _ (by decide +kernel)
  have harr : (Cond.arrayOf (.arg 0) .int).before args s = true := hs _ (by decide +kernel)
  have hle : (Cond.le (.length (.arg 0)) (.int 260)).before args s = true := hs _ (by decide +kernel)
  have hlen : (Cond.isInt (.length (.arg 0))).before args s = true := hq _ (by decide +kernel)
  have hall : (Cond.all (.arg 0) (.isInt (.elem (.arg 0) (.index 0)))).before args s = true := hq _ (by decide +kernel)
  obtain ⟨b, xs, hb, hx⟩ := State.ints_of_pre rfl harr hlen hall
  have hsm : xs.length < 2 ^ 31 := hx.choose_spec.2.2.2
  have hev : (Term.length (.arg 0)).eval args s none [] s = some (.int xs.length.toInt32) := hx.length_eval hb
  have hv := Cond.le_ints hev (show (Term.int 260).eval args s none [] s = some (.int 260) from rfl)
  have hd : xs.length.toInt32 ≤ 260 := by
    simpa [Cond.before, Cond.holds, hv] using hle
  have hN : xs.length ≤ 260 := (Int32.ofNat_le_ofNat hsm (by decide)).mp (show Int32.ofNat xs.length ≤ Int32.ofNat 260 from hd)
  exact ⟨b, xs, Cond.one_arg hc (show args[0]? = some (.ref b) from hb), hx, hN, h⟩
theorem lw_comes (l : Launch) (hflags : l.flags = flags0) : Comes l x (Jvm.Cond.code x code maxLocals ret :: tables_1) room_1 (fun tb e args s => Calls_1 tb e args s ∧ rest_1 tb e args s ∧ Pre_1 tb e args s)
    (fun _ _ args s o t => lw_Q args s o t) := by
  intro p e ha hc hk s m args below hf hfit hheap happ hpre
  obtain ⟨b, xs, hP⟩ := lw_pre_spec hpre.2.2 hpre.2.1
  obtain ⟨k, o, h1, h2, h3, hQ⟩ := lw_walk l hflags b xs p e ha hc hk s m args below hf ((Spec.applies_iff_loose hf).mp happ).1 hP trivial
  exact ⟨k, o, h1, h2, h3, hQ⟩
theorem lw_frame {s t : State} {o : Outcome} {args : Array Value} (h : State.butDraws s t lw_cs (fun t1 => Framed s o t1 [] 600130 7301080)) :
    State.butDraws s t [Jvm.Choice.named "NaN.bits"] (fun t1 => Framed s o t1 (fieldLocs frame_1_writes args s ++ arrayLocs frame_1_arrays args s ++ staticLocs frame_1_statics s) 600130 7301080) := h
theorem lw_limb (L : Cond) (hL : ∀ (args : Array Value) (s t : State), L.after args s (.returned (some (.int 1))) t = true) :
    ArmFor flags0 classFile x code maxLocals ret World_1 tables_1 room_1 Calls_1 rest_1 Pre_1
      (fun tb e a s o t => postC L tb e a s o t ∧ State.butDraws s t [Jvm.Choice.named "NaN.bits"] (fun t1 => Framed s o t1 (fieldLocs frame_1_writes a s ++ arrayLocs frame_1_arrays a s ++ staticLocs frame_1_statics s) 600130 7301080)) := by
  intro l hflags _ _ p e ha hc hk s m args below hf hfit hheap happ hpre
  obtain ⟨k, o, h1, h2, h3, rfl, hF⟩ := lw_comes l hflags p e ha hc hk s m args below hf hfit hheap happ hpre
  exact ⟨k, _, h1, h2, h3, hL args s _, lw_frame hF⟩
theorem i_vc : Claimed_1_1 ∧ Claimed_1_2 := ⟨lw_limb limb_1_1 (fun args s t => by simp [limb_1_1, Cond.after, Cond.holds, Cond.value]), lw_limb limb_1_2 (fun args s t => Cond.after_iff.mpr (by
  first | (rw [show limb_1_2 = Cond.eq .result (.int 1) from rfl, Cond.eq_ints (x := 1) (y := 1) rfl rfl]; simp; done) | (simp [limb_1_2, Cond.value, Term.eval]; done)))⟩
