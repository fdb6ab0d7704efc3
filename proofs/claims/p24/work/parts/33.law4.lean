section XLW4
/-- the law's arrays, filled -/
abbrev xRG (T : Nat → ClassId) (pk : Nat) (q : Nat → Nat) (M0 : XM) (wn : Nat) : va_W := (pk, .inl (T 0, 16, .inl (xfn 16 (mpk M0)))) :: xR0 T q (xfn wn (fun v => xtold M0 v 1)) (xfn wn (fun v => xtold M0 v 2)) (xfn wn (man M0)) (xft M0 wn)
set_option maxHeartbeats 4000000 in
set_option maxRecDepth 100000 in
/-- the law: how many are right, are sure, and how often anew -/
theorem L_G1 {p : Program} {l : Launch} {e : Env} {s : State} {m : MethodId} {below : List Frame} {meth : Method} {c : Code} {G : va_G} {T : Nat → ClassId} {b L : Nat} {xs : Nat → Int32} (C0 : xLC p l s m meth c b L xs G T) (wn t n pl kd nm hn v : Nat) (op : Bool) (sn xv : Int32) (q : Nat → Nat) (pk : Nat) (ad : Nat → Nat) (sc : Nat → Nat → Int32) (M0 M : XM) (hJ : xJ M wn n) (hpl : pl < 16) (hw : xwn kd nm = true) (hhn : hn < 6) (hR : xRl hn op sn pl kd nm wn M0 M) (hv : v < wn) (ce sl : Nat) (hce : ce + 6 ≤ 600130) (hsl9 : sl + 36 ≤ 7301080) (H : Heap) (locs : List Loc) (hP : va_P G vwCl (xRG T pk q M0 wn ++ xC T ad sc M) H) (hD : va_D (fun q : Nat => s.heap.size ≤ q) (xRG T pk q M0 wn ++ xC T ad sc M)) (hS : va_S (fun q : Nat => s.heap.size ≤ q) s.heap H locs) (ls : Array Slot) (hl : lv_has ls 24 [(0, .ref b), (1, .ref (ad 0)), (2, .int (nI wn)), (3, .int (nI t)), (4, .int xv), (5, .ref (q 0)), (6, .ref (q 1)), (7, .ref (q 2)), (8, .ref (q 3)), (9, .ref pk), (10, .int sn), (11, .int (nI pl)), (12, .int (xb op)), (13, .int (nI hn)), (14, .int (nI kd)), (15, .int (nI nm)), (19, .int (nI v))]) (kk : ∀ (H1 : Heap) (locs1 : List Loc), va_P G vwCl (xRG T pk q M0 wn ++ xC T ad sc M) H1 → va_D (fun q : Nat => s.heap.size ≤ q) (xRG T pk q M0 wn ++ xC T ad sc M) → va_S (fun q : Nat => s.heap.size ≤ q) s.heap H1 locs1 → ∀ ls1 : Array Slot, lv_has ls1 24 [(0, .ref b), (1, .ref (ad 0)), (2, .int (nI wn)), (3, .int (nI t)), (4, .int xv), (5, .ref (q 0)), (6, .ref (q 1)), (7, .ref (q 2)), (8, .ref (q 3)), (9, .ref pk), (10, .int sn), (11, .int (nI pl)), (12, .int (xb op)), (13, .int (nI hn)), (14, .int (nI kd)), (15, .int (nI nm)), (19, .int (nI v))] → W p l e room_1 s m #[Value.ref b] below meth c H1 locs1 (ce + 6) (sl + 36) (lw_Z below #[Value.ref b] s) (F0 m 840 ls1 [])) : W p l e room_1 s m #[Value.ref b] below meth c H locs ce sl (lw_Z below #[Value.ref b] s) (F0 m 772 ls []) := by
  obtain ⟨hx, hb, hr, hml, hown, hts, hX, hbl, hlocks, hK, hXB, hZ, hL9, hsl⟩ := C0
  have hA : ∀ q : Nat, s.heap.size ≤ q → (fun q : Nat => s.heap.size ≤ q) q := fun _ h => h
  have hbA : ¬ (fun q : Nat => s.heap.size ≤ q) b := Nat.not_le.mpr hbl
  generalize hAe : (fun q : Nat => s.heap.size ≤ q) = A at hA hbA hZ hD hS kk
  have hI := hJ.1
  have hn4 : mnw M ≤ 4 := hI.1
  have hnw : mnw M = wn := hJ.2.1
  have hnp : mnp M = 2 := hJ.2.2.1
  have hsh := hI.2.2.2.2.1
  have hsur := hI.2.2.2.1
  have hm4 : mnp M ≤ 4 := hI.2.1
  have hW4 := xJ_4 hJ
  have hv4 : v < 4 := by omega
  have hvw : v < mnw M := by omega
  obtain ⟨g1, g2, g3, g4⟩ := hR.2 v hv
  have K798 : ∀ (H : Heap) (locs : List Loc), va_P G vwCl (xRG T pk q M0 wn ++ xC T ad sc M) H → va_D A (xRG T pk q M0 wn ++ xC T ad sc M) → va_S A s.heap H locs → ∀ ls : Array Slot, lv_has ls 24 [(0, .ref b), (1, .ref (ad 0)), (2, .int (nI wn)), (3, .int (nI t)), (4, .int xv), (5, .ref (q 0)), (6, .ref (q 1)), (7, .ref (q 2)), (8, .ref (q 3)), (9, .ref pk), (10, .int sn), (11, .int (nI pl)), (12, .int (xb op)), (13, .int (nI hn)), (14, .int (nI kd)), (15, .int (nI nm)), (19, .int (nI v))] → W p l e room_1 s m #[Value.ref b] below meth c H locs (ce + 2) (sl + 12) (lw_Z below #[Value.ref b] s) (F0 m 798 ls []) := by
    intro H locs hP hD hS ls hl
    refine lv_iload hx hb dL_law_798 (lv_at hl 13 rfl) ?_
    refine lv_iconst (v := nI 3) hx hb dL_law_800 (by decide) ?_
    by_cases h3 : hn < 3
    · refine lv_icmp_lt (tgt := 810) hx hb dL_law_801 (by decide) (fun _ => ?_) (fun c_ => absurd (nI_lt h3 (by decide)) c_)
      refine lv_aload_n hx hb dL_law_810 rfl (lv_at hl 1 rfl) ?_
      refine lv_iload hx hb dL_law_811 (lv_at hl 16 rfl) ?_
      refine lv_iconst (v := nI 2) hx hb dL_law_813 (by decide) ?_
      refine x_calliB (va_runV (As := [.int (nI v), .int (nI 2)]) (rest := []) ⟨hx, hb, hml, hown, hts⟩ (k_watcher l hsl G T _ ad sc M v 2 hn4 hsh hvw (by decide)) (cwV 2 hts gL_law_X3_watcher rfl rfl rfl (by decide +kernel) ⟨Nat.le_of_ble_eq_true rfl, Nat.le_of_ble_eq_true rfl⟩) (x_preVB (wc := (xC T ad sc M)) (wr := (xRG T pk q M0 wn)) hK hP hD hS hA hXB hZ _ _ 0 3 rfl rfl) rfl rfl hl.1 rfl (lv_room (Nat.le_of_ble_eq_true rfl)) dL_law_814 ⟨show ce + 2 + 2 ≤ 600130 by omega, show sl + 12 + 12 ≤ 7301080 by omega⟩) hP hD hS hA (fun _ _ _ => xd_self (xC_fst T ad sc _ M _ rfl rfl) (xd_r hD)) (fun r1 u1 H locs hw1 hP hD hS => ?_)
      have hP : va_P G vwCl (xRG T pk q M0 wn ++ xC T ad sc M) H := hP
      have hD : va_D A (xRG T pk q M0 wn ++ xC T ad sc M) := hD
      have hw1 : r1 = (xtold M v 2) := hw1
      subst hw1
      refine lv_aload hx hb dL_law_817 (lv_at hl 6 rfl) ?_
      refine lv_iload hx hb dL_law_819 (lv_at hl 16 rfl) ?_
      refine x_iald hx hb hK hP (2) 0 (f := (xfn wn (fun v => xtold M0 v 2))) (n := 4) rfl rfl hv4 (by decide) dL_law_821 ?_
      refine x_topi (y := xtold M0 v 2) (xfn_at _ hv) ?_
      refine lv_icmp_ne (tgt := 898) hx hb dL_law_822 (by decide) (fun c_ => absurd ((g2 (by omega)).1) c_) (fun _ => ?_)
      refine lv_aload_n hx hb dL_law_825 rfl (lv_at hl 1 rfl) ?_
      refine lv_iload hx hb dL_law_826 (lv_at hl 16 rfl) ?_
      refine lv_iconst (v := nI 4) hx hb dL_law_828 (by decide) ?_
      refine x_calliB (va_runV (As := [.int (nI v), .int (nI 4)]) (rest := []) ⟨hx, hb, hml, hown, hts⟩ (k_watcher l hsl G T _ ad sc M v 4 hn4 hsh hvw (by decide)) (cwV 2 hts gL_law_X3_watcher rfl rfl rfl (by decide +kernel) ⟨Nat.le_of_ble_eq_true rfl, Nat.le_of_ble_eq_true rfl⟩) (x_preVB (wc := (xC T ad sc M)) (wr := (xRG T pk q M0 wn)) hK hP hD hS hA hXB hZ _ _ 0 3 rfl rfl) rfl rfl hl.1 rfl (lv_room (Nat.le_of_ble_eq_true rfl)) dL_law_829 ⟨show (ce + 2 + 2) + 2 ≤ 600130 by omega, show (sl + 12 + 12) + 12 ≤ 7301080 by omega⟩) hP hD hS hA (fun _ _ _ => xd_self (xC_fst T ad sc _ M _ rfl rfl) (xd_r hD)) (fun r1 u1 H locs hw1 hP hD hS => ?_)
      have hP : va_P G vwCl (xRG T pk q M0 wn ++ xC T ad sc M) H := hP
      have hD : va_D A (xRG T pk q M0 wn ++ xC T ad sc M) := hD
      have hw1 : r1 = (man M v) := hw1
      subst hw1
      refine lv_aload hx hb dL_law_832 (lv_at hl 7 rfl) ?_
      refine lv_iload hx hb dL_law_834 (lv_at hl 16 rfl) ?_
      refine x_iald hx hb hK hP (3) 0 (f := (xfn wn (man M0))) (n := 4) rfl rfl hv4 (by decide) dL_law_836 ?_
      refine x_topi (y := man M0 v) (xfn_at _ hv) ?_
      refine lv_icmp_ne (tgt := 898) hx hb dL_law_837 (by decide) (fun c_ => absurd ((g2 (by omega)).2) c_) (fun _ => ?_)
      refine W.widen (k := ce + 6) (n := sl + 36) (by omega) (by omega) ?_
      exact kk _ _ hP hD hS ls (lv_sub hl [0, 1, 2, 3, 4, 5, 6, 7, 8, 9, 10, 11, 12, 13, 14, 15, 16] rfl)
    · refine lv_icmp_lt (tgt := 810) hx hb dL_law_801 (by decide) (fun c_ => absurd c_ (nI_nlt (by omega) (by omega))) (fun _ => ?_)
      refine lv_iload hx hb dL_law_804 (lv_at hl 13 rfl) ?_
      refine lv_iconst (v := nI 3) hx hb dL_law_806 (by decide) ?_
      by_cases h4 : hn = 3
      · refine lv_icmp_ne (tgt := 840) hx hb dL_law_807 (by decide) (fun c_ => absurd (by rw [h4]) c_) (fun _ => ?_)
        refine lv_aload_n hx hb dL_law_810 rfl (lv_at hl 1 rfl) ?_
        refine lv_iload hx hb dL_law_811 (lv_at hl 16 rfl) ?_
        refine lv_iconst (v := nI 2) hx hb dL_law_813 (by decide) ?_
        refine x_calliB (va_runV (As := [.int (nI v), .int (nI 2)]) (rest := []) ⟨hx, hb, hml, hown, hts⟩ (k_watcher l hsl G T _ ad sc M v 2 hn4 hsh hvw (by decide)) (cwV 2 hts gL_law_X3_watcher rfl rfl rfl (by decide +kernel) ⟨Nat.le_of_ble_eq_true rfl, Nat.le_of_ble_eq_true rfl⟩) (x_preVB (wc := (xC T ad sc M)) (wr := (xRG T pk q M0 wn)) hK hP hD hS hA hXB hZ _ _ 0 3 rfl rfl) rfl rfl hl.1 rfl (lv_room (Nat.le_of_ble_eq_true rfl)) dL_law_814 ⟨show ce + 2 + 2 ≤ 600130 by omega, show sl + 12 + 12 ≤ 7301080 by omega⟩) hP hD hS hA (fun _ _ _ => xd_self (xC_fst T ad sc _ M _ rfl rfl) (xd_r hD)) (fun r1 u1 H locs hw1 hP hD hS => ?_)
        have hP : va_P G vwCl (xRG T pk q M0 wn ++ xC T ad sc M) H := hP
        have hD : va_D A (xRG T pk q M0 wn ++ xC T ad sc M) := hD
        have hw1 : r1 = (xtold M v 2) := hw1
        subst hw1
        refine lv_aload hx hb dL_law_817 (lv_at hl 6 rfl) ?_
        refine lv_iload hx hb dL_law_819 (lv_at hl 16 rfl) ?_
        refine x_iald hx hb hK hP (2) 0 (f := (xfn wn (fun v => xtold M0 v 2))) (n := 4) rfl rfl hv4 (by decide) dL_law_821 ?_
        refine x_topi (y := xtold M0 v 2) (xfn_at _ hv) ?_
        refine lv_icmp_ne (tgt := 898) hx hb dL_law_822 (by decide) (fun c_ => absurd ((g2 (by omega)).1) c_) (fun _ => ?_)
        refine lv_aload_n hx hb dL_law_825 rfl (lv_at hl 1 rfl) ?_
        refine lv_iload hx hb dL_law_826 (lv_at hl 16 rfl) ?_
        refine lv_iconst (v := nI 4) hx hb dL_law_828 (by decide) ?_
        refine x_calliB (va_runV (As := [.int (nI v), .int (nI 4)]) (rest := []) ⟨hx, hb, hml, hown, hts⟩ (k_watcher l hsl G T _ ad sc M v 4 hn4 hsh hvw (by decide)) (cwV 2 hts gL_law_X3_watcher rfl rfl rfl (by decide +kernel) ⟨Nat.le_of_ble_eq_true rfl, Nat.le_of_ble_eq_true rfl⟩) (x_preVB (wc := (xC T ad sc M)) (wr := (xRG T pk q M0 wn)) hK hP hD hS hA hXB hZ _ _ 0 3 rfl rfl) rfl rfl hl.1 rfl (lv_room (Nat.le_of_ble_eq_true rfl)) dL_law_829 ⟨show (ce + 2 + 2) + 2 ≤ 600130 by omega, show (sl + 12 + 12) + 12 ≤ 7301080 by omega⟩) hP hD hS hA (fun _ _ _ => xd_self (xC_fst T ad sc _ M _ rfl rfl) (xd_r hD)) (fun r1 u1 H locs hw1 hP hD hS => ?_)
        have hP : va_P G vwCl (xRG T pk q M0 wn ++ xC T ad sc M) H := hP
        have hD : va_D A (xRG T pk q M0 wn ++ xC T ad sc M) := hD
        have hw1 : r1 = (man M v) := hw1
        subst hw1
        refine lv_aload hx hb dL_law_832 (lv_at hl 7 rfl) ?_
        refine lv_iload hx hb dL_law_834 (lv_at hl 16 rfl) ?_
        refine x_iald hx hb hK hP (3) 0 (f := (xfn wn (man M0))) (n := 4) rfl rfl hv4 (by decide) dL_law_836 ?_
        refine x_topi (y := man M0 v) (xfn_at _ hv) ?_
        refine lv_icmp_ne (tgt := 898) hx hb dL_law_837 (by decide) (fun c_ => absurd ((g2 (by omega)).2) c_) (fun _ => ?_)
        refine W.widen (k := ce + 6) (n := sl + 36) (by omega) (by omega) ?_
        exact kk _ _ hP hD hS ls (lv_sub hl [0, 1, 2, 3, 4, 5, 6, 7, 8, 9, 10, 11, 12, 13, 14, 15, 16] rfl)
      · refine lv_icmp_ne (tgt := 840) hx hb dL_law_807 (by decide) (fun _ => ?_) (fun c_ => absurd c_ (fun e9 => h4 ((nI_eq (by omega) (by decide)).mp e9)))
        refine W.widen (k := ce + 6) (n := sl + 36) (by omega) (by omega) ?_
        exact kk _ _ hP hD hS ls (lv_sub hl [0, 1, 2, 3, 4, 5, 6, 7, 8, 9, 10, 11, 12, 13, 14, 15, 16] rfl)
  refine lv_iload hx hb dL_law_772 (lv_at hl 13 rfl) ?_
  refine lv_iconst (v := nI 2) hx hb dL_law_774 (by decide) ?_
  by_cases h2 : hn < 2
  · refine lv_icmp_ge (tgt := 798) hx hb dL_law_775 (by decide) (fun c_ => absurd c_ (nI_ge h2 (by decide))) (fun _ => ?_)
    refine lv_iload hx hb dL_law_778 (lv_at hl 12 rfl) ?_
    rcases Bool.eq_false_or_eq_true op with eo | eo
    · refine lv_if_eq (tgt := 798) hx hb dL_law_780 (by decide) (fun c_ => absurd c_ (by rw [xb_t eo]; decide)) (fun _ => ?_)
      refine lv_aload_n hx hb dL_law_783 rfl (lv_at hl 1 rfl) ?_
      refine lv_iload hx hb dL_law_784 (lv_at hl 16 rfl) ?_
      refine lv_iconst (v := nI 1) hx hb dL_law_786 (by decide) ?_
      refine x_calliB (va_runV (As := [.int (nI v), .int (nI 1)]) (rest := []) ⟨hx, hb, hml, hown, hts⟩ (k_watcher l hsl G T _ ad sc M v 1 hn4 hsh hvw (by decide)) (cwV 2 hts gL_law_X3_watcher rfl rfl rfl (by decide +kernel) ⟨Nat.le_of_ble_eq_true rfl, Nat.le_of_ble_eq_true rfl⟩) (x_preVB (wc := (xC T ad sc M)) (wr := (xRG T pk q M0 wn)) hK hP hD hS hA hXB hZ _ _ 0 3 rfl rfl) rfl rfl hl.1 rfl (lv_room (Nat.le_of_ble_eq_true rfl)) dL_law_787 ⟨show ce + 2 ≤ 600130 by omega, show sl + 12 ≤ 7301080 by omega⟩) hP hD hS hA (fun _ _ _ => xd_self (xC_fst T ad sc _ M _ rfl rfl) (xd_r hD)) (fun r1 u1 H locs hw1 hP hD hS => ?_)
      have hP : va_P G vwCl (xRG T pk q M0 wn ++ xC T ad sc M) H := hP
      have hD : va_D A (xRG T pk q M0 wn ++ xC T ad sc M) := hD
      have hw1 : r1 = (xtold M v 1) := hw1
      subst hw1
      refine lv_aload hx hb dL_law_790 (lv_at hl 5 rfl) ?_
      refine lv_iload hx hb dL_law_792 (lv_at hl 16 rfl) ?_
      refine x_iald hx hb hK hP (1) 0 (f := (xfn wn (fun v => xtold M0 v 1))) (n := 4) rfl rfl hv4 (by decide) dL_law_794 ?_
      refine x_topi (y := xtold M0 v 1) (xfn_at _ hv) ?_
      refine lv_icmp_ne (tgt := 898) hx hb dL_law_795 (by decide) (fun c_ => absurd (g1 h2 eo) c_) (fun _ => ?_)
      refine W.widen (k := ce + 2) (n := sl + 12) (by omega) (by omega) ?_
      exact K798 _ _ hP hD hS ls (lv_sub hl [0, 1, 2, 3, 4, 5, 6, 7, 8, 9, 10, 11, 12, 13, 14, 15, 16] rfl)
    · refine lv_if_eq (tgt := 798) hx hb dL_law_780 (by decide) (fun _ => ?_) (fun c_ => absurd (xb_f eo) c_)
      refine W.widen (k := ce + 2) (n := sl + 12) (by omega) (by omega) ?_
      exact K798 _ _ hP hD hS ls (lv_sub hl [0, 1, 2, 3, 4, 5, 6, 7, 8, 9, 10, 11, 12, 13, 14, 15, 16] rfl)
  · refine lv_icmp_ge (tgt := 798) hx hb dL_law_775 (by decide) (fun _ => ?_) (fun c_ => absurd (nI_le (by omega) (by omega)) c_)
    refine W.widen (k := ce + 2) (n := sl + 12) (by omega) (by omega) ?_
    exact K798 _ _ hP hD hS ls (lv_sub hl [0, 1, 2, 3, 4, 5, 6, 7, 8, 9, 10, 11, 12, 13, 14, 15, 16] rfl)

set_option maxHeartbeats 4000000 in
set_option maxRecDepth 100000 in
/-- the law: who is right is sure, too; whether all is thought anew -/
theorem L_G2 {p : Program} {l : Launch} {e : Env} {s : State} {m : MethodId} {below : List Frame} {meth : Method} {c : Code} {G : va_G} {T : Nat → ClassId} {b L : Nat} {xs : Nat → Int32} (C0 : xLC p l s m meth c b L xs G T) (wn t n pl kd nm hn v : Nat) (op : Bool) (sn xv : Int32) (q : Nat → Nat) (pk : Nat) (ad : Nat → Nat) (sc : Nat → Nat → Int32) (M0 M : XM) (hJ : xJ M wn n) (hpl : pl < 16) (hw : xwn kd nm = true) (hhn : hn < 6) (hR : xRl hn op sn pl kd nm wn M0 M) (hv : v < wn) (ce sl : Nat) (hce : ce + 12 ≤ 600130) (hsl9 : sl + 72 ≤ 7301080) (H : Heap) (locs : List Loc) (hP : va_P G vwCl (xRG T pk q M0 wn ++ xC T ad sc M) H) (hD : va_D (fun q : Nat => s.heap.size ≤ q) (xRG T pk q M0 wn ++ xC T ad sc M)) (hS : va_S (fun q : Nat => s.heap.size ≤ q) s.heap H locs) (ls : Array Slot) (hl : lv_has ls 24 [(0, .ref b), (1, .ref (ad 0)), (2, .int (nI wn)), (3, .int (nI t)), (4, .int xv), (5, .ref (q 0)), (6, .ref (q 1)), (7, .ref (q 2)), (8, .ref (q 3)), (9, .ref pk), (10, .int sn), (11, .int (nI pl)), (12, .int (xb op)), (13, .int (nI hn)), (14, .int (nI kd)), (15, .int (nI nm)), (19, .int (nI v))]) (kk : ∀ (an : Bool) (H1 : Heap) (locs1 : List Loc), (an = false → ¬ man M0 v < man M v) → va_P G vwCl (xRG T pk q M0 wn ++ xC T ad sc M) H1 → va_D (fun q : Nat => s.heap.size ≤ q) (xRG T pk q M0 wn ++ xC T ad sc M) → va_S (fun q : Nat => s.heap.size ≤ q) s.heap H1 locs1 → ∀ ls1 : Array Slot, lv_has ls1 24 [(0, .ref b), (1, .ref (ad 0)), (2, .int (nI wn)), (3, .int (nI t)), (4, .int xv), (5, .ref (q 0)), (6, .ref (q 1)), (7, .ref (q 2)), (8, .ref (q 3)), (9, .ref pk), (10, .int sn), (11, .int (nI pl)), (12, .int (xb op)), (13, .int (nI hn)), (14, .int (nI kd)), (15, .int (nI nm)), (19, .int (nI v)), (20, .int (xb an))] → W p l e room_1 s m #[Value.ref b] below meth c H1 locs1 (ce + 12) (sl + 72) (lw_Z below #[Value.ref b] s) (F0 m 922 ls1 [])) : W p l e room_1 s m #[Value.ref b] below meth c H locs ce sl (lw_Z below #[Value.ref b] s) (F0 m 840 ls []) := by
  obtain ⟨hx, hb, hr, hml, hown, hts, hX, hbl, hlocks, hK, hXB, hZ, hL9, hsl⟩ := C0
  have hA : ∀ q : Nat, s.heap.size ≤ q → (fun q : Nat => s.heap.size ≤ q) q := fun _ h => h
  have hbA : ¬ (fun q : Nat => s.heap.size ≤ q) b := Nat.not_le.mpr hbl
  generalize hAe : (fun q : Nat => s.heap.size ≤ q) = A at hA hbA hZ hD hS kk
  have hI := hJ.1
  have hn4 : mnw M ≤ 4 := hI.1
  have hnw : mnw M = wn := hJ.2.1
  have hnp : mnp M = 2 := hJ.2.2.1
  have hsh := hI.2.2.2.2.1
  have hsur := hI.2.2.2.1
  have hm4 : mnp M ≤ 4 := hI.2.1
  have hW4 := xJ_4 hJ
  have hv4 : v < 4 := by omega
  have hvw : v < mnw M := by omega
  obtain ⟨g1, g2, g3, g4⟩ := hR.2 v hv
  have K864 : ∀ (H : Heap) (locs : List Loc), va_P G vwCl (xRG T pk q M0 wn ++ xC T ad sc M) H → va_D A (xRG T pk q M0 wn ++ xC T ad sc M) → va_S A s.heap H locs → ∀ ls : Array Slot, lv_has ls 24 [(0, .ref b), (1, .ref (ad 0)), (2, .int (nI wn)), (3, .int (nI t)), (4, .int xv), (5, .ref (q 0)), (6, .ref (q 1)), (7, .ref (q 2)), (8, .ref (q 3)), (9, .ref pk), (10, .int sn), (11, .int (nI pl)), (12, .int (xb op)), (13, .int (nI hn)), (14, .int (nI kd)), (15, .int (nI nm)), (19, .int (nI v))] → W p l e room_1 s m #[Value.ref b] below meth c H locs (ce + 2) (sl + 12) (lw_Z below #[Value.ref b] s) (F0 m 864 ls []) := by
    intro H locs hP hD hS ls hl
    obtain ⟨t1, t2⟩ := xT_31 hJ hv
    refine lv_aload_n hx hb dL_law_864 rfl (lv_at hl 1 rfl) ?_
    refine lv_iload hx hb dL_law_865 (lv_at hl 16 rfl) ?_
    refine lv_iconst (v := nI 3) hx hb dL_law_867 (by decide) ?_
    refine x_calliB (va_runV (As := [.int (nI v), .int (nI 3)]) (rest := []) ⟨hx, hb, hml, hown, hts⟩ (k_watcher l hsl G T _ ad sc M v 3 hn4 hsh hvw (by decide)) (cwV 2 hts gL_law_X3_watcher rfl rfl rfl (by decide +kernel) ⟨Nat.le_of_ble_eq_true rfl, Nat.le_of_ble_eq_true rfl⟩) (x_preVB (wc := (xC T ad sc M)) (wr := (xRG T pk q M0 wn)) hK hP hD hS hA hXB hZ _ _ 0 3 rfl rfl) rfl rfl hl.1 rfl (lv_room (Nat.le_of_ble_eq_true rfl)) dL_law_868 ⟨show ce + 2 + 2 ≤ 600130 by omega, show sl + 12 + 12 ≤ 7301080 by omega⟩) hP hD hS hA (fun _ _ _ => xd_self (xC_fst T ad sc _ M _ rfl rfl) (xd_r hD)) (fun r1 u1 H locs hw1 hP hD hS => ?_)
    have hP : va_P G vwCl (xRG T pk q M0 wn ++ xC T ad sc M) H := hP
    have hD : va_D A (xRG T pk q M0 wn ++ xC T ad sc M) := hD
    have hw1 : r1 = (xtold M v 3) := hw1
    subst hw1
    refine lv_aload_n hx hb dL_law_871 rfl (lv_at hl 1 rfl) ?_
    refine lv_iload hx hb dL_law_872 (lv_at hl 16 rfl) ?_
    refine lv_iconst (v := nI 1) hx hb dL_law_874 (by decide) ?_
    refine x_calliB (va_runV (As := [.int (nI v), .int (nI 1)]) (rest := [.int (xtold M v 3)]) ⟨hx, hb, hml, hown, hts⟩ (k_watcher l hsl G T _ ad sc M v 1 hn4 hsh hvw (by decide)) (cwV 2 hts gL_law_X3_watcher rfl rfl rfl (by decide +kernel) ⟨Nat.le_of_ble_eq_true rfl, Nat.le_of_ble_eq_true rfl⟩) (x_preVB (wc := (xC T ad sc M)) (wr := (xRG T pk q M0 wn)) hK hP hD hS hA hXB hZ _ _ 0 3 rfl rfl) rfl rfl hl.1 rfl (lv_room (Nat.le_of_ble_eq_true rfl)) dL_law_875 ⟨show (ce + 2 + 2) + 2 ≤ 600130 by omega, show (sl + 12 + 12) + 12 ≤ 7301080 by omega⟩) hP hD hS hA (fun _ _ _ => xd_self (xC_fst T ad sc _ M _ rfl rfl) (xd_r hD)) (fun r1 u1 H locs hw1 hP hD hS => ?_)
    have hP : va_P G vwCl (xRG T pk q M0 wn ++ xC T ad sc M) H := hP
    have hD : va_D A (xRG T pk q M0 wn ++ xC T ad sc M) := hD
    have hw1 : r1 = (xtold M v 1) := hw1
    subst hw1
    refine lv_icmp_gt (tgt := 898) hx hb dL_law_878 (by decide) (fun c_ => absurd c_ (t1)) (fun _ => ?_)
    refine lv_aload_n hx hb dL_law_881 rfl (lv_at hl 1 rfl) ?_
    refine lv_iload hx hb dL_law_882 (lv_at hl 16 rfl) ?_
    refine lv_iconst (v := nI 3) hx hb dL_law_884 (by decide) ?_
    refine x_calliB (va_runV (As := [.int (nI v), .int (nI 3)]) (rest := []) ⟨hx, hb, hml, hown, hts⟩ (k_watcher l hsl G T _ ad sc M v 3 hn4 hsh hvw (by decide)) (cwV 2 hts gL_law_X3_watcher rfl rfl rfl (by decide +kernel) ⟨Nat.le_of_ble_eq_true rfl, Nat.le_of_ble_eq_true rfl⟩) (x_preVB (wc := (xC T ad sc M)) (wr := (xRG T pk q M0 wn)) hK hP hD hS hA hXB hZ _ _ 0 3 rfl rfl) rfl rfl hl.1 rfl (lv_room (Nat.le_of_ble_eq_true rfl)) dL_law_885 ⟨show ((ce + 2 + 2) + 2) + 2 ≤ 600130 by omega, show ((sl + 12 + 12) + 12) + 12 ≤ 7301080 by omega⟩) hP hD hS hA (fun _ _ _ => xd_self (xC_fst T ad sc _ M _ rfl rfl) (xd_r hD)) (fun r1 u1 H locs hw1 hP hD hS => ?_)
    have hP : va_P G vwCl (xRG T pk q M0 wn ++ xC T ad sc M) H := hP
    have hD : va_D A (xRG T pk q M0 wn ++ xC T ad sc M) := hD
    have hw1 : r1 = (xtold M v 3) := hw1
    subst hw1
    refine lv_aload_n hx hb dL_law_888 rfl (lv_at hl 1 rfl) ?_
    refine lv_iload hx hb dL_law_889 (lv_at hl 16 rfl) ?_
    refine lv_iconst (v := nI 2) hx hb dL_law_891 (by decide) ?_
    refine x_calliB (va_runV (As := [.int (nI v), .int (nI 2)]) (rest := [.int (xtold M v 3)]) ⟨hx, hb, hml, hown, hts⟩ (k_watcher l hsl G T _ ad sc M v 2 hn4 hsh hvw (by decide)) (cwV 2 hts gL_law_X3_watcher rfl rfl rfl (by decide +kernel) ⟨Nat.le_of_ble_eq_true rfl, Nat.le_of_ble_eq_true rfl⟩) (x_preVB (wc := (xC T ad sc M)) (wr := (xRG T pk q M0 wn)) hK hP hD hS hA hXB hZ _ _ 0 3 rfl rfl) rfl rfl hl.1 rfl (lv_room (Nat.le_of_ble_eq_true rfl)) dL_law_892 ⟨show (((ce + 2 + 2) + 2) + 2) + 2 ≤ 600130 by omega, show (((sl + 12 + 12) + 12) + 12) + 12 ≤ 7301080 by omega⟩) hP hD hS hA (fun _ _ _ => xd_self (xC_fst T ad sc _ M _ rfl rfl) (xd_r hD)) (fun r1 u1 H locs hw1 hP hD hS => ?_)
    have hP : va_P G vwCl (xRG T pk q M0 wn ++ xC T ad sc M) H := hP
    have hD : va_D A (xRG T pk q M0 wn ++ xC T ad sc M) := hD
    have hw1 : r1 = (xtold M v 2) := hw1
    subst hw1
    refine lv_icmp_le (tgt := 900) hx hb dL_law_895 (by decide) (fun _ => ?_) (fun c_ => absurd (Int32.not_lt.mp t2) c_)
    refine lv_aload_n hx hb dL_law_900 rfl (lv_at hl 1 rfl) ?_
    refine lv_iload hx hb dL_law_901 (lv_at hl 16 rfl) ?_
    refine lv_iconst (v := nI 4) hx hb dL_law_903 (by decide) ?_
    refine x_calliB (va_runV (As := [.int (nI v), .int (nI 4)]) (rest := []) ⟨hx, hb, hml, hown, hts⟩ (k_watcher l hsl G T _ ad sc M v 4 hn4 hsh hvw (by decide)) (cwV 2 hts gL_law_X3_watcher rfl rfl rfl (by decide +kernel) ⟨Nat.le_of_ble_eq_true rfl, Nat.le_of_ble_eq_true rfl⟩) (x_preVB (wc := (xC T ad sc M)) (wr := (xRG T pk q M0 wn)) hK hP hD hS hA hXB hZ _ _ 0 3 rfl rfl) rfl rfl hl.1 rfl (lv_room (Nat.le_of_ble_eq_true rfl)) dL_law_904 ⟨show ((((ce + 2 + 2) + 2) + 2) + 2) + 2 ≤ 600130 by omega, show ((((sl + 12 + 12) + 12) + 12) + 12) + 12 ≤ 7301080 by omega⟩) hP hD hS hA (fun _ _ _ => xd_self (xC_fst T ad sc _ M _ rfl rfl) (xd_r hD)) (fun r1 u1 H locs hw1 hP hD hS => ?_)
    have hP : va_P G vwCl (xRG T pk q M0 wn ++ xC T ad sc M) H := hP
    have hD : va_D A (xRG T pk q M0 wn ++ xC T ad sc M) := hD
    have hw1 : r1 = (man M v) := hw1
    subst hw1
    refine lv_aload hx hb dL_law_907 (lv_at hl 7 rfl) ?_
    refine lv_iload hx hb dL_law_909 (lv_at hl 16 rfl) ?_
    refine x_iald hx hb hK hP (3) 0 (f := (xfn wn (man M0))) (n := 4) rfl rfl hv4 (by decide) dL_law_911 ?_
    refine x_topi (y := man M0 v) (xfn_at _ hv) ?_
    by_cases ha : man M0 v < man M v
    · refine lv_icmp_le (tgt := 919) hx hb dL_law_912 (by decide) (fun c_ => absurd c_ (Int32.not_le.mpr ha)) (fun _ => ?_)
      refine lv_iconst (v := nI 1) hx hb dL_law_915 (by decide) ?_
      refine lv_goto (tgt := 920) hx hb dL_law_916 (by decide) ?_
      refine lv_istore (lv' := [(20, .int (nI 1)), (0, .ref b), (1, .ref (ad 0)), (2, .int (nI wn)), (3, .int (nI t)), (4, .int xv), (5, .ref (q 0)), (6, .ref (q 1)), (7, .ref (q 2)), (8, .ref (q 3)), (9, .ref pk), (10, .int sn), (11, .int (nI pl)), (12, .int (xb op)), (13, .int (nI hn)), (14, .int (nI kd)), (15, .int (nI nm)), (19, .int (nI v))]) hx hb dL_law_920 hl (by decide) rfl (fun ls hl => ?_)
      refine W.widen (k := ce + 12) (n := sl + 72) (by omega) (by omega) ?_
      exact kk true _ _ (fun e9 => absurd e9 (by decide)) hP hD hS ls (lv_sub hl [1, 2, 3, 4, 5, 6, 7, 8, 9, 10, 11, 12, 13, 14, 15, 16, 17, 0] rfl)
    · refine lv_icmp_le (tgt := 919) hx hb dL_law_912 (by decide) (fun _ => ?_) (fun c_ => absurd (Int32.not_lt.mp ha) c_)
      refine lv_iconst (v := nI 0) hx hb dL_law_919 (by decide) ?_
      refine lv_istore (lv' := [(20, .int (nI 0)), (0, .ref b), (1, .ref (ad 0)), (2, .int (nI wn)), (3, .int (nI t)), (4, .int xv), (5, .ref (q 0)), (6, .ref (q 1)), (7, .ref (q 2)), (8, .ref (q 3)), (9, .ref pk), (10, .int sn), (11, .int (nI pl)), (12, .int (xb op)), (13, .int (nI hn)), (14, .int (nI kd)), (15, .int (nI nm)), (19, .int (nI v))]) hx hb dL_law_920 hl (by decide) rfl (fun ls hl => ?_)
      refine W.widen (k := ce + 12) (n := sl + 72) (by omega) (by omega) ?_
      exact kk false _ _ (fun _ => ha) hP hD hS ls (lv_sub hl [1, 2, 3, 4, 5, 6, 7, 8, 9, 10, 11, 12, 13, 14, 15, 16, 17, 0] rfl)
  refine lv_iload hx hb dL_law_840 (lv_at hl 16 rfl) ?_
  refine lv_iload hx hb dL_law_842 (lv_at hl 10 rfl) ?_
  by_cases hs : nI v = sn
  · refine lv_icmp_ne (tgt := 864) hx hb dL_law_844 (by decide) (fun c_ => absurd (hs) c_) (fun _ => ?_)
    refine lv_aload_n hx hb dL_law_847 rfl (lv_at hl 1 rfl) ?_
    refine lv_iload hx hb dL_law_848 (lv_at hl 16 rfl) ?_
    refine lv_iconst (v := nI 4) hx hb dL_law_850 (by decide) ?_
    refine x_calliB (va_runV (As := [.int (nI v), .int (nI 4)]) (rest := []) ⟨hx, hb, hml, hown, hts⟩ (k_watcher l hsl G T _ ad sc M v 4 hn4 hsh hvw (by decide)) (cwV 2 hts gL_law_X3_watcher rfl rfl rfl (by decide +kernel) ⟨Nat.le_of_ble_eq_true rfl, Nat.le_of_ble_eq_true rfl⟩) (x_preVB (wc := (xC T ad sc M)) (wr := (xRG T pk q M0 wn)) hK hP hD hS hA hXB hZ _ _ 0 3 rfl rfl) rfl rfl hl.1 rfl (lv_room (Nat.le_of_ble_eq_true rfl)) dL_law_851 ⟨show ce + 2 ≤ 600130 by omega, show sl + 12 ≤ 7301080 by omega⟩) hP hD hS hA (fun _ _ _ => xd_self (xC_fst T ad sc _ M _ rfl rfl) (xd_r hD)) (fun r1 u1 H locs hw1 hP hD hS => ?_)
    have hP : va_P G vwCl (xRG T pk q M0 wn ++ xC T ad sc M) H := hP
    have hD : va_D A (xRG T pk q M0 wn ++ xC T ad sc M) := hD
    have hw1 : r1 = (man M v) := hw1
    subst hw1
    refine lv_aload hx hb dL_law_854 (lv_at hl 7 rfl) ?_
    refine lv_iload hx hb dL_law_856 (lv_at hl 16 rfl) ?_
    refine x_iald hx hb hK hP (3) 0 (f := (xfn wn (man M0))) (n := 4) rfl rfl hv4 (by decide) dL_law_858 ?_
    refine x_topi (y := man M0 v) (xfn_at _ hv) ?_
    refine lv_iconst (v := nI 1) hx hb dL_law_859 (by decide) ?_
    refine lv_iadd hx hb dL_law_860 ?_
    refine lv_icmp_gt (tgt := 898) hx hb dL_law_861 (by decide) (fun c_ => absurd c_ (g3 hs)) (fun _ => ?_)
    refine W.widen (k := ce + 2) (n := sl + 12) (by omega) (by omega) ?_
    exact K864 _ _ hP hD hS ls (lv_sub hl [0, 1, 2, 3, 4, 5, 6, 7, 8, 9, 10, 11, 12, 13, 14, 15, 16] rfl)
  · refine lv_icmp_ne (tgt := 864) hx hb dL_law_844 (by decide) (fun _ => ?_) (fun c_ => absurd c_ (hs))
    refine W.widen (k := ce + 2) (n := sl + 12) (by omega) (by omega) ?_
    exact K864 _ _ hP hD hS ls (lv_sub hl [0, 1, 2, 3, 4, 5, 6, 7, 8, 9, 10, 11, 12, 13, 14, 15, 16] rfl)

set_option maxHeartbeats 4000000 in
set_option maxRecDepth 100000 in
/-- the law: what is thought of a place -/
theorem L_G3 {p : Program} {l : Launch} {e : Env} {s : State} {m : MethodId} {below : List Frame} {meth : Method} {c : Code} {G : va_G} {T : Nat → ClassId} {b L : Nat} {xs : Nat → Int32} (C0 : xLC p l s m meth c b L xs G T) (wn t n pl kd nm hn v k : Nat) (op : Bool) (sn xv : Int32) (q : Nat → Nat) (pk : Nat) (ad : Nat → Nat) (sc : Nat → Nat → Int32) (M0 M : XM) (an : Bool) (hJ : xJ M wn n) (hpl : pl < 16) (hw : xwn kd nm = true) (hhn : hn < 6) (hR : xRl hn op sn pl kd nm wn M0 M) (hv : v < wn) (hk : k < 16) (han : an = false → ¬ man M0 v < man M v) (ce sl : Nat) (hce : ce + 8 ≤ 600130) (hsl9 : sl + 48 ≤ 7301080) (H : Heap) (locs : List Loc) (hP : va_P G vwCl (xRG T pk q M0 wn ++ xC T ad sc M) H) (hD : va_D (fun q : Nat => s.heap.size ≤ q) (xRG T pk q M0 wn ++ xC T ad sc M)) (hS : va_S (fun q : Nat => s.heap.size ≤ q) s.heap H locs) (ls : Array Slot) (hl : lv_has ls 24 [(0, .ref b), (1, .ref (ad 0)), (2, .int (nI wn)), (3, .int (nI t)), (4, .int xv), (5, .ref (q 0)), (6, .ref (q 1)), (7, .ref (q 2)), (8, .ref (q 3)), (9, .ref pk), (10, .int sn), (11, .int (nI pl)), (12, .int (xb op)), (13, .int (nI hn)), (14, .int (nI kd)), (15, .int (nI nm)), (19, .int (nI v)), (20, .int (xb an)), (21, .int (nI k))]) (kk : ∀ (H1 : Heap) (locs1 : List Loc), va_P G vwCl (xRG T pk q M0 wn ++ xC T ad sc M) H1 → va_D (fun q : Nat => s.heap.size ≤ q) (xRG T pk q M0 wn ++ xC T ad sc M) → va_S (fun q : Nat => s.heap.size ≤ q) s.heap H1 locs1 → ∀ ls1 : Array Slot, lv_has ls1 24 [(0, .ref b), (1, .ref (ad 0)), (2, .int (nI wn)), (3, .int (nI t)), (4, .int xv), (5, .ref (q 0)), (6, .ref (q 1)), (7, .ref (q 2)), (8, .ref (q 3)), (9, .ref pk), (10, .int sn), (11, .int (nI pl)), (12, .int (xb op)), (13, .int (nI hn)), (14, .int (nI kd)), (15, .int (nI nm)), (19, .int (nI v)), (20, .int (xb an)), (21, .int (nI k))] → W p l e room_1 s m #[Value.ref b] below meth c H1 locs1 (ce + 8) (sl + 48) (lw_Z below #[Value.ref b] s) (F0 m 1107 ls1 [])) : W p l e room_1 s m #[Value.ref b] below meth c H locs ce sl (lw_Z below #[Value.ref b] s) (F0 m 932 ls []) := by
  obtain ⟨hx, hb, hr, hml, hown, hts, hX, hbl, hlocks, hK, hXB, hZ, hL9, hsl⟩ := C0
  have hA : ∀ q : Nat, s.heap.size ≤ q → (fun q : Nat => s.heap.size ≤ q) q := fun _ h => h
  have hbA : ¬ (fun q : Nat => s.heap.size ≤ q) b := Nat.not_le.mpr hbl
  generalize hAe : (fun q : Nat => s.heap.size ≤ q) = A at hA hbA hZ hD hS kk
  have hI := hJ.1
  have hn4 : mnw M ≤ 4 := hI.1
  have hnw : mnw M = wn := hJ.2.1
  have hnp : mnp M = 2 := hJ.2.2.1
  have hsh := hI.2.2.2.2.1
  have hsur := hI.2.2.2.1
  have hm4 : mnp M ≤ 4 := hI.2.1
  have hW4 := xJ_4 hJ
  have hv4 : v < 4 := by omega
  have hvw : v < mnw M := by omega
  obtain ⟨g1, g2, g3, g4⟩ := hR.2 v hv
  obtain ⟨f1, f2, f3⟩ := g4 k hk
  obtain ⟨s1, s2⟩ := xset_ok hJ hv hk
  refine lv_aload_n hx hb dL_law_932 rfl (lv_at hl 1 rfl) ?_
  refine lv_iload hx hb dL_law_933 (lv_at hl 16 rfl) ?_
  refine lv_iload hx hb dL_law_935 (lv_at hl 18 rfl) ?_
  refine x_calliB (va_runV (As := [.int (nI v), .int (nI k)]) (rest := []) ⟨hx, hb, hml, hown, hts⟩ (k_thinks l hsl G T _ ad sc M v k hn4 hvw hk) (cwV 2 hts gL_law_X3_thinks rfl rfl rfl (by decide +kernel) ⟨Nat.le_of_ble_eq_true rfl, Nat.le_of_ble_eq_true rfl⟩) (x_preVB (wc := (xC T ad sc M)) (wr := (xRG T pk q M0 wn)) hK hP hD hS hA hXB hZ _ _ 0 3 rfl rfl) rfl rfl hl.1 rfl (lv_room (Nat.le_of_ble_eq_true rfl)) dL_law_937 ⟨show ce + 2 ≤ 600130 by omega, show sl + 12 ≤ 7301080 by omega⟩) hP hD hS hA (fun _ _ _ => xd_self (xC_fst T ad sc _ M _ rfl rfl) (xd_r hD)) (fun r1 u1 H locs hw1 hP hD hS => ?_)
  have hP : va_P G vwCl (xRG T pk q M0 wn ++ xC T ad sc M) H := hP
  have hD : va_D A (xRG T pk q M0 wn ++ xC T ad sc M) := hD
  subst hw1
  refine lv_istore (lv' := [(22, .int (mth M v k)), (0, .ref b), (1, .ref (ad 0)), (2, .int (nI wn)), (3, .int (nI t)), (4, .int xv), (5, .ref (q 0)), (6, .ref (q 1)), (7, .ref (q 2)), (8, .ref (q 3)), (9, .ref pk), (10, .int sn), (11, .int (nI pl)), (12, .int (xb op)), (13, .int (nI hn)), (14, .int (nI kd)), (15, .int (nI nm)), (19, .int (nI v)), (20, .int (xb an)), (21, .int (nI k))]) hx hb dL_law_940 hl (by decide) rfl (fun ls hl => ?_)
  refine lv_iload hx hb dL_law_942 (lv_at hl 0 rfl) ?_
  refine lv_if_eq (tgt := 954) hx hb dL_law_944 (by decide) (fun c_ => absurd c_ (s1)) (fun _ => ?_)
  refine lv_iload hx hb dL_law_947 (lv_at hl 0 rfl) ?_
  refine lv_ldc (v := nI 65535) hx hb hown (hts (.constant RL 89 (65535)) (by decide +kernel)) dL_law_949 ?_
  refine lv_icmp_le (tgt := 956) hx hb dL_law_951 (by decide) (fun _ => ?_) (fun c_ => absurd (s2) c_)
  have K993 : ∀ (H : Heap) (locs : List Loc), va_P G vwCl (xRG T pk q M0 wn ++ xC T ad sc M) H → va_D A (xRG T pk q M0 wn ++ xC T ad sc M) → va_S A s.heap H locs → ∀ ls : Array Slot, lv_has ls 24 [(0, .ref b), (1, .ref (ad 0)), (2, .int (nI wn)), (3, .int (nI t)), (4, .int xv), (5, .ref (q 0)), (6, .ref (q 1)), (7, .ref (q 2)), (8, .ref (q 3)), (9, .ref pk), (10, .int sn), (11, .int (nI pl)), (12, .int (xb op)), (13, .int (nI hn)), (14, .int (nI kd)), (15, .int (nI nm)), (19, .int (nI v)), (20, .int (xb an)), (21, .int (nI k)), (22, .int (mth M v k))] → W p l e room_1 s m #[Value.ref b] below meth c H locs (ce + 2) (sl + 12) (lw_Z below #[Value.ref b] s) (F0 m 993 ls []) := by
    intro H locs hP hD hS ls hl
    have K1067 : ∀ (H : Heap) (locs : List Loc), va_P G vwCl (xRG T pk q M0 wn ++ xC T ad sc M) H → va_D A (xRG T pk q M0 wn ++ xC T ad sc M) → va_S A s.heap H locs → ∀ ls : Array Slot, lv_has ls 24 [(0, .ref b), (1, .ref (ad 0)), (2, .int (nI wn)), (3, .int (nI t)), (4, .int xv), (5, .ref (q 0)), (6, .ref (q 1)), (7, .ref (q 2)), (8, .ref (q 3)), (9, .ref pk), (10, .int sn), (11, .int (nI pl)), (12, .int (xb op)), (13, .int (nI hn)), (14, .int (nI kd)), (15, .int (nI nm)), (19, .int (nI v)), (20, .int (xb an)), (21, .int (nI k)), (22, .int (mth M v k))] → W p l e room_1 s m #[Value.ref b] below meth c H locs (ce + 4) (sl + 24) (lw_Z below #[Value.ref b] s) (F0 m 1067 ls []) := by
      intro H locs hP hD hS ls hl
      refine lv_iload hx hb dL_law_1067 (lv_at hl 13 rfl) ?_
      refine lv_iconst (v := nI 2) hx hb dL_law_1069 (by decide) ?_
      by_cases h2 : hn < 2
      · refine lv_icmp_ge (tgt := 1107) hx hb dL_law_1070 (by decide) (fun c_ => absurd c_ (nI_ge h2 (by decide))) (fun _ => ?_)
        refine lv_iload hx hb dL_law_1073 (lv_at hl 12 rfl) ?_
        rcases Bool.eq_false_or_eq_true op with eo | eo
        · refine lv_if_eq (tgt := 1107) hx hb dL_law_1075 (by decide) (fun c_ => absurd c_ (by rw [xb_t eo]; decide)) (fun _ => ?_)
          refine lv_aload_n hx hb dL_law_1078 rfl (lv_at hl 1 rfl) ?_
          refine lv_iload hx hb dL_law_1079 (lv_at hl 16 rfl) ?_
          refine lv_aload_n hx hb dL_law_1081 rfl (lv_at hl 1 rfl) ?_
          refine lv_iload hx hb dL_law_1082 (lv_at hl 14 rfl) ?_
          refine lv_iload hx hb dL_law_1084 (lv_at hl 15 rfl) ?_
          refine lv_iload hx hb dL_law_1086 (lv_at hl 18 rfl) ?_
          refine x_calliB (va_runV (As := [.int (nI kd), .int (nI nm), .int (nI k)]) (rest := [.int (nI v), .ref (ad 0)]) ⟨hx, hb, hml, hown, hts⟩ (k_comes l hsl G T _ ad sc M kd nm k hw hk) (cwV 3 hts gL_law_X3_comes rfl rfl rfl (by decide +kernel) ⟨Nat.le_of_ble_eq_true rfl, Nat.le_of_ble_eq_true rfl⟩) (x_preVB (wc := (xC T ad sc M)) (wr := (xRG T pk q M0 wn)) hK hP hD hS hA hXB hZ _ _ 0 3 rfl rfl) rfl rfl hl.1 rfl (lv_room (Nat.le_of_ble_eq_true rfl)) dL_law_1088 ⟨show ce + 4 + 2 ≤ 600130 by omega, show sl + 24 + 12 ≤ 7301080 by omega⟩) hP hD hS hA (fun _ _ _ => xd_self (xC_fst T ad sc _ M _ rfl rfl) (xd_r hD)) (fun r1 u1 H locs hw1 hP hD hS => ?_)
          have hP : va_P G vwCl (xRG T pk q M0 wn ++ xC T ad sc M) H := hP
          have hD : va_D A (xRG T pk q M0 wn ++ xC T ad sc M) := hD
          subst hw1
          refine x_calliB (va_runV (As := [.int (nI v), .int (nI (xpa kd nm k))]) (rest := []) ⟨hx, hb, hml, hown, hts⟩ (k_thinks l hsl G T _ ad sc M v (xpa kd nm k) hn4 hvw (xway hw hk).1) (cwV 2 hts gL_law_X3_thinks rfl rfl rfl (by decide +kernel) ⟨Nat.le_of_ble_eq_true rfl, Nat.le_of_ble_eq_true rfl⟩) (x_preVB (wc := (xC T ad sc M)) (wr := (xRG T pk q M0 wn)) hK hP hD hS hA hXB hZ _ _ 0 3 rfl rfl) rfl rfl hl.1 rfl (lv_room (Nat.le_of_ble_eq_true rfl)) dL_law_1091 ⟨show (ce + 4 + 2) + 2 ≤ 600130 by omega, show (sl + 24 + 12) + 12 ≤ 7301080 by omega⟩) hP hD hS hA (fun _ _ _ => xd_self (xC_fst T ad sc _ M _ rfl rfl) (xd_r hD)) (fun r1 u1 H locs hw1 hP hD hS => ?_)
          have hP : va_P G vwCl (xRG T pk q M0 wn ++ xC T ad sc M) H := hP
          have hD : va_D A (xRG T pk q M0 wn ++ xC T ad sc M) := hD
          subst hw1
          refine lv_aload hx hb dL_law_1094 (lv_at hl 8 rfl) ?_
          refine lv_iload hx hb dL_law_1096 (lv_at hl 16 rfl) ?_
          refine x_aaldA hx hb hK hP 4 3 rfl rfl hv4 (by decide) dL_law_1098 (xrow_ref hv4) ?_
          refine lv_iload hx hb dL_law_1099 (lv_at hl 18 rfl) ?_
          refine x_iald hx hb hK hP (5 + v) 0 (f := (xft M0 wn v)) (n := 16) (xR1_row hv4) rfl hk (by decide) dL_law_1101 ?_
          refine x_topi (y := mth M0 v k) (xft_at hv hk) ?_
          refine lv_icmp_eq (tgt := 1107) hx hb dL_law_1102 (by decide) (fun _ => ?_) (fun c_ => absurd (f3 h2 eo) c_)
          refine W.widen (k := ce + 8) (n := sl + 48) (by omega) (by omega) ?_
          exact kk _ _ hP hD hS ls (lv_sub hl [0, 1, 2, 3, 4, 5, 6, 7, 8, 9, 10, 11, 12, 13, 14, 15, 16, 17, 18] rfl)
        · refine lv_if_eq (tgt := 1107) hx hb dL_law_1075 (by decide) (fun _ => ?_) (fun c_ => absurd (xb_f eo) c_)
          refine W.widen (k := ce + 8) (n := sl + 48) (by omega) (by omega) ?_
          exact kk _ _ hP hD hS ls (lv_sub hl [0, 1, 2, 3, 4, 5, 6, 7, 8, 9, 10, 11, 12, 13, 14, 15, 16, 17, 18] rfl)
      · refine lv_icmp_ge (tgt := 1107) hx hb dL_law_1070 (by decide) (fun _ => ?_) (fun c_ => absurd (nI_le (by omega) (by omega)) c_)
        refine W.widen (k := ce + 8) (n := sl + 48) (by omega) (by omega) ?_
        exact kk _ _ hP hD hS ls (lv_sub hl [0, 1, 2, 3, 4, 5, 6, 7, 8, 9, 10, 11, 12, 13, 14, 15, 16, 17, 18] rfl)
    refine lv_iload hx hb dL_law_993 (lv_at hl 13 rfl) ?_
    refine lv_iconst (v := nI 3) hx hb dL_law_995 (by decide) ?_
    by_cases h3 : hn = 3
    · refine lv_icmp_eq (tgt := 1040) hx hb dL_law_996 (by decide) (fun _ => ?_) (fun c_ => absurd (by rw [h3]) c_)
      refine lv_iconst (v := nI 1) hx hb dL_law_1040 (by decide) ?_
      refine lv_goto (tgt := 1045) hx hb dL_law_1041 (by decide) ?_
      refine lv_istore (lv' := [(23, .int (nI 1)), (0, .ref b), (1, .ref (ad 0)), (2, .int (nI wn)), (3, .int (nI t)), (4, .int xv), (5, .ref (q 0)), (6, .ref (q 1)), (7, .ref (q 2)), (8, .ref (q 3)), (9, .ref pk), (10, .int sn), (11, .int (nI pl)), (12, .int (xb op)), (13, .int (nI hn)), (14, .int (nI kd)), (15, .int (nI nm)), (19, .int (nI v)), (20, .int (xb an)), (21, .int (nI k)), (22, .int (mth M v k))]) hx hb dL_law_1045 hl (by decide) rfl (fun ls hl => ?_)
      refine lv_iload hx hb dL_law_1047 (lv_at hl 0 rfl) ?_
      refine lv_if_eq (tgt := 1067) hx hb dL_law_1049 (by decide) (fun c_ => absurd c_ (by decide)) (fun _ => ?_)
      refine lv_iload hx hb dL_law_1052 (lv_at hl 20 rfl) ?_
      refine lv_aload hx hb dL_law_1054 (lv_at hl 9 rfl) ?_
      refine lv_iload hx hb dL_law_1056 (lv_at hl 17 rfl) ?_
      refine x_aaldA hx hb hK hP 4 3 rfl rfl hv4 (by decide) dL_law_1058 (xrow_ref hv4) ?_
      refine lv_iload hx hb dL_law_1059 (lv_at hl 19 rfl) ?_
      refine x_iald hx hb hK hP (5 + v) 0 (f := (xft M0 wn v)) (n := 16) (xR1_row hv4) rfl hk (by decide) dL_law_1061 ?_
      refine x_topi (y := mth M0 v k) (xft_at hv hk) ?_
      refine lv_icmp_eq (tgt := 1067) hx hb dL_law_1062 (by decide) (fun _ => ?_) (fun c_ => absurd (f2 (Or.inl h3)) c_)
      refine W.widen (k := ce + 4) (n := sl + 24) (by omega) (by omega) ?_
      exact K1067 _ _ hP hD hS ls (lv_sub hl [1, 2, 3, 4, 5, 6, 7, 8, 9, 10, 11, 12, 13, 14, 15, 16, 17, 18, 19, 20] rfl)
    · refine lv_icmp_eq (tgt := 1040) hx hb dL_law_996 (by decide) (fun c_ => absurd c_ (fun e9 => h3 ((nI_eq (by omega) (by decide)).mp e9))) (fun _ => ?_)
      refine lv_iload hx hb dL_law_999 (lv_at hl 13 rfl) ?_
      refine lv_iconst (v := nI 2) hx hb dL_law_1001 (by decide) ?_
      by_cases h2 : hn < 2
      · refine lv_icmp_ge (tgt := 1010) hx hb dL_law_1002 (by decide) (fun c_ => absurd c_ (nI_ge h2 (by decide))) (fun _ => ?_)
        refine lv_iload hx hb dL_law_1005 (lv_at hl 12 rfl) ?_
        rcases Bool.eq_false_or_eq_true op with eo | eo
        · refine lv_if_eq (tgt := 1040) hx hb dL_law_1007 (by decide) (fun c_ => absurd c_ (by rw [xb_t eo]; decide)) (fun _ => ?_)
          refine lv_iload hx hb dL_law_1010 (lv_at hl 13 rfl) ?_
          refine lv_iconst (v := nI 2) hx hb dL_law_1012 (by decide) ?_
          refine lv_icmp_ne (tgt := 1027) hx hb dL_law_1013 (by decide) (fun _ => ?_) (fun c_ => absurd c_ (fun e9 => absurd ((nI_eq (by omega) (by decide)).mp e9) (by omega)))
          refine lv_iload hx hb dL_law_1027 (lv_at hl 13 rfl) ?_
          refine lv_iconst (v := nI 3) hx hb dL_law_1029 (by decide) ?_
          refine lv_icmp_le (tgt := 1044) hx hb dL_law_1030 (by decide) (fun _ => ?_) (fun c_ => absurd (nI_le (by omega) (by decide)) c_)
          refine lv_iconst (v := nI 0) hx hb dL_law_1044 (by decide) ?_
          refine lv_istore (lv' := [(23, .int (nI 0)), (0, .ref b), (1, .ref (ad 0)), (2, .int (nI wn)), (3, .int (nI t)), (4, .int xv), (5, .ref (q 0)), (6, .ref (q 1)), (7, .ref (q 2)), (8, .ref (q 3)), (9, .ref pk), (10, .int sn), (11, .int (nI pl)), (12, .int (xb op)), (13, .int (nI hn)), (14, .int (nI kd)), (15, .int (nI nm)), (19, .int (nI v)), (20, .int (xb an)), (21, .int (nI k)), (22, .int (mth M v k))]) hx hb dL_law_1045 hl (by decide) rfl (fun ls hl => ?_)
          refine lv_iload hx hb dL_law_1047 (lv_at hl 0 rfl) ?_
          refine lv_if_eq (tgt := 1067) hx hb dL_law_1049 (by decide) (fun _ => ?_) (fun c_ => absurd (rfl) c_)
          refine W.widen (k := ce + 4) (n := sl + 24) (by omega) (by omega) ?_
          exact K1067 _ _ hP hD hS ls (lv_sub hl [1, 2, 3, 4, 5, 6, 7, 8, 9, 10, 11, 12, 13, 14, 15, 16, 17, 18, 19, 20] rfl)
        · refine lv_if_eq (tgt := 1040) hx hb dL_law_1007 (by decide) (fun _ => ?_) (fun c_ => absurd (xb_f eo) c_)
          refine lv_iconst (v := nI 1) hx hb dL_law_1040 (by decide) ?_
          refine lv_goto (tgt := 1045) hx hb dL_law_1041 (by decide) ?_
          refine lv_istore (lv' := [(23, .int (nI 1)), (0, .ref b), (1, .ref (ad 0)), (2, .int (nI wn)), (3, .int (nI t)), (4, .int xv), (5, .ref (q 0)), (6, .ref (q 1)), (7, .ref (q 2)), (8, .ref (q 3)), (9, .ref pk), (10, .int sn), (11, .int (nI pl)), (12, .int (xb op)), (13, .int (nI hn)), (14, .int (nI kd)), (15, .int (nI nm)), (19, .int (nI v)), (20, .int (xb an)), (21, .int (nI k)), (22, .int (mth M v k))]) hx hb dL_law_1045 hl (by decide) rfl (fun ls hl => ?_)
          refine lv_iload hx hb dL_law_1047 (lv_at hl 0 rfl) ?_
          refine lv_if_eq (tgt := 1067) hx hb dL_law_1049 (by decide) (fun c_ => absurd c_ (by decide)) (fun _ => ?_)
          refine lv_iload hx hb dL_law_1052 (lv_at hl 20 rfl) ?_
          refine lv_aload hx hb dL_law_1054 (lv_at hl 9 rfl) ?_
          refine lv_iload hx hb dL_law_1056 (lv_at hl 17 rfl) ?_
          refine x_aaldA hx hb hK hP 4 3 rfl rfl hv4 (by decide) dL_law_1058 (xrow_ref hv4) ?_
          refine lv_iload hx hb dL_law_1059 (lv_at hl 19 rfl) ?_
          refine x_iald hx hb hK hP (5 + v) 0 (f := (xft M0 wn v)) (n := 16) (xR1_row hv4) rfl hk (by decide) dL_law_1061 ?_
          refine x_topi (y := mth M0 v k) (xft_at hv hk) ?_
          refine lv_icmp_eq (tgt := 1067) hx hb dL_law_1062 (by decide) (fun _ => ?_) (fun c_ => absurd (f2 (Or.inr (Or.inl ⟨h2, eo⟩))) c_)
          refine W.widen (k := ce + 4) (n := sl + 24) (by omega) (by omega) ?_
          exact K1067 _ _ hP hD hS ls (lv_sub hl [1, 2, 3, 4, 5, 6, 7, 8, 9, 10, 11, 12, 13, 14, 15, 16, 17, 18, 19, 20] rfl)
      · refine lv_icmp_ge (tgt := 1010) hx hb dL_law_1002 (by decide) (fun _ => ?_) (fun c_ => absurd (nI_le (by omega) (by omega)) c_)
        refine lv_iload hx hb dL_law_1010 (lv_at hl 13 rfl) ?_
        refine lv_iconst (v := nI 2) hx hb dL_law_1012 (by decide) ?_
        by_cases h4 : hn = 2
        · refine lv_icmp_ne (tgt := 1027) hx hb dL_law_1013 (by decide) (fun c_ => absurd (by rw [h4]) c_) (fun _ => ?_)
          refine lv_aload_n hx hb dL_law_1016 rfl (lv_at hl 1 rfl) ?_
          refine lv_iload hx hb dL_law_1017 (lv_at hl 16 rfl) ?_
          refine lv_iconst (v := nI 0) hx hb dL_law_1019 (by decide) ?_
          refine x_calliB (va_runV (As := [.int (nI v), .int (nI 0)]) (rest := []) ⟨hx, hb, hml, hown, hts⟩ (k_watcher l hsl G T _ ad sc M v 0 hn4 hsh hvw (by decide)) (cwV 2 hts gL_law_X3_watcher rfl rfl rfl (by decide +kernel) ⟨Nat.le_of_ble_eq_true rfl, Nat.le_of_ble_eq_true rfl⟩) (x_preVB (wc := (xC T ad sc M)) (wr := (xRG T pk q M0 wn)) hK hP hD hS hA hXB hZ _ _ 0 3 rfl rfl) rfl rfl hl.1 rfl (lv_room (Nat.le_of_ble_eq_true rfl)) dL_law_1020 ⟨show ce + 2 + 2 ≤ 600130 by omega, show sl + 12 + 12 ≤ 7301080 by omega⟩) hP hD hS hA (fun _ _ _ => xd_self (xC_fst T ad sc _ M _ rfl rfl) (xd_r hD)) (fun r1 u1 H locs hw1 hP hD hS => ?_)
          have hP : va_P G vwCl (xRG T pk q M0 wn ++ xC T ad sc M) H := hP
          have hD : va_D A (xRG T pk q M0 wn ++ xC T ad sc M) := hD
          have hw1 : r1 = (msh M v) := hw1
          subst hw1
          refine lv_iconst (v := nI 1) hx hb dL_law_1023 (by decide) ?_
          by_cases hs1 : msh M v = nI 1
          · refine lv_icmp_eq (tgt := 1040) hx hb dL_law_1024 (by decide) (fun _ => ?_) (fun c_ => absurd (hs1) c_)
            refine lv_iconst (v := nI 1) hx hb dL_law_1040 (by decide) ?_
            refine lv_goto (tgt := 1045) hx hb dL_law_1041 (by decide) ?_
            refine lv_istore (lv' := [(23, .int (nI 1)), (0, .ref b), (1, .ref (ad 0)), (2, .int (nI wn)), (3, .int (nI t)), (4, .int xv), (5, .ref (q 0)), (6, .ref (q 1)), (7, .ref (q 2)), (8, .ref (q 3)), (9, .ref pk), (10, .int sn), (11, .int (nI pl)), (12, .int (xb op)), (13, .int (nI hn)), (14, .int (nI kd)), (15, .int (nI nm)), (19, .int (nI v)), (20, .int (xb an)), (21, .int (nI k)), (22, .int (mth M v k))]) hx hb dL_law_1045 hl (by decide) rfl (fun ls hl => ?_)
            refine lv_iload hx hb dL_law_1047 (lv_at hl 0 rfl) ?_
            refine lv_if_eq (tgt := 1067) hx hb dL_law_1049 (by decide) (fun c_ => absurd c_ (by decide)) (fun _ => ?_)
            refine lv_iload hx hb dL_law_1052 (lv_at hl 20 rfl) ?_
            refine lv_aload hx hb dL_law_1054 (lv_at hl 9 rfl) ?_
            refine lv_iload hx hb dL_law_1056 (lv_at hl 17 rfl) ?_
            refine x_aaldA hx hb hK hP 4 3 rfl rfl hv4 (by decide) dL_law_1058 (xrow_ref hv4) ?_
            refine lv_iload hx hb dL_law_1059 (lv_at hl 19 rfl) ?_
            refine x_iald hx hb hK hP (5 + v) 0 (f := (xft M0 wn v)) (n := 16) (xR1_row hv4) rfl hk (by decide) dL_law_1061 ?_
            refine x_topi (y := mth M0 v k) (xft_at hv hk) ?_
            refine lv_icmp_eq (tgt := 1067) hx hb dL_law_1062 (by decide) (fun _ => ?_) (fun c_ => absurd (f2 (Or.inr (Or.inr (Or.inl ⟨h4, hs1⟩)))) c_)
            refine W.widen (k := ce + 4) (n := sl + 24) (by omega) (by omega) ?_
            exact K1067 _ _ hP hD hS ls (lv_sub hl [1, 2, 3, 4, 5, 6, 7, 8, 9, 10, 11, 12, 13, 14, 15, 16, 17, 18, 19, 20] rfl)
          · refine lv_icmp_eq (tgt := 1040) hx hb dL_law_1024 (by decide) (fun c_ => absurd c_ (hs1)) (fun _ => ?_)
            refine lv_iload hx hb dL_law_1027 (lv_at hl 13 rfl) ?_
            refine lv_iconst (v := nI 3) hx hb dL_law_1029 (by decide) ?_
            refine lv_icmp_le (tgt := 1044) hx hb dL_law_1030 (by decide) (fun _ => ?_) (fun c_ => absurd (nI_le (by omega) (by decide)) c_)
            refine lv_iconst (v := nI 0) hx hb dL_law_1044 (by decide) ?_
            refine lv_istore (lv' := [(23, .int (nI 0)), (0, .ref b), (1, .ref (ad 0)), (2, .int (nI wn)), (3, .int (nI t)), (4, .int xv), (5, .ref (q 0)), (6, .ref (q 1)), (7, .ref (q 2)), (8, .ref (q 3)), (9, .ref pk), (10, .int sn), (11, .int (nI pl)), (12, .int (xb op)), (13, .int (nI hn)), (14, .int (nI kd)), (15, .int (nI nm)), (19, .int (nI v)), (20, .int (xb an)), (21, .int (nI k)), (22, .int (mth M v k))]) hx hb dL_law_1045 hl (by decide) rfl (fun ls hl => ?_)
            refine lv_iload hx hb dL_law_1047 (lv_at hl 0 rfl) ?_
            refine lv_if_eq (tgt := 1067) hx hb dL_law_1049 (by decide) (fun _ => ?_) (fun c_ => absurd (rfl) c_)
            refine W.widen (k := ce + 4) (n := sl + 24) (by omega) (by omega) ?_
            exact K1067 _ _ hP hD hS ls (lv_sub hl [1, 2, 3, 4, 5, 6, 7, 8, 9, 10, 11, 12, 13, 14, 15, 16, 17, 18, 19, 20] rfl)
        · refine lv_icmp_ne (tgt := 1027) hx hb dL_law_1013 (by decide) (fun _ => ?_) (fun c_ => absurd c_ (fun e9 => h4 ((nI_eq (by omega) (by decide)).mp e9)))
          refine lv_iload hx hb dL_law_1027 (lv_at hl 13 rfl) ?_
          refine lv_iconst (v := nI 3) hx hb dL_law_1029 (by decide) ?_
          refine lv_icmp_le (tgt := 1044) hx hb dL_law_1030 (by decide) (fun c_ => absurd c_ (nI_ge (by omega) (by omega))) (fun _ => ?_)
          refine lv_iload hx hb dL_law_1033 (lv_at hl 16 rfl) ?_
          refine lv_iload hx hb dL_law_1035 (lv_at hl 10 rfl) ?_
          by_cases hs : nI v = sn
          · refine lv_icmp_eq (tgt := 1044) hx hb dL_law_1037 (by decide) (fun _ => ?_) (fun c_ => absurd (hs) c_)
            refine lv_iconst (v := nI 0) hx hb dL_law_1044 (by decide) ?_
            refine lv_istore (lv' := [(23, .int (nI 0)), (0, .ref b), (1, .ref (ad 0)), (2, .int (nI wn)), (3, .int (nI t)), (4, .int xv), (5, .ref (q 0)), (6, .ref (q 1)), (7, .ref (q 2)), (8, .ref (q 3)), (9, .ref pk), (10, .int sn), (11, .int (nI pl)), (12, .int (xb op)), (13, .int (nI hn)), (14, .int (nI kd)), (15, .int (nI nm)), (19, .int (nI v)), (20, .int (xb an)), (21, .int (nI k)), (22, .int (mth M v k))]) hx hb dL_law_1045 hl (by decide) rfl (fun ls hl => ?_)
            refine lv_iload hx hb dL_law_1047 (lv_at hl 0 rfl) ?_
            refine lv_if_eq (tgt := 1067) hx hb dL_law_1049 (by decide) (fun _ => ?_) (fun c_ => absurd (rfl) c_)
            refine W.widen (k := ce + 4) (n := sl + 24) (by omega) (by omega) ?_
            exact K1067 _ _ hP hD hS ls (lv_sub hl [1, 2, 3, 4, 5, 6, 7, 8, 9, 10, 11, 12, 13, 14, 15, 16, 17, 18, 19, 20] rfl)
          · refine lv_icmp_eq (tgt := 1044) hx hb dL_law_1037 (by decide) (fun c_ => absurd c_ (hs)) (fun _ => ?_)
            refine lv_iconst (v := nI 1) hx hb dL_law_1040 (by decide) ?_
            refine lv_goto (tgt := 1045) hx hb dL_law_1041 (by decide) ?_
            refine lv_istore (lv' := [(23, .int (nI 1)), (0, .ref b), (1, .ref (ad 0)), (2, .int (nI wn)), (3, .int (nI t)), (4, .int xv), (5, .ref (q 0)), (6, .ref (q 1)), (7, .ref (q 2)), (8, .ref (q 3)), (9, .ref pk), (10, .int sn), (11, .int (nI pl)), (12, .int (xb op)), (13, .int (nI hn)), (14, .int (nI kd)), (15, .int (nI nm)), (19, .int (nI v)), (20, .int (xb an)), (21, .int (nI k)), (22, .int (mth M v k))]) hx hb dL_law_1045 hl (by decide) rfl (fun ls hl => ?_)
            refine lv_iload hx hb dL_law_1047 (lv_at hl 0 rfl) ?_
            refine lv_if_eq (tgt := 1067) hx hb dL_law_1049 (by decide) (fun c_ => absurd c_ (by decide)) (fun _ => ?_)
            refine lv_iload hx hb dL_law_1052 (lv_at hl 20 rfl) ?_
            refine lv_aload hx hb dL_law_1054 (lv_at hl 9 rfl) ?_
            refine lv_iload hx hb dL_law_1056 (lv_at hl 17 rfl) ?_
            refine x_aaldA hx hb hK hP 4 3 rfl rfl hv4 (by decide) dL_law_1058 (xrow_ref hv4) ?_
            refine lv_iload hx hb dL_law_1059 (lv_at hl 19 rfl) ?_
            refine x_iald hx hb hK hP (5 + v) 0 (f := (xft M0 wn v)) (n := 16) (xR1_row hv4) rfl hk (by decide) dL_law_1061 ?_
            refine x_topi (y := mth M0 v k) (xft_at hv hk) ?_
            refine lv_icmp_eq (tgt := 1067) hx hb dL_law_1062 (by decide) (fun _ => ?_) (fun c_ => absurd (f2 (Or.inr (Or.inr (Or.inr ⟨by omega, hs⟩)))) c_)
            refine W.widen (k := ce + 4) (n := sl + 24) (by omega) (by omega) ?_
            exact K1067 _ _ hP hD hS ls (lv_sub hl [1, 2, 3, 4, 5, 6, 7, 8, 9, 10, 11, 12, 13, 14, 15, 16, 17, 18, 19, 20] rfl)
  refine lv_iload hx hb dL_law_956 (lv_at hl 17 rfl) ?_
  refine lv_iload hx hb dL_law_958 (lv_at hl 11 rfl) ?_
  by_cases hs : nI v = sn
  · refine lv_icmp_ne (tgt := 993) hx hb dL_law_960 (by decide) (fun c_ => absurd (hs) c_) (fun _ => ?_)
    refine lv_iload hx hb dL_law_963 (lv_at hl 18 rfl) ?_
    rcases Bool.eq_false_or_eq_true an with ea | ea
    · refine lv_if_ne (tgt := 993) hx hb dL_law_965 (by decide) (fun _ => ?_) (fun c_ => absurd c_ (by rw [ea]; decide))
      refine W.widen (k := ce + 2) (n := sl + 12) (by omega) (by omega) ?_
      exact K993 _ _ hP hD hS ls (lv_sub hl [1, 2, 3, 4, 5, 6, 7, 8, 9, 10, 11, 12, 13, 14, 15, 16, 17, 18, 19, 0] rfl)
    · refine lv_if_ne (tgt := 993) hx hb dL_law_965 (by decide) (fun c_ => absurd (xb_f ea) c_) (fun _ => ?_)
      refine lv_iload hx hb dL_law_968 (lv_at hl 19 rfl) ?_
      refine lv_iload hx hb dL_law_970 (lv_at hl 12 rfl) ?_
      by_cases hkp : k = pl
      · refine lv_icmp_eq (tgt := 993) hx hb dL_law_972 (by decide) (fun _ => ?_) (fun c_ => absurd (by rw [hkp]) c_)
        refine W.widen (k := ce + 2) (n := sl + 12) (by omega) (by omega) ?_
        exact K993 _ _ hP hD hS ls (lv_sub hl [1, 2, 3, 4, 5, 6, 7, 8, 9, 10, 11, 12, 13, 14, 15, 16, 17, 18, 19, 0] rfl)
      · refine lv_icmp_eq (tgt := 993) hx hb dL_law_972 (by decide) (fun c_ => absurd c_ (fun e9 => hkp ((nI_eq (by omega) (by omega)).mp e9))) (fun _ => ?_)
        refine lv_iload hx hb dL_law_975 (lv_at hl 0 rfl) ?_
        refine lv_aload hx hb dL_law_977 (lv_at hl 9 rfl) ?_
        refine lv_iload hx hb dL_law_979 (lv_at hl 17 rfl) ?_
        refine x_aaldA hx hb hK hP 4 3 rfl rfl hv4 (by decide) dL_law_981 (xrow_ref hv4) ?_
        refine lv_iload hx hb dL_law_982 (lv_at hl 19 rfl) ?_
        refine x_iald hx hb hK hP (5 + v) 0 (f := (xft M0 wn v)) (n := 16) (xR1_row hv4) rfl hk (by decide) dL_law_984 ?_
        refine x_topi (y := mth M0 v k) (xft_at hv hk) ?_
        refine lv_iconst (v := (-1)) hx hb dL_law_985 (by decide) ?_
        refine lv_ixor hx hb dL_law_986 ?_
        refine lv_iand hx hb dL_law_987 ?_
        refine lv_if_eq (tgt := 993) hx hb dL_law_988 (by decide) (fun _ => ?_) (fun c_ => absurd (f1 hs (han ea) hkp) c_)
        refine W.widen (k := ce + 2) (n := sl + 12) (by omega) (by omega) ?_
        exact K993 _ _ hP hD hS ls (lv_sub hl [1, 2, 3, 4, 5, 6, 7, 8, 9, 10, 11, 12, 13, 14, 15, 16, 17, 18, 19, 0] rfl)
  · refine lv_icmp_ne (tgt := 993) hx hb dL_law_960 (by decide) (fun _ => ?_) (fun c_ => absurd c_ (hs))
    refine W.widen (k := ce + 2) (n := sl + 12) (by omega) (by omega) ?_
    exact K993 _ _ hP hD hS ls (lv_sub hl [1, 2, 3, 4, 5, 6, 7, 8, 9, 10, 11, 12, 13, 14, 15, 16, 17, 18, 19, 0] rfl)

set_option maxHeartbeats 4000000 in
set_option maxRecDepth 100000 in
/-- the law: the watchers, one by one -/
theorem L_G {p : Program} {l : Launch} {e : Env} {s : State} {m : MethodId} {below : List Frame} {meth : Method} {c : Code} {G : va_G} {T : Nat → ClassId} {b L : Nat} {xs : Nat → Int32} (C0 : xLC p l s m meth c b L xs G T) (wn t n pl kd nm hn : Nat) (op : Bool) (sn xv : Int32) (q : Nat → Nat) (pk : Nat) (ad : Nat → Nat) (sc : Nat → Nat → Int32) (M0 M : XM) (hJ : xJ M wn n) (hpl : pl < 16) (hw : xwn kd nm = true) (hhn : hn < 6) (hR : xRl hn op sn pl kd nm wn M0 M) (ce sl : Nat) (hce : ce + 584 ≤ 600130) (hsl9 : sl + 3504 ≤ 7301080) (H : Heap) (locs : List Loc) (hP : va_P G vwCl (xRG T pk q M0 wn ++ xC T ad sc M) H) (hD : va_D (fun q : Nat => s.heap.size ≤ q) (xRG T pk q M0 wn ++ xC T ad sc M)) (hS : va_S (fun q : Nat => s.heap.size ≤ q) s.heap H locs) (ls : Array Slot) (hl : lv_has ls 24 [(0, .ref b), (1, .ref (ad 0)), (2, .int (nI wn)), (3, .int (nI t)), (4, .int xv), (5, .ref (q 0)), (6, .ref (q 1)), (7, .ref (q 2)), (8, .ref (q 3)), (9, .ref pk), (10, .int sn), (11, .int (nI pl)), (12, .int (xb op)), (13, .int (nI hn)), (14, .int (nI kd)), (15, .int (nI nm))]) (kk : ∀ (H1 : Heap) (locs1 : List Loc), va_P G vwCl (xRG T pk q M0 wn ++ xC T ad sc M) H1 → va_D (fun q : Nat => s.heap.size ≤ q) (xRG T pk q M0 wn ++ xC T ad sc M) → va_S (fun q : Nat => s.heap.size ≤ q) s.heap H1 locs1 → ∀ ls1 : Array Slot, lv_has ls1 24 [(0, .ref b), (1, .ref (ad 0)), (2, .int (nI wn)), (3, .int (nI t)), (4, .int xv), (5, .ref (q 0)), (6, .ref (q 1)), (7, .ref (q 2)), (8, .ref (q 3)), (9, .ref pk), (10, .int sn), (11, .int (nI pl)), (12, .int (xb op)), (13, .int (nI hn)), (14, .int (nI kd)), (15, .int (nI nm))] → W p l e room_1 s m #[Value.ref b] below meth c H1 locs1 (ce + 584) (sl + 3504) (lw_Z below #[Value.ref b] s) (F0 m 1119 ls1 [])) : W p l e room_1 s m #[Value.ref b] below meth c H locs ce sl (lw_Z below #[Value.ref b] s) (F0 m 763 ls []) := by
  have C1 := C0
  obtain ⟨hx, hb, hr, hml, hown, hts, hX, hbl, hlocks, hK, hXB, hZ, hL9, hsl⟩ := C1
  have hA : ∀ q : Nat, s.heap.size ≤ q → (fun q : Nat => s.heap.size ≤ q) q := fun _ h => h
  have hbA : ¬ (fun q : Nat => s.heap.size ≤ q) b := Nat.not_le.mpr hbl
  have hW4 := xJ_4 hJ
  refine lv_iconst (v := nI 0) hx hb dL_law_763 (by decide) ?_
  refine lv_istore (lv' := [(19, .int (nI 0)), (0, .ref b), (1, .ref (ad 0)), (2, .int (nI wn)), (3, .int (nI t)), (4, .int xv), (5, .ref (q 0)), (6, .ref (q 1)), (7, .ref (q 2)), (8, .ref (q 3)), (9, .ref pk), (10, .int sn), (11, .int (nI pl)), (12, .int (xb op)), (13, .int (nI hn)), (14, .int (nI kd)), (15, .int (nI nm))]) hx hb dL_law_764 hl (by decide) rfl (fun ls hl => ?_)
  refine W.widen (k := ce + 146 * 0) (n := sl + 876 * 0) (by omega) (by omega) ?_
  suffices LP1 : ∀ (n1 : Nat) (v : Nat), (v ≤ wn) → (wn < v + n1) → ∀ (H : Heap) (locs : List Loc), va_P G vwCl (xRG T pk q M0 wn ++ xC T ad sc M) H → va_D (fun q : Nat => s.heap.size ≤ q) (xRG T pk q M0 wn ++ xC T ad sc M) → va_S (fun q : Nat => s.heap.size ≤ q) s.heap H locs → ∀ (ls : Array Slot), lv_has ls 24 [(0, .ref b), (1, .ref (ad 0)), (2, .int (nI wn)), (3, .int (nI t)), (4, .int xv), (5, .ref (q 0)), (6, .ref (q 1)), (7, .ref (q 2)), (8, .ref (q 3)), (9, .ref pk), (10, .int sn), (11, .int (nI pl)), (12, .int (xb op)), (13, .int (nI hn)), (14, .int (nI kd)), (15, .int (nI nm)), (19, .int (nI v))] → W p l e room_1 s m #[Value.ref b] below meth c H locs (ce + 146 * v) (sl + 876 * v) (lw_Z below #[Value.ref b] s) (F0 m 766 ls []) from LP1 (wn + 1) 0 (by omega) (by omega) _ _ hP hD hS ls (lv_sub hl [1, 2, 3, 4, 5, 6, 7, 8, 9, 10, 11, 12, 13, 14, 15, 16, 0] rfl)
  clear hP hD hS hl
  intro n1
  induction n1 with
  | zero => intro v hv hn1 H locs _ _ _ ls _; exfalso; omega
  | succ n1 ih1 =>
    intro v hv hn1 H locs hP hD hS ls hl
    refine lv_iload hx hb dL_law_766 (lv_at hl 16 rfl) ?_
    refine lv_iload_n hx hb dL_law_768 rfl (lv_at hl 2 rfl) ?_
    by_cases hc : v < wn
    · refine lv_icmp_ge (tgt := 1119) hx hb dL_law_769 (by decide) (fun c_ => absurd c_ (nI_ge hc (by omega))) (fun _ => ?_)
      refine L_G1 C0 wn t n pl kd nm hn v op sn xv q pk ad sc M0 M hJ hpl hw hhn hR hc _ _ (by omega) (by omega) H locs hP hD hS ls (lv_sub hl [0, 1, 2, 3, 4, 5, 6, 7, 8, 9, 10, 11, 12, 13, 14, 15, 16] rfl) (fun H locs hP hD hS ls hl => ?_)
      refine L_G2 C0 wn t n pl kd nm hn v op sn xv q pk ad sc M0 M hJ hpl hw hhn hR hc _ _ (by omega) (by omega) H locs hP hD hS ls (lv_sub hl [0, 1, 2, 3, 4, 5, 6, 7, 8, 9, 10, 11, 12, 13, 14, 15, 16] rfl) (fun an H locs han hP hD hS ls hl => ?_)
      refine lv_iconst (v := nI 0) hx hb dL_law_922 (by decide) ?_
      refine lv_istore (lv' := [(21, .int (nI 0)), (0, .ref b), (1, .ref (ad 0)), (2, .int (nI wn)), (3, .int (nI t)), (4, .int xv), (5, .ref (q 0)), (6, .ref (q 1)), (7, .ref (q 2)), (8, .ref (q 3)), (9, .ref pk), (10, .int sn), (11, .int (nI pl)), (12, .int (xb op)), (13, .int (nI hn)), (14, .int (nI kd)), (15, .int (nI nm)), (19, .int (nI v)), (20, .int (xb an))]) hx hb dL_law_923 hl (by decide) rfl (fun ls hl => ?_)
      refine W.widen (k := ce + 146 * v + 18 + 8 * 0) (n := sl + 876 * v + 108 + 48 * 0) (by omega) (by omega) ?_
      suffices LP2 : ∀ (n2 : Nat) (k : Nat), (k ≤ 16) → (16 < k + n2) → ∀ (H : Heap) (locs : List Loc), va_P G vwCl (xRG T pk q M0 wn ++ xC T ad sc M) H → va_D (fun q : Nat => s.heap.size ≤ q) (xRG T pk q M0 wn ++ xC T ad sc M) → va_S (fun q : Nat => s.heap.size ≤ q) s.heap H locs → ∀ (ls : Array Slot), lv_has ls 24 [(0, .ref b), (1, .ref (ad 0)), (2, .int (nI wn)), (3, .int (nI t)), (4, .int xv), (5, .ref (q 0)), (6, .ref (q 1)), (7, .ref (q 2)), (8, .ref (q 3)), (9, .ref pk), (10, .int sn), (11, .int (nI pl)), (12, .int (xb op)), (13, .int (nI hn)), (14, .int (nI kd)), (15, .int (nI nm)), (19, .int (nI v)), (20, .int (xb an)), (21, .int (nI k))] → W p l e room_1 s m #[Value.ref b] below meth c H locs (ce + 146 * v + 18 + 8 * k) (sl + 876 * v + 108 + 48 * k) (lw_Z below #[Value.ref b] s) (F0 m 925 ls []) from LP2 17 0 (by decide) (by decide) _ _ hP hD hS ls (lv_sub hl [1, 2, 3, 4, 5, 6, 7, 8, 9, 10, 11, 12, 13, 14, 15, 16, 17, 18, 0] rfl)
      clear hP hD hS hl
      intro n2
      induction n2 with
      | zero => intro k hk hn2 H locs _ _ _ ls _; exfalso; omega
      | succ n2 ih2 =>
        intro k hk hn2 H locs hP hD hS ls hl
        refine lv_iload hx hb dL_law_925 (lv_at hl 18 rfl) ?_
        refine lv_bipush (v := nI 16) hx hb dL_law_927 (by decide) ?_
        by_cases hc2 : k < 16
        · refine lv_icmp_ge (tgt := 1113) hx hb dL_law_929 (by decide) (fun c_ => absurd c_ (nI_ge hc2 (by omega))) (fun _ => ?_)
          refine L_G3 C0 wn t n pl kd nm hn v k op sn xv q pk ad sc M0 M an hJ hpl hw hhn hR hc hc2 han _ _ (by omega) (by omega) H locs hP hD hS ls (lv_sub hl [0, 1, 2, 3, 4, 5, 6, 7, 8, 9, 10, 11, 12, 13, 14, 15, 16, 17, 18] rfl) (fun H locs hP hD hS ls hl => ?_)
          refine lv_iinc (v := nI (k + 1)) (lv' := [(21, .int (nI (k + 1))), (0, .ref b), (1, .ref (ad 0)), (2, .int (nI wn)), (3, .int (nI t)), (4, .int xv), (5, .ref (q 0)), (6, .ref (q 1)), (7, .ref (q 2)), (8, .ref (q 3)), (9, .ref pk), (10, .int sn), (11, .int (nI pl)), (12, .int (xb op)), (13, .int (nI hn)), (14, .int (nI kd)), (15, .int (nI nm)), (19, .int (nI v)), (20, .int (xb an))]) hx hb dL_law_1107 hl (k := 18) rfl (x_inc _) (by decide) rfl (fun ls hl => ?_)
          refine lv_goto (tgt := 925) hx hb dL_law_1110 (by decide) ?_
          refine W.widen (k := ce + 146 * v + 18 + 8 * (k + 1)) (n := sl + 876 * v + 108 + 48 * (k + 1)) (by omega) (by omega) ?_
          exact ih2 (k + 1) (by omega) (by omega) _ _ hP hD hS ls (lv_sub hl [1, 2, 3, 4, 5, 6, 7, 8, 9, 10, 11, 12, 13, 14, 15, 16, 17, 18, 0] rfl)
        · refine lv_icmp_ge (tgt := 1113) hx hb dL_law_929 (by decide) (fun _ => ?_) (fun c_ => absurd (nI_le (by omega) (by omega)) c_)
          refine lv_iinc (v := nI (v + 1)) (lv' := [(19, .int (nI (v + 1))), (0, .ref b), (1, .ref (ad 0)), (2, .int (nI wn)), (3, .int (nI t)), (4, .int xv), (5, .ref (q 0)), (6, .ref (q 1)), (7, .ref (q 2)), (8, .ref (q 3)), (9, .ref pk), (10, .int sn), (11, .int (nI pl)), (12, .int (xb op)), (13, .int (nI hn)), (14, .int (nI kd)), (15, .int (nI nm)), (20, .int (xb an)), (21, .int (nI k))]) hx hb dL_law_1113 hl (k := 16) rfl (x_inc _) (by decide) rfl (fun ls hl => ?_)
          refine lv_goto (tgt := 766) hx hb dL_law_1116 (by decide) ?_
          refine W.widen (k := ce + 146 * (v + 1)) (n := sl + 876 * (v + 1)) (by omega) (by omega) ?_
          exact ih1 (v + 1) (by omega) (by omega) _ _ hP hD hS ls (lv_sub hl [1, 2, 3, 4, 5, 6, 7, 8, 9, 10, 11, 12, 13, 14, 15, 16, 0] rfl)
    · refine lv_icmp_ge (tgt := 1119) hx hb dL_law_769 (by decide) (fun _ => ?_) (fun c_ => absurd (nI_le (by omega) (by omega)) c_)
      refine W.widen (k := ce + 584) (n := sl + 3504) (by omega) (by omega) ?_
      exact kk _ _ hP hD hS ls (lv_sub hl [0, 1, 2, 3, 4, 5, 6, 7, 8, 9, 10, 11, 12, 13, 14, 15] rfl)
end XLW4
