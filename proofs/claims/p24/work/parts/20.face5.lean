section XF5
/-- all that is thought, by the first i watchers -/
def xsu (M : XM) : Nat → Int32
  | 0 => nI 0
  | i + 1 => if i < mnw M then xsu M i + xsm (mth M i) 16 else xsu M i
def xmean (M : XM) : UInt64 := if mnw M = 0 then FP.dconst0 else FP.ddiv (FP.i2d (xsu M 4)) (FP.i2d (nI (mnw M * 16)))
theorem xsu_le {M : XM} (h : ∀ w, w < mnw M → ∀ j, j < 16 → (mth M w j).toBitVec.toNat < 65536) : ∀ i, ∃ b, b ≤ 256 * i ∧ xsu M i = nI b
  | 0 => ⟨0, Nat.le_refl _, rfl⟩
  | i + 1 => by
    obtain ⟨b, hb, e⟩ := xsu_le h i
    by_cases hi : i < mnw M
    · obtain ⟨b2, hb2, e2⟩ := xsm_le (h i hi) 16 (Nat.le_refl _)
      exact ⟨b + b2, by omega, by show (if i < mnw M then _ else _) = _; rw [if_pos hi, e, e2, nI_add]⟩
    · exact ⟨b, by omega, by show (if i < mnw M then _ else _) = _; rw [if_neg hi, e]⟩
def xdc (M : XM) : Nat → Int64
  | 0 => 929
  | i + 1 => xdc M i * 31 + (xcnt M i).toInt64
def xd6 (M : XM) (k : Nat) (d : Int64) : Nat → Int64
  | 0 => d
  | i + 1 => xd6 M k d i * 31 + (xtold M k i).toInt64
def xdW (M : XM) : Nat → Int64
  | 0 => xmx (mpk M) (xdc M 7) 16
  | w + 1 => xmx (mth M w) (xd6 M w (xdW M w) 6) 16
def xdP (M : XM) : Nat → Int64
  | 0 => xdW M (mnw M)
  | q + 1 => (xdP M q * 31 + (mhb M q).toInt64) * 31 + (mtk M q).toInt64

set_option maxHeartbeats 4000000 in
set_option maxRecDepth 100000 in
/-- mean -/
theorem c_X3_mean (l : Launch) (G : va_G) (T : Nat → ClassId) (sz : Nat) (ad : Nat → Nat) (sc : Nat → Nat → Int32) (M : XM) (hn4 : mnw M ≤ 4) (hth : ∀ w, w < mnw M → ∀ j, j < 16 → (mth M w j).toBitVec.toNat < 65536) : Met l yX3_mean wsX3_mean ({ frames := 3, cells := 0, slots := 0, locals := 64 }) (va_Pc [.ref (ad 0)] (xPre G T (xC T ad sc M) sz)) (va_Qd (fun (r : UInt64) (u : Unit) => r = xmean M) (fun u t => va_P G vwCl (xC T ad sc M) t.heap) (va_A (xC T ad sc M) sz)) 0 0 (va_A (xC T ad sc M) sz) := by
  refine Met.ofW (cc := cX3_mean) (maxL := 6) (ret := (some .double)) (by decide +kernel) rfl ?_
  intro p e s m args below meth c s₁ B hml hv
  obtain ⟨rfl, hsz, hP, hK, hD0, hXB, hZ⟩ := hv
  have hx := B.exec
  have hb := B.bytes
  have hr := B.returns
  have hts := atoms_spec (ws := wsX3_mean) B.pre
  have hown : s.vm.findClass RX3 = some m.cls := findClass_of_methodNamed B.named
  have hlocks := B.notSynchronized
  subst hsz
  have hD := hD0.self (sz := s.heap.size)
  generalize hAe : va_A (xC T ad sc M) s.heap.size = A at hD hZ ⊢
  have hA : ∀ q : Nat, s.heap.size ≤ q → A q := fun q h => by rw [← hAe]; exact Or.inr h
  have hS : va_S A s.heap s.heap [] := va_S.rf
  have hP : va_P G vwCl (xC T ad sc M) s.heap := hP
  have hiX3 : ∀ w ∈ u_ws RX3 TX3 10, w ∈ wsX3_mean := by decide +kernel
  have hl := lv_entry ([.ref (ad 0)]) (n := 6) (Nat.le_of_ble_eq_true rfl)
  rw [lg_entry_eq]
  generalize (lg_sl ([.ref (ad 0)]) ++ List.replicate (6 - (lg_sl ([.ref (ad 0)])).length) Slot.unset).toArray = ls at hl ⊢
  have hl : lv_has ls 6 [(0, .ref (ad 0))] := hl
  refine lv_iconst (v := nI 0) hx hb dX3_mean_0 (by decide) ?_
  refine lv_istore_n (lv' := [(1, .int (nI 0)), (0, .ref (ad 0))]) hx hb dX3_mean_1 rfl hl (by decide) rfl (fun ls hl => ?_)
  refine lv_aload_n hx hb dX3_mean_2 rfl (lv_at hl 1 rfl) ?_
  refine va_get (D := G) (ci := 3) (v := .ref (ad 7)) (C := RX3) (T := TX3) (N := 10) hx hb hts hiX3 hown hK hP 0 rfl rfl 2 (by decide) (hts (.fieldLink RX3 21 "CardFans" "watchers" "[LCardFans$Watcher;") (by decide +kernel)) (fun _ h9 => h9) rfl dX3_mean_3 ?_
  refine lv_astore_n (lv' := [(2, .ref (ad 7)), (1, .int (nI 0)), (0, .ref (ad 0))]) hx hb dX3_mean_6 rfl hl (by decide) rfl (fun ls hl => ?_)
  refine lv_aload_n hx hb dX3_mean_7 rfl (lv_at hl 0 rfl) ?_
  refine va_alen hx hb hK hP 7 2 rfl rfl (v := nI 4) rfl dX3_mean_8 ?_
  refine lv_istore_n (lv' := [(3, .int (nI 4)), (2, .ref (ad 7)), (1, .int (nI 0)), (0, .ref (ad 0))]) hx hb dX3_mean_9 rfl hl (by decide) rfl (fun ls hl => ?_)
  refine lv_iconst (v := nI 0) hx hb dX3_mean_10 (by decide) ?_
  refine lv_istore (lv' := [(4, .int (nI 0)), (3, .int (nI 4)), (2, .ref (ad 7)), (1, .int (nI 0)), (0, .ref (ad 0))]) hx hb dX3_mean_11 hl (by decide) rfl (fun ls hl => ?_)
  suffices LP : ∀ (n : Nat) (i : Nat), (i ≤ 4) → (4 < i + n) → ∀ (H : Heap) (locs : List Loc), va_P G vwCl (xC T ad sc M) H → va_D A (xC T ad sc M) → va_S A s.heap H locs → ∀ (ls : Array Slot), lv_has ls 6 [(4, .int (nI i)), (1, .int (xsu M i)), (2, .ref (ad 7)), (3, .int (nI 4)), (0, .ref (ad 0))] → W p l e (headSpec wsX3_mean ({ frames := 3, cells := 0, slots := 0, locals := 64 })).room s m ([.ref (ad 0)] : List Value).toArray below meth c H locs 0 0 (MQ below (va_Qd (fun (r : UInt64) (u : Unit) => r = xmean M) (fun u t => va_P G vwCl (xC T ad sc M) t.heap) A) ([.ref (ad 0)] : List Value).toArray s 0 0 A) (F0 m 13 ls []) from LP 5 0 (by decide) (by decide) _ _ hP hD hS ls (lv_sub hl [0, 3, 2, 1, 4] rfl)
  clear hP hD hS hl
  intro n
  induction n with
  | zero => intro i hi4 hn H locs _ _ _ ls _; exfalso; omega
  | succ n ih =>
    intro i hi4 hn H locs hP hD hS ls hl
    refine lv_iload hx hb dX3_mean_13 (lv_at hl 0 rfl) ?_
    refine lv_iload_n hx hb dX3_mean_15 rfl (lv_at hl 3 rfl) ?_
    by_cases hc : i < 4
    · refine lv_icmp_ge (tgt := 44) hx hb dX3_mean_16 (by decide) (fun c_ => absurd c_ (nI_ge hc (by decide))) (fun _ => ?_)
      refine lv_aload_n hx hb dX3_mean_19 rfl (lv_at hl 2 rfl) ?_
      refine lv_iload hx hb dX3_mean_20 (lv_at hl 0 rfl) ?_
      by_cases hi : i < mnw M
      · refine x_aald hx hb hK hP 7 2 rfl rfl hc (by decide) dX3_mean_22 (v := .ref (ad (9 + 4 * i))) (by show va_rf (if i < mnw M then _ else _) = _; rw [if_pos hi]; rfl) ?_
        refine lv_astore (lv' := [(5, .ref (ad (9 + 4 * i))), (4, .int (nI i)), (1, .int (xsu M i)), (2, .ref (ad 7)), (3, .int (nI 4)), (0, .ref (ad 0))]) hx hb dX3_mean_23 hl (by decide) rfl (fun ls hl => ?_)
        refine lv_aload hx hb dX3_mean_25 (lv_at hl 0 rfl) ?_
        refine lv_ifnull hx hb dX3_mean_27 ?_
        refine lv_iload_n hx hb dX3_mean_30 rfl (lv_at hl 2 rfl) ?_
        refine lv_aload hx hb dX3_mean_31 (lv_at hl 0 rfl) ?_
        refine x_calli (va_runV (As := []) (rest := [.int (xsu M i)]) ⟨hx, hb, hml, hown, hts⟩ (c_X2_cardsThought l G T _ (ad (9 + 4 * i)) (ad (10 + 4 * i)) (ad (11 + 4 * i)) (ad (12 + 4 * i)) (msh M i) (man M i) (mgl M i) (mth M i) (sc (i + 3))) (cwV 0 hts gX3_mean_X2_cardsThought rfl rfl rfl (by decide +kernel) ⟨Nat.le_of_ble_eq_true rfl, Nat.le_of_ble_eq_true rfl⟩) (x_preV (wc := [((ad (9 + 4 * i)), .inr (2, [.int (msh M i), .ref (ad (10 + 4 * i)), .int (man M i), .int (mgl M i)])), ((ad (10 + 4 * i)), .inr (1, [.ref (ad (11 + 4 * i)), .ref (ad (12 + 4 * i))])), ((ad (11 + 4 * i)), .inl (T 0, 16, .inl (mth M i))), ((ad (12 + 4 * i)), .inl (T 0, 16, .inl (sc (i + 3))))]) hK hP hD hS hA hXB hZ [9 + 4 * i, 10 + 4 * i, 11 + 4 * i, 12 + 4 * i] (xC_wis T ad sc M hn4 hi) (xC_wn (Nat.lt_of_lt_of_le hi hn4)) _ _ (9 + 4 * i) 2 (xC_w0 T ad sc M hn4 hi) rfl) rfl rfl hl.1 rfl (lv_room (Nat.le_of_ble_eq_true rfl)) dX3_mean_33 ⟨Nat.le_of_ble_eq_true rfl, Nat.le_of_ble_eq_true rfl⟩) hP hD hS hA [9 + 4 * i, 10 + 4 * i, 11 + 4 * i, 12 + 4 * i] (xC_wis T ad sc M hn4 hi) (fun _ _ _ => rfl) (fun r2 u H locs hw2 hP hD hS => ?_)
        rw [xrep_same _ _ _ (xC_wis T ad sc M hn4 hi)] at hP hD
        have hP : va_P G vwCl (xC T ad sc M) H := hP
        have hD : va_D A (xC T ad sc M) := hD
        subst hw2
        refine lv_iadd hx hb dX3_mean_36 ?_
        refine x_topi (y := (xsu M (i + 1))) (by show _ = (if i < mnw M then _ else _); rw [if_pos hi]) ?_
        refine lv_istore_n (lv' := [(1, .int (xsu M (i + 1))), (5, .ref (ad (9 + 4 * i))), (4, .int (nI i)), (2, .ref (ad 7)), (3, .int (nI 4)), (0, .ref (ad 0))]) hx hb dX3_mean_37 rfl hl (by decide) rfl (fun ls hl => ?_)
        refine lv_iinc (v := nI (i + 1)) (lv' := [(4, .int (nI (i + 1))), (1, .int (xsu M (i + 1))), (5, .ref (ad (9 + 4 * i))), (2, .ref (ad 7)), (3, .int (nI 4)), (0, .ref (ad 0))]) hx hb dX3_mean_38 hl (k := 2) rfl (x_inc _) (by decide) rfl (fun ls hl => ?_)
        refine lv_goto (tgt := 13) hx hb dX3_mean_41 (by decide) ?_
        exact ih (i + 1) (by omega) (by omega) _ _ hP hD hS ls (lv_sub hl [0, 1, 3, 4, 5] rfl)
      · refine x_aald hx hb hK hP 7 2 rfl rfl hc (by decide) dX3_mean_22 (v := .null) (by show va_rf (if i < mnw M then _ else _) = _; rw [if_neg hi]; rfl) ?_
        refine lv_astoreN (lv' := [(5, .null), (4, .int (nI i)), (1, .int (xsu M i)), (2, .ref (ad 7)), (3, .int (nI 4)), (0, .ref (ad 0))]) hx hb dX3_mean_23 hl (by decide) rfl (fun ls hl => ?_)
        refine lv_aloadN hx hb dX3_mean_25 (lv_at hl 0 rfl) ?_
        refine lv_ifnullN (tgt := 38) hx hb dX3_mean_27 (by decide) ?_
        have e1 : xsu M (i + 1) = xsu M i := by show (if i < mnw M then _ else _) = _; rw [if_neg hi]
        rw [← e1] at hl
        refine lv_iinc (v := nI (i + 1)) (lv' := [(4, .int (nI (i + 1))), (5, .null), (1, .int (xsu M (i + 1))), (2, .ref (ad 7)), (3, .int (nI 4)), (0, .ref (ad 0))]) hx hb dX3_mean_38 hl (k := 1) rfl (x_inc _) (by decide) rfl (fun ls hl => ?_)
        refine lv_goto (tgt := 13) hx hb dX3_mean_41 (by decide) ?_
        exact ih (i + 1) (by omega) (by omega) _ _ hP hD hS ls (lv_sub hl [0, 2, 3, 4, 5] rfl)
    · obtain rfl : i = 4 := by omega
      refine lv_icmp_ge (tgt := 44) hx hb dX3_mean_16 (by decide) (fun _ => ?_) (fun c_ => absurd (nI_le (by omega) (by omega)) c_)
      refine lv_aload_n hx hb dX3_mean_44 rfl (lv_at hl 4 rfl) ?_
      refine va_get (D := G) (ci := 3) (v := .int (nI (mnw M))) (C := RX3) (T := TX3) (N := 10) hx hb hts hiX3 hown hK hP 0 rfl rfl 4 (by decide) (hts (.fieldLink RX3 73 "CardFans" "watcherCount" "I") (by decide +kernel)) (fun _ h9 => h9) rfl dX3_mean_45 ?_
      refine lv_bipush (v := nI 16) hx hb dX3_mean_48 (by decide) ?_
      refine lv_imul hx hb dX3_mean_50 ?_
      refine x_topi (y := nI (mnw M * 16)) (pk_mul _ _) ?_
      refine lv_istore_n (lv' := [(2, .int (nI (mnw M * 16))), (4, .int (nI 4)), (1, .int (xsu M 4)), (3, .int (nI 4)), (0, .ref (ad 0))]) hx hb dX3_mean_51 rfl hl (by decide) rfl (fun ls hl => ?_)
      refine lv_iload_n hx hb dX3_mean_52 rfl (lv_at hl 0 rfl) ?_
      by_cases hz : mnw M = 0
      · refine lv_if_le (tgt := 64) hx hb dX3_mean_53 (by decide) (fun _ => ?_) (fun c_ => absurd (nI_le (b := 0) (by omega) (by decide)) c_)
        refine lv_dconst0 hx hb dX3_mean_64 ?_
        exact W.dret (v := FP.dconst0) hx hb hr (fun t9_ ht hW => ⟨⟨FP.dconst0, (), rfl, by unfold xmean; rw [if_pos hz], x_at ht hP⟩, hS.F ht⟩) hS.2.2 dX3_mean_65
      · refine lv_if_le (tgt := 64) hx hb dX3_mean_53 (by decide) (fun c_ => absurd c_ (nI_nle (by omega) (by omega))) (fun _ => ?_)
        refine lv_iload_n hx hb dX3_mean_56 rfl (lv_at hl 2 rfl) ?_
        refine lv_i2d hx hb dX3_mean_57 ?_
        refine lv_iload_n hx hb dX3_mean_58 rfl (lv_at hl 0 rfl) ?_
        refine lv_i2d hx hb dX3_mean_59 ?_
        obtain ⟨b, hb4, eb⟩ := xsu_le hth 4
        refine lv_ddiv hx hb dX3_mean_60 (by rw [eb]; exact xfp_n64 (by omega) (by omega) hn4) ?_
        refine lv_goto (tgt := 65) hx hb dX3_mean_61 (by decide) ?_
        exact W.dret (v := (FP.ddiv (FP.i2d (xsu M 4)) (FP.i2d (nI (mnw M * 16))))) hx hb hr (fun t9_ ht hW => ⟨⟨(FP.ddiv (FP.i2d (xsu M 4)) (FP.i2d (nI (mnw M * 16)))), (), rfl, by unfold xmean; rw [if_neg hz], x_at ht hP⟩, hS.F ht⟩) hS.2.2 dX3_mean_65

set_option maxHeartbeats 4000000 in
set_option maxRecDepth 100000 in
/-- watcherMixedInto -/
theorem c_X3_watcherMixedInto (l : Launch) (hsl : l.stackTraces = false) (G : va_G) (T : Nat → ClassId) (sz : Nat) (ad : Nat → Nat) (sc : Nat → Nat → Int32) (M : XM) (d : Int64) (k : Nat) (hk : k < mnw M) (hn4 : mnw M ≤ 4) (hsh : ∀ q, q < mnw M → msh M q = nI 0 ∨ msh M q = nI 1) : Met l yX3_watcherMixedInto wsX3_watcherMixedInto ({ frames := 8, cells := 13, slots := 78, locals := 127 }) (va_Pc [.ref (ad 0), .long d, .int (nI k)] (xPre G T (xC T ad sc M) sz)) (va_Ql (fun (r : Int64) (u : Unit) => r = xmx (mth M k) (xd6 M k d 6) 16) (fun u t => va_P G vwCl (xC T ad sc M) t.heap) (va_A (xC T ad sc M) sz)) 13 78 (va_A (xC T ad sc M) sz) := by
  refine Met.ofW (cc := cX3_watcherMixedInto) (maxL := 7) (ret := (some .long)) (by decide +kernel) rfl ?_
  intro p e s m args below meth c s₁ B hml hv
  obtain ⟨rfl, hsz, hP, hK, hD0, hXB, hZ⟩ := hv
  have hx := B.exec
  have hb := B.bytes
  have hr := B.returns
  have hts := atoms_spec (ws := wsX3_watcherMixedInto) B.pre
  have hown : s.vm.findClass RX3 = some m.cls := findClass_of_methodNamed B.named
  have hlocks := B.notSynchronized
  subst hsz
  have hD := hD0.self (sz := s.heap.size)
  generalize hAe : va_A (xC T ad sc M) s.heap.size = A at hD hZ ⊢
  have hA : ∀ q : Nat, s.heap.size ≤ q → A q := fun q h => by rw [← hAe]; exact Or.inr h
  have hS : va_S A s.heap s.heap [] := va_S.rf
  have hP : va_P G vwCl (xC T ad sc M) s.heap := hP
  have hiX2 : ∀ w ∈ u_ws RX2 TX2 4, w ∈ wsX3_watcherMixedInto := by decide +kernel
  have hl := lv_entry ([.ref (ad 0), .long d, .int (nI k)]) (n := 7) (Nat.le_of_ble_eq_true rfl)
  rw [lg_entry_eq]
  generalize (lg_sl ([.ref (ad 0), .long d, .int (nI k)]) ++ List.replicate (7 - (lg_sl ([.ref (ad 0), .long d, .int (nI k)])).length) Slot.unset).toArray = ls at hl ⊢
  have hl : lv_has ls 7 [(0, .ref (ad 0)), (1, .long d), (3, .int (nI k))] := hl
  refine lv_lload_n hx hb dX3_watcherMixedInto_0 rfl (lv_at hl 1 rfl) ?_
  refine lv_lstore (lv' := [(4, .long d), (0, .ref (ad 0)), (1, .long d), (3, .int (nI k))]) hx hb dX3_watcherMixedInto_1 hl (by decide) rfl (fun ls hl => ?_)
  refine lv_iconst (v := nI 0) hx hb dX3_watcherMixedInto_3 (by decide) ?_
  refine lv_istore (lv' := [(6, .int (nI 0)), (4, .long d), (0, .ref (ad 0)), (1, .long d), (3, .int (nI k))]) hx hb dX3_watcherMixedInto_4 hl (by decide) rfl (fun ls hl => ?_)
  suffices LP : ∀ (n : Nat) (i : Nat), (i ≤ 6) → (6 < i + n) → ∀ (H : Heap) (locs : List Loc), va_P G vwCl (xC T ad sc M) H → va_D A (xC T ad sc M) → va_S A s.heap H locs → ∀ (ls : Array Slot), lv_has ls 7 [(6, .int (nI i)), (4, .long (xd6 M k d i)), (0, .ref (ad 0)), (1, .long d), (3, .int (nI k))] → W p l e (headSpec wsX3_watcherMixedInto ({ frames := 8, cells := 13, slots := 78, locals := 127 })).room s m ([.ref (ad 0), .long d, .int (nI k)] : List Value).toArray below meth c H locs (2 * i) (12 * i) (MQ below (va_Ql (fun (r : Int64) (u : Unit) => r = xmx (mth M k) (xd6 M k d 6) 16) (fun u t => va_P G vwCl (xC T ad sc M) t.heap) A) ([.ref (ad 0), .long d, .int (nI k)] : List Value).toArray s 13 78 A) (F0 m 6 ls []) from LP 7 0 (by decide) (by decide) _ _ hP hD hS ls (lv_sub hl [0, 1, 2, 3, 4] rfl)
  clear hP hD hS hl
  intro n
  induction n with
  | zero => intro i hi6 hn H locs _ _ _ ls _; exfalso; omega
  | succ n ih =>
    intro i hi6 hn H locs hP hD hS ls hl
    refine lv_iload hx hb dX3_watcherMixedInto_6 (lv_at hl 0 rfl) ?_
    refine lv_bipush (v := nI 6) hx hb dX3_watcherMixedInto_8 (by decide) ?_
    by_cases hc : i < 6
    · refine lv_icmp_ge (tgt := 33) hx hb dX3_watcherMixedInto_10 (by decide) (fun c_ => absurd c_ (nI_ge hc (by decide))) (fun _ => ?_)
      refine lv_lload hx hb dX3_watcherMixedInto_13 (lv_at hl 1 rfl) ?_
      refine lv_aload_n hx hb dX3_watcherMixedInto_15 rfl (lv_at hl 2 rfl) ?_
      refine lv_iload_n hx hb dX3_watcherMixedInto_16 rfl (lv_at hl 4 rfl) ?_
      refine lv_iload hx hb dX3_watcherMixedInto_17 (lv_at hl 0 rfl) ?_
      refine x_xcalliW (vx_runV (As := [.int (nI k), .int (nI i)]) (rest := [.long (xd6 M k d i)]) ⟨hx, hb, hml, hown, hts⟩ (c_X3_watcher l hsl G T _ ad sc M (nI k) (nI i) hn4 hsh) (cwV 2 hts gX3_watcherMixedInto_X3_watcher rfl rfl rfl (by decide +kernel) ⟨Nat.le_of_ble_eq_true rfl, Nat.le_of_ble_eq_true rfl⟩) (x_preVW (wc := (xC T ad sc M)) hK hP hD hS hA hXB hZ _ _ 0 3 rfl rfl) rfl rfl hl.1 rfl (lv_room (Nat.le_of_ble_eq_true rfl)) dX3_watcherMixedInto_19 ⟨show 2 * i + 2 ≤ 13 by omega, show 12 * i + 12 ≤ 78 by omega⟩) hP hD hS hA (fun _ _ _ => hD.self) (fun E ce q9 H locs hE hP hS c1 c2 c3 => ?_) (fun r2 u H locs hw2 hP hD hS => ?_)
      · exact absurd hE.1 (by rw [xvb_k hk (by omega), xvb_k hc (by decide)]; decide)
      have hP : va_P G vwCl (xC T ad sc M) H := hP
      have hD : va_D A (xC T ad sc M) := hD
      have er : r2 = xtold M k i := by rw [hw2.2, xka_n (by omega), xka_n (by omega)]
      subst er
      refine x_calll (va_runS (As := [.long (xd6 M k d i), .int (xtold M k i)]) (rest := []) ⟨hx, hb, hml, hown, hts⟩ (c_X3_mixed l G T _ (xd6 M k d i) (xtold M k i)) (va_cwS 2 hts gX3_watcherMixedInto_X3_mixed rfl rfl rfl (by decide +kernel) ⟨Nat.le_of_ble_eq_true rfl, Nat.le_of_ble_eq_true rfl⟩) (x_preS (wc := []) hK hP hD hS hA hXB hZ [] rfl rfl _) rfl rfl hl.1 rfl (lv_room (Nat.le_of_ble_eq_true rfl)) dX3_watcherMixedInto_22 ⟨show 2 * i + 2 + 0 ≤ 13 by omega, show 12 * i + 12 + 0 ≤ 78 by omega⟩) hP hD hS hA [] rfl (fun _ _ _ => rfl) (fun r3 u H locs hw3 hP hD hS => ?_)
      have hP : va_P G vwCl (xC T ad sc M) H := hP
      have hD : va_D A (xC T ad sc M) := hD
      refine x_topl (y := xd6 M k d (i + 1)) (hw3) ?_
      refine lv_lstore (lv' := [(4, .long (xd6 M k d (i + 1))), (6, .int (nI i)), (0, .ref (ad 0)), (1, .long d), (3, .int (nI k))]) hx hb dX3_watcherMixedInto_25 hl (by decide) rfl (fun ls hl => ?_)
      refine lv_iinc (v := nI (i + 1)) (lv' := [(6, .int (nI (i + 1))), (4, .long (xd6 M k d (i + 1))), (0, .ref (ad 0)), (1, .long d), (3, .int (nI k))]) hx hb dX3_watcherMixedInto_27 hl (k := 1) rfl (x_inc _) (by decide) rfl (fun ls hl => ?_)
      refine lv_goto (tgt := 6) hx hb dX3_watcherMixedInto_30 (by decide) ?_
      exact ih (i + 1) (by omega) (by omega) _ _ hP hD hS ls (lv_sub hl [0, 1, 2, 3, 4] rfl)
    · obtain rfl : i = 6 := by omega
      refine lv_icmp_ge (tgt := 33) hx hb dX3_watcherMixedInto_10 (by decide) (fun _ => ?_) (fun c_ => absurd (nI_le (by omega) (by omega)) c_)
      refine lv_aload_n hx hb dX3_watcherMixedInto_33 rfl (lv_at hl 2 rfl) ?_
      refine lv_iload_n hx hb dX3_watcherMixedInto_34 rfl (lv_at hl 4 rfl) ?_
      refine x_xcallqW (vx_runV (As := [.int (nI k)]) (rest := []) ⟨hx, hb, hml, hown, hts⟩ (c_X3_watcherOf l hsl G T _ ad sc M (nI k) hn4) (cwV 1 hts gX3_watcherMixedInto_X3_watcherOf rfl rfl rfl (by decide +kernel) ⟨Nat.le_of_ble_eq_true rfl, Nat.le_of_ble_eq_true rfl⟩) (x_preVW (wc := (xC T ad sc M)) hK hP hD hS hA hXB hZ _ _ 0 3 rfl rfl) rfl rfl hl.1 rfl (lv_room (Nat.le_of_ble_eq_true rfl)) dX3_watcherMixedInto_35 ⟨Nat.le_of_ble_eq_true rfl, Nat.le_of_ble_eq_true rfl⟩) hP hD hS hA (fun _ _ _ => hD.self) (fun E ce q9 H locs hE hP hS c1 c2 c3 => ?_) (fun r9 u9 H locs hw9 hP hD hS => ?_)
      · exact absurd ((xvb_k hk (by omega)).symm.trans hE.1) Bool.noConfusion
      have hP : va_P G vwCl (xC T ad sc M) H := hP
      have hD : va_D A (xC T ad sc M) := hD
      obtain ⟨hv, rfl⟩ := hw9
      rw [xka_n (show k < 2 ^ 31 by omega)]
      refine va_getN (D := G) (ci := 2) (v := .ref (ad (10 + 4 * k))) (C := RX2) (T := TX2) (N := 4) hx hb hts hiX2 hown hK hP (9 + 4 * k) (xC_w0 T ad sc M hn4 hk) rfl 1 (by decide) (va_Nw.use rfl (hXB.1 (.fieldLinkNest RX3 93 RX2 "thoughts" "LCardFans$Row;" "CardFans") (by decide +kernel))) (fun _ h9 => h9) rfl dX3_watcherMixedInto_38 ?_
      refine lv_lload hx hb dX3_watcherMixedInto_41 (lv_at hl 1 rfl) ?_
      refine x_calll (va_runV (As := [.long (xd6 M k d 6)]) (rest := []) ⟨hx, hb, hml, hown, hts⟩ (c_X1_mixedInto l G T _ (ad (10 + 4 * k)) (ad (11 + 4 * k)) (ad (12 + 4 * k)) (mth M k) (sc (k + 3)) (xd6 M k d 6)) (cwV 1 hts gX3_watcherMixedInto_X1_mixedInto rfl rfl rfl (by decide +kernel) ⟨Nat.le_of_ble_eq_true rfl, Nat.le_of_ble_eq_true rfl⟩) (x_preV (wc := [((ad (10 + 4 * k)), .inr (1, [.ref (ad (11 + 4 * k)), .ref (ad (12 + 4 * k))])), ((ad (11 + 4 * k)), .inl (T 0, 16, .inl (mth M k))), ((ad (12 + 4 * k)), .inl (T 0, 16, .inl (sc (k + 3))))]) hK hP hD hS hA hXB hZ [10 + 4 * k, 11 + 4 * k, 12 + 4 * k] (xC_wis3 T ad sc M hn4 hk) (xC_wn3 (Nat.lt_of_lt_of_le hk hn4)) _ _ (10 + 4 * k) 1 (xC_w1 T ad sc M hn4 hk) rfl) rfl rfl hl.1 rfl (lv_room (Nat.le_of_ble_eq_true rfl)) dX3_watcherMixedInto_43 ⟨Nat.le_of_ble_eq_true rfl, Nat.le_of_ble_eq_true rfl⟩) hP hD hS hA [10 + 4 * k, 11 + 4 * k, 12 + 4 * k] (xC_wis3 T ad sc M hn4 hk) (fun _ _ _ => rfl) (fun r1 u H locs hw1 hP hD hS => ?_)
      rw [xrep_same _ _ _ (xC_wis3 T ad sc M hn4 hk)] at hP hD
      have hP : va_P G vwCl (xC T ad sc M) H := hP
      have hD : va_D A (xC T ad sc M) := hD
      exact W.lret (v := r1) hx hb hr (fun t9_ ht hW => ⟨⟨r1, (), rfl, hw1, x_at ht hP⟩, hS.F ht⟩) hS.2.2 dX3_watcherMixedInto_46

set_option maxHeartbeats 4000000 in
set_option maxRecDepth 100000 in
/-- digest -/
theorem c_X3_digest (l : Launch) (hsl : l.stackTraces = false) (G : va_G) (T : Nat → ClassId) (sz : Nat) (ad : Nat → Nat) (sc : Nat → Nat → Int32) (M : XM) (hn4 : mnw M ≤ 4) (hm4 : mnp M ≤ 4) (hsh : ∀ q, q < mnw M → msh M q = nI 0 ∨ msh M q = nI 1) : Met l yX3_digest wsX3_digest ({ frames := 9, cells := 59, slots := 354, locals := 153 }) (va_Pc [.ref (ad 0)] (xPre G T (xC T ad sc M) sz)) (va_Ql (fun (r : Int64) (u : Unit) => r = xdP M (mnp M)) (fun u t => va_P G vwCl (xC T ad sc M) t.heap) (va_A (xC T ad sc M) sz)) 59 354 (va_A (xC T ad sc M) sz) := by
  refine Met.ofW (cc := cX3_digest) (maxL := 7) (ret := (some .long)) (by decide +kernel) rfl ?_
  intro p e s m args below meth c s₁ B hml hv
  obtain ⟨rfl, hsz, hP, hK, hD0, hXB, hZ⟩ := hv
  have hx := B.exec
  have hb := B.bytes
  have hr := B.returns
  have hts := atoms_spec (ws := wsX3_digest) B.pre
  have hown : s.vm.findClass RX3 = some m.cls := findClass_of_methodNamed B.named
  have hlocks := B.notSynchronized
  subst hsz
  have hD := hD0.self (sz := s.heap.size)
  generalize hAe : va_A (xC T ad sc M) s.heap.size = A at hD hZ ⊢
  have hA : ∀ q : Nat, s.heap.size ≤ q → A q := fun q h => by rw [← hAe]; exact Or.inr h
  have hS : va_S A s.heap s.heap [] := va_S.rf
  have hP : va_P G vwCl (xC T ad sc M) s.heap := hP
  have hiX3 : ∀ w ∈ u_ws RX3 TX3 10, w ∈ wsX3_digest := by decide +kernel
  have hiX0 : ∀ w ∈ u_ws RX0 TX0 2, w ∈ wsX3_digest := by decide +kernel
  have hl := lv_entry ([.ref (ad 0)]) (n := 7) (Nat.le_of_ble_eq_true rfl)
  rw [lg_entry_eq]
  generalize (lg_sl ([.ref (ad 0)]) ++ List.replicate (7 - (lg_sl ([.ref (ad 0)])).length) Slot.unset).toArray = ls at hl ⊢
  have hl : lv_has ls 7 [(0, .ref (ad 0))] := hl
  refine lv_ldc2 (v := (929)) hx hb hown (hts (.constantLong RX3 167 (929)) (by decide +kernel)) dX3_digest_0 ?_
  refine lv_lstore_n (lv' := [(1, .long (929)), (0, .ref (ad 0))]) hx hb dX3_digest_3 rfl hl (by decide) rfl (fun ls hl => ?_)
  refine lv_iconst (v := nI 0) hx hb dX3_digest_4 (by decide) ?_
  refine lv_istore_n (lv' := [(3, .int (nI 0)), (1, .long (929)), (0, .ref (ad 0))]) hx hb dX3_digest_5 rfl hl (by decide) rfl (fun ls hl => ?_)
  suffices LP1 : ∀ (n1 : Nat) (i : Nat), (i ≤ 7) → (7 < i + n1) → ∀ (H : Heap) (locs : List Loc), va_P G vwCl (xC T ad sc M) H → va_D A (xC T ad sc M) → va_S A s.heap H locs → ∀ (ls : Array Slot), lv_has ls 7 [(3, .int (nI i)), (1, .long (xdc M i)), (0, .ref (ad 0))] → W p l e (headSpec wsX3_digest ({ frames := 9, cells := 59, slots := 354, locals := 153 })).room s m ([.ref (ad 0)] : List Value).toArray below meth c H locs i (6 * i) (MQ below (va_Ql (fun (r : Int64) (u : Unit) => r = xdP M (mnp M)) (fun u t => va_P G vwCl (xC T ad sc M) t.heap) A) ([.ref (ad 0)] : List Value).toArray s 59 354 A) (F0 m 6 ls []) from LP1 8 0 (by decide) (by decide) _ _ hP hD hS ls (lv_sub hl [0, 1, 2] rfl)
  clear hP hD hS hl
  intro n1
  induction n1 with
  | zero => intro i hi7 hn1 H locs _ _ _ ls _; exfalso; omega
  | succ n1 ih1 =>
    intro i hi7 hn1 H locs hP hD hS ls hl
    refine lv_iload_n hx hb dX3_digest_6 rfl (lv_at hl 0 rfl) ?_
    refine lv_bipush (v := nI 7) hx hb dX3_digest_7 (by decide) ?_
    by_cases hc : i < 7
    · refine lv_icmp_ge (tgt := 28) hx hb dX3_digest_9 (by decide) (fun c_ => absurd c_ (nI_ge hc (by decide))) (fun _ => ?_)
      refine lv_lload_n hx hb dX3_digest_12 rfl (lv_at hl 1 rfl) ?_
      refine lv_aload_n hx hb dX3_digest_13 rfl (lv_at hl 2 rfl) ?_
      refine lv_iload_n hx hb dX3_digest_14 rfl (lv_at hl 0 rfl) ?_
      refine x_xcalliW (vx_runV (As := [.int (nI i)]) (rest := [.long (xdc M i)]) ⟨hx, hb, hml, hown, hts⟩ (c_X3_count l hsl G T _ ad sc M (nI i)) (cwV 1 hts gX3_digest_X3_count rfl rfl rfl (by decide +kernel) ⟨Nat.le_of_ble_eq_true rfl, Nat.le_of_ble_eq_true rfl⟩) (x_preVW (wc := (xC T ad sc M)) hK hP hD hS hA hXB hZ _ _ 0 3 rfl rfl) rfl rfl hl.1 rfl (lv_room (Nat.le_of_ble_eq_true rfl)) dX3_digest_15 ⟨show i + 1 ≤ 59 by omega, show 6 * i + 6 ≤ 354 by omega⟩) hP hD hS hA (fun _ _ _ => hD.self) (fun E ce q9 H locs hE hP hS c1 c2 c3 => ?_) (fun r2 u H locs hw2 hP hD hS => ?_)
      · exact absurd ((xvb_k hc (by decide)).symm.trans hE.1) Bool.noConfusion
      have hP : va_P G vwCl (xC T ad sc M) H := hP
      have hD : va_D A (xC T ad sc M) := hD
      have er : r2 = xcnt M i := by rw [hw2.2, xka_n (by omega)]
      subst er
      refine x_calll (va_runS (As := [.long (xdc M i), .int (xcnt M i)]) (rest := []) ⟨hx, hb, hml, hown, hts⟩ (c_X3_mixed l G T _ (xdc M i) (xcnt M i)) (va_cwS 2 hts gX3_digest_X3_mixed rfl rfl rfl (by decide +kernel) ⟨Nat.le_of_ble_eq_true rfl, Nat.le_of_ble_eq_true rfl⟩) (x_preS (wc := []) hK hP hD hS hA hXB hZ [] rfl rfl _) rfl rfl hl.1 rfl (lv_room (Nat.le_of_ble_eq_true rfl)) dX3_digest_18 ⟨show i + 1 + 0 ≤ 59 by omega, show 6 * i + 6 + 0 ≤ 354 by omega⟩) hP hD hS hA [] rfl (fun _ _ _ => rfl) (fun r3 u H locs hw3 hP hD hS => ?_)
      have hP : va_P G vwCl (xC T ad sc M) H := hP
      have hD : va_D A (xC T ad sc M) := hD
      refine x_topl (y := xdc M (i + 1)) (hw3) ?_
      refine lv_lstore_n (lv' := [(1, .long (xdc M (i + 1))), (3, .int (nI i)), (0, .ref (ad 0))]) hx hb dX3_digest_21 rfl hl (by decide) rfl (fun ls hl => ?_)
      refine lv_iinc (v := nI (i + 1)) (lv' := [(3, .int (nI (i + 1))), (1, .long (xdc M (i + 1))), (0, .ref (ad 0))]) hx hb dX3_digest_22 hl (k := 1) rfl (x_inc _) (by decide) rfl (fun ls hl => ?_)
      refine lv_goto (tgt := 6) hx hb dX3_digest_25 (by decide) ?_
      exact ih1 (i + 1) (by omega) (by omega) _ _ hP hD hS ls (lv_sub hl [0, 1, 2] rfl)
    · obtain rfl : i = 7 := by omega
      refine lv_icmp_ge (tgt := 28) hx hb dX3_digest_9 (by decide) (fun _ => ?_) (fun c_ => absurd (nI_le (by omega) (by omega)) c_)
      refine lv_aload_n hx hb dX3_digest_28 rfl (lv_at hl 2 rfl) ?_
      refine va_get (D := G) (ci := 3) (v := .ref (ad 1)) (C := RX3) (T := TX3) (N := 10) hx hb hts hiX3 hown hK hP 0 rfl rfl 0 (by decide) (hts (.fieldLink RX3 12 "CardFans" "pack" "LCardFans$Row;") (by decide +kernel)) (fun _ h9 => h9) rfl dX3_digest_29 ?_
      refine lv_lload_n hx hb dX3_digest_32 rfl (lv_at hl 1 rfl) ?_
      refine x_calll (va_runV (As := [.long (xdc M 7)]) (rest := []) ⟨hx, hb, hml, hown, hts⟩ (c_X1_mixedInto l G T _ (ad 1) (ad 2) (ad 3) (mpk M) (sc 0) (xdc M 7)) (cwV 1 hts gX3_digest_X1_mixedInto rfl rfl rfl (by decide +kernel) ⟨Nat.le_of_ble_eq_true rfl, Nat.le_of_ble_eq_true rfl⟩) (x_preV (wc := [(ad 1, .inr (1, [.ref (ad 2), .ref (ad 3)])), (ad 2, .inl (T 0, 16, .inl (mpk M))), (ad 3, .inl (T 0, 16, .inl (sc 0)))]) hK hP hD hS hA hXB hZ [1, 2, 3] rfl rfl _ _ 1 1 rfl rfl) rfl rfl hl.1 rfl (lv_room (Nat.le_of_ble_eq_true rfl)) dX3_digest_33 ⟨Nat.le_of_ble_eq_true rfl, Nat.le_of_ble_eq_true rfl⟩) hP hD hS hA [1, 2, 3] rfl (fun _ _ _ => rfl) (fun r1 u H locs hw1 hP hD hS => ?_)
      have hP : va_P G vwCl (xC T ad sc M) H := hP
      have hD : va_D A (xC T ad sc M) := hD
      refine x_topl (y := xdW M 0) (hw1) ?_
      refine lv_lstore_n (lv' := [(1, .long (xdW M 0)), (3, .int (nI 7)), (0, .ref (ad 0))]) hx hb dX3_digest_36 rfl hl (by decide) rfl (fun ls hl => ?_)
      refine lv_iconst (v := nI 0) hx hb dX3_digest_37 (by decide) ?_
      refine lv_istore_n (lv' := [(3, .int (nI 0)), (1, .long (xdW M 0)), (0, .ref (ad 0))]) hx hb dX3_digest_38 rfl hl (by decide) rfl (fun ls hl => ?_)
      suffices LP2 : ∀ (n2 : Nat) (i : Nat), (i ≤ mnw M) → (mnw M < i + n2) → ∀ (H : Heap) (locs : List Loc), va_P G vwCl (xC T ad sc M) H → va_D A (xC T ad sc M) → va_S A s.heap H locs → ∀ (ls : Array Slot), lv_has ls 7 [(3, .int (nI i)), (1, .long (xdW M i)), (0, .ref (ad 0))] → W p l e (headSpec wsX3_digest ({ frames := 9, cells := 59, slots := 354, locals := 153 })).room s m ([.ref (ad 0)] : List Value).toArray below meth c H locs (7 + 13 * i) (42 + 78 * i) (MQ below (va_Ql (fun (r : Int64) (u : Unit) => r = xdP M (mnp M)) (fun u t => va_P G vwCl (xC T ad sc M) t.heap) A) ([.ref (ad 0)] : List Value).toArray s 59 354 A) (F0 m 39 ls []) from LP2 5 0 (Nat.zero_le _) (by omega) _ _ hP hD hS ls (lv_sub hl [0, 1, 2] rfl)
      clear hP hD hS hl
      intro n2
      induction n2 with
      | zero => intro i hi2 hn2 H locs _ _ _ ls _; exfalso; omega
      | succ n2 ih2 =>
        intro i hi2 hn2 H locs hP hD hS ls hl
        refine lv_iload_n hx hb dX3_digest_39 rfl (lv_at hl 0 rfl) ?_
        refine lv_aload_n hx hb dX3_digest_40 rfl (lv_at hl 2 rfl) ?_
        refine va_get (D := G) (ci := 3) (v := .int (nI (mnw M))) (C := RX3) (T := TX3) (N := 10) hx hb hts hiX3 hown hK hP 0 rfl rfl 4 (by decide) (hts (.fieldLink RX3 73 "CardFans" "watcherCount" "I") (by decide +kernel)) (fun _ h9 => h9) rfl dX3_digest_41 ?_
        by_cases hc : i < mnw M
        · refine lv_icmp_ge (tgt := 60) hx hb dX3_digest_44 (by decide) (fun c_ => absurd c_ (nI_ge hc (by omega))) (fun _ => ?_)
          refine lv_aload_n hx hb dX3_digest_47 rfl (lv_at hl 2 rfl) ?_
          refine lv_lload_n hx hb dX3_digest_48 rfl (lv_at hl 1 rfl) ?_
          refine lv_iload_n hx hb dX3_digest_49 rfl (lv_at hl 0 rfl) ?_
          refine x_calllW (va_runV (As := [.long (xdW M i), .int (nI i)]) (rest := []) ⟨hx, hb, hml, hown, hts⟩ (c_X3_watcherMixedInto l hsl G T _ ad sc M (xdW M i) i hc hn4 hsh) (cwV 2 hts gX3_digest_X3_watcherMixedInto rfl rfl rfl (by decide +kernel) ⟨Nat.le_of_ble_eq_true rfl, Nat.le_of_ble_eq_true rfl⟩) (x_preVW (wc := (xC T ad sc M)) hK hP hD hS hA hXB hZ _ _ 0 3 rfl rfl) rfl rfl hl.1 rfl (lv_room (Nat.le_of_ble_eq_true rfl)) dX3_digest_50 ⟨show 7 + 13 * i + 13 ≤ 59 by omega, show 42 + 78 * i + 78 ≤ 354 by omega⟩) hP hD hS hA (fun _ _ _ => hD.self) (fun r2 u H locs hw2 hP hD hS => ?_)
          have hP : va_P G vwCl (xC T ad sc M) H := hP
          have hD : va_D A (xC T ad sc M) := hD
          refine x_topl (y := xdW M (i + 1)) (hw2) ?_
          refine lv_lstore_n (lv' := [(1, .long (xdW M (i + 1))), (3, .int (nI i)), (0, .ref (ad 0))]) hx hb dX3_digest_53 rfl hl (by decide) rfl (fun ls hl => ?_)
          refine lv_iinc (v := nI (i + 1)) (lv' := [(3, .int (nI (i + 1))), (1, .long (xdW M (i + 1))), (0, .ref (ad 0))]) hx hb dX3_digest_54 hl (k := 1) rfl (x_inc _) (by decide) rfl (fun ls hl => ?_)
          refine lv_goto (tgt := 39) hx hb dX3_digest_57 (by decide) ?_
          exact ih2 (i + 1) (by omega) (by omega) _ _ hP hD hS ls (lv_sub hl [0, 1, 2] rfl)
        · obtain rfl : i = mnw M := by omega
          refine lv_icmp_ge (tgt := 60) hx hb dX3_digest_44 (by decide) (fun _ => ?_) (fun c_ => absurd (nI_le (by omega) (by omega)) c_)
          refine lv_aload_n hx hb dX3_digest_60 rfl (lv_at hl 2 rfl) ?_
          refine va_get (D := G) (ci := 3) (v := .ref (ad 8)) (C := RX3) (T := TX3) (N := 10) hx hb hts hiX3 hown hK hP 0 rfl rfl 3 (by decide) (hts (.fieldLink RX3 27 "CardFans" "players" "[LCardFans$Player;") (by decide +kernel)) (fun _ h9 => h9) rfl dX3_digest_61 ?_
          refine lv_astore_n (lv' := [(3, .ref (ad 8)), (1, .long (xdW M ((mnw M)))), (0, .ref (ad 0))]) hx hb dX3_digest_64 rfl hl (by decide) rfl (fun ls hl => ?_)
          refine lv_aload_n hx hb dX3_digest_65 rfl (lv_at hl 0 rfl) ?_
          refine va_alen hx hb hK hP 8 1 rfl rfl (v := nI 4) rfl dX3_digest_66 ?_
          refine lv_istore (lv' := [(4, .int (nI 4)), (3, .ref (ad 8)), (1, .long (xdW M ((mnw M)))), (0, .ref (ad 0))]) hx hb dX3_digest_67 hl (by decide) rfl (fun ls hl => ?_)
          refine lv_iconst (v := nI 0) hx hb dX3_digest_69 (by decide) ?_
          refine lv_istore (lv' := [(5, .int (nI 0)), (4, .int (nI 4)), (3, .ref (ad 8)), (1, .long (xdW M ((mnw M)))), (0, .ref (ad 0))]) hx hb dX3_digest_70 hl (by decide) rfl (fun ls hl => ?_)
          refine W.widen (k := 59) (n := 354) (by omega) (by omega) ?_
          have e0 : xdW M (mnw M) = xdP M (min 0 (mnp M)) := by rw [Nat.zero_min]; rfl
          rw [e0] at hl
          suffices LP3 : ∀ (n3 : Nat) (i : Nat), (i ≤ 4) → (4 < i + n3) → ∀ (H : Heap) (locs : List Loc), va_P G vwCl (xC T ad sc M) H → va_D A (xC T ad sc M) → va_S A s.heap H locs → ∀ (ls : Array Slot), lv_has ls 7 [(5, .int (nI i)), (1, .long (xdP M (min i (mnp M)))), (3, .ref (ad 8)), (4, .int (nI 4)), (0, .ref (ad 0))] → W p l e (headSpec wsX3_digest ({ frames := 9, cells := 59, slots := 354, locals := 153 })).room s m ([.ref (ad 0)] : List Value).toArray below meth c H locs 59 354 (MQ below (va_Ql (fun (r : Int64) (u : Unit) => r = xdP M (mnp M)) (fun u t => va_P G vwCl (xC T ad sc M) t.heap) A) ([.ref (ad 0)] : List Value).toArray s 59 354 A) (F0 m 72 ls []) from LP3 5 0 (by decide) (by decide) _ _ hP hD hS ls (lv_sub hl [0, 3, 2, 1, 4] rfl)
          clear hP hD hS hl
          intro n3
          induction n3 with
          | zero => intro i hi4 hn3 H locs _ _ _ ls _; exfalso; omega
          | succ n3 ih3 =>
            intro i hi4 hn3 H locs hP hD hS ls hl
            refine lv_iload hx hb dX3_digest_72 (lv_at hl 0 rfl) ?_
            refine lv_iload hx hb dX3_digest_74 (lv_at hl 3 rfl) ?_
            by_cases hc : i < 4
            · refine lv_icmp_ge (tgt := 114) hx hb dX3_digest_76 (by decide) (fun c_ => absurd c_ (nI_ge hc (by decide))) (fun _ => ?_)
              refine lv_aload_n hx hb dX3_digest_79 rfl (lv_at hl 2 rfl) ?_
              refine lv_iload hx hb dX3_digest_80 (lv_at hl 0 rfl) ?_
              by_cases hi : i < mnp M
              · refine x_aald hx hb hK hP 8 1 rfl rfl hc (by decide) dX3_digest_82 (v := .ref (ad (i + 25))) (by show va_rf (if i < mnp M then _ else _) = _; rw [if_pos hi]; rfl) ?_
                refine lv_astore (lv' := [(6, .ref (ad (i + 25))), (5, .int (nI i)), (1, .long (xdP M (min i (mnp M)))), (3, .ref (ad 8)), (4, .int (nI 4)), (0, .ref (ad 0))]) hx hb dX3_digest_83 hl (by decide) rfl (fun ls hl => ?_)
                refine lv_aload hx hb dX3_digest_85 (lv_at hl 0 rfl) ?_
                refine lv_ifnull hx hb dX3_digest_87 ?_
                rw [Nat.min_eq_left (Nat.le_of_lt hi)] at hl
                refine lv_lload_n hx hb dX3_digest_90 rfl (lv_at hl 2 rfl) ?_
                refine lv_aload hx hb dX3_digest_91 (lv_at hl 0 rfl) ?_
                refine va_getN (D := G) (ci := 0) (v := .int (mhb M i)) (C := RX0) (T := TX0) (N := 2) hx hb hts hiX0 hown hK hP (9 + 4 * mnw M + i) (xC_p T ad sc M hn4 hm4 hi) rfl 0 (by decide) (va_Nw.use rfl (hXB.1 (.fieldLinkNest RX3 138 RX0 "habit" "I" "CardFans") (by decide +kernel))) (fun _ h9 => h9) rfl dX3_digest_93 ?_
                refine x_calll (va_runS (As := [.long (xdP M i), .int (mhb M i)]) (rest := []) ⟨hx, hb, hml, hown, hts⟩ (c_X3_mixed l G T _ (xdP M i) (mhb M i)) (va_cwS 2 hts gX3_digest_X3_mixed rfl rfl rfl (by decide +kernel) ⟨Nat.le_of_ble_eq_true rfl, Nat.le_of_ble_eq_true rfl⟩) (x_preS (wc := []) hK hP hD hS hA hXB hZ [] rfl rfl _) rfl rfl hl.1 rfl (lv_room (Nat.le_of_ble_eq_true rfl)) dX3_digest_96 ⟨Nat.le_of_ble_eq_true rfl, Nat.le_of_ble_eq_true rfl⟩) hP hD hS hA [] rfl (fun _ _ _ => rfl) (fun r5 u H locs hw5 hP hD hS => ?_)
                have hP : va_P G vwCl (xC T ad sc M) H := hP
                have hD : va_D A (xC T ad sc M) := hD
                refine x_topl (y := (xdP M i * 31 + (mhb M i).toInt64)) (hw5) ?_
                refine lv_aload hx hb dX3_digest_99 (lv_at hl 0 rfl) ?_
                refine va_getN (D := G) (ci := 0) (v := .int (mtk M i)) (C := RX0) (T := TX0) (N := 2) hx hb hts hiX0 hown hK hP (9 + 4 * mnw M + i) (xC_p T ad sc M hn4 hm4 hi) rfl 1 (by decide) (va_Nw.use rfl (hXB.1 (.fieldLinkNest RX3 150 RX0 "latestCard" "I" "CardFans") (by decide +kernel))) (fun _ h9 => h9) rfl dX3_digest_101 ?_
                refine x_calll (va_runS (As := [.long (xdP M i * 31 + (mhb M i).toInt64), .int (mtk M i)]) (rest := []) ⟨hx, hb, hml, hown, hts⟩ (c_X3_mixed l G T _ (xdP M i * 31 + (mhb M i).toInt64) (mtk M i)) (va_cwS 2 hts gX3_digest_X3_mixed rfl rfl rfl (by decide +kernel) ⟨Nat.le_of_ble_eq_true rfl, Nat.le_of_ble_eq_true rfl⟩) (x_preS (wc := []) hK hP hD hS hA hXB hZ [] rfl rfl _) rfl rfl hl.1 rfl (lv_room (Nat.le_of_ble_eq_true rfl)) dX3_digest_104 ⟨Nat.le_of_ble_eq_true rfl, Nat.le_of_ble_eq_true rfl⟩) hP hD hS hA [] rfl (fun _ _ _ => rfl) (fun r6 u H locs hw6 hP hD hS => ?_)
                have hP : va_P G vwCl (xC T ad sc M) H := hP
                have hD : va_D A (xC T ad sc M) := hD
                refine x_topl (y := xdP M (min (i + 1) (mnp M))) (by rw [hw6, Nat.min_eq_left hi]; rfl) ?_
                refine lv_lstore_n (lv' := [(1, .long (xdP M (min (i + 1) (mnp M)))), (6, .ref (ad (i + 25))), (5, .int (nI i)), (3, .ref (ad 8)), (4, .int (nI 4)), (0, .ref (ad 0))]) hx hb dX3_digest_107 rfl hl (by decide) rfl (fun ls hl => ?_)
                refine lv_iinc (v := nI (i + 1)) (lv' := [(5, .int (nI (i + 1))), (1, .long (xdP M (min (i + 1) (mnp M)))), (6, .ref (ad (i + 25))), (3, .ref (ad 8)), (4, .int (nI 4)), (0, .ref (ad 0))]) hx hb dX3_digest_108 hl (k := 2) rfl (x_inc _) (by decide) rfl (fun ls hl => ?_)
                refine lv_goto (tgt := 72) hx hb dX3_digest_111 (by decide) ?_
                exact ih3 (i + 1) (by omega) (by omega) _ _ hP hD hS ls (lv_sub hl [0, 1, 3, 4, 5] rfl)
              · refine x_aald hx hb hK hP 8 1 rfl rfl hc (by decide) dX3_digest_82 (v := .null) (by show va_rf (if i < mnp M then _ else _) = _; rw [if_neg hi]; rfl) ?_
                refine lv_astoreN (lv' := [(6, .null), (5, .int (nI i)), (1, .long (xdP M (min i (mnp M)))), (3, .ref (ad 8)), (4, .int (nI 4)), (0, .ref (ad 0))]) hx hb dX3_digest_83 hl (by decide) rfl (fun ls hl => ?_)
                refine lv_aloadN hx hb dX3_digest_85 (lv_at hl 0 rfl) ?_
                refine lv_ifnullN (tgt := 108) hx hb dX3_digest_87 (by decide) ?_
                rw [show min i (mnp M) = min (i + 1) (mnp M) by omega] at hl
                refine lv_iinc (v := nI (i + 1)) (lv' := [(5, .int (nI (i + 1))), (6, .null), (1, .long (xdP M (min (i + 1) (mnp M)))), (3, .ref (ad 8)), (4, .int (nI 4)), (0, .ref (ad 0))]) hx hb dX3_digest_108 hl (k := 1) rfl (x_inc _) (by decide) rfl (fun ls hl => ?_)
                refine lv_goto (tgt := 72) hx hb dX3_digest_111 (by decide) ?_
                exact ih3 (i + 1) (by omega) (by omega) _ _ hP hD hS ls (lv_sub hl [0, 2, 3, 4, 5] rfl)
            · refine lv_icmp_ge (tgt := 114) hx hb dX3_digest_76 (by decide) (fun _ => ?_) (fun c_ => absurd (nI_le (by omega) (by omega)) c_)
              refine lv_lload_n hx hb dX3_digest_114 rfl (lv_at hl 1 rfl) ?_
              exact W.lret (v := xdP M (min i (mnp M))) hx hb hr (fun t9_ ht hW => ⟨⟨xdP M (min i (mnp M)), (), rfl, by rw [Nat.min_eq_right (by omega)], x_at ht hP⟩, hS.F ht⟩) hS.2.2 dX3_digest_115
end XF5
