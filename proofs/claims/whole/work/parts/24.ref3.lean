section XR3
set_option maxHeartbeats 4000000 in
set_option maxRecDepth 100000 in
/-- go -/
theorem c_X4_go (l : Launch) (G : va_G) (T : Nat → ClassId) (sz : Nat) (bd : Nat → Nat) (thr : Int32) (M : XM) (a b o : Int32) (hn4 : mnw M ≤ 4) : Met l yX4_go wsX4_go ({ frames := 2, cells := 5, slots := 80, locals := 46 }) (va_Pc [.ref (bd 0), .int a, .int b, .int o] (xPre G T (xD T bd thr M) sz)) (va_Qi (fun (r : Int32) (u : Int32) => (xwb a b = true ∧ u = nI 0 ∧ r = mpk M (xpb (xka a) (xka b) 0)) ∨ (xwb a b = false ∧ u = nI 1)) (fun u t => va_P G vwCl (xD T bd u (if xwb a b then xMgo M (xka a) (xka b) o else M)) t.heap) (va_A (xD T bd thr M) sz)) 5 80 (va_A (xD T bd thr M) sz) := by
  refine Met.ofW (cc := cX4_go) (maxL := 5) (ret := (some .int)) (by decide +kernel) rfl ?_
  intro p e s m args below meth c s₁ B hml hv
  obtain ⟨rfl, hsz, hP, hK, hD0, hXB, hZ⟩ := hv
  have hx := B.exec
  have hb := B.bytes
  have hr := B.returns
  have hts := atoms_spec (ws := wsX4_go) B.pre
  have hown : s.vm.findClass RX4 = some m.cls := findClass_of_methodNamed B.named
  have hlocks := B.notSynchronized
  subst hsz
  have hD := hD0.self (sz := s.heap.size)
  generalize hAe : va_A (xD T bd thr M) s.heap.size = A at hD hZ ⊢
  have hA : ∀ q : Nat, s.heap.size ≤ q → A q := fun q h => by rw [← hAe]; exact Or.inr h
  have hS : va_S A s.heap s.heap [] := va_S.rf
  have hP : va_P G vwCl (xD T bd thr M) s.heap := hP
  have hiX4 : ∀ w ∈ u_ws RX4 TX4 14, w ∈ wsX4_go := by decide +kernel
  have hl := lv_entry ([.ref (bd 0), .int a, .int b, .int o]) (n := 5) (Nat.le_of_ble_eq_true rfl)
  rw [lg_entry_eq]
  generalize (lg_sl ([.ref (bd 0), .int a, .int b, .int o]) ++ List.replicate (5 - (lg_sl ([.ref (bd 0), .int a, .int b, .int o])).length) Slot.unset).toArray = ls at hl ⊢
  have hl : lv_has ls 5 [(0, .ref (bd 0)), (1, .int a), (2, .int b), (3, .int o)] := hl
  refine lv_aload_n hx hb dX4_go_0 rfl (lv_at hl 0 rfl) ?_
  refine lv_iconst (v := nI 0) hx hb dX4_go_1 (by decide) ?_
  refine va_put (D := G) (ci := 4) (v := .int (nI 0)) (ty := .int) (C := RX4) (T := TX4) (N := 14) hx hb hts hiX4 tyX4 tyX4_ok nmX4 hown hK hP hD hS 0 rfl rfl 0 (by decide) (hts (.fieldLink RX4 33 "CardFansModel" "thrown" "I") (by decide +kernel)) (fun _ h9 => h9) rfl (by decide +kernel) rfl rfl (Nat.le_of_ble_eq_true rfl) dX4_go_2 (fun H locs hP hD hS => ?_)
  have hP : va_P G vwCl (xD T bd (nI 0) M) H := hP
  have hD : va_D A (xD T bd (nI 0) M) := hD
  refine lv_iload_n hx hb dX4_go_5 rfl (lv_at hl 1 rfl) ?_
  refine lv_iload_n hx hb dX4_go_6 rfl (lv_at hl 2 rfl) ?_
  refine x_calli (va_runS (As := [.int a, .int b]) (rest := []) ⟨hx, hb, hml, hown, hts⟩ (c_X4_isWay l G T _ a b) (va_cwS 2 hts gX4_go_X4_isWay rfl rfl rfl (by decide +kernel) ⟨Nat.le_of_ble_eq_true rfl, Nat.le_of_ble_eq_true rfl⟩) (x_preS (wc := []) hK hP hD hS hA hXB hZ [] rfl rfl _) rfl rfl hl.1 rfl (lv_room (Nat.le_of_ble_eq_true rfl)) dX4_go_7 ⟨Nat.le_of_ble_eq_true rfl, Nat.le_of_ble_eq_true rfl⟩) hP hD hS hA [] rfl (fun _ _ _ => rfl) (fun r0 u0 H locs hw0 hP hD hS => ?_)
  have hP : va_P G vwCl (xD T bd (nI 0) M) H := hP
  have hD : va_D A (xD T bd (nI 0) M) := hD
  refine lv_if_ne (tgt := 19) hx hb dX4_go_10 (by decide) (fun c0 => ?_) (fun c0 => ?_)
  · have hv0 := xb_of_ne hw0 c0
    rw [if_pos hv0]
    obtain ⟨k, n, hkn, rfl, rfl⟩ := xwb_iff.mp hv0
    have hb5 := xwn_lt hkn
    rw [xka_n (show k < 2 ^ 31 by omega), xka_n (show n < 2 ^ 31 by omega)]
    refine lv_aload_n hx hb dX4_go_19 rfl (lv_at hl 0 rfl) ?_
    refine va_get (D := G) (ci := 4) (v := .ref (bd 1)) (C := RX4) (T := TX4) (N := 14) hx hb hts hiX4 hown hK hP 0 rfl rfl 1 (by decide) (hts (.fieldLink RX4 9 "CardFansModel" "pack" "[I") (by decide +kernel)) (fun _ h9 => h9) rfl dX4_go_20 ?_
    refine lv_iload_n hx hb dX4_go_23 rfl (lv_at hl 1 rfl) ?_
    refine lv_iload_n hx hb dX4_go_24 rfl (lv_at hl 2 rfl) ?_
    refine x_callv (va_runS (As := [.ref (bd 1), .int (nI k), .int (nI n)]) (rest := []) ⟨hx, hb, hml, hown, hts⟩ (c_X4_move l G T _ (bd 1) (mpk M) k n hkn) (va_cwS 3 hts gX4_go_X4_move rfl rfl rfl (by decide +kernel) ⟨Nat.le_of_ble_eq_true rfl, Nat.le_of_ble_eq_true rfl⟩) (x_preS (wc := [(bd 1, .inl (T 0, 16, .inl (mpk M)))]) hK hP hD hS hA hXB hZ [1] rfl rfl _) rfl rfl hl.1 rfl (lv_room (Nat.le_of_ble_eq_true rfl)) dX4_go_25 ⟨Nat.le_of_ble_eq_true rfl, Nat.le_of_ble_eq_true rfl⟩) hP hD hS hA [1] rfl (fun _ _ => rfl) (fun u2 H locs _ hP hD hS => ?_)
    have hP : va_P G vwCl (xD T bd (nI 0) (xmk (fun j => mpk M (xpb k n j)) (mth M) (msh M) (man M) (mgl M) (mhb M) (mtk M) (mnw M) (mnp M) (mle M) (mwy M) (mfc M) (mta M))) H := hP
    have hD : va_D A (xD T bd (nI 0) (xmk (fun j => mpk M (xpb k n j)) (mth M) (msh M) (man M) (mgl M) (mhb M) (mtk M) (mnw M) (mnp M) (mle M) (mwy M) (mfc M) (mta M))) := hD
    refine lv_iconst (v := nI 0) hx hb dX4_go_28 (by decide) ?_
    refine lv_istore (lv' := [(4, .int (nI 0)), (0, .ref (bd 0)), (1, .int (nI k)), (2, .int (nI n)), (3, .int o)]) hx hb dX4_go_29 hl (by decide) rfl (fun ls hl => ?_)
    have e0 : xmv M k n (fun w => decide (w < 0) && decide (¬ o = 0)) = mth M := xmv_no M k n (fun j => by rw [decide_eq_false (Nat.not_lt_zero j)]; rfl)
    have hP : va_P G vwCl (xD T bd (nI 0) (xMv M (fun j => mpk M (xpb k n j)) (xmv M k n (fun w => decide (w < 0) && decide (¬ o = 0))))) H := by unfold xMv; rw [e0]; exact hP
    have hD : va_D A (xD T bd (nI 0) (xMv M (fun j => mpk M (xpb k n j)) (xmv M k n (fun w => decide (w < 0) && decide (¬ o = 0))))) := by unfold xMv; rw [e0]; exact hD
    suffices LPn : ∀ (nn : Nat) (i : Nat), (i ≤ mnw M) → (4 < i + nn) → ∀ (H : Heap) (locs : List Loc), va_P G vwCl (xD T bd (nI 0) (xMv M (fun j => mpk M (xpb k n j)) (xmv M k n (fun w => decide (w < i) && decide (¬ o = 0))))) H → va_D A (xD T bd (nI 0) (xMv M (fun j => mpk M (xpb k n j)) (xmv M k n (fun w => decide (w < i) && decide (¬ o = 0))))) → va_S A s.heap H locs → ∀ (ls : Array Slot), lv_has ls 5 [(4, .int (nI i)), (0, .ref (bd 0)), (1, .int (nI k)), (2, .int (nI n)), (3, .int o)] → W p l e (headSpec wsX4_go ({ frames := 2, cells := 5, slots := 80, locals := 46 })).room s m ([.ref (bd 0), .int (nI k), .int (nI n), .int o] : List Value).toArray below meth c H locs (1 + i) (16 * (1 + i)) (MQ below (va_Qi (fun (r : Int32) (u : Int32) => (xwb (nI k) (nI n) = true ∧ u = nI 0 ∧ r = mpk M (xpb k n 0)) ∨ (xwb (nI k) (nI n) = false ∧ u = nI 1)) (fun u t => va_P G vwCl (xD T bd u (xMgo M k n o)) t.heap) A) ([.ref (bd 0), .int (nI k), .int (nI n), .int o] : List Value).toArray s 5 80 A) (F0 m 31 ls []) from LPn 5 0 (Nat.zero_le _) (by decide) _ _ hP hD hS ls (lv_sub hl [0, 1, 2, 3, 4] rfl)
    clear hP hD hS hl
    intro nn
    induction nn with
    | zero => intro i hi4 hn H locs _ _ _ ls _; exfalso; omega
    | succ nn ihn =>
      intro i hi4 hn H locs hP hD hS ls hl
      refine lv_iload hx hb dX4_go_31 (lv_at hl 0 rfl) ?_
      refine lv_aload_n hx hb dX4_go_33 rfl (lv_at hl 1 rfl) ?_
      refine va_get (D := G) (ci := 4) (v := .int (nI (mnw (xMv M (fun j => mpk M (xpb k n j)) (xmv M k n (fun w => decide (w < i) && decide (¬ o = 0))))))) (C := RX4) (T := TX4) (N := 14) hx hb hts hiX4 hown hK hP 0 rfl rfl 2 (by decide) (hts (.fieldLink RX4 41 "CardFansModel" "watchers" "I") (by decide +kernel)) (fun _ h9 => h9) rfl dX4_go_34 ?_
      refine x_topi (y := nI (mnw M)) (rfl) ?_
      by_cases hc : i < mnw M
      · refine lv_icmp_ge (tgt := 62) hx hb dX4_go_37 (by decide) (fun c_ => absurd c_ (nI_ge hc (by omega))) (fun _ => ?_)
        refine lv_iload_n hx hb dX4_go_40 rfl (lv_at hl 4 rfl) ?_
        refine lv_if_eq (tgt := 62) hx hb dX4_go_41 (by decide) (fun c1 => ?_) (fun c1 => ?_)
        · have eth : (if o = 0 then mth M else xmv M k n (fun w => decide (w < mnw M))) = xmv M k n (fun w => decide (w < i) && decide (¬ o = 0)) := by rw [if_pos c1]; exact (xmv_no M k n (fun j => by rw [decide_eq_false (p := ¬ o = 0) (fun h => h c1), Bool.and_false])).symm
          refine lv_aload_n hx hb dX4_go_62 rfl (lv_at hl 1 rfl) ?_
          refine lv_dup hx hb dX4_go_63 rfl ?_
          refine va_get (D := G) (ci := 4) (v := .int (mwy (xMv M (fun j => mpk M (xpb k n j)) (xmv M k n (fun w => decide (w < i) && decide (¬ o = 0)))))) (C := RX4) (T := TX4) (N := 14) hx hb hts hiX4 hown hK hP 0 rfl rfl 11 (by decide) (hts (.fieldLink RX4 71 "CardFansModel" "ways" "I") (by decide +kernel)) (fun _ h9 => h9) rfl dX4_go_64 ?_
          refine lv_iconst (v := nI 1) hx hb dX4_go_67 (by decide) ?_
          refine lv_iadd hx hb dX4_go_68 ?_
          refine x_topi (y := (mwy M + nI 1)) (rfl) ?_
          refine va_put (D := G) (ci := 4) (v := .int (mwy M + nI 1)) (ty := .int) (C := RX4) (T := TX4) (N := 14) hx hb hts hiX4 tyX4 tyX4_ok nmX4 hown hK hP hD hS 0 rfl rfl 11 (by decide) (hts (.fieldLink RX4 71 "CardFansModel" "ways" "I") (by decide +kernel)) (fun _ h9 => h9) rfl (by decide +kernel) rfl rfl (Nat.le_of_ble_eq_true rfl) dX4_go_69 (fun H locs hP hD hS => ?_)
          have hP : va_P G vwCl (xD T bd (nI 0) (xmk (fun j => mpk M (xpb k n j)) (xmv M k n (fun w => decide (w < i) && decide (¬ o = 0))) (msh M) (man M) (mgl M) (mhb M) (mtk M) (mnw M) (mnp M) (mle M) (mwy M + nI 1) (mfc M) (mta M))) H := hP
          have hD : va_D A (xD T bd (nI 0) (xmk (fun j => mpk M (xpb k n j)) (xmv M k n (fun w => decide (w < i) && decide (¬ o = 0))) (msh M) (man M) (mgl M) (mhb M) (mtk M) (mnw M) (mnp M) (mle M) (mwy M + nI 1) (mfc M) (mta M))) := hD
          refine lv_aload_n hx hb dX4_go_72 rfl (lv_at hl 1 rfl) ?_
          refine va_get (D := G) (ci := 4) (v := .ref (bd 1)) (C := RX4) (T := TX4) (N := 14) hx hb hts hiX4 hown hK hP 0 rfl rfl 1 (by decide) (hts (.fieldLink RX4 9 "CardFansModel" "pack" "[I") (by decide +kernel)) (fun _ h9 => h9) rfl dX4_go_73 ?_
          refine lv_iconst (v := nI 0) hx hb dX4_go_76 (by decide) ?_
          refine x_iald hx hb hK hP 1 0 (f := (mpk (xmk (fun j => mpk M (xpb k n j)) (xmv M k n (fun w => decide (w < i) && decide (¬ o = 0))) (msh M) (man M) (mgl M) (mhb M) (mtk M) (mnw M) (mnp M) (mle M) (mwy M + nI 1) (mfc M) (mta M)))) (n := 16) rfl rfl (by decide) (by decide) dX4_go_77 ?_
          have hP : va_P G vwCl (xD T bd (nI 0) (xMgo M k n o)) H := by unfold xMgo; rw [eth]; exact hP
          refine W.widen (k := 5) (n := 80) (by omega) (by omega) ?_
          exact W.iret (v := (mpk (xmk (fun j => mpk M (xpb k n j)) (xmv M k n (fun w => decide (w < i) && decide (¬ o = 0))) (msh M) (man M) (mgl M) (mhb M) (mtk M) (mnw M) (mnp M) (mle M) (mwy M + nI 1) (mfc M) (mta M))) 0) hx hb hr (fun t9_ ht hW => ⟨⟨(mpk (xmk (fun j => mpk M (xpb k n j)) (xmv M k n (fun w => decide (w < i) && decide (¬ o = 0))) (msh M) (man M) (mgl M) (mhb M) (mtk M) (mnw M) (mnp M) (mle M) (mwy M + nI 1) (mfc M) (mta M))) 0, (nI 0), rfl, Or.inl ⟨hv0, rfl, rfl⟩, x_at ht hP⟩, hS.F ht⟩) hS.2.2 dX4_go_78
        · have hk4 : i < 4 := by omega
          refine lv_aload_n hx hb dX4_go_44 rfl (lv_at hl 1 rfl) ?_
          refine va_get (D := G) (ci := 4) (v := .ref (bd 3)) (C := RX4) (T := TX4) (N := 14) hx hb hts hiX4 hown hK hP 0 rfl rfl 4 (by decide) (hts (.fieldLink RX4 18 "CardFansModel" "thinks" "[[I") (by decide +kernel)) (fun _ h9 => h9) rfl dX4_go_45 ?_
          refine lv_iload hx hb dX4_go_48 (lv_at hl 0 rfl) ?_
          refine x_aaldA hx hb hK hP 3 3 rfl rfl hk4 (by decide) dX4_go_50 (v := .ref (bd (8 + i))) (by show va_rf (if i < 4 then _ else _) = _; rw [if_pos hk4]; rfl) ?_
          refine lv_iload_n hx hb dX4_go_51 rfl (lv_at hl 2 rfl) ?_
          refine lv_iload_n hx hb dX4_go_52 rfl (lv_at hl 3 rfl) ?_
          have hcc : (fun w => decide (w < i) && decide (¬ o = 0)) i = false := by show (decide (i < i) && _) = _; rw [decide_eq_false (Nat.lt_irrefl i)]; rfl
          refine x_callv (va_runS (As := [.ref (bd (8 + i)), .int (nI k), .int (nI n)]) (rest := []) ⟨hx, hb, hml, hown, hts⟩ (c_X4_move l G T _ (bd (8 + i)) (xmv M k n (fun w => decide (w < i) && decide (¬ o = 0)) i) k n hkn) (va_cwS 3 hts gX4_go_X4_move rfl rfl rfl (by decide +kernel) ⟨Nat.le_of_ble_eq_true rfl, Nat.le_of_ble_eq_true rfl⟩) (x_preS (wc := [(bd (8 + i), .inl (T 0, 16, .inl (xmv M k n (fun w => decide (w < i) && decide (¬ o = 0)) i)))]) hK hP hD hS hA hXB hZ [8 + i] (xD_ris T bd (nI 0) (xMv M (fun j => mpk M (xpb k n j)) (xmv M k n (fun w => decide (w < i) && decide (¬ o = 0)))) hk4) rfl _) rfl rfl hl.1 rfl (lv_room (Nat.le_of_ble_eq_true rfl)) dX4_go_53 ⟨show 1 + i + 1 ≤ 5 by omega, show 16 * (1 + i) + 16 ≤ 80 by omega⟩) hP hD hS hA [8 + i] (xD_ris T bd (nI 0) (xMv M (fun j => mpk M (xpb k n j)) (xmv M k n (fun w => decide (w < i) && decide (¬ o = 0)))) hk4) (fun _ _ => rfl) (fun u2 H locs _ hP hD hS => ?_)
          rw [xD_rrep T bd (nI 0) (xMv M (fun j => mpk M (xpb k n j)) (xmv M k n (fun w => decide (w < i) && decide (¬ o = 0)))) hk4 _, show xMr (xMv M (fun j => mpk M (xpb k n j)) (xmv M k n (fun w => decide (w < i) && decide (¬ o = 0)))) i (fun j => xmv M k n (fun w => decide (w < i) && decide (¬ o = 0)) i (xpb k n j)) = (xMv M (fun j => mpk M (xpb k n j)) (xmv M k n (fun w => decide (w < (i + 1)) && decide (¬ o = 0)))) from by unfold xMr xMv; show xmk _ (va_up (xmv M k n (fun w => decide (w < i) && decide (¬ o = 0))) i _) _ _ _ _ _ _ _ _ _ _ _ = _; rw [xmv_at M k n hcc, xmv_up M k n (c' := (fun w => decide (w < (i + 1)) && decide (¬ o = 0))) hcc (by show (decide (i < i + 1) && decide (¬ o = 0)) = true; rw [decide_eq_true (Nat.lt_succ_self i), decide_eq_true c1]; rfl) (fun j hj => by show (decide (j < i + 1) && _) = (decide (j < i) && _); rw [xpl_s hj])]] at hP hD
          have hP : va_P G vwCl (xD T bd (nI 0) (xMv M (fun j => mpk M (xpb k n j)) (xmv M k n (fun w => decide (w < (i + 1)) && decide (¬ o = 0))))) H := hP
          have hD : va_D A (xD T bd (nI 0) (xMv M (fun j => mpk M (xpb k n j)) (xmv M k n (fun w => decide (w < (i + 1)) && decide (¬ o = 0))))) := hD
          refine lv_iinc (v := nI (i + 1)) (lv' := [(4, .int (nI (i + 1))), (0, .ref (bd 0)), (1, .int (nI k)), (2, .int (nI n)), (3, .int o)]) hx hb dX4_go_56 hl (k := 0) rfl (x_inc _) (by decide) rfl (fun ls hl => ?_)
          refine lv_goto (tgt := 31) hx hb dX4_go_59 (by decide) ?_
          exact ihn (i + 1) (by omega) (by omega) _ _ hP hD hS ls (lv_sub hl [0, 1, 2, 3, 4] rfl)
      · refine lv_icmp_ge (tgt := 62) hx hb dX4_go_37 (by decide) (fun _ => ?_) (fun c_ => absurd (nI_le (by omega) (by omega)) c_)
        have eth : (if o = 0 then mth M else xmv M k n (fun w => decide (w < mnw M))) = xmv M k n (fun w => decide (w < i) && decide (¬ o = 0)) := by
            by_cases ho : o = 0
            · rw [if_pos ho]; exact (xmv_no M k n (fun j => by rw [decide_eq_false (p := ¬ o = 0) (fun h => h ho), Bool.and_false])).symm
            · rw [if_neg ho]; exact xmv_cong M k n (fun j => by rw [decide_eq_true (p := ¬ o = 0) ho, Bool.and_true]; exact decide_eq_decide.mpr (by omega))
        refine lv_aload_n hx hb dX4_go_62 rfl (lv_at hl 1 rfl) ?_
        refine lv_dup hx hb dX4_go_63 rfl ?_
        refine va_get (D := G) (ci := 4) (v := .int (mwy (xMv M (fun j => mpk M (xpb k n j)) (xmv M k n (fun w => decide (w < i) && decide (¬ o = 0)))))) (C := RX4) (T := TX4) (N := 14) hx hb hts hiX4 hown hK hP 0 rfl rfl 11 (by decide) (hts (.fieldLink RX4 71 "CardFansModel" "ways" "I") (by decide +kernel)) (fun _ h9 => h9) rfl dX4_go_64 ?_
        refine lv_iconst (v := nI 1) hx hb dX4_go_67 (by decide) ?_
        refine lv_iadd hx hb dX4_go_68 ?_
        refine x_topi (y := (mwy M + nI 1)) (rfl) ?_
        refine va_put (D := G) (ci := 4) (v := .int (mwy M + nI 1)) (ty := .int) (C := RX4) (T := TX4) (N := 14) hx hb hts hiX4 tyX4 tyX4_ok nmX4 hown hK hP hD hS 0 rfl rfl 11 (by decide) (hts (.fieldLink RX4 71 "CardFansModel" "ways" "I") (by decide +kernel)) (fun _ h9 => h9) rfl (by decide +kernel) rfl rfl (Nat.le_of_ble_eq_true rfl) dX4_go_69 (fun H locs hP hD hS => ?_)
        have hP : va_P G vwCl (xD T bd (nI 0) (xmk (fun j => mpk M (xpb k n j)) (xmv M k n (fun w => decide (w < i) && decide (¬ o = 0))) (msh M) (man M) (mgl M) (mhb M) (mtk M) (mnw M) (mnp M) (mle M) (mwy M + nI 1) (mfc M) (mta M))) H := hP
        have hD : va_D A (xD T bd (nI 0) (xmk (fun j => mpk M (xpb k n j)) (xmv M k n (fun w => decide (w < i) && decide (¬ o = 0))) (msh M) (man M) (mgl M) (mhb M) (mtk M) (mnw M) (mnp M) (mle M) (mwy M + nI 1) (mfc M) (mta M))) := hD
        refine lv_aload_n hx hb dX4_go_72 rfl (lv_at hl 1 rfl) ?_
        refine va_get (D := G) (ci := 4) (v := .ref (bd 1)) (C := RX4) (T := TX4) (N := 14) hx hb hts hiX4 hown hK hP 0 rfl rfl 1 (by decide) (hts (.fieldLink RX4 9 "CardFansModel" "pack" "[I") (by decide +kernel)) (fun _ h9 => h9) rfl dX4_go_73 ?_
        refine lv_iconst (v := nI 0) hx hb dX4_go_76 (by decide) ?_
        refine x_iald hx hb hK hP 1 0 (f := (mpk (xmk (fun j => mpk M (xpb k n j)) (xmv M k n (fun w => decide (w < i) && decide (¬ o = 0))) (msh M) (man M) (mgl M) (mhb M) (mtk M) (mnw M) (mnp M) (mle M) (mwy M + nI 1) (mfc M) (mta M)))) (n := 16) rfl rfl (by decide) (by decide) dX4_go_77 ?_
        have hP : va_P G vwCl (xD T bd (nI 0) (xMgo M k n o)) H := by unfold xMgo; rw [eth]; exact hP
        refine W.widen (k := 5) (n := 80) (by omega) (by omega) ?_
        exact W.iret (v := (mpk (xmk (fun j => mpk M (xpb k n j)) (xmv M k n (fun w => decide (w < i) && decide (¬ o = 0))) (msh M) (man M) (mgl M) (mhb M) (mtk M) (mnw M) (mnp M) (mle M) (mwy M + nI 1) (mfc M) (mta M))) 0) hx hb hr (fun t9_ ht hW => ⟨⟨(mpk (xmk (fun j => mpk M (xpb k n j)) (xmv M k n (fun w => decide (w < i) && decide (¬ o = 0))) (msh M) (man M) (mgl M) (mhb M) (mtk M) (mnw M) (mnp M) (mle M) (mwy M + nI 1) (mfc M) (mta M))) 0, (nI 0), rfl, Or.inl ⟨hv0, rfl, rfl⟩, x_at ht hP⟩, hS.F ht⟩) hS.2.2 dX4_go_78
  · refine lv_aload_n hx hb dX4_go_13 rfl (lv_at hl 0 rfl) ?_
    refine lv_iconst (v := nI 1) hx hb dX4_go_14 (by decide) ?_
    refine x_calliW (va_runV (As := [.int (nI 1)]) (rest := []) ⟨hx, hb, hml, hown, hts⟩ (c_X4_no l G T _ bd (nI 0) M (nI 1)) (cwV 1 hts gX4_go_X4_no rfl rfl rfl (by decide +kernel) ⟨Nat.le_of_ble_eq_true rfl, Nat.le_of_ble_eq_true rfl⟩) (x_preVW (wc := (xD T bd (nI 0) M)) hK hP hD hS hA hXB hZ _ _ 0 4 rfl rfl) rfl rfl hl.1 rfl (lv_room (Nat.le_of_ble_eq_true rfl)) dX4_go_15 ⟨Nat.le_of_ble_eq_true rfl, Nat.le_of_ble_eq_true rfl⟩) hP hD hS hA (fun _ _ _ => xd_self rfl hD) (fun r8 u8 H locs hw8 hP hD hS => ?_)
    have hP : va_P G vwCl (xD T bd (nI 1) M) H := hP
    have hD : va_D A (xD T bd (nI 1) M) := hD
    refine W.widen (k := 5) (n := 80) (by omega) (by omega) ?_
    exact W.iret (v := r8) hx hb hr (fun t9_ ht hW => ⟨⟨r8, (nI 1), rfl, Or.inr ⟨xb_of_eq hw0 c0, rfl⟩, x_at ht (by rw [if_neg (by rw [xb_of_eq hw0 c0]; exact Bool.false_ne_true)]; exact hP)⟩, hS.F ht⟩) hS.2.2 dX4_go_18

theorem xct_end {p : Nat → Bool} {a : Nat} (h : ∀ j, a ≤ j → p j = false) : ∀ {n : Nat}, a ≤ n → xct p n = xct p a
  | 0, hn => by rw [show a = 0 by omega]
  | n + 1, hn => by
    rcases Nat.lt_or_ge n a with q | q
    · rw [show a = n + 1 by omega]
    · rw [xct_f (by rw [h n q]; exact Bool.false_ne_true)]
      exact xct_end h q

set_option maxHeartbeats 4000000 in
set_option maxRecDepth 100000 in
/-- falseCut -/
theorem c_X4_falseCut (l : Launch) (G : va_G) (T : Nat → ClassId) (sz : Nat) (bd : Nat → Nat) (thr : Int32) (M : XM) (a : Int32) (hn4 : mnw M ≤ 4) (hsh : ∀ w, w < mnw M → msh M w = nI 0 ∨ msh M w = nI 1) : Met l yX4_falseCut wsX4_falseCut ({ frames := 2, cells := 4, slots := 64, locals := 46 }) (va_Pc [.ref (bd 0), .int a] (xPre G T (xD T bd thr M) sz)) (va_Qi (fun (r : Int32) (u : Int32) => (xwb (nI 0) a = true ∧ u = nI 0 ∧ r = nI (xct (fun w => decide (w < mnw M) && decide (msh M w = 0)) 4)) ∨ (xwb (nI 0) a = false ∧ u = nI 1)) (fun u t => va_P G vwCl (xD T bd u (if xwb (nI 0) a then xMfc M (xka a) else M)) t.heap) (va_A (xD T bd thr M) sz)) 4 64 (va_A (xD T bd thr M) sz) := by
  refine Met.ofW (cc := cX4_falseCut) (maxL := 4) (ret := (some .int)) (by decide +kernel) rfl ?_
  intro p e s m args below meth c s₁ B hml hv
  obtain ⟨rfl, hsz, hP, hK, hD0, hXB, hZ⟩ := hv
  have hx := B.exec
  have hb := B.bytes
  have hr := B.returns
  have hts := atoms_spec (ws := wsX4_falseCut) B.pre
  have hown : s.vm.findClass RX4 = some m.cls := findClass_of_methodNamed B.named
  have hlocks := B.notSynchronized
  subst hsz
  have hD := hD0.self (sz := s.heap.size)
  generalize hAe : va_A (xD T bd thr M) s.heap.size = A at hD hZ ⊢
  have hA : ∀ q : Nat, s.heap.size ≤ q → A q := fun q h => by rw [← hAe]; exact Or.inr h
  have hS : va_S A s.heap s.heap [] := va_S.rf
  have hP : va_P G vwCl (xD T bd thr M) s.heap := hP
  have hiX4 : ∀ w ∈ u_ws RX4 TX4 14, w ∈ wsX4_falseCut := by decide +kernel
  have hl := lv_entry ([.ref (bd 0), .int a]) (n := 4) (Nat.le_of_ble_eq_true rfl)
  rw [lg_entry_eq]
  generalize (lg_sl ([.ref (bd 0), .int a]) ++ List.replicate (4 - (lg_sl ([.ref (bd 0), .int a])).length) Slot.unset).toArray = ls at hl ⊢
  have hl : lv_has ls 4 [(0, .ref (bd 0)), (1, .int a)] := hl
  refine lv_aload_n hx hb dX4_falseCut_0 rfl (lv_at hl 0 rfl) ?_
  refine lv_iconst (v := nI 0) hx hb dX4_falseCut_1 (by decide) ?_
  refine va_put (D := G) (ci := 4) (v := .int (nI 0)) (ty := .int) (C := RX4) (T := TX4) (N := 14) hx hb hts hiX4 tyX4 tyX4_ok nmX4 hown hK hP hD hS 0 rfl rfl 0 (by decide) (hts (.fieldLink RX4 33 "CardFansModel" "thrown" "I") (by decide +kernel)) (fun _ h9 => h9) rfl (by decide +kernel) rfl rfl (Nat.le_of_ble_eq_true rfl) dX4_falseCut_2 (fun H locs hP hD hS => ?_)
  have hP : va_P G vwCl (xD T bd (nI 0) M) H := hP
  have hD : va_D A (xD T bd (nI 0) M) := hD
  refine lv_iconst (v := nI 0) hx hb dX4_falseCut_5 (by decide) ?_
  refine lv_iload_n hx hb dX4_falseCut_6 rfl (lv_at hl 1 rfl) ?_
  refine x_calli (va_runS (As := [.int (nI 0), .int a]) (rest := []) ⟨hx, hb, hml, hown, hts⟩ (c_X4_isWay l G T _ (nI 0) a) (va_cwS 2 hts gX4_falseCut_X4_isWay rfl rfl rfl (by decide +kernel) ⟨Nat.le_of_ble_eq_true rfl, Nat.le_of_ble_eq_true rfl⟩) (x_preS (wc := []) hK hP hD hS hA hXB hZ [] rfl rfl _) rfl rfl hl.1 rfl (lv_room (Nat.le_of_ble_eq_true rfl)) dX4_falseCut_7 ⟨Nat.le_of_ble_eq_true rfl, Nat.le_of_ble_eq_true rfl⟩) hP hD hS hA [] rfl (fun _ _ _ => rfl) (fun r0 u0 H locs hw0 hP hD hS => ?_)
  have hP : va_P G vwCl (xD T bd (nI 0) M) H := hP
  have hD : va_D A (xD T bd (nI 0) M) := hD
  refine lv_if_ne (tgt := 19) hx hb dX4_falseCut_10 (by decide) (fun c0 => ?_) (fun c0 => ?_)
  · have hv0 := xb_of_ne hw0 c0
    rw [if_pos hv0]
    obtain ⟨k, n, hkn, ek, rfl⟩ := xwb_iff.mp hv0
    have hb5 := xwn_lt hkn
    obtain rfl : 0 = k := (nI_eq (by decide) (by omega)).mp ek
    rw [xka_n (show n < 2 ^ 31 by omega)]
    refine lv_iconst (v := nI 0) hx hb dX4_falseCut_19 (by decide) ?_
    refine lv_istore_n (lv' := [(2, .int (nI 0)), (0, .ref (bd 0)), (1, .int (nI n))]) hx hb dX4_falseCut_20 rfl hl (by decide) rfl (fun ls hl => ?_)
    refine lv_iconst (v := nI 0) hx hb dX4_falseCut_21 (by decide) ?_
    refine lv_istore_n (lv' := [(3, .int (nI 0)), (2, .int (nI 0)), (0, .ref (bd 0)), (1, .int (nI n))]) hx hb dX4_falseCut_22 rfl hl (by decide) rfl (fun ls hl => ?_)
    have e0 : xmv M 0 n (fun w => decide (w < 0) && (decide (w < mnw M) && decide (msh M w = 0))) = mth M := xmv_no M 0 n (fun j => by rw [decide_eq_false (Nat.not_lt_zero j)]; rfl)
    have hP : va_P G vwCl (xD T bd (nI 0) (xMv M (mpk M) (xmv M 0 n (fun w => decide (w < 0) && (decide (w < mnw M) && decide (msh M w = 0)))))) H := by unfold xMv; rw [e0]; exact hP
    have hD : va_D A (xD T bd (nI 0) (xMv M (mpk M) (xmv M 0 n (fun w => decide (w < 0) && (decide (w < mnw M) && decide (msh M w = 0)))))) := by unfold xMv; rw [e0]; exact hD
    suffices LPn : ∀ (nn : Nat) (i : Nat), (i ≤ mnw M) → (4 < i + nn) → ∀ (H : Heap) (locs : List Loc), va_P G vwCl (xD T bd (nI 0) (xMv M (mpk M) (xmv M 0 n (fun w => decide (w < i) && (decide (w < mnw M) && decide (msh M w = 0)))))) H → va_D A (xD T bd (nI 0) (xMv M (mpk M) (xmv M 0 n (fun w => decide (w < i) && (decide (w < mnw M) && decide (msh M w = 0)))))) → va_S A s.heap H locs → ∀ (ls : Array Slot), lv_has ls 4 [(3, .int (nI i)), (2, .int (nI (xct (fun w => decide (w < mnw M) && decide (msh M w = 0)) i))), (0, .ref (bd 0)), (1, .int (nI n))] → W p l e (headSpec wsX4_falseCut ({ frames := 2, cells := 4, slots := 64, locals := 46 })).room s m ([.ref (bd 0), .int (nI n)] : List Value).toArray below meth c H locs (0 + i) (16 * (0 + i)) (MQ below (va_Qi (fun (r : Int32) (u : Int32) => (xwb (nI 0) (nI n) = true ∧ u = nI 0 ∧ r = nI (xct (fun w => decide (w < mnw M) && decide (msh M w = 0)) 4)) ∨ (xwb (nI 0) (nI n) = false ∧ u = nI 1)) (fun u t => va_P G vwCl (xD T bd u (xMfc M n)) t.heap) A) ([.ref (bd 0), .int (nI n)] : List Value).toArray s 4 64 A) (F0 m 23 ls []) from LPn 5 0 (Nat.zero_le _) (by decide) _ _ hP hD hS ls (lv_sub hl [0, 1, 2, 3] rfl)
    clear hP hD hS hl
    intro nn
    induction nn with
    | zero => intro i hi4 hn H locs _ _ _ ls _; exfalso; omega
    | succ nn ihn =>
      intro i hi4 hn H locs hP hD hS ls hl
      refine lv_iload_n hx hb dX4_falseCut_23 rfl (lv_at hl 0 rfl) ?_
      refine lv_aload_n hx hb dX4_falseCut_24 rfl (lv_at hl 2 rfl) ?_
      refine va_get (D := G) (ci := 4) (v := .int (nI (mnw (xMv M (mpk M) (xmv M 0 n (fun w => decide (w < i) && (decide (w < mnw M) && decide (msh M w = 0)))))))) (C := RX4) (T := TX4) (N := 14) hx hb hts hiX4 hown hK hP 0 rfl rfl 2 (by decide) (hts (.fieldLink RX4 41 "CardFansModel" "watchers" "I") (by decide +kernel)) (fun _ h9 => h9) rfl dX4_falseCut_25 ?_
      refine x_topi (y := nI (mnw M)) (rfl) ?_
      by_cases hc : i < mnw M
      · have hk4 : i < 4 := by omega
        refine lv_icmp_ge (tgt := 64) hx hb dX4_falseCut_28 (by decide) (fun c_ => absurd c_ (nI_ge hc (by omega))) (fun _ => ?_)
        refine lv_aload_n hx hb dX4_falseCut_31 rfl (lv_at hl 2 rfl) ?_
        refine va_get (D := G) (ci := 4) (v := .ref (bd 2)) (C := RX4) (T := TX4) (N := 14) hx hb hts hiX4 hown hK hP 0 rfl rfl 3 (by decide) (hts (.fieldLink RX4 13 "CardFansModel" "isSharp" "[I") (by decide +kernel)) (fun _ h9 => h9) rfl dX4_falseCut_32 ?_
        refine lv_iload_n hx hb dX4_falseCut_35 rfl (lv_at hl 0 rfl) ?_
        refine x_iald hx hb hK hP 2 0 (f := (msh (xMv M (mpk M) (xmv M 0 n (fun w => decide (w < i) && (decide (w < mnw M) && decide (msh M w = 0))))))) (n := 4) rfl rfl hk4 (by decide) dX4_falseCut_36 ?_
        refine lv_iconst (v := nI 1) hx hb dX4_falseCut_37 (by decide) ?_
        refine lv_icmp_ne (tgt := 44) hx hb dX4_falseCut_38 (by decide) (fun c1 => ?_) (fun c1 => ?_)
        · have hs0 : msh M i = 0 := by rcases hsh i hc with h | h; exact h; exact absurd h c1
          have hp1 : (fun w => decide (w < mnw M) && decide (msh M w = 0)) i = true := by show (decide (i < mnw M) && decide (msh M i = 0)) = true; rw [decide_eq_true hc, decide_eq_true hs0]; rfl
          refine lv_aload_n hx hb dX4_falseCut_44 rfl (lv_at hl 2 rfl) ?_
          refine va_get (D := G) (ci := 4) (v := .ref (bd 3)) (C := RX4) (T := TX4) (N := 14) hx hb hts hiX4 hown hK hP 0 rfl rfl 4 (by decide) (hts (.fieldLink RX4 18 "CardFansModel" "thinks" "[[I") (by decide +kernel)) (fun _ h9 => h9) rfl dX4_falseCut_45 ?_
          refine lv_iload_n hx hb dX4_falseCut_48 rfl (lv_at hl 0 rfl) ?_
          refine x_aaldA hx hb hK hP 3 3 rfl rfl hk4 (by decide) dX4_falseCut_49 (v := .ref (bd (8 + i))) (by show va_rf (if i < 4 then _ else _) = _; rw [if_pos hk4]; rfl) ?_
          refine lv_iconst (v := nI 0) hx hb dX4_falseCut_50 (by decide) ?_
          refine lv_iload_n hx hb dX4_falseCut_51 rfl (lv_at hl 3 rfl) ?_
          have hcc : (fun w => decide (w < i) && (decide (w < mnw M) && decide (msh M w = 0))) i = false := by show (decide (i < i) && _) = _; rw [decide_eq_false (Nat.lt_irrefl i)]; rfl
          refine x_callv (va_runS (As := [.ref (bd (8 + i)), .int (nI 0), .int (nI n)]) (rest := []) ⟨hx, hb, hml, hown, hts⟩ (c_X4_move l G T _ (bd (8 + i)) (xmv M 0 n (fun w => decide (w < i) && (decide (w < mnw M) && decide (msh M w = 0))) i) 0 n hkn) (va_cwS 3 hts gX4_falseCut_X4_move rfl rfl rfl (by decide +kernel) ⟨Nat.le_of_ble_eq_true rfl, Nat.le_of_ble_eq_true rfl⟩) (x_preS (wc := [(bd (8 + i), .inl (T 0, 16, .inl (xmv M 0 n (fun w => decide (w < i) && (decide (w < mnw M) && decide (msh M w = 0))) i)))]) hK hP hD hS hA hXB hZ [8 + i] (xD_ris T bd (nI 0) (xMv M (mpk M) (xmv M 0 n (fun w => decide (w < i) && (decide (w < mnw M) && decide (msh M w = 0))))) hk4) rfl _) rfl rfl hl.1 rfl (lv_room (Nat.le_of_ble_eq_true rfl)) dX4_falseCut_52 ⟨show 0 + i + 1 ≤ 4 by omega, show 16 * (0 + i) + 16 ≤ 64 by omega⟩) hP hD hS hA [8 + i] (xD_ris T bd (nI 0) (xMv M (mpk M) (xmv M 0 n (fun w => decide (w < i) && (decide (w < mnw M) && decide (msh M w = 0))))) hk4) (fun _ _ => rfl) (fun u2 H locs _ hP hD hS => ?_)
          rw [xD_rrep T bd (nI 0) (xMv M (mpk M) (xmv M 0 n (fun w => decide (w < i) && (decide (w < mnw M) && decide (msh M w = 0))))) hk4 _, show xMr (xMv M (mpk M) (xmv M 0 n (fun w => decide (w < i) && (decide (w < mnw M) && decide (msh M w = 0))))) i (fun j => xmv M 0 n (fun w => decide (w < i) && (decide (w < mnw M) && decide (msh M w = 0))) i (xpb 0 n j)) = (xMv M (mpk M) (xmv M 0 n (fun w => decide (w < (i + 1)) && (decide (w < mnw M) && decide (msh M w = 0))))) from by unfold xMr xMv; show xmk _ (va_up (xmv M 0 n (fun w => decide (w < i) && (decide (w < mnw M) && decide (msh M w = 0)))) i _) _ _ _ _ _ _ _ _ _ _ _ = _; rw [xmv_at M 0 n hcc, xmv_up M 0 n (c' := (fun w => decide (w < (i + 1)) && (decide (w < mnw M) && decide (msh M w = 0)))) hcc (by show (decide (i < i + 1) && (fun w => decide (w < mnw M) && decide (msh M w = 0)) i) = true; rw [decide_eq_true (Nat.lt_succ_self i), hp1]; rfl) (fun j hj => by show (decide (j < i + 1) && _) = (decide (j < i) && _); rw [xpl_s hj])]] at hP hD
          have hP : va_P G vwCl (xD T bd (nI 0) (xMv M (mpk M) (xmv M 0 n (fun w => decide (w < (i + 1)) && (decide (w < mnw M) && decide (msh M w = 0)))))) H := hP
          have hD : va_D A (xD T bd (nI 0) (xMv M (mpk M) (xmv M 0 n (fun w => decide (w < (i + 1)) && (decide (w < mnw M) && decide (msh M w = 0)))))) := hD
          refine lv_iinc (v := nI (xct (fun w => decide (w < mnw M) && decide (msh M w = 0)) (i + 1))) (lv' := [(2, .int (nI (xct (fun w => decide (w < mnw M) && decide (msh M w = 0)) (i + 1)))), (3, .int (nI i)), (0, .ref (bd 0)), (1, .int (nI n))]) hx hb dX4_falseCut_55 hl (k := 1) rfl (by rw [xct_t hp1]; exact x_inc _) (by decide) rfl (fun ls hl => ?_)
          refine lv_iinc (v := nI (i + 1)) (lv' := [(3, .int (nI (i + 1))), (2, .int (nI (xct (fun w => decide (w < mnw M) && decide (msh M w = 0)) (i + 1)))), (0, .ref (bd 0)), (1, .int (nI n))]) hx hb dX4_falseCut_58 hl (k := 1) rfl (x_inc _) (by decide) rfl (fun ls hl => ?_)
          refine lv_goto (tgt := 23) hx hb dX4_falseCut_61 (by decide) ?_
          exact ihn (i + 1) (by omega) (by omega) _ _ hP hD hS ls (lv_sub hl [0, 1, 2, 3] rfl)
        · refine lv_goto (tgt := 58) hx hb dX4_falseCut_41 (by decide) ?_
          have hp0 : (fun w => decide (w < mnw M) && decide (msh M w = 0)) i = false := by show (decide (i < mnw M) && decide (msh M i = 0)) = false; rw [decide_eq_false (p := msh M i = 0) (fun h => by have := h.symm.trans c1; exact absurd this (by decide)), Bool.and_false]
          have ee : xmv M 0 n (fun w => decide (w < i) && (decide (w < mnw M) && decide (msh M w = 0))) = xmv M 0 n (fun w => decide (w < (i + 1)) && (decide (w < mnw M) && decide (msh M w = 0))) := xmv_cong M 0 n (xfc_cn (p := (fun w => decide (w < mnw M) && decide (msh M w = 0))) hp0)
          rw [ee] at hP hD
          have e1 : xct (fun w => decide (w < mnw M) && decide (msh M w = 0)) (i + 1) = xct (fun w => decide (w < mnw M) && decide (msh M w = 0)) i := xct_f (fun h => Bool.false_ne_true (hp0.symm.trans h))
          rw [← e1] at hl
          refine lv_iinc (v := nI (i + 1)) (lv' := [(3, .int (nI (i + 1))), (2, .int (nI (xct (fun w => decide (w < mnw M) && decide (msh M w = 0)) (i + 1)))), (0, .ref (bd 0)), (1, .int (nI n))]) hx hb dX4_falseCut_58 hl (k := 0) rfl (x_inc _) (by decide) rfl (fun ls hl => ?_)
          refine lv_goto (tgt := 23) hx hb dX4_falseCut_61 (by decide) ?_
          refine W.widen (k := 0 + (i + 1)) (n := 16 * (0 + (i + 1))) (by omega) (by omega) ?_
          exact ihn (i + 1) (by omega) (by omega) _ _ hP hD hS ls (lv_sub hl [0, 1, 2, 3] rfl)
      · have ei : i = mnw M := by omega
        have eth : xmv M 0 n (fun w => decide (w < mnw M) && decide (msh M w = 0)) = xmv M 0 n (fun w => decide (w < i) && (decide (w < mnw M) && decide (msh M w = 0))) := xmv_cong M 0 n (fun j => by rw [ei]; by_cases hj : j < mnw M; rw [decide_eq_true hj]; rfl; rw [decide_eq_false hj]; rfl)
        have ect : xct (fun w => decide (w < mnw M) && decide (msh M w = 0)) 4 = xct (fun w => decide (w < mnw M) && decide (msh M w = 0)) i := by rw [ei]; exact xct_end (fun j hj => by show (decide (j < mnw M) && _) = false; rw [decide_eq_false (by omega)]; rfl) hn4
        refine lv_icmp_ge (tgt := 64) hx hb dX4_falseCut_28 (by decide) (fun _ => ?_) (fun c_ => absurd (nI_le (by omega) (by omega)) c_)
        refine lv_aload_n hx hb dX4_falseCut_64 rfl (lv_at hl 2 rfl) ?_
        refine lv_dup hx hb dX4_falseCut_65 rfl ?_
        refine va_get (D := G) (ci := 4) (v := .int (mfc (xMv M (mpk M) (xmv M 0 n (fun w => decide (w < i) && (decide (w < mnw M) && decide (msh M w = 0))))))) (C := RX4) (T := TX4) (N := 14) hx hb hts hiX4 hown hK hP 0 rfl rfl 12 (by decide) (hts (.fieldLink RX4 74 "CardFansModel" "falseCuts" "I") (by decide +kernel)) (fun _ h9 => h9) rfl dX4_falseCut_66 ?_
        refine lv_iconst (v := nI 1) hx hb dX4_falseCut_69 (by decide) ?_
        refine lv_iadd hx hb dX4_falseCut_70 ?_
        refine x_topi (y := (mfc M + nI 1)) (rfl) ?_
        refine va_put (D := G) (ci := 4) (v := .int (mfc M + nI 1)) (ty := .int) (C := RX4) (T := TX4) (N := 14) hx hb hts hiX4 tyX4 tyX4_ok nmX4 hown hK hP hD hS 0 rfl rfl 12 (by decide) (hts (.fieldLink RX4 74 "CardFansModel" "falseCuts" "I") (by decide +kernel)) (fun _ h9 => h9) rfl (by decide +kernel) rfl rfl (Nat.le_of_ble_eq_true rfl) dX4_falseCut_71 (fun H locs hP hD hS => ?_)
        have hP : va_P G vwCl (xD T bd (nI 0) (xmk (mpk M) (xmv M 0 n (fun w => decide (w < i) && (decide (w < mnw M) && decide (msh M w = 0)))) (msh M) (man M) (mgl M) (mhb M) (mtk M) (mnw M) (mnp M) (mle M) (mwy M) (mfc M + nI 1) (mta M))) H := hP
        have hD : va_D A (xD T bd (nI 0) (xmk (mpk M) (xmv M 0 n (fun w => decide (w < i) && (decide (w < mnw M) && decide (msh M w = 0)))) (msh M) (man M) (mgl M) (mhb M) (mtk M) (mnw M) (mnp M) (mle M) (mwy M) (mfc M + nI 1) (mta M))) := hD
        refine lv_iload_n hx hb dX4_falseCut_74 rfl (lv_at hl 1 rfl) ?_
        have hP : va_P G vwCl (xD T bd (nI 0) (xMfc M n)) H := by unfold xMfc; rw [eth]; exact hP
        refine W.widen (k := 4) (n := 64) (by omega) (by omega) ?_
        exact W.iret (v := nI (xct (fun w => decide (w < mnw M) && decide (msh M w = 0)) i)) hx hb hr (fun t9_ ht hW => ⟨⟨nI (xct (fun w => decide (w < mnw M) && decide (msh M w = 0)) i), (nI 0), rfl, Or.inl ⟨hv0, rfl, by rw [ect]⟩, x_at ht hP⟩, hS.F ht⟩) hS.2.2 dX4_falseCut_75
  · refine lv_aload_n hx hb dX4_falseCut_13 rfl (lv_at hl 0 rfl) ?_
    refine lv_iconst (v := nI 1) hx hb dX4_falseCut_14 (by decide) ?_
    refine x_calliW (va_runV (As := [.int (nI 1)]) (rest := []) ⟨hx, hb, hml, hown, hts⟩ (c_X4_no l G T _ bd (nI 0) M (nI 1)) (cwV 1 hts gX4_falseCut_X4_no rfl rfl rfl (by decide +kernel) ⟨Nat.le_of_ble_eq_true rfl, Nat.le_of_ble_eq_true rfl⟩) (x_preVW (wc := (xD T bd (nI 0) M)) hK hP hD hS hA hXB hZ _ _ 0 4 rfl rfl) rfl rfl hl.1 rfl (lv_room (Nat.le_of_ble_eq_true rfl)) dX4_falseCut_15 ⟨Nat.le_of_ble_eq_true rfl, Nat.le_of_ble_eq_true rfl⟩) hP hD hS hA (fun _ _ _ => xd_self rfl hD) (fun r8 u8 H locs hw8 hP hD hS => ?_)
    have hP : va_P G vwCl (xD T bd (nI 1) M) H := hP
    have hD : va_D A (xD T bd (nI 1) M) := hD
    refine W.widen (k := 4) (n := 64) (by omega) (by omega) ?_
    exact W.iret (v := r8) hx hb hr (fun t9_ ht hW => ⟨⟨r8, (nI 1), rfl, Or.inr ⟨xb_of_eq hw0 c0, rfl⟩, x_at ht (by rw [if_neg (by rw [xb_of_eq hw0 c0]; exact Bool.false_ne_true)]; exact hP)⟩, hS.F ht⟩) hS.2.2 dX4_falseCut_18
end XR3
