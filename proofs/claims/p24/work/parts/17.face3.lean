section XF3
theorem xup_self (f : Nat → Int32) (k : Nat) : upd f k (f k) = f := by
  funext j
  unfold upd
  split
  · rename_i e; rw [e]
  · rfl
theorem xpl_s {i j : Nat} (h : j ≠ i) : decide (j < i + 1) = decide (j < i) := decide_eq_decide.mpr (by omega)
abbrev xMv (M : XM) (pk1 : Nat → Int32) (th1 : Nat → Nat → Int32) : XM := xmk pk1 th1 (msh M) (man M) (mgl M) (mhb M) (mtk M) (mnw M) (mnp M) (mle M) (mwy M) (mfc M) (mta M)
def xMgo (M : XM) (k n : Nat) (o : Int32) : XM := xmk (fun j => mpk M (xpb k n j)) (if o = 0 then mth M else xmv M k n (fun w => decide (w < mnw M))) (msh M) (man M) (mgl M) (mhb M) (mtk M) (mnw M) (mnp M) (mle M) (mwy M + nI 1) (mfc M) (mta M)
def xMfc (M : XM) (n : Nat) : XM := xmk (mpk M) (xmv M 0 n (fun w => decide (w < mnw M) && decide (msh M w = 0))) (msh M) (man M) (mgl M) (mhb M) (mtk M) (mnw M) (mnp M) (mle M) (mwy M) (mfc M + nI 1) (mta M)

theorem xgo_c4 {nw i : Nat} (h : nw ≤ 4) (hi : 4 ≤ i) (j : Nat) : decide (j < nw) = (decide (j < i) && decide (j < nw)) := by
  by_cases hj : j < nw
  · rw [decide_eq_true hj, decide_eq_true (show j < i by omega)]; rfl
  · rw [decide_eq_false hj, Bool.and_false]
theorem xgo_cn {nw i : Nat} (hi : ¬ i < nw) (j : Nat) : (decide (j < i) && decide (j < nw)) = (decide (j < i + 1) && decide (j < nw)) := by
  by_cases hj : j = i
  · subst hj; rw [decide_eq_false hi, Bool.and_false, Bool.and_false]
  · rw [xpl_s hj]
theorem xfc_c4 {nw i : Nat} {p : Nat → Bool} (h : nw ≤ 4) (hi : 4 ≤ i) (j : Nat) : (decide (j < nw) && p j) = (decide (j < i) && (decide (j < nw) && p j)) := by
  by_cases hj : j < nw
  · rw [decide_eq_true hj, decide_eq_true (show j < i by omega)]; rfl
  · rw [decide_eq_false hj, Bool.false_and, Bool.and_false]
theorem xfc_cn {i : Nat} {p : Nat → Bool} (hi : p i = false) (j : Nat) : (decide (j < i) && p j) = (decide (j < i + 1) && p j) := by
  by_cases hj : j = i
  · subst hj; rw [hi, Bool.and_false, Bool.and_false]
  · rw [xpl_s hj]

set_option maxHeartbeats 4000000 in
set_option maxRecDepth 100000 in
/-- go -/
theorem c_X3_go (l : Launch) (hsl : l.stackTraces = false) (G : va_G) (T : Nat → ClassId) (sz : Nat) (ad : Nat → Nat) (sc : Nat → Nat → Int32) (M : XM) (a b o : Int32) (hn4 : mnw M ≤ 4) : vx_Met l yX3_go wsX3_go ({ frames := 7, cells := 1, slots := 6, locals := 103 }) (va_Pc [.ref (ad 0), .int a, .int b, .int o] (xPre G T (xC T ad sc M) sz)) (va_Qi (fun (r : Int32) (u : Nat → Nat → Int32) => xwb a b = true ∧ r = mpk M (xpb (xka a) (xka b) 0)) (fun u t => va_P G vwCl (xC T ad u (xMgo M (xka a) (xka b) o)) t.heap) (va_A (xC T ad sc M) sz)) (vx_X (fun _ : Unit => True) (fun E _ t => (fun E => xwb a b = false ∧ E = "java/lang/IllegalArgumentException") E ∧ va_P G vwCl (xC T ad sc M) t.heap) (va_A (xC T ad sc M) sz)) 1 6 (va_A (xC T ad sc M) sz) := by
  refine vx_ofW (cc := cX3_go) (maxL := 8) (ret := (some .int)) (by decide) rfl ?_
  intro p e s m args below meth c s₁ B hml hx0 hv
  obtain ⟨rfl, hsz, hP, hK, hD0, hXB, hZ⟩ := hv
  have hx := B.exec
  have hb := B.bytes
  have hr := B.returns
  have hts := atoms_spec (ws := wsX3_go) B.pre
  have hown : s.vm.findClass RX3 = some m.cls := findClass_of_methodNamed B.named
  have hlocks := B.notSynchronized
  subst hsz
  have hD := hD0.self (sz := s.heap.size)
  generalize hAe : va_A (xC T ad sc M) s.heap.size = A at hD hZ ⊢
  have hA : ∀ q : Nat, s.heap.size ≤ q → A q := fun q h => by rw [← hAe]; exact Or.inr h
  have hS : va_S A s.heap s.heap [] := va_S.rf
  have hP : va_P G vwCl (xC T ad sc M) s.heap := hP
  have hiX3 : ∀ w ∈ u_ws RX3 TX3 10, w ∈ wsX3_go := by decide +kernel
  have hl := lv_entry ([.ref (ad 0), .int a, .int b, .int o]) (n := 8) (Nat.le_of_ble_eq_true rfl)
  rw [lg_entry_eq]
  generalize (lg_sl ([.ref (ad 0), .int a, .int b, .int o]) ++ List.replicate (8 - (lg_sl ([.ref (ad 0), .int a, .int b, .int o])).length) Slot.unset).toArray = ls at hl ⊢
  have hl : lv_has ls 8 [(0, .ref (ad 0)), (1, .int a), (2, .int b), (3, .int o)] := hl
  refine lv_iload_n hx hb dX3_go_0 rfl (lv_at hl 1 rfl) ?_
  refine lv_iload_n hx hb dX3_go_1 rfl (lv_at hl 2 rfl) ?_
  refine x_xcallv (vx_runS (As := [.int a, .int b]) (rest := []) ⟨hx, hb, hml, hown, hts⟩ (c_X3_requireWay l hsl G T _ a b) (va_cwS 2 hts gX3_go_X3_requireWay rfl rfl rfl (by decide +kernel) ⟨Nat.le_of_ble_eq_true rfl, Nat.le_of_ble_eq_true rfl⟩) (x_preS (wc := []) hK hP hD hS hA hXB hZ [] rfl rfl _) rfl rfl hl.1 rfl (lv_room (Nat.le_of_ble_eq_true rfl)) dX3_go_2 ⟨Nat.le_of_ble_eq_true rfl, Nat.le_of_ble_eq_true rfl⟩) hP hD hS hA [] rfl rfl (fun _ _ => rfl) (fun E ce q9 H locs hE hP hS c1 c2 c3 => ?_) (fun u1 H locs hv1 hP hD hS => ?_)
  · exact x_out hx0 hlocks (hE) hP hS c1 c2 c3 (by decide) (by decide)
  have hP : va_P G vwCl (xC T ad sc M) H := hP
  have hD : va_D A (xC T ad sc M) := hD
  obtain ⟨k, n, hkn, rfl, rfl⟩ := xwb_iff.mp hv1
  have hb5 := xwn_lt hkn
  rw [xka_n (show k < 2 ^ 31 by omega), xka_n (show n < 2 ^ 31 by omega)]
  refine lv_aload_n hx hb dX3_go_5 rfl (lv_at hl 0 rfl) ?_
  refine va_get (D := G) (ci := 3) (v := .ref (ad 1)) (C := RX3) (T := TX3) (N := 10) hx hb hts hiX3 hown hK hP 0 rfl rfl 0 (by decide) (hts (.fieldLink RX3 12 "CardFans" "pack" "LCardFans$Row;") (by decide +kernel)) (fun _ h9 => h9) rfl dX3_go_6 ?_
  refine lv_iload_n hx hb dX3_go_9 rfl (lv_at hl 1 rfl) ?_
  refine lv_iload_n hx hb dX3_go_10 rfl (lv_at hl 2 rfl) ?_
  refine x_callv (va_runV (As := [.int (nI k), .int (nI n)]) (rest := []) ⟨hx, hb, hml, hown, hts⟩ (c_X1_carry l G T _ (ad 1) (ad 2) (ad 3) (mpk M) (sc 0) k n hkn) (cwV 2 hts gX3_go_X1_carry rfl rfl rfl (by decide +kernel) ⟨Nat.le_of_ble_eq_true rfl, Nat.le_of_ble_eq_true rfl⟩) (x_preV (wc := [(ad 1, .inr (1, [.ref (ad 2), .ref (ad 3)])), (ad 2, .inl (T 0, 16, .inl (mpk M))), (ad 3, .inl (T 0, 16, .inl (sc 0)))]) hK hP hD hS hA hXB hZ [1, 2, 3] rfl rfl _ _ 1 1 rfl rfl) rfl rfl hl.1 rfl (lv_room (Nat.le_of_ble_eq_true rfl)) dX3_go_11 ⟨Nat.le_of_ble_eq_true rfl, Nat.le_of_ble_eq_true rfl⟩) hP hD hS hA [1, 2, 3] rfl (fun _ _ => rfl) (fun u1 H locs _ hP hD hS => ?_)
  have hP : va_P G vwCl (xC T ad (va_up sc 0 u1) (xmk (fun j => mpk M (xpb k n j)) (mth M) (msh M) (man M) (mgl M) (mhb M) (mtk M) (mnw M) (mnp M) (mle M) (mwy M) (mfc M) (mta M))) H := hP
  have hD : va_D A (xC T ad (va_up sc 0 u1) (xmk (fun j => mpk M (xpb k n j)) (mth M) (msh M) (man M) (mgl M) (mhb M) (mtk M) (mnw M) (mnp M) (mle M) (mwy M) (mfc M) (mta M))) := hD
  refine lv_iload_n hx hb dX3_go_14 rfl (lv_at hl 3 rfl) ?_
  refine lv_if_eq (tgt := 64) hx hb dX3_go_15 (by decide) (fun c1 => ?_) (fun c1 => ?_)
  · have eth : (if o = 0 then mth M else xmv M k n (fun w => decide (w < mnw M))) = mth M := if_pos c1
    refine lv_aload_n hx hb dX3_go_64 rfl (lv_at hl 0 rfl) ?_
    refine lv_dup hx hb dX3_go_65 rfl ?_
    refine va_get (D := G) (ci := 3) (v := .int (mwy (xmk (fun j => mpk M (xpb k n j)) (mth M) (msh M) (man M) (mgl M) (mhb M) (mtk M) (mnw M) (mnp M) (mle M) (mwy M) (mfc M) (mta M)))) (C := RX3) (T := TX3) (N := 10) hx hb hts hiX3 hown hK hP 0 rfl rfl 6 (by decide) (hts (.fieldLink RX3 44 "CardFans" "waysDone" "I") (by decide +kernel)) (fun _ h9 => h9) rfl dX3_go_66 ?_
    refine lv_iconst (v := nI 1) hx hb dX3_go_69 (by decide) ?_
    refine lv_iadd hx hb dX3_go_70 ?_
    refine x_topi (y := (mwy M + nI 1)) (rfl) ?_
    refine va_put (D := G) (ci := 3) (v := .int (mwy M + nI 1)) (ty := .int) (C := RX3) (T := TX3) (N := 10) hx hb hts hiX3 tyX3 tyX3_ok nmX3 hown hK hP hD hS 0 rfl rfl 6 (by decide) (hts (.fieldLink RX3 44 "CardFans" "waysDone" "I") (by decide +kernel)) (fun _ h9 => h9) rfl (by decide +kernel) rfl rfl (Nat.le_of_ble_eq_true rfl) dX3_go_71 (fun H locs hP hD hS => ?_)
    have hP : va_P G vwCl (xC T ad (va_up sc 0 u1) (xmk (fun j => mpk M (xpb k n j)) (mth M) (msh M) (man M) (mgl M) (mhb M) (mtk M) (mnw M) (mnp M) (mle M) (mwy M + nI 1) (mfc M) (mta M))) H := hP
    have hD : va_D A (xC T ad (va_up sc 0 u1) (xmk (fun j => mpk M (xpb k n j)) (mth M) (msh M) (man M) (mgl M) (mhb M) (mtk M) (mnw M) (mnp M) (mle M) (mwy M + nI 1) (mfc M) (mta M))) := hD
    refine lv_aload_n hx hb dX3_go_74 rfl (lv_at hl 0 rfl) ?_
    refine va_get (D := G) (ci := 3) (v := .ref (ad 1)) (C := RX3) (T := TX3) (N := 10) hx hb hts hiX3 hown hK hP 0 rfl rfl 0 (by decide) (hts (.fieldLink RX3 12 "CardFans" "pack" "LCardFans$Row;") (by decide +kernel)) (fun _ h9 => h9) rfl dX3_go_75 ?_
    refine lv_iconst (v := nI 0) hx hb dX3_go_78 (by decide) ?_
    refine x_calli (va_runV (As := [.int (nI 0)]) (rest := []) ⟨hx, hb, hml, hown, hts⟩ (c_X1_at l G T _ (ad 1) (ad 2) (ad 3) (fun j => mpk M (xpb k n j)) ((va_up sc 0 u1) 0) 0 (by decide)) (cwV 1 hts gX3_go_X1_at rfl rfl rfl (by decide +kernel) ⟨Nat.le_of_ble_eq_true rfl, Nat.le_of_ble_eq_true rfl⟩) (x_preV (wc := [(ad 1, .inr (1, [.ref (ad 2), .ref (ad 3)])), (ad 2, .inl (T 0, 16, .inl (mpk (xmk (fun j => mpk M (xpb k n j)) (mth M) (msh M) (man M) (mgl M) (mhb M) (mtk M) (mnw M) (mnp M) (mle M) (mwy M + nI 1) (mfc M) (mta M))))), (ad 3, .inl (T 0, 16, .inl ((va_up sc 0 u1) 0)))]) hK hP hD hS hA hXB hZ [1, 2, 3] rfl rfl _ _ 1 1 rfl rfl) rfl rfl hl.1 rfl (lv_room (Nat.le_of_ble_eq_true rfl)) dX3_go_79 ⟨Nat.le_of_ble_eq_true rfl, Nat.le_of_ble_eq_true rfl⟩) hP hD hS hA [1, 2, 3] rfl (fun _ _ _ => rfl) (fun r1 u3 H locs hw1 hP hD hS => ?_)
    have hP : va_P G vwCl (xC T ad (va_up sc 0 u1) (xmk (fun j => mpk M (xpb k n j)) (mth M) (msh M) (man M) (mgl M) (mhb M) (mtk M) (mnw M) (mnp M) (mle M) (mwy M + nI 1) (mfc M) (mta M))) H := hP
    have hD : va_D A (xC T ad (va_up sc 0 u1) (xmk (fun j => mpk M (xpb k n j)) (mth M) (msh M) (man M) (mgl M) (mhb M) (mtk M) (mnw M) (mnp M) (mle M) (mwy M + nI 1) (mfc M) (mta M))) := hD
    have hP : va_P G vwCl (xC T ad (va_up sc 0 u1) (xMgo M k n o)) H := by unfold xMgo; rw [eth]; exact hP
    refine vx_ret ?_
    exact W.iret (v := r1) hx hb hr (fun t9_ ht hW => ⟨⟨r1, (va_up sc 0 u1), rfl, ⟨hv1, hw1⟩, x_at ht hP⟩, hS.F ht⟩) hS.2.2 dX3_go_82
  · refine lv_aload_n hx hb dX3_go_18 rfl (lv_at hl 0 rfl) ?_
    refine va_get (D := G) (ci := 3) (v := .ref (ad 7)) (C := RX3) (T := TX3) (N := 10) hx hb hts hiX3 hown hK hP 0 rfl rfl 2 (by decide) (hts (.fieldLink RX3 21 "CardFans" "watchers" "[LCardFans$Watcher;") (by decide +kernel)) (fun _ h9 => h9) rfl dX3_go_19 ?_
    refine lv_astore (lv' := [(4, .ref (ad 7)), (0, .ref (ad 0)), (1, .int (nI k)), (2, .int (nI n)), (3, .int o)]) hx hb dX3_go_22 hl (by decide) rfl (fun ls hl => ?_)
    refine lv_aload hx hb dX3_go_24 (lv_at hl 0 rfl) ?_
    refine va_alen hx hb hK hP 7 2 rfl rfl (v := nI 4) rfl dX3_go_26 ?_
    refine lv_istore (lv' := [(5, .int (nI 4)), (4, .ref (ad 7)), (0, .ref (ad 0)), (1, .int (nI k)), (2, .int (nI n)), (3, .int o)]) hx hb dX3_go_27 hl (by decide) rfl (fun ls hl => ?_)
    refine lv_iconst (v := nI 0) hx hb dX3_go_29 (by decide) ?_
    refine lv_istore (lv' := [(6, .int (nI 0)), (5, .int (nI 4)), (4, .ref (ad 7)), (0, .ref (ad 0)), (1, .int (nI k)), (2, .int (nI n)), (3, .int o)]) hx hb dX3_go_30 hl (by decide) rfl (fun ls hl => ?_)
    generalize hsc1 : va_up sc 0 u1 = sc1 at hP hD
    have e0 : xmv M k n (fun w => decide (w < 0) && decide (w < mnw M)) = mth M := xmv_no M k n (fun j => by rw [decide_eq_false (Nat.not_lt_zero j)]; rfl)
    have hP : va_P G vwCl (xC T ad sc1 (xMv M (fun j => mpk M (xpb k n j)) (xmv M k n (fun w => decide (w < 0) && decide (w < mnw M))))) H := by unfold xMv; rw [e0]; exact hP
    have hD : va_D A (xC T ad sc1 (xMv M (fun j => mpk M (xpb k n j)) (xmv M k n (fun w => decide (w < 0) && decide (w < mnw M))))) := by unfold xMv; rw [e0]; exact hD
    suffices LPn : ∀ (nn : Nat) (i : Nat) (sc1 : Nat → Nat → Int32), (i ≤ 4) → (4 < i + nn) → ∀ (H : Heap) (locs : List Loc), va_P G vwCl (xC T ad sc1 (xMv M (fun j => mpk M (xpb k n j)) (xmv M k n (fun w => decide (w < i) && decide (w < mnw M))))) H → va_D A (xC T ad sc1 (xMv M (fun j => mpk M (xpb k n j)) (xmv M k n (fun w => decide (w < i) && decide (w < mnw M))))) → va_S A s.heap H locs → ∀ (ls : Array Slot), lv_has ls 8 [(6, .int (nI i)), (4, .ref (ad 7)), (5, .int (nI 4)), (0, .ref (ad 0)), (1, .int (nI k)), (2, .int (nI n)), (3, .int o)] → W p l e (headSpec wsX3_go ({ frames := 7, cells := 1, slots := 6, locals := 103 })).room s m ([.ref (ad 0), .int (nI k), .int (nI n), .int o] : List Value).toArray below meth c H locs 1 6 (vx_MQ below (va_Qi (fun (r : Int32) (u : Nat → Nat → Int32) => xwb (nI k) (nI n) = true ∧ r = mpk M (xpb k n 0)) (fun u t => va_P G vwCl (xC T ad u (xMgo M k n o)) t.heap) A) (vx_X (fun _ : Unit => True) (fun E _ t => (fun E => xwb (nI k) (nI n) = false ∧ E = "java/lang/IllegalArgumentException") E ∧ va_P G vwCl (xC T ad sc M) t.heap) A) ([.ref (ad 0), .int (nI k), .int (nI n), .int o] : List Value).toArray s 1 6 A) (F0 m 32 ls []) from LPn 5 0 sc1 (by decide) (by decide) _ _ hP hD hS ls (lv_sub hl [0, 2, 1, 3, 4, 5, 6] rfl)
    clear hP hD hS hl
    intro nn
    induction nn with
    | zero => intro i sc1 hi4 hn H locs _ _ _ ls _; exfalso; omega
    | succ nn ihn =>
      intro i sc1 hi4 hn H locs hP hD hS ls hl
      refine lv_iload hx hb dX3_go_32 (lv_at hl 0 rfl) ?_
      refine lv_iload hx hb dX3_go_34 (lv_at hl 2 rfl) ?_
      by_cases hc : i < 4
      · refine lv_icmp_ge (tgt := 64) hx hb dX3_go_36 (by decide) (fun c_ => absurd c_ (nI_ge hc (by decide))) (fun _ => ?_)
        refine lv_aload hx hb dX3_go_39 (lv_at hl 1 rfl) ?_
        refine lv_iload hx hb dX3_go_41 (lv_at hl 0 rfl) ?_
        by_cases hi : i < mnw M
        · refine x_aald hx hb hK hP 7 2 rfl rfl hc (by decide) dX3_go_43 (v := .ref (ad (9 + 4 * i))) (by show va_rf (if i < mnw M then _ else _) = _; rw [if_pos hi]; rfl) ?_
          refine lv_astore (lv' := [(7, .ref (ad (9 + 4 * i))), (6, .int (nI i)), (4, .ref (ad 7)), (5, .int (nI 4)), (0, .ref (ad 0)), (1, .int (nI k)), (2, .int (nI n)), (3, .int o)]) hx hb dX3_go_44 hl (by decide) rfl (fun ls hl => ?_)
          refine lv_aload hx hb dX3_go_46 (lv_at hl 0 rfl) ?_
          refine lv_ifnull hx hb dX3_go_48 ?_
          refine lv_aload hx hb dX3_go_51 (lv_at hl 0 rfl) ?_
          refine lv_iload_n hx hb dX3_go_53 rfl (lv_at hl 5 rfl) ?_
          refine lv_iload_n hx hb dX3_go_54 rfl (lv_at hl 6 rfl) ?_
          have hcc : (fun w => decide (w < i) && decide (w < mnw M)) i = false := by show (decide (i < i) && _) = _; rw [decide_eq_false (Nat.lt_irrefl i)]; rfl
          refine x_callv (va_runV (As := [.int (nI k), .int (nI n)]) (rest := []) ⟨hx, hb, hml, hown, hts⟩ (c_X2_follow l G T _ (ad (9 + 4 * i)) (ad (10 + 4 * i)) (ad (11 + 4 * i)) (ad (12 + 4 * i)) (msh M i) (man M i) (mgl M i) (xmv M k n (fun w => decide (w < i) && decide (w < mnw M)) i) (sc1 (i + 3)) k n hkn) (cwV 2 hts gX3_go_X2_follow rfl rfl rfl (by decide +kernel) ⟨Nat.le_of_ble_eq_true rfl, Nat.le_of_ble_eq_true rfl⟩) (x_preV (wc := [((ad (9 + 4 * i)), .inr (2, [.int (msh (xMv M (fun j => mpk M (xpb k n j)) (xmv M k n (fun w => decide (w < i) && decide (w < mnw M)))) i), .ref (ad (10 + 4 * i)), .int (man (xMv M (fun j => mpk M (xpb k n j)) (xmv M k n (fun w => decide (w < i) && decide (w < mnw M)))) i), .int (mgl (xMv M (fun j => mpk M (xpb k n j)) (xmv M k n (fun w => decide (w < i) && decide (w < mnw M)))) i)])), ((ad (10 + 4 * i)), .inr (1, [.ref (ad (11 + 4 * i)), .ref (ad (12 + 4 * i))])), ((ad (11 + 4 * i)), .inl (T 0, 16, .inl (mth (xMv M (fun j => mpk M (xpb k n j)) (xmv M k n (fun w => decide (w < i) && decide (w < mnw M)))) i))), ((ad (12 + 4 * i)), .inl (T 0, 16, .inl (sc1 (i + 3))))]) hK hP hD hS hA hXB hZ [9 + 4 * i, 10 + 4 * i, 11 + 4 * i, 12 + 4 * i] (xC_wis T ad sc1 (xMv M (fun j => mpk M (xpb k n j)) (xmv M k n (fun w => decide (w < i) && decide (w < mnw M)))) hn4 hi) (xC_wn (Nat.lt_of_lt_of_le hi hn4)) _ _ (9 + 4 * i) 2 (xC_w0 T ad sc1 (xMv M (fun j => mpk M (xpb k n j)) (xmv M k n (fun w => decide (w < i) && decide (w < mnw M)))) hn4 hi) rfl) rfl rfl hl.1 rfl (lv_room (Nat.le_of_ble_eq_true rfl)) dX3_go_55 ⟨Nat.le_of_ble_eq_true rfl, Nat.le_of_ble_eq_true rfl⟩) hP hD hS hA [9 + 4 * i, 10 + 4 * i, 11 + 4 * i, 12 + 4 * i] (xC_wis T ad sc1 (xMv M (fun j => mpk M (xpb k n j)) (xmv M k n (fun w => decide (w < i) && decide (w < mnw M)))) hn4 hi) (fun _ _ => rfl) (fun u2 H locs _ hP hD hS => ?_)
          rw [xC_wrep T ad sc1 (xMv M (fun j => mpk M (xpb k n j)) (xmv M k n (fun w => decide (w < i) && decide (w < mnw M)))) hn4 hi _ _ _ _, show xMw (xMv M (fun j => mpk M (xpb k n j)) (xmv M k n (fun w => decide (w < i) && decide (w < mnw M)))) i (man M i) (mgl M i) (fun j => xmv M k n (fun w => decide (w < i) && decide (w < mnw M)) i (xpb k n j)) = (xMv M (fun j => mpk M (xpb k n j)) (xmv M k n (fun w => decide (w < (i + 1)) && decide (w < mnw M)))) from by unfold xMw xMv; rw [xup_self, xup_self]; show xmk _ (va_up (xmv M k n (fun w => decide (w < i) && decide (w < mnw M))) i _) _ _ _ _ _ _ _ _ _ _ _ = _; rw [xmv_at M k n hcc, xmv_up M k n (c' := (fun w => decide (w < (i + 1)) && decide (w < mnw M))) hcc (by show (decide (i < i + 1) && decide (i < mnw M)) = true; rw [decide_eq_true (Nat.lt_succ_self i), decide_eq_true hi]; rfl) (fun j hj => by show (decide (j < i + 1) && _) = (decide (j < i) && _); rw [xpl_s hj])]] at hP hD
          have hP : va_P G vwCl (xC T ad (va_up sc1 (i + 3) u2) (xMv M (fun j => mpk M (xpb k n j)) (xmv M k n (fun w => decide (w < (i + 1)) && decide (w < mnw M))))) H := hP
          have hD : va_D A (xC T ad (va_up sc1 (i + 3) u2) (xMv M (fun j => mpk M (xpb k n j)) (xmv M k n (fun w => decide (w < (i + 1)) && decide (w < mnw M))))) := hD
          refine lv_iinc (v := nI (i + 1)) (lv' := [(6, .int (nI (i + 1))), (7, .ref (ad (9 + 4 * i))), (4, .ref (ad 7)), (5, .int (nI 4)), (0, .ref (ad 0)), (1, .int (nI k)), (2, .int (nI n)), (3, .int o)]) hx hb dX3_go_58 hl (k := 1) rfl (x_inc _) (by decide) rfl (fun ls hl => ?_)
          refine lv_goto (tgt := 32) hx hb dX3_go_61 (by decide) ?_
          exact ihn (i + 1) _ (by omega) (by omega) _ _ hP hD hS ls (lv_sub hl [0, 2, 3, 4, 5, 6, 7] rfl)
        · refine x_aald hx hb hK hP 7 2 rfl rfl hc (by decide) dX3_go_43 (v := .null) (by show va_rf (if i < mnw M then _ else _) = _; rw [if_neg hi]; rfl) ?_
          refine lv_astoreN (lv' := [(7, .null), (6, .int (nI i)), (4, .ref (ad 7)), (5, .int (nI 4)), (0, .ref (ad 0)), (1, .int (nI k)), (2, .int (nI n)), (3, .int o)]) hx hb dX3_go_44 hl (by decide) rfl (fun ls hl => ?_)
          refine lv_aloadN hx hb dX3_go_46 (lv_at hl 0 rfl) ?_
          refine lv_ifnullN (tgt := 58) hx hb dX3_go_48 (by decide) ?_
          refine lv_iinc (v := nI (i + 1)) (lv' := [(6, .int (nI (i + 1))), (7, .null), (4, .ref (ad 7)), (5, .int (nI 4)), (0, .ref (ad 0)), (1, .int (nI k)), (2, .int (nI n)), (3, .int o)]) hx hb dX3_go_58 hl (k := 1) rfl (x_inc _) (by decide) rfl (fun ls hl => ?_)
          refine lv_goto (tgt := 32) hx hb dX3_go_61 (by decide) ?_
          have ee : xmv M k n (fun w => decide (w < i) && decide (w < mnw M)) = xmv M k n (fun w => decide (w < (i + 1)) && decide (w < mnw M)) := xmv_cong M k n (xgo_cn hi)
          rw [ee] at hP hD
          exact ihn (i + 1) _ (by omega) (by omega) _ _ hP hD hS ls (lv_sub hl [0, 2, 3, 4, 5, 6, 7] rfl)
      · refine lv_icmp_ge (tgt := 64) hx hb dX3_go_36 (by decide) (fun _ => ?_) (fun c_ => absurd (nI_le (by omega) (by omega)) c_)
        have eth : (if o = 0 then mth M else xmv M k n (fun w => decide (w < mnw M))) = xmv M k n (fun w => decide (w < i) && decide (w < mnw M)) := by rw [if_neg c1]; exact xmv_cong M k n (xgo_c4 hn4 (by omega))
        refine lv_aload_n hx hb dX3_go_64 rfl (lv_at hl 3 rfl) ?_
        refine lv_dup hx hb dX3_go_65 rfl ?_
        refine va_get (D := G) (ci := 3) (v := .int (mwy (xMv M (fun j => mpk M (xpb k n j)) (xmv M k n (fun w => decide (w < i) && decide (w < mnw M)))))) (C := RX3) (T := TX3) (N := 10) hx hb hts hiX3 hown hK hP 0 rfl rfl 6 (by decide) (hts (.fieldLink RX3 44 "CardFans" "waysDone" "I") (by decide +kernel)) (fun _ h9 => h9) rfl dX3_go_66 ?_
        refine lv_iconst (v := nI 1) hx hb dX3_go_69 (by decide) ?_
        refine lv_iadd hx hb dX3_go_70 ?_
        refine x_topi (y := (mwy M + nI 1)) (rfl) ?_
        refine va_put (D := G) (ci := 3) (v := .int (mwy M + nI 1)) (ty := .int) (C := RX3) (T := TX3) (N := 10) hx hb hts hiX3 tyX3 tyX3_ok nmX3 hown hK hP hD hS 0 rfl rfl 6 (by decide) (hts (.fieldLink RX3 44 "CardFans" "waysDone" "I") (by decide +kernel)) (fun _ h9 => h9) rfl (by decide +kernel) rfl rfl (Nat.le_of_ble_eq_true rfl) dX3_go_71 (fun H locs hP hD hS => ?_)
        have hP : va_P G vwCl (xC T ad sc1 (xmk (fun j => mpk M (xpb k n j)) (xmv M k n (fun w => decide (w < i) && decide (w < mnw M))) (msh M) (man M) (mgl M) (mhb M) (mtk M) (mnw M) (mnp M) (mle M) (mwy M + nI 1) (mfc M) (mta M))) H := hP
        have hD : va_D A (xC T ad sc1 (xmk (fun j => mpk M (xpb k n j)) (xmv M k n (fun w => decide (w < i) && decide (w < mnw M))) (msh M) (man M) (mgl M) (mhb M) (mtk M) (mnw M) (mnp M) (mle M) (mwy M + nI 1) (mfc M) (mta M))) := hD
        refine lv_aload_n hx hb dX3_go_74 rfl (lv_at hl 3 rfl) ?_
        refine va_get (D := G) (ci := 3) (v := .ref (ad 1)) (C := RX3) (T := TX3) (N := 10) hx hb hts hiX3 hown hK hP 0 rfl rfl 0 (by decide) (hts (.fieldLink RX3 12 "CardFans" "pack" "LCardFans$Row;") (by decide +kernel)) (fun _ h9 => h9) rfl dX3_go_75 ?_
        refine lv_iconst (v := nI 0) hx hb dX3_go_78 (by decide) ?_
        refine x_calli (va_runV (As := [.int (nI 0)]) (rest := []) ⟨hx, hb, hml, hown, hts⟩ (c_X1_at l G T _ (ad 1) (ad 2) (ad 3) (fun j => mpk M (xpb k n j)) (sc1 0) 0 (by decide)) (cwV 1 hts gX3_go_X1_at rfl rfl rfl (by decide +kernel) ⟨Nat.le_of_ble_eq_true rfl, Nat.le_of_ble_eq_true rfl⟩) (x_preV (wc := [(ad 1, .inr (1, [.ref (ad 2), .ref (ad 3)])), (ad 2, .inl (T 0, 16, .inl (mpk (xmk (fun j => mpk M (xpb k n j)) (xmv M k n (fun w => decide (w < i) && decide (w < mnw M))) (msh M) (man M) (mgl M) (mhb M) (mtk M) (mnw M) (mnp M) (mle M) (mwy M + nI 1) (mfc M) (mta M))))), (ad 3, .inl (T 0, 16, .inl (sc1 0)))]) hK hP hD hS hA hXB hZ [1, 2, 3] rfl rfl _ _ 1 1 rfl rfl) rfl rfl hl.1 rfl (lv_room (Nat.le_of_ble_eq_true rfl)) dX3_go_79 ⟨Nat.le_of_ble_eq_true rfl, Nat.le_of_ble_eq_true rfl⟩) hP hD hS hA [1, 2, 3] rfl (fun _ _ _ => rfl) (fun r1 u3 H locs hw1 hP hD hS => ?_)
        have hP : va_P G vwCl (xC T ad sc1 (xmk (fun j => mpk M (xpb k n j)) (xmv M k n (fun w => decide (w < i) && decide (w < mnw M))) (msh M) (man M) (mgl M) (mhb M) (mtk M) (mnw M) (mnp M) (mle M) (mwy M + nI 1) (mfc M) (mta M))) H := hP
        have hD : va_D A (xC T ad sc1 (xmk (fun j => mpk M (xpb k n j)) (xmv M k n (fun w => decide (w < i) && decide (w < mnw M))) (msh M) (man M) (mgl M) (mhb M) (mtk M) (mnw M) (mnp M) (mle M) (mwy M + nI 1) (mfc M) (mta M))) := hD
        have hP : va_P G vwCl (xC T ad sc1 (xMgo M k n o)) H := by unfold xMgo; rw [eth]; exact hP
        refine vx_ret ?_
        exact W.iret (v := r1) hx hb hr (fun t9_ ht hW => ⟨⟨r1, sc1, rfl, ⟨hv1, hw1⟩, x_at ht hP⟩, hS.F ht⟩) hS.2.2 dX3_go_82

set_option maxHeartbeats 4000000 in
set_option maxRecDepth 100000 in
/-- falseCut -/
theorem c_X3_falseCut (l : Launch) (hsl : l.stackTraces = false) (G : va_G) (T : Nat → ClassId) (sz : Nat) (ad : Nat → Nat) (sc : Nat → Nat → Int32) (M : XM) (a : Int32) (hn4 : mnw M ≤ 4) : vx_Met l yX3_falseCut wsX3_falseCut ({ frames := 7, cells := 1, slots := 6, locals := 103 }) (va_Pc [.ref (ad 0), .int a] (xPre G T (xC T ad sc M) sz)) (va_Qi (fun (r : Int32) (u : Nat → Nat → Int32) => xwb (nI 0) a = true ∧ r = nI (xct (fun w => decide (w < mnw M) && decide (msh M w = 0)) 4)) (fun u t => va_P G vwCl (xC T ad u (xMfc M (xka a))) t.heap) (va_A (xC T ad sc M) sz)) (vx_X (fun _ : Unit => True) (fun E _ t => (fun E => xwb (nI 0) a = false ∧ E = "java/lang/IllegalArgumentException") E ∧ va_P G vwCl (xC T ad sc M) t.heap) (va_A (xC T ad sc M) sz)) 1 6 (va_A (xC T ad sc M) sz) := by
  refine vx_ofW (cc := cX3_falseCut) (maxL := 7) (ret := (some .int)) (by decide) rfl ?_
  intro p e s m args below meth c s₁ B hml hx0 hv
  obtain ⟨rfl, hsz, hP, hK, hD0, hXB, hZ⟩ := hv
  have hx := B.exec
  have hb := B.bytes
  have hr := B.returns
  have hts := atoms_spec (ws := wsX3_falseCut) B.pre
  have hown : s.vm.findClass RX3 = some m.cls := findClass_of_methodNamed B.named
  have hlocks := B.notSynchronized
  subst hsz
  have hD := hD0.self (sz := s.heap.size)
  generalize hAe : va_A (xC T ad sc M) s.heap.size = A at hD hZ ⊢
  have hA : ∀ q : Nat, s.heap.size ≤ q → A q := fun q h => by rw [← hAe]; exact Or.inr h
  have hS : va_S A s.heap s.heap [] := va_S.rf
  have hP : va_P G vwCl (xC T ad sc M) s.heap := hP
  have hiX3 : ∀ w ∈ u_ws RX3 TX3 10, w ∈ wsX3_falseCut := by decide +kernel
  have hiX2 : ∀ w ∈ u_ws RX2 TX2 4, w ∈ wsX3_falseCut := by decide +kernel
  have hl := lv_entry ([.ref (ad 0), .int a]) (n := 7) (Nat.le_of_ble_eq_true rfl)
  rw [lg_entry_eq]
  generalize (lg_sl ([.ref (ad 0), .int a]) ++ List.replicate (7 - (lg_sl ([.ref (ad 0), .int a])).length) Slot.unset).toArray = ls at hl ⊢
  have hl : lv_has ls 7 [(0, .ref (ad 0)), (1, .int a)] := hl
  refine lv_iconst (v := nI 0) hx hb dX3_falseCut_0 (by decide) ?_
  refine lv_iload_n hx hb dX3_falseCut_1 rfl (lv_at hl 1 rfl) ?_
  refine x_xcallv (vx_runS (As := [.int (nI 0), .int a]) (rest := []) ⟨hx, hb, hml, hown, hts⟩ (c_X3_requireWay l hsl G T _ (nI 0) a) (va_cwS 2 hts gX3_falseCut_X3_requireWay rfl rfl rfl (by decide +kernel) ⟨Nat.le_of_ble_eq_true rfl, Nat.le_of_ble_eq_true rfl⟩) (x_preS (wc := []) hK hP hD hS hA hXB hZ [] rfl rfl _) rfl rfl hl.1 rfl (lv_room (Nat.le_of_ble_eq_true rfl)) dX3_falseCut_2 ⟨Nat.le_of_ble_eq_true rfl, Nat.le_of_ble_eq_true rfl⟩) hP hD hS hA [] rfl rfl (fun _ _ => rfl) (fun E ce q9 H locs hE hP hS c1 c2 c3 => ?_) (fun u1 H locs hv1 hP hD hS => ?_)
  · exact x_out hx0 hlocks (hE) hP hS c1 c2 c3 (by decide) (by decide)
  have hP : va_P G vwCl (xC T ad sc M) H := hP
  have hD : va_D A (xC T ad sc M) := hD
  obtain ⟨k, n, hkn, ek, rfl⟩ := xwb_iff.mp hv1
  have hb5 := xwn_lt hkn
  obtain rfl : 0 = k := (nI_eq (by decide) (by omega)).mp ek
  rw [xka_n (show n < 2 ^ 31 by omega)]
  refine lv_iconst (v := nI 0) hx hb dX3_falseCut_5 (by decide) ?_
  refine lv_istore_n (lv' := [(2, .int (nI 0)), (0, .ref (ad 0)), (1, .int (nI n))]) hx hb dX3_falseCut_6 rfl hl (by decide) rfl (fun ls hl => ?_)
  refine lv_aload_n hx hb dX3_falseCut_7 rfl (lv_at hl 1 rfl) ?_
  refine va_get (D := G) (ci := 3) (v := .ref (ad 7)) (C := RX3) (T := TX3) (N := 10) hx hb hts hiX3 hown hK hP 0 rfl rfl 2 (by decide) (hts (.fieldLink RX3 21 "CardFans" "watchers" "[LCardFans$Watcher;") (by decide +kernel)) (fun _ h9 => h9) rfl dX3_falseCut_8 ?_
  refine lv_astore_n (lv' := [(3, .ref (ad 7)), (2, .int (nI 0)), (0, .ref (ad 0)), (1, .int (nI n))]) hx hb dX3_falseCut_11 rfl hl (by decide) rfl (fun ls hl => ?_)
  refine lv_aload_n hx hb dX3_falseCut_12 rfl (lv_at hl 0 rfl) ?_
  refine va_alen hx hb hK hP 7 2 rfl rfl (v := nI 4) rfl dX3_falseCut_13 ?_
  refine lv_istore (lv' := [(4, .int (nI 4)), (3, .ref (ad 7)), (2, .int (nI 0)), (0, .ref (ad 0)), (1, .int (nI n))]) hx hb dX3_falseCut_14 hl (by decide) rfl (fun ls hl => ?_)
  refine lv_iconst (v := nI 0) hx hb dX3_falseCut_16 (by decide) ?_
  refine lv_istore (lv' := [(5, .int (nI 0)), (4, .int (nI 4)), (3, .ref (ad 7)), (2, .int (nI 0)), (0, .ref (ad 0)), (1, .int (nI n))]) hx hb dX3_falseCut_17 hl (by decide) rfl (fun ls hl => ?_)
  have e0 : xmv M 0 n (fun w => decide (w < 0) && (decide (w < mnw M) && decide (msh M w = 0))) = mth M := xmv_no M 0 n (fun j => by rw [decide_eq_false (Nat.not_lt_zero j)]; rfl)
  have hP : va_P G vwCl (xC T ad sc (xMv M (mpk M) (xmv M 0 n (fun w => decide (w < 0) && (decide (w < mnw M) && decide (msh M w = 0)))))) H := by unfold xMv; rw [e0]; exact hP
  have hD : va_D A (xC T ad sc (xMv M (mpk M) (xmv M 0 n (fun w => decide (w < 0) && (decide (w < mnw M) && decide (msh M w = 0)))))) := by unfold xMv; rw [e0]; exact hD
  suffices LPn : ∀ (nn : Nat) (i : Nat) (sc1 : Nat → Nat → Int32), (i ≤ 4) → (4 < i + nn) → ∀ (H : Heap) (locs : List Loc), va_P G vwCl (xC T ad sc1 (xMv M (mpk M) (xmv M 0 n (fun w => decide (w < i) && (decide (w < mnw M) && decide (msh M w = 0)))))) H → va_D A (xC T ad sc1 (xMv M (mpk M) (xmv M 0 n (fun w => decide (w < i) && (decide (w < mnw M) && decide (msh M w = 0)))))) → va_S A s.heap H locs → ∀ (ls : Array Slot), lv_has ls 7 [(5, .int (nI i)), (2, .int (nI (xct (fun w => decide (w < mnw M) && decide (msh M w = 0)) i))), (3, .ref (ad 7)), (4, .int (nI 4)), (0, .ref (ad 0)), (1, .int (nI n))] → W p l e (headSpec wsX3_falseCut ({ frames := 7, cells := 1, slots := 6, locals := 103 })).room s m ([.ref (ad 0), .int (nI n)] : List Value).toArray below meth c H locs 1 6 (vx_MQ below (va_Qi (fun (r : Int32) (u : Nat → Nat → Int32) => xwb (nI 0) (nI n) = true ∧ r = nI (xct (fun w => decide (w < mnw M) && decide (msh M w = 0)) 4)) (fun u t => va_P G vwCl (xC T ad u (xMfc M n)) t.heap) A) (vx_X (fun _ : Unit => True) (fun E _ t => (fun E => xwb (nI 0) (nI n) = false ∧ E = "java/lang/IllegalArgumentException") E ∧ va_P G vwCl (xC T ad sc M) t.heap) A) ([.ref (ad 0), .int (nI n)] : List Value).toArray s 1 6 A) (F0 m 19 ls []) from LPn 5 0 sc (by decide) (by decide) _ _ hP hD hS ls (lv_sub hl [0, 3, 2, 1, 4, 5] rfl)
  clear hP hD hS hl
  intro nn
  induction nn with
  | zero => intro i sc1 hi4 hn H locs _ _ _ ls _; exfalso; omega
  | succ nn ihn =>
    intro i sc1 hi4 hn H locs hP hD hS ls hl
    refine lv_iload hx hb dX3_falseCut_19 (lv_at hl 0 rfl) ?_
    refine lv_iload hx hb dX3_falseCut_21 (lv_at hl 3 rfl) ?_
    by_cases hc : i < 4
    · refine lv_icmp_ge (tgt := 61) hx hb dX3_falseCut_23 (by decide) (fun c_ => absurd c_ (nI_ge hc (by decide))) (fun _ => ?_)
      refine lv_aload_n hx hb dX3_falseCut_26 rfl (lv_at hl 2 rfl) ?_
      refine lv_iload hx hb dX3_falseCut_27 (lv_at hl 0 rfl) ?_
      by_cases hi : i < mnw M
      · refine x_aald hx hb hK hP 7 2 rfl rfl hc (by decide) dX3_falseCut_29 (v := .ref (ad (9 + 4 * i))) (by show va_rf (if i < mnw M then _ else _) = _; rw [if_pos hi]; rfl) ?_
        refine lv_astore (lv' := [(6, .ref (ad (9 + 4 * i))), (5, .int (nI i)), (2, .int (nI (xct (fun w => decide (w < mnw M) && decide (msh M w = 0)) i))), (3, .ref (ad 7)), (4, .int (nI 4)), (0, .ref (ad 0)), (1, .int (nI n))]) hx hb dX3_falseCut_30 hl (by decide) rfl (fun ls hl => ?_)
        refine lv_aload hx hb dX3_falseCut_32 (lv_at hl 0 rfl) ?_
        refine lv_ifnull hx hb dX3_falseCut_34 ?_
        refine lv_aload hx hb dX3_falseCut_37 (lv_at hl 0 rfl) ?_
        refine va_getN (D := G) (ci := 2) (v := .int (msh M i)) (C := RX2) (T := TX2) (N := 4) hx hb hts hiX2 hown hK hP (9 + 4 * i) (xC_w0 T ad sc1 (xMv M (mpk M) (xmv M 0 n (fun w => decide (w < i) && (decide (w < mnw M) && decide (msh M w = 0))))) hn4 hi) rfl 0 (by decide) (va_Nw.use rfl (hXB.1 (.fieldLinkNest RX3 52 RX2 "isSharp" "Z" "CardFans") (by decide +kernel))) (fun _ h9 => h9) rfl dX3_falseCut_39 ?_
        refine lv_if_ne (tgt := 55) hx hb dX3_falseCut_42 (by decide) (fun c1 => ?_) (fun c1 => ?_)
        · have hp0 : (fun w => decide (w < mnw M) && decide (msh M w = 0)) i = false := by show (decide (i < mnw M) && decide (msh M i = 0)) = false; rw [decide_eq_false c1, Bool.and_false]
          have ee : xmv M 0 n (fun w => decide (w < i) && (decide (w < mnw M) && decide (msh M w = 0))) = xmv M 0 n (fun w => decide (w < (i + 1)) && (decide (w < mnw M) && decide (msh M w = 0))) := xmv_cong M 0 n (xfc_cn (p := (fun w => decide (w < mnw M) && decide (msh M w = 0))) hp0)
          rw [ee] at hP hD
          have e1 : xct (fun w => decide (w < mnw M) && decide (msh M w = 0)) (i + 1) = xct (fun w => decide (w < mnw M) && decide (msh M w = 0)) i := xct_f (fun h => Bool.false_ne_true (hp0.symm.trans h))
          rw [← e1] at hl
          refine lv_iinc (v := nI (i + 1)) (lv' := [(5, .int (nI (i + 1))), (6, .ref (ad (9 + 4 * i))), (2, .int (nI (xct (fun w => decide (w < mnw M) && decide (msh M w = 0)) (i + 1)))), (3, .ref (ad 7)), (4, .int (nI 4)), (0, .ref (ad 0)), (1, .int (nI n))]) hx hb dX3_falseCut_55 hl (k := 1) rfl (x_inc _) (by decide) rfl (fun ls hl => ?_)
          refine lv_goto (tgt := 19) hx hb dX3_falseCut_58 (by decide) ?_
          exact ihn (i + 1) _ (by omega) (by omega) _ _ hP hD hS ls (lv_sub hl [0, 2, 3, 4, 5, 6] rfl)
        · refine lv_aload hx hb dX3_falseCut_45 (lv_at hl 0 rfl) ?_
          refine lv_iconst (v := nI 0) hx hb dX3_falseCut_47 (by decide) ?_
          refine lv_iload_n hx hb dX3_falseCut_48 rfl (lv_at hl 6 rfl) ?_
          have hcc : (fun w => decide (w < i) && (decide (w < mnw M) && decide (msh M w = 0))) i = false := by show (decide (i < i) && _) = _; rw [decide_eq_false (Nat.lt_irrefl i)]; rfl
          have hp1 : (fun w => decide (w < mnw M) && decide (msh M w = 0)) i = true := by show (decide (i < mnw M) && decide (msh M i = 0)) = true; rw [decide_eq_true hi, decide_eq_true c1]; rfl
          refine x_callv (va_runV (As := [.int (nI 0), .int (nI n)]) (rest := []) ⟨hx, hb, hml, hown, hts⟩ (c_X2_follow l G T _ (ad (9 + 4 * i)) (ad (10 + 4 * i)) (ad (11 + 4 * i)) (ad (12 + 4 * i)) (msh M i) (man M i) (mgl M i) (xmv M 0 n (fun w => decide (w < i) && (decide (w < mnw M) && decide (msh M w = 0))) i) (sc1 (i + 3)) 0 n hkn) (cwV 2 hts gX3_falseCut_X2_follow rfl rfl rfl (by decide +kernel) ⟨Nat.le_of_ble_eq_true rfl, Nat.le_of_ble_eq_true rfl⟩) (x_preV (wc := [((ad (9 + 4 * i)), .inr (2, [.int (msh (xMv M (mpk M) (xmv M 0 n (fun w => decide (w < i) && (decide (w < mnw M) && decide (msh M w = 0))))) i), .ref (ad (10 + 4 * i)), .int (man (xMv M (mpk M) (xmv M 0 n (fun w => decide (w < i) && (decide (w < mnw M) && decide (msh M w = 0))))) i), .int (mgl (xMv M (mpk M) (xmv M 0 n (fun w => decide (w < i) && (decide (w < mnw M) && decide (msh M w = 0))))) i)])), ((ad (10 + 4 * i)), .inr (1, [.ref (ad (11 + 4 * i)), .ref (ad (12 + 4 * i))])), ((ad (11 + 4 * i)), .inl (T 0, 16, .inl (mth (xMv M (mpk M) (xmv M 0 n (fun w => decide (w < i) && (decide (w < mnw M) && decide (msh M w = 0))))) i))), ((ad (12 + 4 * i)), .inl (T 0, 16, .inl (sc1 (i + 3))))]) hK hP hD hS hA hXB hZ [9 + 4 * i, 10 + 4 * i, 11 + 4 * i, 12 + 4 * i] (xC_wis T ad sc1 (xMv M (mpk M) (xmv M 0 n (fun w => decide (w < i) && (decide (w < mnw M) && decide (msh M w = 0))))) hn4 hi) (xC_wn (Nat.lt_of_lt_of_le hi hn4)) _ _ (9 + 4 * i) 2 (xC_w0 T ad sc1 (xMv M (mpk M) (xmv M 0 n (fun w => decide (w < i) && (decide (w < mnw M) && decide (msh M w = 0))))) hn4 hi) rfl) rfl rfl hl.1 rfl (lv_room (Nat.le_of_ble_eq_true rfl)) dX3_falseCut_49 ⟨Nat.le_of_ble_eq_true rfl, Nat.le_of_ble_eq_true rfl⟩) hP hD hS hA [9 + 4 * i, 10 + 4 * i, 11 + 4 * i, 12 + 4 * i] (xC_wis T ad sc1 (xMv M (mpk M) (xmv M 0 n (fun w => decide (w < i) && (decide (w < mnw M) && decide (msh M w = 0))))) hn4 hi) (fun _ _ => rfl) (fun u2 H locs _ hP hD hS => ?_)
          rw [xC_wrep T ad sc1 (xMv M (mpk M) (xmv M 0 n (fun w => decide (w < i) && (decide (w < mnw M) && decide (msh M w = 0))))) hn4 hi _ _ _ _, show xMw (xMv M (mpk M) (xmv M 0 n (fun w => decide (w < i) && (decide (w < mnw M) && decide (msh M w = 0))))) i (man M i) (mgl M i) (fun j => xmv M 0 n (fun w => decide (w < i) && (decide (w < mnw M) && decide (msh M w = 0))) i (xpb 0 n j)) = (xMv M (mpk M) (xmv M 0 n (fun w => decide (w < (i + 1)) && (decide (w < mnw M) && decide (msh M w = 0))))) from by unfold xMw xMv; rw [xup_self, xup_self]; show xmk _ (va_up (xmv M 0 n (fun w => decide (w < i) && (decide (w < mnw M) && decide (msh M w = 0)))) i _) _ _ _ _ _ _ _ _ _ _ _ = _; rw [xmv_at M 0 n hcc, xmv_up M 0 n (c' := (fun w => decide (w < (i + 1)) && (decide (w < mnw M) && decide (msh M w = 0)))) hcc (by show (decide (i < i + 1) && (fun w => decide (w < mnw M) && decide (msh M w = 0)) i) = true; rw [decide_eq_true (Nat.lt_succ_self i), hp1]; rfl) (fun j hj => by show (decide (j < i + 1) && _) = (decide (j < i) && _); rw [xpl_s hj])]] at hP hD
          have hP : va_P G vwCl (xC T ad (va_up sc1 (i + 3) u2) (xMv M (mpk M) (xmv M 0 n (fun w => decide (w < (i + 1)) && (decide (w < mnw M) && decide (msh M w = 0)))))) H := hP
          have hD : va_D A (xC T ad (va_up sc1 (i + 3) u2) (xMv M (mpk M) (xmv M 0 n (fun w => decide (w < (i + 1)) && (decide (w < mnw M) && decide (msh M w = 0)))))) := hD
          refine lv_iinc (v := nI (xct (fun w => decide (w < mnw M) && decide (msh M w = 0)) (i + 1))) (lv' := [(2, .int (nI (xct (fun w => decide (w < mnw M) && decide (msh M w = 0)) (i + 1)))), (6, .ref (ad (9 + 4 * i))), (5, .int (nI i)), (3, .ref (ad 7)), (4, .int (nI 4)), (0, .ref (ad 0)), (1, .int (nI n))]) hx hb dX3_falseCut_52 hl (k := 2) rfl (by rw [xct_t hp1]; exact x_inc _) (by decide) rfl (fun ls hl => ?_)
          refine lv_iinc (v := nI (i + 1)) (lv' := [(5, .int (nI (i + 1))), (2, .int (nI (xct (fun w => decide (w < mnw M) && decide (msh M w = 0)) (i + 1)))), (6, .ref (ad (9 + 4 * i))), (3, .ref (ad 7)), (4, .int (nI 4)), (0, .ref (ad 0)), (1, .int (nI n))]) hx hb dX3_falseCut_55 hl (k := 2) rfl (x_inc _) (by decide) rfl (fun ls hl => ?_)
          refine lv_goto (tgt := 19) hx hb dX3_falseCut_58 (by decide) ?_
          exact ihn (i + 1) _ (by omega) (by omega) _ _ hP hD hS ls (lv_sub hl [0, 1, 3, 4, 5, 6] rfl)
      · refine x_aald hx hb hK hP 7 2 rfl rfl hc (by decide) dX3_falseCut_29 (v := .null) (by show va_rf (if i < mnw M then _ else _) = _; rw [if_neg hi]; rfl) ?_
        refine lv_astoreN (lv' := [(6, .null), (5, .int (nI i)), (2, .int (nI (xct (fun w => decide (w < mnw M) && decide (msh M w = 0)) i))), (3, .ref (ad 7)), (4, .int (nI 4)), (0, .ref (ad 0)), (1, .int (nI n))]) hx hb dX3_falseCut_30 hl (by decide) rfl (fun ls hl => ?_)
        refine lv_aloadN hx hb dX3_falseCut_32 (lv_at hl 0 rfl) ?_
        refine lv_ifnullN (tgt := 55) hx hb dX3_falseCut_34 (by decide) ?_
        have hp0 : (fun w => decide (w < mnw M) && decide (msh M w = 0)) i = false := by show (decide (i < mnw M) && decide (msh M i = 0)) = false; rw [decide_eq_false hi, Bool.false_and]
        have ee : xmv M 0 n (fun w => decide (w < i) && (decide (w < mnw M) && decide (msh M w = 0))) = xmv M 0 n (fun w => decide (w < (i + 1)) && (decide (w < mnw M) && decide (msh M w = 0))) := xmv_cong M 0 n (xfc_cn (p := (fun w => decide (w < mnw M) && decide (msh M w = 0))) hp0)
        rw [ee] at hP hD
        have e1 : xct (fun w => decide (w < mnw M) && decide (msh M w = 0)) (i + 1) = xct (fun w => decide (w < mnw M) && decide (msh M w = 0)) i := xct_f (fun h => Bool.false_ne_true (hp0.symm.trans h))
        rw [← e1] at hl
        refine lv_iinc (v := nI (i + 1)) (lv' := [(5, .int (nI (i + 1))), (6, .null), (2, .int (nI (xct (fun w => decide (w < mnw M) && decide (msh M w = 0)) (i + 1)))), (3, .ref (ad 7)), (4, .int (nI 4)), (0, .ref (ad 0)), (1, .int (nI n))]) hx hb dX3_falseCut_55 hl (k := 1) rfl (x_inc _) (by decide) rfl (fun ls hl => ?_)
        refine lv_goto (tgt := 19) hx hb dX3_falseCut_58 (by decide) ?_
        exact ihn (i + 1) _ (by omega) (by omega) _ _ hP hD hS ls (lv_sub hl [0, 2, 3, 4, 5, 6] rfl)
    · have eth : xmv M 0 n (fun w => decide (w < mnw M) && decide (msh M w = 0)) = xmv M 0 n (fun w => decide (w < i) && (decide (w < mnw M) && decide (msh M w = 0))) := xmv_cong M 0 n (xfc_c4 (p := fun w => decide (msh M w = 0)) hn4 (by omega))
      refine lv_icmp_ge (tgt := 61) hx hb dX3_falseCut_23 (by decide) (fun _ => ?_) (fun c_ => absurd (nI_le (by omega) (by omega)) c_)
      refine lv_aload_n hx hb dX3_falseCut_61 rfl (lv_at hl 4 rfl) ?_
      refine lv_dup hx hb dX3_falseCut_62 rfl ?_
      refine va_get (D := G) (ci := 3) (v := .int (mfc (xMv M (mpk M) (xmv M 0 n (fun w => decide (w < i) && (decide (w < mnw M) && decide (msh M w = 0))))))) (C := RX3) (T := TX3) (N := 10) hx hb hts hiX3 hown hK hP 0 rfl rfl 7 (by decide) (hts (.fieldLink RX3 56 "CardFans" "falseCuts" "I") (by decide +kernel)) (fun _ h9 => h9) rfl dX3_falseCut_63 ?_
      refine lv_iconst (v := nI 1) hx hb dX3_falseCut_66 (by decide) ?_
      refine lv_iadd hx hb dX3_falseCut_67 ?_
      refine x_topi (y := (mfc M + nI 1)) (rfl) ?_
      refine va_put (D := G) (ci := 3) (v := .int (mfc M + nI 1)) (ty := .int) (C := RX3) (T := TX3) (N := 10) hx hb hts hiX3 tyX3 tyX3_ok nmX3 hown hK hP hD hS 0 rfl rfl 7 (by decide) (hts (.fieldLink RX3 56 "CardFans" "falseCuts" "I") (by decide +kernel)) (fun _ h9 => h9) rfl (by decide +kernel) rfl rfl (Nat.le_of_ble_eq_true rfl) dX3_falseCut_68 (fun H locs hP hD hS => ?_)
      have hP : va_P G vwCl (xC T ad sc1 (xmk (mpk M) (xmv M 0 n (fun w => decide (w < i) && (decide (w < mnw M) && decide (msh M w = 0)))) (msh M) (man M) (mgl M) (mhb M) (mtk M) (mnw M) (mnp M) (mle M) (mwy M) (mfc M + nI 1) (mta M))) H := hP
      have hD : va_D A (xC T ad sc1 (xmk (mpk M) (xmv M 0 n (fun w => decide (w < i) && (decide (w < mnw M) && decide (msh M w = 0)))) (msh M) (man M) (mgl M) (mhb M) (mtk M) (mnw M) (mnp M) (mle M) (mwy M) (mfc M + nI 1) (mta M))) := hD
      refine lv_iload_n hx hb dX3_falseCut_71 rfl (lv_at hl 1 rfl) ?_
      have hP : va_P G vwCl (xC T ad sc1 (xMfc M n)) H := by unfold xMfc; rw [eth]; exact hP
      refine vx_ret ?_
      exact W.iret (v := nI (xct (fun w => decide (w < mnw M) && decide (msh M w = 0)) i)) hx hb hr (fun t9_ ht hW => ⟨⟨nI (xct (fun w => decide (w < mnw M) && decide (msh M w = 0)) i), sc1, rfl, ⟨hv1, by rw [show i = 4 by omega]⟩, x_at ht hP⟩, hS.F ht⟩) hS.2.2 dX3_falseCut_72
end XF3
