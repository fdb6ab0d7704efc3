section XMD
theorem xadW_refs (ad : Nat → Nat) (n q0 q1 q2 q3 : Nat) : va_up (fun j => if j < n then some (ad (9 + 4 * j)) else none) n (some q0) = (fun j => if j < n + 1 then some (xadW ad n q0 q1 q2 q3 (9 + 4 * j)) else none) := by
  funext j
  unfold va_up xadW
  by_cases h : j = n
  · subst h
    rw [if_pos rfl, if_pos (Nat.lt_succ_self j), if_pos rfl]
  · rw [if_neg h]
    show (if j < n then some (ad (9 + 4 * j)) else none) = _
    by_cases h2 : j < n
    · rw [if_pos h2, if_pos (by omega), if_neg (by omega), if_neg (by omega), if_neg (by omega), if_neg (by omega)]
    · rw [if_neg h2, if_neg (by omega)]
theorem xadP_w (ad : Nat → Nat) {nw n q0 : Nat} (h4 : nw ≤ 4) : (fun j => if j < nw then some (ad (9 + 4 * j)) else none) = (fun j => if j < nw then some (xadP ad n q0 (9 + 4 * j)) else none) := by
  funext j
  unfold xadP
  by_cases h : j < nw
  · rw [if_pos h, if_pos h, if_neg (by omega)]
  · rw [if_neg h, if_neg h]
theorem xadP_refs (ad : Nat → Nat) (n q0 : Nat) : va_up (fun j => if j < n then some (ad (j + 25)) else none) n (some q0) = (fun j => if j < n + 1 then some (xadP ad n q0 (j + 25)) else none) := by
  funext j
  unfold va_up xadP
  by_cases h : j = n
  · subst h
    rw [if_pos rfl, if_pos (Nat.lt_succ_self j), if_pos rfl]
  · rw [if_neg h]
    show (if j < n then some (ad (j + 25)) else none) = _
    by_cases h2 : j < n
    · rw [if_pos h2, if_pos (by omega), if_neg (by omega)]
    · rw [if_neg h2, if_neg (by omega)]
theorem xpermW (A F W P : va_W) : (A ++ (F ++ (W ++ P))).Perm (F ++ ((W ++ A) ++ P)) := by
  refine (List.perm_append_comm (l₁ := A) (l₂ := F ++ (W ++ P))).trans ?_
  rw [List.append_assoc, List.append_assoc, List.append_assoc]
  exact List.Perm.append_left F (List.Perm.append_left W List.perm_append_comm)
theorem xpermP (A F W P : va_W) : (A ++ (F ++ (W ++ P))).Perm (F ++ (W ++ (P ++ A))) := by
  refine (List.perm_append_comm (l₁ := A) (l₂ := F ++ (W ++ P))).trans ?_
  rw [List.append_assoc, List.append_assoc]

theorem xC_watch (T : Nat → ClassId) (ad : Nat → Nat) (sc : Nat → Nat → Int32) (M : XM) (hn : mnw M < 4) (hm : mnp M ≤ 4) (h0 : man M (mnw M) = 0) (h1 : mgl M (mnw M) = 0) (sh1 : Int32) (q0 q1 q2 q3 : Nat) : ([(q0, .inr (2, [.int sh1, .ref q1, .int 0, .int 0])), (q1, .inr (1, [.ref q2, .ref q3])), (q2, .inl (T 0, 16, .inl (fun _ => nI 65535))), (q3, .inl (T 0, 16, .inl (fun _ => 0)))] ++ ([(ad 0, .inr (3, [.ref (ad 1), .ref (ad 4), .ref (ad 7), .ref (ad 8), .int (nI (mnw M + 1)), .int (nI (mnp M)), .int (mwy M), .int (mfc M), .int (mle M), .int (nI (mta M))])), (ad 1, .inr (1, [.ref (ad 2), .ref (ad 3)])), (ad 2, .inl (T 0, 16, .inl (mpk M))), (ad 3, .inl (T 0, 16, .inl (sc 0))), (ad 4, .inr (1, [.ref (ad 5), .ref (ad 6)])), (ad 5, .inl (T 0, 16, .inl (sc 1))), (ad 6, .inl (T 0, 16, .inl (sc 2))), (ad 7, .inl (T 2, 4, .inr (.inr (.inr (.inr (fun j => if j < mnw M + 1 then some (xadW ad (mnw M) q0 q1 q2 q3 (9 + 4 * j)) else none)))))), (ad 8, .inl (T 1, 4, .inr (.inr (.inr (.inr (fun j => if j < (mnp M) then some (ad (j + 25)) else none))))))] ++ ((List.range (mnw M)).flatMap (fun k => [(ad (9 + 4 * k), .inr (2, [.int (msh M k), .ref (ad (10 + 4 * k)), .int (man M k), .int (mgl M k)])), (ad (10 + 4 * k), .inr (1, [.ref (ad (11 + 4 * k)), .ref (ad (12 + 4 * k))])), (ad (11 + 4 * k), .inl (T 0, 16, .inl (mth M k))), (ad (12 + 4 * k), .inl (T 0, 16, .inl (sc (k + 3))))]) ++ (List.range (mnp M)).map (fun k => (ad (k + 25), .inr (0, [.int (mhb M k), .int (mtk M k)]))))) : va_W).Perm (xC T (xadW ad (mnw M) q0 q1 q2 q3) (va_up sc (mnw M + 3) (fun _ => 0)) (xmk (mpk M) (va_up (mth M) (mnw M) (fun _ => nI 65535)) (upd (msh M) (mnw M) sh1) (man M) (mgl M) (mhb M) (mtk M) (mnw M + 1) (mnp M) (mle M) (mwy M) (mfc M) (mta M))) := by
  rw [show (.int 0 :: [.int 0] : List Value) = [.int (man M (mnw M)), .int (mgl M (mnw M))] by rw [h0, h1]]
  clear h0 h1
  obtain ⟨pk, th, sh, an, gl, hb, tk, nw, np, le, wy, fc, ta⟩ := M
  rcases (show nw = 0 ∨ nw = 1 ∨ nw = 2 ∨ nw = 3 by have h : nw < 4 := hn; omega) with rfl | rfl | rfl | rfl
  · rcases (show np = 0 ∨ np = 1 ∨ np = 2 ∨ np = 3 ∨ np = 4 by have h : np ≤ 4 := hm; omega) with rfl | rfl | rfl | rfl | rfl <;> exact (xpermW _ _ _ _).trans (List.Perm.of_eq rfl)
  · rcases (show np = 0 ∨ np = 1 ∨ np = 2 ∨ np = 3 ∨ np = 4 by have h : np ≤ 4 := hm; omega) with rfl | rfl | rfl | rfl | rfl <;> exact (xpermW _ _ _ _).trans (List.Perm.of_eq rfl)
  · rcases (show np = 0 ∨ np = 1 ∨ np = 2 ∨ np = 3 ∨ np = 4 by have h : np ≤ 4 := hm; omega) with rfl | rfl | rfl | rfl | rfl <;> exact (xpermW _ _ _ _).trans (List.Perm.of_eq rfl)
  · rcases (show np = 0 ∨ np = 1 ∨ np = 2 ∨ np = 3 ∨ np = 4 by have h : np ≤ 4 := hm; omega) with rfl | rfl | rfl | rfl | rfl <;> exact (xpermW _ _ _ _).trans (List.Perm.of_eq rfl)

theorem xC_sit (T : Nat → ClassId) (ad : Nat → Nat) (sc : Nat → Nat → Int32) (M : XM) (hn : mnw M ≤ 4) (hm : mnp M < 4) (x : Int32) (q0 : Nat) : ([(q0, .inr (0, [.int x, .int (-1)]))] ++ ([(ad 0, .inr (3, [.ref (ad 1), .ref (ad 4), .ref (ad 7), .ref (ad 8), .int (nI (mnw M)), .int (nI (mnp M + 1)), .int (mwy M), .int (mfc M), .int (mle M), .int (nI (mta M))])), (ad 1, .inr (1, [.ref (ad 2), .ref (ad 3)])), (ad 2, .inl (T 0, 16, .inl (mpk M))), (ad 3, .inl (T 0, 16, .inl (sc 0))), (ad 4, .inr (1, [.ref (ad 5), .ref (ad 6)])), (ad 5, .inl (T 0, 16, .inl (sc 1))), (ad 6, .inl (T 0, 16, .inl (sc 2))), (ad 7, .inl (T 2, 4, .inr (.inr (.inr (.inr (fun j => if j < mnw M then some (xadP ad (mnp M) q0 (9 + 4 * j)) else none)))))), (ad 8, .inl (T 1, 4, .inr (.inr (.inr (.inr (fun j => if j < mnp M + 1 then some (xadP ad (mnp M) q0 (j + 25)) else none))))))] ++ ((List.range (mnw M)).flatMap (fun k => [(ad (9 + 4 * k), .inr (2, [.int (msh M k), .ref (ad (10 + 4 * k)), .int (man M k), .int (mgl M k)])), (ad (10 + 4 * k), .inr (1, [.ref (ad (11 + 4 * k)), .ref (ad (12 + 4 * k))])), (ad (11 + 4 * k), .inl (T 0, 16, .inl (mth M k))), (ad (12 + 4 * k), .inl (T 0, 16, .inl (sc (k + 3))))]) ++ (List.range (mnp M)).map (fun k => (ad (k + 25), .inr (0, [.int (mhb M k), .int (mtk M k)]))))) : va_W).Perm (xC T (xadP ad (mnp M) q0) sc (xmk (mpk M) (mth M) (msh M) (man M) (mgl M) (upd (mhb M) (mnp M) x) (upd (mtk M) (mnp M) (-1)) (mnw M) (mnp M + 1) (mle M) (mwy M) (mfc M) (mta M))) := by
  obtain ⟨pk, th, sh, an, gl, hb, tk, nw, np, le, wy, fc, ta⟩ := M
  rcases (show nw = 0 ∨ nw = 1 ∨ nw = 2 ∨ nw = 3 ∨ nw = 4 by have h : nw ≤ 4 := hn; omega) with rfl | rfl | rfl | rfl | rfl
  · rcases (show np = 0 ∨ np = 1 ∨ np = 2 ∨ np = 3 by have h : np < 4 := hm; omega) with rfl | rfl | rfl | rfl <;> exact (xpermP _ _ _ _).trans (List.Perm.of_eq rfl)
  · rcases (show np = 0 ∨ np = 1 ∨ np = 2 ∨ np = 3 by have h : np < 4 := hm; omega) with rfl | rfl | rfl | rfl <;> exact (xpermP _ _ _ _).trans (List.Perm.of_eq rfl)
  · rcases (show np = 0 ∨ np = 1 ∨ np = 2 ∨ np = 3 by have h : np < 4 := hm; omega) with rfl | rfl | rfl | rfl <;> exact (xpermP _ _ _ _).trans (List.Perm.of_eq rfl)
  · rcases (show np = 0 ∨ np = 1 ∨ np = 2 ∨ np = 3 by have h : np < 4 := hm; omega) with rfl | rfl | rfl | rfl <;> exact (xpermP _ _ _ _).trans (List.Perm.of_eq rfl)
  · rcases (show np = 0 ∨ np = 1 ∨ np = 2 ∨ np = 3 by have h : np < 4 := hm; omega) with rfl | rfl | rfl | rfl <;> exact (xpermP _ _ _ _).trans (List.Perm.of_eq rfl)

set_option maxHeartbeats 4000000 in
set_option maxRecDepth 100000 in
/-- Player() -/
theorem c_X0_init (l : Launch) (G : va_G) (T : Nat → ClassId) (sz : Nat) (a0 : Nat) (x : Int32) : Met l yX0_init wsX0_init ({ frames := 1, cells := 0, slots := 0, locals := 14 }) (va_Pc [.ref a0, .int x] (xPre G T ([(a0, .inr (0, [.int 0, .int 0]))]) sz)) (va_Qv (fun (u : Unit) => True) (fun u t => va_P G vwCl ([(a0, .inr (0, [.int x, .int (-1)]))]) t.heap) (va_A ([(a0, .inr (0, [.int 0, .int 0]))]) sz)) 0 0 (va_A ([(a0, .inr (0, [.int 0, .int 0]))]) sz) := by
  refine Met.ofW (cc := cX0_init) (maxL := 2) (ret := none) (by decide +kernel) rfl ?_
  intro p e s m args below meth c s₁ B hml hv
  obtain ⟨rfl, hsz, hP, hK, hD0, hXB, hZ⟩ := hv
  have hx := B.exec
  have hb := B.bytes
  have hr := B.returns
  have hts := atoms_spec (ws := wsX0_init) B.pre
  have hown : s.vm.findClass RX0 = some m.cls := findClass_of_methodNamed B.named
  have hlocks := B.notSynchronized
  have hin0 : meth.name = "<init>" := (name_of_methodNamed B.named B.method).1
  subst hsz
  have hD := hD0.self (sz := s.heap.size)
  generalize hAe : va_A ([(a0, .inr (0, [.int 0, .int 0]))]) s.heap.size = A at hD hZ ⊢
  have hA : ∀ q : Nat, s.heap.size ≤ q → A q := fun q h => by rw [← hAe]; exact Or.inr h
  have hS : va_S A s.heap s.heap [] := va_S.rf
  have hP : va_P G vwCl ([(a0, .inr (0, [.int 0, .int 0]))]) s.heap := hP
  have hiX0 : ∀ w ∈ u_ws RX0 TX0 2, w ∈ wsX0_init := by decide +kernel
  have hl := lv_entry ([.ref a0, .int x]) (n := 2) (Nat.le_of_ble_eq_true rfl)
  rw [lg_entry_eq]
  generalize (lg_sl ([.ref a0, .int x]) ++ List.replicate (2 - (lg_sl ([.ref a0, .int x])).length) Slot.unset).toArray = ls at hl ⊢
  have hl : lv_has ls 2 [(0, .ref a0), (1, .int x)] := hl
  refine lv_aload_n hx hb dX0_init_0 rfl (lv_at hl 0 rfl) ?_
  refine W.objInit hx hb hown (hts (.methodLink RX0 1 objectInit) (by decide +kernel)) (hts (.instanceMethod objectInit) (by decide +kernel)) (hts (.code objectInit ⟨#[0xb1]⟩ 1 none) (by decide +kernel)) rfl (by rw [hml]; exact hl.1) rfl dX0_init_1 (Nat.le_of_ble_eq_true rfl) (Nat.le_of_ble_eq_true rfl) ?_
  refine W.eq (g2 := F0 m 4 ls []) rfl ?_
  refine lv_aload_n hx hb dX0_init_4 rfl (lv_at hl 0 rfl) ?_
  refine lv_iconst (v := (-1)) hx hb dX0_init_5 (by decide) ?_
  refine va_put (D := G) (ci := 0) (v := .int (-1)) (ty := .int) (C := RX0) (T := TX0) (N := 2) hx hb hts hiX0 tyX0 tyX0_ok nmX0 hown hK hP hD hS 0 rfl rfl 1 (by decide) (hts (.fieldLink RX0 7 "CardFans$Player" "latestCard" "I") (by decide +kernel)) (fun _ h9 => h9) rfl (by decide +kernel) rfl rfl (Nat.le_of_ble_eq_true rfl) dX0_init_6 (fun H locs hP hD hS => ?_)
  have hP : va_P G vwCl ([(a0, .inr (0, [.int 0, .int (-1)]))]) H := hP
  have hD : va_D A ([(a0, .inr (0, [.int 0, .int (-1)]))]) := hD
  refine lv_aload_n hx hb dX0_init_9 rfl (lv_at hl 0 rfl) ?_
  refine lv_iload_n hx hb dX0_init_10 rfl (lv_at hl 1 rfl) ?_
  refine va_putF (D := G) (ci := 0) (v := .int x) (ty := .int) (C := RX0) (T := TX0) (N := 2) hx hb hts hiX0 tyX0 tyX0_ok nmX0 hown hK hP hD hS 0 rfl rfl 0 (by decide) (hts (.fieldLink RX0 13 "CardFans$Player" "habit" "I") (by decide +kernel)) (fun _ h9 => h9) rfl hin0 rfl (by decide +kernel) rfl rfl (Nat.le_of_ble_eq_true rfl) dX0_init_11 (fun H locs hP hD hS => ?_)
  have hP : va_P G vwCl ([(a0, .inr (0, [.int x, .int (-1)]))]) H := hP
  have hD : va_D A ([(a0, .inr (0, [.int x, .int (-1)]))]) := hD
  exact W.vret hx hb hr (fun t9_ ht hW => ⟨⟨(), rfl, trivial, x_at ht hP⟩, hS.F ht⟩) hS.2.2 dX0_init_14

theorem xadW_0 (ad : Nat → Nat) (n q0 q1 q2 q3 : Nat) : xadW ad n q0 q1 q2 q3 0 = ad 0 := by
  unfold xadW
  rw [if_neg (by omega), if_neg (by omega), if_neg (by omega), if_neg (by omega)]
theorem xadP_0 (ad : Nat → Nat) (n q0 : Nat) : xadP ad n q0 0 = ad 0 := by
  unfold xadP
  rw [if_neg (by omega)]

set_option maxHeartbeats 4000000 in
set_option maxRecDepth 100000 in
/-- watch -/
theorem c_X3_watch (l : Launch) (hsl : l.stackTraces = false) (G : va_G) (T : Nat → ClassId) (sz : Nat) (ad : Nat → Nat) (sc : Nat → Nat → Int32) (M : XM) (sh1 : Int32) (hsh : narrow .boolean (.int sh1) = .int sh1) (hfit : fits .boolean (.int sh1) = true) (hn4 : mnw M ≤ 4) (hm4 : mnp M ≤ 4) (hz : man M (mnw M) = 0 ∧ mgl M (mnw M) = 0) : vx_Met l yX3_watch wsX3_watch ({ frames := 6, cells := 4, slots := 38, locals := 82 }) (va_Pc [.ref (ad 0), .int sh1] (xPre G T (xC T ad sc M) sz)) (va_Qi (fun (r : Int32) (u : (Nat → Nat) × (Nat → Nat → Int32)) => mnw M < 4 ∧ r = nI (mnw M) ∧ u.1 0 = ad 0 ∧ va_D (va_A (xC T ad sc M) sz) (xC T u.1 u.2 (xmk (mpk M) (va_up (mth M) (mnw M) (fun _ => nI 65535)) (upd (msh M) (mnw M) sh1) (man M) (mgl M) (mhb M) (mtk M) (mnw M + 1) (mnp M) (mle M) (mwy M) (mfc M) (mta M)))) (fun u t => va_P G vwCl (xC T u.1 u.2 (xmk (mpk M) (va_up (mth M) (mnw M) (fun _ => nI 65535)) (upd (msh M) (mnw M) sh1) (man M) (mgl M) (mhb M) (mtk M) (mnw M + 1) (mnp M) (mle M) (mwy M) (mfc M) (mta M))) t.heap) (va_A (xC T ad sc M) sz)) (vx_X (fun _ : Unit => True) (fun E _ t => (fun E => mnw M = 4 ∧ E = "java/lang/IllegalStateException") E ∧ va_P G vwCl (xC T ad sc M) t.heap) (va_A (xC T ad sc M) sz)) 4 38 (va_A (xC T ad sc M) sz) := by
  refine vx_ofW (cc := cX3_watch) (maxL := 3) (ret := (some .int)) (by decide) rfl ?_
  intro p e s m args below meth c s₁ B hml hx0 hv
  obtain ⟨rfl, hsz, hP, hK, hD0, hXB, hZ⟩ := hv
  have hx := B.exec
  have hb := B.bytes
  have hr := B.returns
  have hts := atoms_spec (ws := wsX3_watch) B.pre
  have hown : s.vm.findClass RX3 = some m.cls := findClass_of_methodNamed B.named
  have hlocks := B.notSynchronized
  subst hsz
  have hD := hD0.self (sz := s.heap.size)
  generalize hAe : va_A (xC T ad sc M) s.heap.size = A at hD hZ ⊢
  have hA : ∀ q : Nat, s.heap.size ≤ q → A q := fun q h => by rw [← hAe]; exact Or.inr h
  have hS : va_S A s.heap s.heap [] := va_S.rf
  have hP : va_P G vwCl (xC T ad sc M) s.heap := hP
  have hiX3 : ∀ w ∈ u_ws RX3 TX3 10, w ∈ wsX3_watch := by decide +kernel
  have hiX2 : ∀ w ∈ u_ws RX2 TX2 4, w ∈ wsX3_watch := by decide +kernel
  have hl := lv_entry ([.ref (ad 0), .int sh1]) (n := 3) (Nat.le_of_ble_eq_true rfl)
  rw [lg_entry_eq]
  generalize (lg_sl ([.ref (ad 0), .int sh1]) ++ List.replicate (3 - (lg_sl ([.ref (ad 0), .int sh1])).length) Slot.unset).toArray = ls at hl ⊢
  have hl : lv_has ls 3 [(0, .ref (ad 0)), (1, .int sh1)] := hl
  refine lv_aload_n hx hb dX3_watch_0 rfl (lv_at hl 0 rfl) ?_
  refine va_get (D := G) (ci := 3) (v := .int (nI (mnw M))) (C := RX3) (T := TX3) (N := 10) hx hb hts hiX3 hown hK hP 0 rfl rfl 4 (by decide) (hts (.fieldLink RX3 73 "CardFans" "watcherCount" "I") (by decide +kernel)) (fun _ h9 => h9) rfl dX3_watch_1 ?_
  refine lv_istore_n (lv' := [(2, .int (nI (mnw M))), (0, .ref (ad 0)), (1, .int sh1)]) hx hb dX3_watch_4 rfl hl (by decide) rfl (fun ls hl => ?_)
  refine lv_iload_n hx hb dX3_watch_5 rfl (lv_at hl 0 rfl) ?_
  refine lv_if_lt (tgt := 18) hx hb dX3_watch_6 (by decide) (fun c_ => absurd c_ (nI_pos (by omega))) (fun _ => ?_)
  refine lv_iload_n hx hb dX3_watch_9 rfl (lv_at hl 0 rfl) ?_
  refine lv_aload_n hx hb dX3_watch_10 rfl (lv_at hl 1 rfl) ?_
  refine va_get (D := G) (ci := 3) (v := .ref (ad 7)) (C := RX3) (T := TX3) (N := 10) hx hb hts hiX3 hown hK hP 0 rfl rfl 2 (by decide) (hts (.fieldLink RX3 21 "CardFans" "watchers" "[LCardFans$Watcher;") (by decide +kernel)) (fun _ h9 => h9) rfl dX3_watch_11 ?_
  refine va_alen hx hb hK hP 7 2 rfl rfl (v := nI 4) rfl dX3_watch_14 ?_
  by_cases hc : mnw M < 4
  · refine lv_icmp_lt (tgt := 28) hx hb dX3_watch_15 (by decide) (fun _ => ?_) (fun c_ => absurd (nI_lt hc (by decide)) c_)
    refine lv_aload_n hx hb dX3_watch_28 rfl (lv_at hl 1 rfl) ?_
    refine va_get (D := G) (ci := 3) (v := .ref (ad 7)) (C := RX3) (T := TX3) (N := 10) hx hb hts hiX3 hown hK hP 0 rfl rfl 2 (by decide) (hts (.fieldLink RX3 21 "CardFans" "watchers" "[LCardFans$Watcher;") (by decide +kernel)) (fun _ h9 => h9) rfl dX3_watch_29 ?_
    refine lv_iload_n hx hb dX3_watch_32 rfl (lv_at hl 0 rfl) ?_
    refine va_new (ci := 2) (fs := [.int 0, .null, .int 0, .int 0]) (C := RX2) (T := TX2) (N := 4) hx hb hts hiX2 tyX2 tyX2_ok hown (hts (.classLink RX3 19 RX2) (by decide +kernel)) (hts (.instantiable RX2 4) (by decide +kernel)) (hts (.initialized RX2) (by decide +kernel)) hK hP hD hS hA rfl (fun j hj => by rcases (show j = 0 ∨ j = 1 ∨ j = 2 ∨ j = 3 by omega) with rfl | rfl | rfl | rfl <;> rfl) (Nat.le_of_ble_eq_true rfl) (Nat.le_of_ble_eq_true rfl) dX3_watch_33 (fun q0 H hP hD hS => ?_)
    refine lv_dup hx hb dX3_watch_36 rfl ?_
    refine lv_iload_n hx hb dX3_watch_37 rfl (lv_at hl 2 rfl) ?_
    have hP := xp_perm (List.perm_append_comm (l₁ := xC T ad sc M) (l₂ := [(q0, .inr (2, [.int 0, .null, .int 0, .int 0]))])) hP
    have hD := xd_perm (List.perm_append_comm (l₁ := xC T ad sc M) (l₂ := [(q0, .inr (2, [.int 0, .null, .int 0, .int 0]))])) hD
    refine x_callvA (va_runI (As := [.int sh1]) (rest := [.ref q0, .int (nI (mnw M)), .ref (ad 7)]) ⟨hx, hb, hml, hown, hts⟩ (c_X2_init l G T _ q0 sh1 hsh hfit) (cwI 1 hts gX3_watch_X2_init rfl rfl rfl (hts (.initialized RX2) (by decide +kernel)) (hts (.methodLink RX3 83 yX2_init) (by decide +kernel)) (hts (.instanceMethod yX2_init) (by decide +kernel)) rfl (by decide +kernel) ⟨Nat.le_of_ble_eq_true rfl, Nat.le_of_ble_eq_true rfl⟩) (x_preSA (wc := [(q0, .inr (2, [.int 0, .null, .int 0, .int 0]))]) (wr := (xC T ad sc M)) hK hP hD hS hA hXB hZ _) rfl rfl hl.1 rfl (lv_room (Nat.le_of_ble_eq_true rfl)) dX3_watch_38 ⟨Nat.le_of_ble_eq_true rfl, Nat.le_of_ble_eq_true rfl⟩) hP hD hS hA (fun _ h => h) (fun u H locs hw hP hD hS => ?_)
    obtain ⟨q1, q2, q3⟩ := u
    have hP : va_P G vwCl ([(q0, .inr (2, [.int sh1, .ref q1, .int 0, .int 0])), (q1, .inr (1, [.ref q2, .ref q3])), (q2, .inl (T 0, 16, .inl (fun _ => nI 65535))), (q3, .inl (T 0, 16, .inl (fun _ => 0))), (ad 0, .inr (3, [.ref (ad 1), .ref (ad 4), .ref (ad 7), .ref (ad 8), .int (nI (mnw M)), .int (nI (mnp M)), .int (mwy M), .int (mfc M), .int (mle M), .int (nI (mta M))])), (ad 1, .inr (1, [.ref (ad 2), .ref (ad 3)])), (ad 2, .inl (T 0, 16, .inl (mpk M))), (ad 3, .inl (T 0, 16, .inl (sc 0))), (ad 4, .inr (1, [.ref (ad 5), .ref (ad 6)])), (ad 5, .inl (T 0, 16, .inl (sc 1))), (ad 6, .inl (T 0, 16, .inl (sc 2))), (ad 7, .inl (T 2, 4, .inr (.inr (.inr (.inr (fun j => if j < (mnw M) then some (ad (9 + 4 * j)) else none)))))), (ad 8, .inl (T 1, 4, .inr (.inr (.inr (.inr (fun j => if j < (mnp M) then some (ad (j + 25)) else none))))))] ++ ((List.range (mnw M)).flatMap (fun k => [(ad (9 + 4 * k), .inr (2, [.int (msh M k), .ref (ad (10 + 4 * k)), .int (man M k), .int (mgl M k)])), (ad (10 + 4 * k), .inr (1, [.ref (ad (11 + 4 * k)), .ref (ad (12 + 4 * k))])), (ad (11 + 4 * k), .inl (T 0, 16, .inl (mth M k))), (ad (12 + 4 * k), .inl (T 0, 16, .inl (sc (k + 3))))]) ++ (List.range (mnp M)).map (fun k => (ad (k + 25), .inr (0, [.int (mhb M k), .int (mtk M k)]))))) H := hP
    have hD : va_D A ([(q0, .inr (2, [.int sh1, .ref q1, .int 0, .int 0])), (q1, .inr (1, [.ref q2, .ref q3])), (q2, .inl (T 0, 16, .inl (fun _ => nI 65535))), (q3, .inl (T 0, 16, .inl (fun _ => 0))), (ad 0, .inr (3, [.ref (ad 1), .ref (ad 4), .ref (ad 7), .ref (ad 8), .int (nI (mnw M)), .int (nI (mnp M)), .int (mwy M), .int (mfc M), .int (mle M), .int (nI (mta M))])), (ad 1, .inr (1, [.ref (ad 2), .ref (ad 3)])), (ad 2, .inl (T 0, 16, .inl (mpk M))), (ad 3, .inl (T 0, 16, .inl (sc 0))), (ad 4, .inr (1, [.ref (ad 5), .ref (ad 6)])), (ad 5, .inl (T 0, 16, .inl (sc 1))), (ad 6, .inl (T 0, 16, .inl (sc 2))), (ad 7, .inl (T 2, 4, .inr (.inr (.inr (.inr (fun j => if j < (mnw M) then some (ad (9 + 4 * j)) else none)))))), (ad 8, .inl (T 1, 4, .inr (.inr (.inr (.inr (fun j => if j < (mnp M) then some (ad (j + 25)) else none))))))] ++ ((List.range (mnw M)).flatMap (fun k => [(ad (9 + 4 * k), .inr (2, [.int (msh M k), .ref (ad (10 + 4 * k)), .int (man M k), .int (mgl M k)])), (ad (10 + 4 * k), .inr (1, [.ref (ad (11 + 4 * k)), .ref (ad (12 + 4 * k))])), (ad (11 + 4 * k), .inl (T 0, 16, .inl (mth M k))), (ad (12 + 4 * k), .inl (T 0, 16, .inl (sc (k + 3))))]) ++ (List.range (mnp M)).map (fun k => (ad (k + 25), .inr (0, [.int (mhb M k), .int (mtk M k)]))))) := hD
    refine x_aast hx hb hK hP hD hS 11 2 0 2 rfl rfl rfl rfl hc (by decide) dX3_watch_41 (fun H locs hP hD hS => ?_)
    have hP : va_P G vwCl ([(q0, .inr (2, [.int sh1, .ref q1, .int 0, .int 0])), (q1, .inr (1, [.ref q2, .ref q3])), (q2, .inl (T 0, 16, .inl (fun _ => nI 65535))), (q3, .inl (T 0, 16, .inl (fun _ => 0))), (ad 0, .inr (3, [.ref (ad 1), .ref (ad 4), .ref (ad 7), .ref (ad 8), .int (nI (mnw M)), .int (nI (mnp M)), .int (mwy M), .int (mfc M), .int (mle M), .int (nI (mta M))])), (ad 1, .inr (1, [.ref (ad 2), .ref (ad 3)])), (ad 2, .inl (T 0, 16, .inl (mpk M))), (ad 3, .inl (T 0, 16, .inl (sc 0))), (ad 4, .inr (1, [.ref (ad 5), .ref (ad 6)])), (ad 5, .inl (T 0, 16, .inl (sc 1))), (ad 6, .inl (T 0, 16, .inl (sc 2))), (ad 7, .inl (T 2, 4, .inr (.inr (.inr (.inr (va_up (fun j => if j < mnw M then some (ad (9 + 4 * j)) else none) (mnw M) (some q0))))))), (ad 8, .inl (T 1, 4, .inr (.inr (.inr (.inr (fun j => if j < (mnp M) then some (ad (j + 25)) else none))))))] ++ ((List.range (mnw M)).flatMap (fun k => [(ad (9 + 4 * k), .inr (2, [.int (msh M k), .ref (ad (10 + 4 * k)), .int (man M k), .int (mgl M k)])), (ad (10 + 4 * k), .inr (1, [.ref (ad (11 + 4 * k)), .ref (ad (12 + 4 * k))])), (ad (11 + 4 * k), .inl (T 0, 16, .inl (mth M k))), (ad (12 + 4 * k), .inl (T 0, 16, .inl (sc (k + 3))))]) ++ (List.range (mnp M)).map (fun k => (ad (k + 25), .inr (0, [.int (mhb M k), .int (mtk M k)]))))) H := hP
    have hD : va_D A ([(q0, .inr (2, [.int sh1, .ref q1, .int 0, .int 0])), (q1, .inr (1, [.ref q2, .ref q3])), (q2, .inl (T 0, 16, .inl (fun _ => nI 65535))), (q3, .inl (T 0, 16, .inl (fun _ => 0))), (ad 0, .inr (3, [.ref (ad 1), .ref (ad 4), .ref (ad 7), .ref (ad 8), .int (nI (mnw M)), .int (nI (mnp M)), .int (mwy M), .int (mfc M), .int (mle M), .int (nI (mta M))])), (ad 1, .inr (1, [.ref (ad 2), .ref (ad 3)])), (ad 2, .inl (T 0, 16, .inl (mpk M))), (ad 3, .inl (T 0, 16, .inl (sc 0))), (ad 4, .inr (1, [.ref (ad 5), .ref (ad 6)])), (ad 5, .inl (T 0, 16, .inl (sc 1))), (ad 6, .inl (T 0, 16, .inl (sc 2))), (ad 7, .inl (T 2, 4, .inr (.inr (.inr (.inr (va_up (fun j => if j < mnw M then some (ad (9 + 4 * j)) else none) (mnw M) (some q0))))))), (ad 8, .inl (T 1, 4, .inr (.inr (.inr (.inr (fun j => if j < (mnp M) then some (ad (j + 25)) else none))))))] ++ ((List.range (mnw M)).flatMap (fun k => [(ad (9 + 4 * k), .inr (2, [.int (msh M k), .ref (ad (10 + 4 * k)), .int (man M k), .int (mgl M k)])), (ad (10 + 4 * k), .inr (1, [.ref (ad (11 + 4 * k)), .ref (ad (12 + 4 * k))])), (ad (11 + 4 * k), .inl (T 0, 16, .inl (mth M k))), (ad (12 + 4 * k), .inl (T 0, 16, .inl (sc (k + 3))))]) ++ (List.range (mnp M)).map (fun k => (ad (k + 25), .inr (0, [.int (mhb M k), .int (mtk M k)]))))) := hD
    rw [xadW_refs ad (mnw M) q0 q1 q2 q3] at hP hD
    refine lv_aload_n hx hb dX3_watch_42 rfl (lv_at hl 1 rfl) ?_
    refine lv_dup hx hb dX3_watch_43 rfl ?_
    refine va_get (D := G) (ci := 3) (v := .int (nI (mnw M))) (C := RX3) (T := TX3) (N := 10) hx hb hts hiX3 hown hK hP 4 rfl rfl 4 (by decide) (hts (.fieldLink RX3 73 "CardFans" "watcherCount" "I") (by decide +kernel)) (fun _ h9 => h9) rfl dX3_watch_44 ?_
    refine lv_iconst (v := nI 1) hx hb dX3_watch_47 (by decide) ?_
    refine lv_iadd hx hb dX3_watch_48 ?_
    refine x_topi (y := nI (mnw M + 1)) (nI_1 _) ?_
    refine va_put (D := G) (ci := 3) (v := .int (nI (mnw M + 1))) (ty := .int) (C := RX3) (T := TX3) (N := 10) hx hb hts hiX3 tyX3 tyX3_ok nmX3 hown hK hP hD hS 4 rfl rfl 4 (by decide) (hts (.fieldLink RX3 73 "CardFans" "watcherCount" "I") (by decide +kernel)) (fun _ h9 => h9) rfl (by decide +kernel) rfl rfl (Nat.le_of_ble_eq_true rfl) dX3_watch_49 (fun H locs hP hD hS => ?_)
    have hP : va_P G vwCl ([(q0, .inr (2, [.int sh1, .ref q1, .int 0, .int 0])), (q1, .inr (1, [.ref q2, .ref q3])), (q2, .inl (T 0, 16, .inl (fun _ => nI 65535))), (q3, .inl (T 0, 16, .inl (fun _ => 0))), (ad 0, .inr (3, [.ref (ad 1), .ref (ad 4), .ref (ad 7), .ref (ad 8), .int (nI (mnw M + 1)), .int (nI (mnp M)), .int (mwy M), .int (mfc M), .int (mle M), .int (nI (mta M))])), (ad 1, .inr (1, [.ref (ad 2), .ref (ad 3)])), (ad 2, .inl (T 0, 16, .inl (mpk M))), (ad 3, .inl (T 0, 16, .inl (sc 0))), (ad 4, .inr (1, [.ref (ad 5), .ref (ad 6)])), (ad 5, .inl (T 0, 16, .inl (sc 1))), (ad 6, .inl (T 0, 16, .inl (sc 2))), (ad 7, .inl (T 2, 4, .inr (.inr (.inr (.inr (fun j => if j < mnw M + 1 then some (xadW ad (mnw M) q0 q1 q2 q3 (9 + 4 * j)) else none)))))), (ad 8, .inl (T 1, 4, .inr (.inr (.inr (.inr (fun j => if j < (mnp M) then some (ad (j + 25)) else none))))))] ++ ((List.range (mnw M)).flatMap (fun k => [(ad (9 + 4 * k), .inr (2, [.int (msh M k), .ref (ad (10 + 4 * k)), .int (man M k), .int (mgl M k)])), (ad (10 + 4 * k), .inr (1, [.ref (ad (11 + 4 * k)), .ref (ad (12 + 4 * k))])), (ad (11 + 4 * k), .inl (T 0, 16, .inl (mth M k))), (ad (12 + 4 * k), .inl (T 0, 16, .inl (sc (k + 3))))]) ++ (List.range (mnp M)).map (fun k => (ad (k + 25), .inr (0, [.int (mhb M k), .int (mtk M k)]))))) H := hP
    have hD : va_D A ([(q0, .inr (2, [.int sh1, .ref q1, .int 0, .int 0])), (q1, .inr (1, [.ref q2, .ref q3])), (q2, .inl (T 0, 16, .inl (fun _ => nI 65535))), (q3, .inl (T 0, 16, .inl (fun _ => 0))), (ad 0, .inr (3, [.ref (ad 1), .ref (ad 4), .ref (ad 7), .ref (ad 8), .int (nI (mnw M + 1)), .int (nI (mnp M)), .int (mwy M), .int (mfc M), .int (mle M), .int (nI (mta M))])), (ad 1, .inr (1, [.ref (ad 2), .ref (ad 3)])), (ad 2, .inl (T 0, 16, .inl (mpk M))), (ad 3, .inl (T 0, 16, .inl (sc 0))), (ad 4, .inr (1, [.ref (ad 5), .ref (ad 6)])), (ad 5, .inl (T 0, 16, .inl (sc 1))), (ad 6, .inl (T 0, 16, .inl (sc 2))), (ad 7, .inl (T 2, 4, .inr (.inr (.inr (.inr (fun j => if j < mnw M + 1 then some (xadW ad (mnw M) q0 q1 q2 q3 (9 + 4 * j)) else none)))))), (ad 8, .inl (T 1, 4, .inr (.inr (.inr (.inr (fun j => if j < (mnp M) then some (ad (j + 25)) else none))))))] ++ ((List.range (mnw M)).flatMap (fun k => [(ad (9 + 4 * k), .inr (2, [.int (msh M k), .ref (ad (10 + 4 * k)), .int (man M k), .int (mgl M k)])), (ad (10 + 4 * k), .inr (1, [.ref (ad (11 + 4 * k)), .ref (ad (12 + 4 * k))])), (ad (11 + 4 * k), .inl (T 0, 16, .inl (mth M k))), (ad (12 + 4 * k), .inl (T 0, 16, .inl (sc (k + 3))))]) ++ (List.range (mnp M)).map (fun k => (ad (k + 25), .inr (0, [.int (mhb M k), .int (mtk M k)]))))) := hD
    refine lv_iload_n hx hb dX3_watch_52 rfl (lv_at hl 0 rfl) ?_
    have hpm := xC_watch T ad sc M hc hm4 hz.1 hz.2 sh1 q0 q1 q2 q3
    have hP := xp_perm hpm hP
    have hD := xd_perm hpm hD
    refine vx_ret ?_
    exact W.iret (v := nI (mnw M)) hx hb hr (fun t9_ ht hW => ⟨⟨nI (mnw M), (xadW ad (mnw M) q0 q1 q2 q3, va_up sc (mnw M + 3) (fun _ => 0)), rfl, ⟨hc, rfl, xadW_0 _ _ _ _ _ _, hD⟩, x_at ht hP⟩, hS.F ht⟩) hS.2.2 dX3_watch_53
  · refine lv_icmp_lt (tgt := 28) hx hb dX3_watch_15 (by decide) (fun c_ => absurd c_ (nI_nlt (by omega) (by omega))) (fun _ => ?_)
    exact x_throw (cls := "java/lang/IllegalStateException") (text := "there are 4 watchers") (ik := 76) (is := 78) (ic := 80) hx hb hsl hown hts (by decide +kernel) (by decide +kernel) (by decide +kernel) (by decide +kernel) (by decide +kernel) (by decide +kernel) (by decide +kernel) hXB hZ hS (hl.1.trans hml.symm) hx0 hlocks dX3_watch_18 dX3_watch_21 dX3_watch_22 dX3_watch_24 dX3_watch_27 (Nat.le_of_ble_eq_true rfl) (Nat.le_of_ble_eq_true rfl) (Nat.le_of_ble_eq_true rfl) (Nat.le_of_ble_eq_true rfl) (Nat.le_of_ble_eq_true rfl) (Nat.le_of_ble_eq_true rfl) (⟨by omega, rfl⟩) hP

set_option maxHeartbeats 4000000 in
set_option maxRecDepth 100000 in
/-- sit -/
theorem c_X3_sit (l : Launch) (hsl : l.stackTraces = false) (G : va_G) (T : Nat → ClassId) (sz : Nat) (ad : Nat → Nat) (sc : Nat → Nat → Int32) (M : XM) (x : Int32) (hn4 : mnw M ≤ 4) (hm4 : mnp M ≤ 4) : vx_Met l yX3_sit wsX3_sit ({ frames := 7, cells := 2, slots := 12, locals := 102 }) (va_Pc [.ref (ad 0), .int x] (xPre G T (xC T ad sc M) sz)) (va_Qi (fun (r : Int32) (u : Nat → Nat) => xvb 16 x = true ∧ mnp M < 4 ∧ r = nI (mnp M) ∧ u 0 = ad 0 ∧ va_D (va_A (xC T ad sc M) sz) (xC T u sc (xmk (mpk M) (mth M) (msh M) (man M) (mgl M) (upd (mhb M) (mnp M) x) (upd (mtk M) (mnp M) (-1)) (mnw M) (mnp M + 1) (mle M) (mwy M) (mfc M) (mta M)))) (fun u t => va_P G vwCl (xC T u sc (xmk (mpk M) (mth M) (msh M) (man M) (mgl M) (upd (mhb M) (mnp M) x) (upd (mtk M) (mnp M) (-1)) (mnw M) (mnp M + 1) (mle M) (mwy M) (mfc M) (mta M))) t.heap) (va_A (xC T ad sc M) sz)) (vx_X (fun _ : Unit => True) (fun E _ t => (fun E => (xvb 16 x = false ∧ E = "java/lang/IllegalArgumentException") ∨ (xvb 16 x = true ∧ mnp M = 4 ∧ E = "java/lang/IllegalStateException")) E ∧ va_P G vwCl (xC T ad sc M) t.heap) (va_A (xC T ad sc M) sz)) 2 12 (va_A (xC T ad sc M) sz) := by
  refine vx_ofW (cc := cX3_sit) (maxL := 3) (ret := (some .int)) (by decide) rfl ?_
  intro p e s m args below meth c s₁ B hml hx0 hv
  obtain ⟨rfl, hsz, hP, hK, hD0, hXB, hZ⟩ := hv
  have hx := B.exec
  have hb := B.bytes
  have hr := B.returns
  have hts := atoms_spec (ws := wsX3_sit) B.pre
  have hown : s.vm.findClass RX3 = some m.cls := findClass_of_methodNamed B.named
  have hlocks := B.notSynchronized
  subst hsz
  have hD := hD0.self (sz := s.heap.size)
  generalize hAe : va_A (xC T ad sc M) s.heap.size = A at hD hZ ⊢
  have hA : ∀ q : Nat, s.heap.size ≤ q → A q := fun q h => by rw [← hAe]; exact Or.inr h
  have hS : va_S A s.heap s.heap [] := va_S.rf
  have hP : va_P G vwCl (xC T ad sc M) s.heap := hP
  have hiX3 : ∀ w ∈ u_ws RX3 TX3 10, w ∈ wsX3_sit := by decide +kernel
  have hiX0 : ∀ w ∈ u_ws RX0 TX0 2, w ∈ wsX3_sit := by decide +kernel
  have hl := lv_entry ([.ref (ad 0), .int x]) (n := 3) (Nat.le_of_ble_eq_true rfl)
  rw [lg_entry_eq]
  generalize (lg_sl ([.ref (ad 0), .int x]) ++ List.replicate (3 - (lg_sl ([.ref (ad 0), .int x])).length) Slot.unset).toArray = ls at hl ⊢
  have hl : lv_has ls 3 [(0, .ref (ad 0)), (1, .int x)] := hl
  refine lv_iload_n hx hb dX3_sit_0 rfl (lv_at hl 1 rfl) ?_
  refine x_xcallv (vx_runS (As := [.int x]) (rest := []) ⟨hx, hb, hml, hown, hts⟩ (c_X3_requireSixteenth l hsl G T _ x) (va_cwS 1 hts gX3_sit_X3_requireSixteenth rfl rfl rfl (by decide +kernel) ⟨Nat.le_of_ble_eq_true rfl, Nat.le_of_ble_eq_true rfl⟩) (x_preS (wc := []) hK hP hD hS hA hXB hZ [] rfl rfl _) rfl rfl hl.1 rfl (lv_room (Nat.le_of_ble_eq_true rfl)) dX3_sit_1 ⟨Nat.le_of_ble_eq_true rfl, Nat.le_of_ble_eq_true rfl⟩) hP hD hS hA [] rfl rfl (fun _ _ => rfl) (fun E ce q9 H locs hE hP hS c1 c2 c3 => ?_) (fun u1 H locs hv1 hP hD hS => ?_)
  · exact x_out hx0 hlocks (Or.inl hE) hP hS c1 c2 c3 (by decide) (by decide)
  have hP : va_P G vwCl (xC T ad sc M) H := hP
  have hD : va_D A (xC T ad sc M) := hD
  refine lv_aload_n hx hb dX3_sit_4 rfl (lv_at hl 0 rfl) ?_
  refine va_get (D := G) (ci := 3) (v := .int (nI (mnp M))) (C := RX3) (T := TX3) (N := 10) hx hb hts hiX3 hown hK hP 0 rfl rfl 5 (by decide) (hts (.fieldLink RX3 124 "CardFans" "playerCount" "I") (by decide +kernel)) (fun _ h9 => h9) rfl dX3_sit_5 ?_
  refine lv_istore_n (lv' := [(2, .int (nI (mnp M))), (0, .ref (ad 0)), (1, .int x)]) hx hb dX3_sit_8 rfl hl (by decide) rfl (fun ls hl => ?_)
  refine lv_iload_n hx hb dX3_sit_9 rfl (lv_at hl 0 rfl) ?_
  refine lv_if_lt (tgt := 22) hx hb dX3_sit_10 (by decide) (fun c_ => absurd c_ (nI_pos (by omega))) (fun _ => ?_)
  refine lv_iload_n hx hb dX3_sit_13 rfl (lv_at hl 0 rfl) ?_
  refine lv_aload_n hx hb dX3_sit_14 rfl (lv_at hl 1 rfl) ?_
  refine va_get (D := G) (ci := 3) (v := .ref (ad 8)) (C := RX3) (T := TX3) (N := 10) hx hb hts hiX3 hown hK hP 0 rfl rfl 3 (by decide) (hts (.fieldLink RX3 27 "CardFans" "players" "[LCardFans$Player;") (by decide +kernel)) (fun _ h9 => h9) rfl dX3_sit_15 ?_
  refine va_alen hx hb hK hP 8 1 rfl rfl (v := nI 4) rfl dX3_sit_18 ?_
  by_cases hc : mnp M < 4
  · refine lv_icmp_lt (tgt := 32) hx hb dX3_sit_19 (by decide) (fun _ => ?_) (fun c_ => absurd (nI_lt hc (by decide)) c_)
    refine lv_aload_n hx hb dX3_sit_32 rfl (lv_at hl 1 rfl) ?_
    refine va_get (D := G) (ci := 3) (v := .ref (ad 8)) (C := RX3) (T := TX3) (N := 10) hx hb hts hiX3 hown hK hP 0 rfl rfl 3 (by decide) (hts (.fieldLink RX3 27 "CardFans" "players" "[LCardFans$Player;") (by decide +kernel)) (fun _ h9 => h9) rfl dX3_sit_33 ?_
    refine lv_iload_n hx hb dX3_sit_36 rfl (lv_at hl 0 rfl) ?_
    refine va_new (ci := 0) (fs := [.int 0, .int 0]) (C := RX0) (T := TX0) (N := 2) hx hb hts hiX0 tyX0 tyX0_ok hown (hts (.classLink RX3 25 RX0) (by decide +kernel)) (hts (.instantiable RX0 2) (by decide +kernel)) (hts (.initialized RX0) (by decide +kernel)) hK hP hD hS hA rfl (fun j hj => by rcases (show j = 0 ∨ j = 1 by omega) with rfl | rfl <;> rfl) (Nat.le_of_ble_eq_true rfl) (Nat.le_of_ble_eq_true rfl) dX3_sit_37 (fun q0 H hP hD hS => ?_)
    refine lv_dup hx hb dX3_sit_40 rfl ?_
    refine lv_iload_n hx hb dX3_sit_41 rfl (lv_at hl 2 rfl) ?_
    have hP := xp_perm (List.perm_append_comm (l₁ := xC T ad sc M) (l₂ := [(q0, .inr (0, [.int 0, .int 0]))])) hP
    have hD := xd_perm (List.perm_append_comm (l₁ := xC T ad sc M) (l₂ := [(q0, .inr (0, [.int 0, .int 0]))])) hD
    have hDq : ∀ z, va_D (va_A [(q0, .inr (0, [.int 0, .int 0]))] z) [(q0, .inr (0, [.int x, .int (-1)]))] := fun z => xd_self (ws := [(q0, .inr (0, [.int 0, .int 0]))]) rfl ((xd_iff.mpr ⟨by simp, fun _ _ => trivial⟩ : va_D (fun _ => True) [(q0, .inr (0, [.int 0, .int 0]))]))
    refine x_callvA (va_runI (As := [.int x]) (rest := [.ref q0, .int (nI (mnp M)), .ref (ad 8)]) ⟨hx, hb, hml, hown, hts⟩ (c_X0_init l G T _ q0 x) (cwI 1 hts gX3_sit_X0_init rfl rfl rfl (hts (.initialized RX0) (by decide +kernel)) (hts (.methodLink RX3 129 yX0_init) (by decide +kernel)) (hts (.instanceMethod yX0_init) (by decide +kernel)) rfl (by decide +kernel) ⟨Nat.le_of_ble_eq_true rfl, Nat.le_of_ble_eq_true rfl⟩) (x_preSA (wc := [(q0, .inr (0, [.int 0, .int 0]))]) (wr := (xC T ad sc M)) hK hP hD hS hA hXB hZ _) rfl rfl hl.1 rfl (lv_room (Nat.le_of_ble_eq_true rfl)) dX3_sit_42 ⟨Nat.le_of_ble_eq_true rfl, Nat.le_of_ble_eq_true rfl⟩) hP hD hS hA (fun _ _ => hDq _) (fun u H locs hw hP hD hS => ?_)
    have hP : va_P G vwCl ([(q0, .inr (0, [.int x, .int (-1)])), (ad 0, .inr (3, [.ref (ad 1), .ref (ad 4), .ref (ad 7), .ref (ad 8), .int (nI (mnw M)), .int (nI (mnp M)), .int (mwy M), .int (mfc M), .int (mle M), .int (nI (mta M))])), (ad 1, .inr (1, [.ref (ad 2), .ref (ad 3)])), (ad 2, .inl (T 0, 16, .inl (mpk M))), (ad 3, .inl (T 0, 16, .inl (sc 0))), (ad 4, .inr (1, [.ref (ad 5), .ref (ad 6)])), (ad 5, .inl (T 0, 16, .inl (sc 1))), (ad 6, .inl (T 0, 16, .inl (sc 2))), (ad 7, .inl (T 2, 4, .inr (.inr (.inr (.inr (fun j => if j < (mnw M) then some (ad (9 + 4 * j)) else none)))))), (ad 8, .inl (T 1, 4, .inr (.inr (.inr (.inr (fun j => if j < (mnp M) then some (ad (j + 25)) else none))))))] ++ ((List.range (mnw M)).flatMap (fun k => [(ad (9 + 4 * k), .inr (2, [.int (msh M k), .ref (ad (10 + 4 * k)), .int (man M k), .int (mgl M k)])), (ad (10 + 4 * k), .inr (1, [.ref (ad (11 + 4 * k)), .ref (ad (12 + 4 * k))])), (ad (11 + 4 * k), .inl (T 0, 16, .inl (mth M k))), (ad (12 + 4 * k), .inl (T 0, 16, .inl (sc (k + 3))))]) ++ (List.range (mnp M)).map (fun k => (ad (k + 25), .inr (0, [.int (mhb M k), .int (mtk M k)]))))) H := hP
    have hD : va_D A ([(q0, .inr (0, [.int x, .int (-1)])), (ad 0, .inr (3, [.ref (ad 1), .ref (ad 4), .ref (ad 7), .ref (ad 8), .int (nI (mnw M)), .int (nI (mnp M)), .int (mwy M), .int (mfc M), .int (mle M), .int (nI (mta M))])), (ad 1, .inr (1, [.ref (ad 2), .ref (ad 3)])), (ad 2, .inl (T 0, 16, .inl (mpk M))), (ad 3, .inl (T 0, 16, .inl (sc 0))), (ad 4, .inr (1, [.ref (ad 5), .ref (ad 6)])), (ad 5, .inl (T 0, 16, .inl (sc 1))), (ad 6, .inl (T 0, 16, .inl (sc 2))), (ad 7, .inl (T 2, 4, .inr (.inr (.inr (.inr (fun j => if j < (mnw M) then some (ad (9 + 4 * j)) else none)))))), (ad 8, .inl (T 1, 4, .inr (.inr (.inr (.inr (fun j => if j < (mnp M) then some (ad (j + 25)) else none))))))] ++ ((List.range (mnw M)).flatMap (fun k => [(ad (9 + 4 * k), .inr (2, [.int (msh M k), .ref (ad (10 + 4 * k)), .int (man M k), .int (mgl M k)])), (ad (10 + 4 * k), .inr (1, [.ref (ad (11 + 4 * k)), .ref (ad (12 + 4 * k))])), (ad (11 + 4 * k), .inl (T 0, 16, .inl (mth M k))), (ad (12 + 4 * k), .inl (T 0, 16, .inl (sc (k + 3))))]) ++ (List.range (mnp M)).map (fun k => (ad (k + 25), .inr (0, [.int (mhb M k), .int (mtk M k)]))))) := hD
    refine x_aast hx hb hK hP hD hS 9 1 0 0 rfl rfl rfl rfl hc (by decide) dX3_sit_45 (fun H locs hP hD hS => ?_)
    have hP : va_P G vwCl ([(q0, .inr (0, [.int x, .int (-1)])), (ad 0, .inr (3, [.ref (ad 1), .ref (ad 4), .ref (ad 7), .ref (ad 8), .int (nI (mnw M)), .int (nI (mnp M)), .int (mwy M), .int (mfc M), .int (mle M), .int (nI (mta M))])), (ad 1, .inr (1, [.ref (ad 2), .ref (ad 3)])), (ad 2, .inl (T 0, 16, .inl (mpk M))), (ad 3, .inl (T 0, 16, .inl (sc 0))), (ad 4, .inr (1, [.ref (ad 5), .ref (ad 6)])), (ad 5, .inl (T 0, 16, .inl (sc 1))), (ad 6, .inl (T 0, 16, .inl (sc 2))), (ad 7, .inl (T 2, 4, .inr (.inr (.inr (.inr (fun j => if j < (mnw M) then some (ad (9 + 4 * j)) else none)))))), (ad 8, .inl (T 1, 4, .inr (.inr (.inr (.inr (va_up (fun j => if j < mnp M then some (ad (j + 25)) else none) (mnp M) (some q0)))))))] ++ ((List.range (mnw M)).flatMap (fun k => [(ad (9 + 4 * k), .inr (2, [.int (msh M k), .ref (ad (10 + 4 * k)), .int (man M k), .int (mgl M k)])), (ad (10 + 4 * k), .inr (1, [.ref (ad (11 + 4 * k)), .ref (ad (12 + 4 * k))])), (ad (11 + 4 * k), .inl (T 0, 16, .inl (mth M k))), (ad (12 + 4 * k), .inl (T 0, 16, .inl (sc (k + 3))))]) ++ (List.range (mnp M)).map (fun k => (ad (k + 25), .inr (0, [.int (mhb M k), .int (mtk M k)]))))) H := hP
    have hD : va_D A ([(q0, .inr (0, [.int x, .int (-1)])), (ad 0, .inr (3, [.ref (ad 1), .ref (ad 4), .ref (ad 7), .ref (ad 8), .int (nI (mnw M)), .int (nI (mnp M)), .int (mwy M), .int (mfc M), .int (mle M), .int (nI (mta M))])), (ad 1, .inr (1, [.ref (ad 2), .ref (ad 3)])), (ad 2, .inl (T 0, 16, .inl (mpk M))), (ad 3, .inl (T 0, 16, .inl (sc 0))), (ad 4, .inr (1, [.ref (ad 5), .ref (ad 6)])), (ad 5, .inl (T 0, 16, .inl (sc 1))), (ad 6, .inl (T 0, 16, .inl (sc 2))), (ad 7, .inl (T 2, 4, .inr (.inr (.inr (.inr (fun j => if j < (mnw M) then some (ad (9 + 4 * j)) else none)))))), (ad 8, .inl (T 1, 4, .inr (.inr (.inr (.inr (va_up (fun j => if j < mnp M then some (ad (j + 25)) else none) (mnp M) (some q0)))))))] ++ ((List.range (mnw M)).flatMap (fun k => [(ad (9 + 4 * k), .inr (2, [.int (msh M k), .ref (ad (10 + 4 * k)), .int (man M k), .int (mgl M k)])), (ad (10 + 4 * k), .inr (1, [.ref (ad (11 + 4 * k)), .ref (ad (12 + 4 * k))])), (ad (11 + 4 * k), .inl (T 0, 16, .inl (mth M k))), (ad (12 + 4 * k), .inl (T 0, 16, .inl (sc (k + 3))))]) ++ (List.range (mnp M)).map (fun k => (ad (k + 25), .inr (0, [.int (mhb M k), .int (mtk M k)]))))) := hD
    rw [xadP_refs ad (mnp M) q0] at hP hD
    refine lv_aload_n hx hb dX3_sit_46 rfl (lv_at hl 1 rfl) ?_
    refine lv_dup hx hb dX3_sit_47 rfl ?_
    refine va_get (D := G) (ci := 3) (v := .int (nI (mnp M))) (C := RX3) (T := TX3) (N := 10) hx hb hts hiX3 hown hK hP 1 rfl rfl 5 (by decide) (hts (.fieldLink RX3 124 "CardFans" "playerCount" "I") (by decide +kernel)) (fun _ h9 => h9) rfl dX3_sit_48 ?_
    refine lv_iconst (v := nI 1) hx hb dX3_sit_51 (by decide) ?_
    refine lv_iadd hx hb dX3_sit_52 ?_
    refine x_topi (y := nI (mnp M + 1)) (nI_1 _) ?_
    refine va_put (D := G) (ci := 3) (v := .int (nI (mnp M + 1))) (ty := .int) (C := RX3) (T := TX3) (N := 10) hx hb hts hiX3 tyX3 tyX3_ok nmX3 hown hK hP hD hS 1 rfl rfl 5 (by decide) (hts (.fieldLink RX3 124 "CardFans" "playerCount" "I") (by decide +kernel)) (fun _ h9 => h9) rfl (by decide +kernel) rfl rfl (Nat.le_of_ble_eq_true rfl) dX3_sit_53 (fun H locs hP hD hS => ?_)
    have hP : va_P G vwCl ([(q0, .inr (0, [.int x, .int (-1)])), (ad 0, .inr (3, [.ref (ad 1), .ref (ad 4), .ref (ad 7), .ref (ad 8), .int (nI (mnw M)), .int (nI (mnp M + 1)), .int (mwy M), .int (mfc M), .int (mle M), .int (nI (mta M))])), (ad 1, .inr (1, [.ref (ad 2), .ref (ad 3)])), (ad 2, .inl (T 0, 16, .inl (mpk M))), (ad 3, .inl (T 0, 16, .inl (sc 0))), (ad 4, .inr (1, [.ref (ad 5), .ref (ad 6)])), (ad 5, .inl (T 0, 16, .inl (sc 1))), (ad 6, .inl (T 0, 16, .inl (sc 2))), (ad 7, .inl (T 2, 4, .inr (.inr (.inr (.inr (fun j => if j < (mnw M) then some (ad (9 + 4 * j)) else none)))))), (ad 8, .inl (T 1, 4, .inr (.inr (.inr (.inr (fun j => if j < mnp M + 1 then some (xadP ad (mnp M) q0 (j + 25)) else none))))))] ++ ((List.range (mnw M)).flatMap (fun k => [(ad (9 + 4 * k), .inr (2, [.int (msh M k), .ref (ad (10 + 4 * k)), .int (man M k), .int (mgl M k)])), (ad (10 + 4 * k), .inr (1, [.ref (ad (11 + 4 * k)), .ref (ad (12 + 4 * k))])), (ad (11 + 4 * k), .inl (T 0, 16, .inl (mth M k))), (ad (12 + 4 * k), .inl (T 0, 16, .inl (sc (k + 3))))]) ++ (List.range (mnp M)).map (fun k => (ad (k + 25), .inr (0, [.int (mhb M k), .int (mtk M k)]))))) H := hP
    have hD : va_D A ([(q0, .inr (0, [.int x, .int (-1)])), (ad 0, .inr (3, [.ref (ad 1), .ref (ad 4), .ref (ad 7), .ref (ad 8), .int (nI (mnw M)), .int (nI (mnp M + 1)), .int (mwy M), .int (mfc M), .int (mle M), .int (nI (mta M))])), (ad 1, .inr (1, [.ref (ad 2), .ref (ad 3)])), (ad 2, .inl (T 0, 16, .inl (mpk M))), (ad 3, .inl (T 0, 16, .inl (sc 0))), (ad 4, .inr (1, [.ref (ad 5), .ref (ad 6)])), (ad 5, .inl (T 0, 16, .inl (sc 1))), (ad 6, .inl (T 0, 16, .inl (sc 2))), (ad 7, .inl (T 2, 4, .inr (.inr (.inr (.inr (fun j => if j < (mnw M) then some (ad (9 + 4 * j)) else none)))))), (ad 8, .inl (T 1, 4, .inr (.inr (.inr (.inr (fun j => if j < mnp M + 1 then some (xadP ad (mnp M) q0 (j + 25)) else none))))))] ++ ((List.range (mnw M)).flatMap (fun k => [(ad (9 + 4 * k), .inr (2, [.int (msh M k), .ref (ad (10 + 4 * k)), .int (man M k), .int (mgl M k)])), (ad (10 + 4 * k), .inr (1, [.ref (ad (11 + 4 * k)), .ref (ad (12 + 4 * k))])), (ad (11 + 4 * k), .inl (T 0, 16, .inl (mth M k))), (ad (12 + 4 * k), .inl (T 0, 16, .inl (sc (k + 3))))]) ++ (List.range (mnp M)).map (fun k => (ad (k + 25), .inr (0, [.int (mhb M k), .int (mtk M k)]))))) := hD
    refine lv_iload_n hx hb dX3_sit_56 rfl (lv_at hl 0 rfl) ?_
    rw [xadP_w (n := mnp M) (q0 := q0) ad hn4] at hP hD
    have hpm := xC_sit T ad sc M hn4 hc x q0
    have hP := xp_perm hpm hP
    have hD := xd_perm hpm hD
    refine vx_ret ?_
    refine W.widen (k := 2) (n := 12) (by omega) (by omega) ?_
    exact W.iret (v := nI (mnp M)) hx hb hr (fun t9_ ht hW => ⟨⟨nI (mnp M), (xadP ad (mnp M) q0), rfl, ⟨hv1, hc, rfl, xadP_0 _ _ _, hD⟩, x_at ht hP⟩, hS.F ht⟩) hS.2.2 dX3_sit_57
  · refine lv_icmp_lt (tgt := 32) hx hb dX3_sit_19 (by decide) (fun c_ => absurd c_ (nI_nlt (by omega) (by omega))) (fun _ => ?_)
    exact x_throw (cls := "java/lang/IllegalStateException") (text := "there are 4 players") (ik := 76) (is := 127) (ic := 80) hx hb hsl hown hts (by decide +kernel) (by decide +kernel) (by decide +kernel) (by decide +kernel) (by decide +kernel) (by decide +kernel) (by decide +kernel) hXB hZ hS (hl.1.trans hml.symm) hx0 hlocks dX3_sit_22 dX3_sit_25 dX3_sit_26 dX3_sit_28 dX3_sit_31 (Nat.le_of_ble_eq_true rfl) (Nat.le_of_ble_eq_true rfl) (Nat.le_of_ble_eq_true rfl) (Nat.le_of_ble_eq_true rfl) (Nat.le_of_ble_eq_true rfl) (Nat.le_of_ble_eq_true rfl) (Or.inr ⟨hv1, by omega, rfl⟩) hP

/-- a new pack -/
def xM0 : XM := xmk (fun j => nI j) (fun _ _ => 0) (fun _ => 0) (fun _ => 0) (fun _ => 0) (fun _ => 0) (fun _ => 0) 0 0 (nI 0) (nI 0) (nI 0) 0
def xad9 (x0 p0 p1 p2 t0 t1 t2 wa pa : Nat) : Nat → Nat := fun r => [x0, p0, p1, p2, t0, t1, t2, wa, pa].getD r 0

set_option maxHeartbeats 4000000 in
set_option maxRecDepth 100000 in
/-- CardFans() -/
theorem c_X3_init (l : Launch) (G : va_G) (T : Nat → ClassId) (sz : Nat) (x0 : Nat) : Met l yX3_init wsX3_init ({ frames := 2, cells := 8, slots := 76, locals := 32 }) (va_Pc [.ref x0] (xPre G T ([(x0, .inr (3, [.null, .null, .null, .null, .int 0, .int 0, .int 0, .int 0, .int 0, .int 0]))]) sz)) (va_Qv (fun (u : Nat → Nat) => u 0 = x0 ∧ va_D (va_A ([(x0, .inr (3, [.null, .null, .null, .null, .int 0, .int 0, .int 0, .int 0, .int 0, .int 0]))]) sz) (xC T u (fun _ _ => 0) xM0)) (fun u t => va_P G vwCl (xC T u (fun _ _ => 0) xM0) t.heap) (va_A ([(x0, .inr (3, [.null, .null, .null, .null, .int 0, .int 0, .int 0, .int 0, .int 0, .int 0]))]) sz)) 8 76 (va_A ([(x0, .inr (3, [.null, .null, .null, .null, .int 0, .int 0, .int 0, .int 0, .int 0, .int 0]))]) sz) := by
  refine Met.ofW (cc := cX3_init) (maxL := 1) (ret := none) (by decide +kernel) rfl ?_
  intro p e s m args below meth c s₁ B hml hv
  obtain ⟨rfl, hsz, hP, hK, hD0, hXB, hZ⟩ := hv
  have hx := B.exec
  have hb := B.bytes
  have hr := B.returns
  have hts := atoms_spec (ws := wsX3_init) B.pre
  have hown : s.vm.findClass RX3 = some m.cls := findClass_of_methodNamed B.named
  have hlocks := B.notSynchronized
  have hin0 : meth.name = "<init>" := (name_of_methodNamed B.named B.method).1
  subst hsz
  have hD := hD0.self (sz := s.heap.size)
  generalize hAe : va_A ([(x0, .inr (3, [.null, .null, .null, .null, .int 0, .int 0, .int 0, .int 0, .int 0, .int 0]))]) s.heap.size = A at hD hZ ⊢
  have hA : ∀ q : Nat, s.heap.size ≤ q → A q := fun q h => by rw [← hAe]; exact Or.inr h
  have hS : va_S A s.heap s.heap [] := va_S.rf
  have hP : va_P G vwCl ([(x0, .inr (3, [.null, .null, .null, .null, .int 0, .int 0, .int 0, .int 0, .int 0, .int 0]))]) s.heap := hP
  have hiX3 : ∀ w ∈ u_ws RX3 TX3 10, w ∈ wsX3_init := by decide +kernel
  have hiX1 : ∀ w ∈ u_ws RX1 TX1 2, w ∈ wsX3_init := by decide +kernel
  have hl := lv_entry ([.ref x0]) (n := 1) (Nat.le_of_ble_eq_true rfl)
  rw [lg_entry_eq]
  generalize (lg_sl ([.ref x0]) ++ List.replicate (1 - (lg_sl ([.ref x0])).length) Slot.unset).toArray = ls at hl ⊢
  have hl : lv_has ls 1 [(0, .ref x0)] := hl
  refine lv_aload_n hx hb dX3_init_0 rfl (lv_at hl 0 rfl) ?_
  refine W.objInit hx hb hown (hts (.methodLink RX3 3 objectInit) (by decide +kernel)) (hts (.instanceMethod objectInit) (by decide +kernel)) (hts (.code objectInit ⟨#[0xb1]⟩ 1 none) (by decide +kernel)) rfl (by rw [hml]; exact hl.1) rfl dX3_init_1 (Nat.le_of_ble_eq_true rfl) (Nat.le_of_ble_eq_true rfl) ?_
  refine W.eq (g2 := F0 m 4 ls []) rfl ?_
  refine lv_aload_n hx hb dX3_init_4 rfl (lv_at hl 0 rfl) ?_
  refine va_new (ci := 1) (fs := [.null, .null]) (C := RX1) (T := TX1) (N := 2) hx hb hts hiX1 tyX1 tyX1_ok hown (hts (.classLink RX3 9 RX1) (by decide +kernel)) (hts (.instantiable RX1 2) (by decide +kernel)) (hts (.initialized RX1) (by decide +kernel)) hK hP hD hS hA rfl (fun j hj => by rcases (show j = 0 ∨ j = 1 by omega) with rfl | rfl <;> rfl) (Nat.le_of_ble_eq_true rfl) (Nat.le_of_ble_eq_true rfl) dX3_init_5 (fun p0 H hP hD hS => ?_)
  have hP : va_P G vwCl ([(x0, .inr (3, [.null, .null, .null, .null, .int 0, .int 0, .int 0, .int 0, .int 0, .int 0])), (p0, .inr (1, [.null, .null]))]) H := hP
  have hD : va_D A ([(x0, .inr (3, [.null, .null, .null, .null, .int 0, .int 0, .int 0, .int 0, .int 0, .int 0])), (p0, .inr (1, [.null, .null]))]) := hD
  refine lv_dup hx hb dX3_init_8 rfl ?_
  have hP := xp_perm (List.perm_append_comm (l₁ := [(x0, .inr (3, [.null, .null, .null, .null, .int 0, .int 0, .int 0, .int 0, .int 0, .int 0]))]) (l₂ := [(p0, .inr (1, [.null, .null]))])) hP
  have hD := xd_perm (List.perm_append_comm (l₁ := [(x0, .inr (3, [.null, .null, .null, .null, .int 0, .int 0, .int 0, .int 0, .int 0, .int 0]))]) (l₂ := [(p0, .inr (1, [.null, .null]))])) hD
  refine x_callvA (va_runIN (As := []) (rest := [.ref p0, .ref x0]) ⟨hx, hb, hml, hown, hts⟩ (c_X1_init l G T _ p0) ⟨va_cnB 0 hts gX3_init_X1_init_n11 rfl rfl rfl (hXB.1 (.methodLinkNest RX3 11 yX1_init "CardFans") (by decide +kernel)) (hts (.initialized RX1) (by decide +kernel)) (by decide +kernel) ⟨Nat.le_of_ble_eq_true rfl, Nat.le_of_ble_eq_true rfl⟩, rfl, hts (.instanceMethod yX1_init) (by decide +kernel)⟩ (x_preSA (wc := [(p0, .inr (1, [.null, .null]))]) (wr := [(x0, .inr (3, [.null, .null, .null, .null, .int 0, .int 0, .int 0, .int 0, .int 0, .int 0]))]) hK hP hD hS hA hXB hZ _) rfl rfl hl.1 rfl (lv_room (Nat.le_of_ble_eq_true rfl)) dX3_init_9 ⟨Nat.le_of_ble_eq_true rfl, Nat.le_of_ble_eq_true rfl⟩) hP hD hS hA (fun _ h => h) (fun u H locs hw hP hD hS => ?_)
  obtain ⟨p1, p2⟩ := u
  have hP := xp_perm (List.perm_append_comm (l₁ := [(p0, .inr (1, [.ref p1, .ref p2])), (p1, .inl (T 0, 16, .inl (fun _ => 0))), (p2, .inl (T 0, 16, .inl (fun _ => 0)))]) (l₂ := [(x0, .inr (3, [.null, .null, .null, .null, .int 0, .int 0, .int 0, .int 0, .int 0, .int 0]))])) hP
  have hD := xd_perm (List.perm_append_comm (l₁ := [(p0, .inr (1, [.ref p1, .ref p2])), (p1, .inl (T 0, 16, .inl (fun _ => 0))), (p2, .inl (T 0, 16, .inl (fun _ => 0)))]) (l₂ := [(x0, .inr (3, [.null, .null, .null, .null, .int 0, .int 0, .int 0, .int 0, .int 0, .int 0]))])) hD
  have hP : va_P G vwCl ([(x0, .inr (3, [.null, .null, .null, .null, .int 0, .int 0, .int 0, .int 0, .int 0, .int 0])), (p0, .inr (1, [.ref p1, .ref p2])), (p1, .inl (T 0, 16, .inl (fun _ => 0))), (p2, .inl (T 0, 16, .inl (fun _ => 0)))]) H := hP
  have hD : va_D A ([(x0, .inr (3, [.null, .null, .null, .null, .int 0, .int 0, .int 0, .int 0, .int 0, .int 0])), (p0, .inr (1, [.ref p1, .ref p2])), (p1, .inl (T 0, 16, .inl (fun _ => 0))), (p2, .inl (T 0, 16, .inl (fun _ => 0)))]) := hD
  refine va_putF (D := G) (ci := 3) (v := .ref p0) (ty := .object "CardFans$Row") (C := RX3) (T := TX3) (N := 10) hx hb hts hiX3 tyX3 tyX3_ok nmX3 hown hK hP hD hS 0 rfl rfl 0 (by decide) (hts (.fieldLink RX3 12 "CardFans" "pack" "LCardFans$Row;") (by decide +kernel)) (fun _ h9 => h9) rfl hin0 rfl (by decide +kernel) rfl rfl (Nat.le_of_ble_eq_true rfl) dX3_init_12 (fun H locs hP hD hS => ?_)
  have hP : va_P G vwCl ([(x0, .inr (3, [.ref p0, .null, .null, .null, .int 0, .int 0, .int 0, .int 0, .int 0, .int 0])), (p0, .inr (1, [.ref p1, .ref p2])), (p1, .inl (T 0, 16, .inl (fun _ => 0))), (p2, .inl (T 0, 16, .inl (fun _ => 0)))]) H := hP
  have hD : va_D A ([(x0, .inr (3, [.ref p0, .null, .null, .null, .int 0, .int 0, .int 0, .int 0, .int 0, .int 0])), (p0, .inr (1, [.ref p1, .ref p2])), (p1, .inl (T 0, 16, .inl (fun _ => 0))), (p2, .inl (T 0, 16, .inl (fun _ => 0)))]) := hD
  refine lv_aload_n hx hb dX3_init_15 rfl (lv_at hl 0 rfl) ?_
  refine va_new (ci := 1) (fs := [.null, .null]) (C := RX1) (T := TX1) (N := 2) hx hb hts hiX1 tyX1 tyX1_ok hown (hts (.classLink RX3 9 RX1) (by decide +kernel)) (hts (.instantiable RX1 2) (by decide +kernel)) (hts (.initialized RX1) (by decide +kernel)) hK hP hD hS hA rfl (fun j hj => by rcases (show j = 0 ∨ j = 1 by omega) with rfl | rfl <;> rfl) (Nat.le_of_ble_eq_true rfl) (Nat.le_of_ble_eq_true rfl) dX3_init_16 (fun t0 H hP hD hS => ?_)
  have hP : va_P G vwCl ([(x0, .inr (3, [.ref p0, .null, .null, .null, .int 0, .int 0, .int 0, .int 0, .int 0, .int 0])), (p0, .inr (1, [.ref p1, .ref p2])), (p1, .inl (T 0, 16, .inl (fun _ => 0))), (p2, .inl (T 0, 16, .inl (fun _ => 0))), (t0, .inr (1, [.null, .null]))]) H := hP
  have hD : va_D A ([(x0, .inr (3, [.ref p0, .null, .null, .null, .int 0, .int 0, .int 0, .int 0, .int 0, .int 0])), (p0, .inr (1, [.ref p1, .ref p2])), (p1, .inl (T 0, 16, .inl (fun _ => 0))), (p2, .inl (T 0, 16, .inl (fun _ => 0))), (t0, .inr (1, [.null, .null]))]) := hD
  refine lv_dup hx hb dX3_init_19 rfl ?_
  have hP := xp_perm (List.perm_append_comm (l₁ := [(x0, .inr (3, [.ref p0, .null, .null, .null, .int 0, .int 0, .int 0, .int 0, .int 0, .int 0])), (p0, .inr (1, [.ref p1, .ref p2])), (p1, .inl (T 0, 16, .inl (fun _ => 0))), (p2, .inl (T 0, 16, .inl (fun _ => 0)))]) (l₂ := [(t0, .inr (1, [.null, .null]))])) hP
  have hD := xd_perm (List.perm_append_comm (l₁ := [(x0, .inr (3, [.ref p0, .null, .null, .null, .int 0, .int 0, .int 0, .int 0, .int 0, .int 0])), (p0, .inr (1, [.ref p1, .ref p2])), (p1, .inl (T 0, 16, .inl (fun _ => 0))), (p2, .inl (T 0, 16, .inl (fun _ => 0)))]) (l₂ := [(t0, .inr (1, [.null, .null]))])) hD
  refine x_callvA (va_runIN (As := []) (rest := [.ref t0, .ref x0]) ⟨hx, hb, hml, hown, hts⟩ (c_X1_init l G T _ t0) ⟨va_cnB 0 hts gX3_init_X1_init_n11 rfl rfl rfl (hXB.1 (.methodLinkNest RX3 11 yX1_init "CardFans") (by decide +kernel)) (hts (.initialized RX1) (by decide +kernel)) (by decide +kernel) ⟨Nat.le_of_ble_eq_true rfl, Nat.le_of_ble_eq_true rfl⟩, rfl, hts (.instanceMethod yX1_init) (by decide +kernel)⟩ (x_preSA (wc := [(t0, .inr (1, [.null, .null]))]) (wr := [(x0, .inr (3, [.ref p0, .null, .null, .null, .int 0, .int 0, .int 0, .int 0, .int 0, .int 0])), (p0, .inr (1, [.ref p1, .ref p2])), (p1, .inl (T 0, 16, .inl (fun _ => 0))), (p2, .inl (T 0, 16, .inl (fun _ => 0)))]) hK hP hD hS hA hXB hZ _) rfl rfl hl.1 rfl (lv_room (Nat.le_of_ble_eq_true rfl)) dX3_init_20 ⟨Nat.le_of_ble_eq_true rfl, Nat.le_of_ble_eq_true rfl⟩) hP hD hS hA (fun _ h => h) (fun u H locs hw hP hD hS => ?_)
  obtain ⟨t1, t2⟩ := u
  have hP := xp_perm (List.perm_append_comm (l₁ := [(t0, .inr (1, [.ref t1, .ref t2])), (t1, .inl (T 0, 16, .inl (fun _ => 0))), (t2, .inl (T 0, 16, .inl (fun _ => 0)))]) (l₂ := [(x0, .inr (3, [.ref p0, .null, .null, .null, .int 0, .int 0, .int 0, .int 0, .int 0, .int 0])), (p0, .inr (1, [.ref p1, .ref p2])), (p1, .inl (T 0, 16, .inl (fun _ => 0))), (p2, .inl (T 0, 16, .inl (fun _ => 0)))])) hP
  have hD := xd_perm (List.perm_append_comm (l₁ := [(t0, .inr (1, [.ref t1, .ref t2])), (t1, .inl (T 0, 16, .inl (fun _ => 0))), (t2, .inl (T 0, 16, .inl (fun _ => 0)))]) (l₂ := [(x0, .inr (3, [.ref p0, .null, .null, .null, .int 0, .int 0, .int 0, .int 0, .int 0, .int 0])), (p0, .inr (1, [.ref p1, .ref p2])), (p1, .inl (T 0, 16, .inl (fun _ => 0))), (p2, .inl (T 0, 16, .inl (fun _ => 0)))])) hD
  have hP : va_P G vwCl ([(x0, .inr (3, [.ref p0, .null, .null, .null, .int 0, .int 0, .int 0, .int 0, .int 0, .int 0])), (p0, .inr (1, [.ref p1, .ref p2])), (p1, .inl (T 0, 16, .inl (fun _ => 0))), (p2, .inl (T 0, 16, .inl (fun _ => 0))), (t0, .inr (1, [.ref t1, .ref t2])), (t1, .inl (T 0, 16, .inl (fun _ => 0))), (t2, .inl (T 0, 16, .inl (fun _ => 0)))]) H := hP
  have hD : va_D A ([(x0, .inr (3, [.ref p0, .null, .null, .null, .int 0, .int 0, .int 0, .int 0, .int 0, .int 0])), (p0, .inr (1, [.ref p1, .ref p2])), (p1, .inl (T 0, 16, .inl (fun _ => 0))), (p2, .inl (T 0, 16, .inl (fun _ => 0))), (t0, .inr (1, [.ref t1, .ref t2])), (t1, .inl (T 0, 16, .inl (fun _ => 0))), (t2, .inl (T 0, 16, .inl (fun _ => 0)))]) := hD
  refine va_putF (D := G) (ci := 3) (v := .ref t0) (ty := .object "CardFans$Row") (C := RX3) (T := TX3) (N := 10) hx hb hts hiX3 tyX3 tyX3_ok nmX3 hown hK hP hD hS 0 rfl rfl 1 (by decide) (hts (.fieldLink RX3 16 "CardFans" "trial" "LCardFans$Row;") (by decide +kernel)) (fun _ h9 => h9) rfl hin0 rfl (by decide +kernel) rfl rfl (Nat.le_of_ble_eq_true rfl) dX3_init_23 (fun H locs hP hD hS => ?_)
  have hP : va_P G vwCl ([(x0, .inr (3, [.ref p0, .ref t0, .null, .null, .int 0, .int 0, .int 0, .int 0, .int 0, .int 0])), (p0, .inr (1, [.ref p1, .ref p2])), (p1, .inl (T 0, 16, .inl (fun _ => 0))), (p2, .inl (T 0, 16, .inl (fun _ => 0))), (t0, .inr (1, [.ref t1, .ref t2])), (t1, .inl (T 0, 16, .inl (fun _ => 0))), (t2, .inl (T 0, 16, .inl (fun _ => 0)))]) H := hP
  have hD : va_D A ([(x0, .inr (3, [.ref p0, .ref t0, .null, .null, .int 0, .int 0, .int 0, .int 0, .int 0, .int 0])), (p0, .inr (1, [.ref p1, .ref p2])), (p1, .inl (T 0, 16, .inl (fun _ => 0))), (p2, .inl (T 0, 16, .inl (fun _ => 0))), (t0, .inr (1, [.ref t1, .ref t2])), (t1, .inl (T 0, 16, .inl (fun _ => 0))), (t2, .inl (T 0, 16, .inl (fun _ => 0)))]) := hD
  refine lv_aload_n hx hb dX3_init_26 rfl (lv_at hl 0 rfl) ?_
  refine lv_iconst (v := nI 4) hx hb dX3_init_27 (by decide) ?_
  refine x_newaq (N := 4) hx hb hown (hts (.classLink RX3 19 RX2) (by decide +kernel)) hXB.2.2.2.2 hK 2 rfl hP hD hS hA (by decide) (by decide) (Nat.le_of_ble_eq_true rfl) (Nat.le_of_ble_eq_true rfl) dX3_init_28 (fun wa H hP hD hS => ?_)
  have hP : va_P G vwCl ([(x0, .inr (3, [.ref p0, .ref t0, .null, .null, .int 0, .int 0, .int 0, .int 0, .int 0, .int 0])), (p0, .inr (1, [.ref p1, .ref p2])), (p1, .inl (T 0, 16, .inl (fun _ => 0))), (p2, .inl (T 0, 16, .inl (fun _ => 0))), (t0, .inr (1, [.ref t1, .ref t2])), (t1, .inl (T 0, 16, .inl (fun _ => 0))), (t2, .inl (T 0, 16, .inl (fun _ => 0))), (wa, .inl (T 2, 4, .inr (.inr (.inr (.inr (fun _ => none))))))]) H := hP
  have hD : va_D A ([(x0, .inr (3, [.ref p0, .ref t0, .null, .null, .int 0, .int 0, .int 0, .int 0, .int 0, .int 0])), (p0, .inr (1, [.ref p1, .ref p2])), (p1, .inl (T 0, 16, .inl (fun _ => 0))), (p2, .inl (T 0, 16, .inl (fun _ => 0))), (t0, .inr (1, [.ref t1, .ref t2])), (t1, .inl (T 0, 16, .inl (fun _ => 0))), (t2, .inl (T 0, 16, .inl (fun _ => 0))), (wa, .inl (T 2, 4, .inr (.inr (.inr (.inr (fun _ => none))))))]) := hD
  refine va_putF (D := G) (ci := 3) (v := .ref wa) (ty := (.array (.object "CardFans$Watcher"))) (C := RX3) (T := TX3) (N := 10) hx hb hts hiX3 tyX3 tyX3_ok nmX3 hown hK hP hD hS 0 rfl rfl 2 (by decide) (hts (.fieldLink RX3 21 "CardFans" "watchers" "[LCardFans$Watcher;") (by decide +kernel)) (fun _ h9 => h9) rfl hin0 rfl (by decide +kernel) rfl rfl (Nat.le_of_ble_eq_true rfl) dX3_init_31 (fun H locs hP hD hS => ?_)
  have hP : va_P G vwCl ([(x0, .inr (3, [.ref p0, .ref t0, .ref wa, .null, .int 0, .int 0, .int 0, .int 0, .int 0, .int 0])), (p0, .inr (1, [.ref p1, .ref p2])), (p1, .inl (T 0, 16, .inl (fun _ => 0))), (p2, .inl (T 0, 16, .inl (fun _ => 0))), (t0, .inr (1, [.ref t1, .ref t2])), (t1, .inl (T 0, 16, .inl (fun _ => 0))), (t2, .inl (T 0, 16, .inl (fun _ => 0))), (wa, .inl (T 2, 4, .inr (.inr (.inr (.inr (fun _ => none))))))]) H := hP
  have hD : va_D A ([(x0, .inr (3, [.ref p0, .ref t0, .ref wa, .null, .int 0, .int 0, .int 0, .int 0, .int 0, .int 0])), (p0, .inr (1, [.ref p1, .ref p2])), (p1, .inl (T 0, 16, .inl (fun _ => 0))), (p2, .inl (T 0, 16, .inl (fun _ => 0))), (t0, .inr (1, [.ref t1, .ref t2])), (t1, .inl (T 0, 16, .inl (fun _ => 0))), (t2, .inl (T 0, 16, .inl (fun _ => 0))), (wa, .inl (T 2, 4, .inr (.inr (.inr (.inr (fun _ => none))))))]) := hD
  refine lv_aload_n hx hb dX3_init_34 rfl (lv_at hl 0 rfl) ?_
  refine lv_iconst (v := nI 4) hx hb dX3_init_35 (by decide) ?_
  refine x_newaq (N := 4) hx hb hown (hts (.classLink RX3 25 RX0) (by decide +kernel)) hXB.2.2.2.1 hK 1 rfl hP hD hS hA (by decide) (by decide) (Nat.le_of_ble_eq_true rfl) (Nat.le_of_ble_eq_true rfl) dX3_init_36 (fun pa H hP hD hS => ?_)
  have hP : va_P G vwCl ([(x0, .inr (3, [.ref p0, .ref t0, .ref wa, .null, .int 0, .int 0, .int 0, .int 0, .int 0, .int 0])), (p0, .inr (1, [.ref p1, .ref p2])), (p1, .inl (T 0, 16, .inl (fun _ => 0))), (p2, .inl (T 0, 16, .inl (fun _ => 0))), (t0, .inr (1, [.ref t1, .ref t2])), (t1, .inl (T 0, 16, .inl (fun _ => 0))), (t2, .inl (T 0, 16, .inl (fun _ => 0))), (wa, .inl (T 2, 4, .inr (.inr (.inr (.inr (fun _ => none)))))), (pa, .inl (T 1, 4, .inr (.inr (.inr (.inr (fun _ => none))))))]) H := hP
  have hD : va_D A ([(x0, .inr (3, [.ref p0, .ref t0, .ref wa, .null, .int 0, .int 0, .int 0, .int 0, .int 0, .int 0])), (p0, .inr (1, [.ref p1, .ref p2])), (p1, .inl (T 0, 16, .inl (fun _ => 0))), (p2, .inl (T 0, 16, .inl (fun _ => 0))), (t0, .inr (1, [.ref t1, .ref t2])), (t1, .inl (T 0, 16, .inl (fun _ => 0))), (t2, .inl (T 0, 16, .inl (fun _ => 0))), (wa, .inl (T 2, 4, .inr (.inr (.inr (.inr (fun _ => none)))))), (pa, .inl (T 1, 4, .inr (.inr (.inr (.inr (fun _ => none))))))]) := hD
  refine va_putF (D := G) (ci := 3) (v := .ref pa) (ty := (.array (.object "CardFans$Player"))) (C := RX3) (T := TX3) (N := 10) hx hb hts hiX3 tyX3 tyX3_ok nmX3 hown hK hP hD hS 0 rfl rfl 3 (by decide) (hts (.fieldLink RX3 27 "CardFans" "players" "[LCardFans$Player;") (by decide +kernel)) (fun _ h9 => h9) rfl hin0 rfl (by decide +kernel) rfl rfl (Nat.le_of_ble_eq_true rfl) dX3_init_39 (fun H locs hP hD hS => ?_)
  have hP : va_P G vwCl ([(x0, .inr (3, [.ref p0, .ref t0, .ref wa, .ref pa, .int 0, .int 0, .int 0, .int 0, .int 0, .int 0])), (p0, .inr (1, [.ref p1, .ref p2])), (p1, .inl (T 0, 16, .inl (fun _ => 0))), (p2, .inl (T 0, 16, .inl (fun _ => 0))), (t0, .inr (1, [.ref t1, .ref t2])), (t1, .inl (T 0, 16, .inl (fun _ => 0))), (t2, .inl (T 0, 16, .inl (fun _ => 0))), (wa, .inl (T 2, 4, .inr (.inr (.inr (.inr (fun _ => none)))))), (pa, .inl (T 1, 4, .inr (.inr (.inr (.inr (fun _ => none))))))]) H := hP
  have hD : va_D A ([(x0, .inr (3, [.ref p0, .ref t0, .ref wa, .ref pa, .int 0, .int 0, .int 0, .int 0, .int 0, .int 0])), (p0, .inr (1, [.ref p1, .ref p2])), (p1, .inl (T 0, 16, .inl (fun _ => 0))), (p2, .inl (T 0, 16, .inl (fun _ => 0))), (t0, .inr (1, [.ref t1, .ref t2])), (t1, .inl (T 0, 16, .inl (fun _ => 0))), (t2, .inl (T 0, 16, .inl (fun _ => 0))), (wa, .inl (T 2, 4, .inr (.inr (.inr (.inr (fun _ => none)))))), (pa, .inl (T 1, 4, .inr (.inr (.inr (.inr (fun _ => none))))))]) := hD
  refine lv_aload_n hx hb dX3_init_42 rfl (lv_at hl 0 rfl) ?_
  refine va_get (D := G) (ci := 3) (v := .ref p0) (C := RX3) (T := TX3) (N := 10) hx hb hts hiX3 hown hK hP 0 rfl rfl 0 (by decide) (hts (.fieldLink RX3 12 "CardFans" "pack" "LCardFans$Row;") (by decide +kernel)) (fun _ h9 => h9) rfl dX3_init_43 ?_
  refine x_callv (va_runV (As := []) (rest := []) ⟨hx, hb, hml, hown, hts⟩ (c_X1_putInOrder l G T _ p0 p1 p2 (fun _ => 0) (fun _ => 0)) (cwV 0 hts gX3_init_X1_putInOrder rfl rfl rfl (by decide +kernel) ⟨Nat.le_of_ble_eq_true rfl, Nat.le_of_ble_eq_true rfl⟩) (x_preV (wc := [(p0, .inr (1, [.ref p1, .ref p2])), (p1, .inl (T 0, 16, .inl (fun _ => 0))), (p2, .inl (T 0, 16, .inl (fun _ => 0)))]) hK hP hD hS hA hXB hZ [1, 2, 3] rfl rfl _ _ 1 1 rfl rfl) rfl rfl hl.1 rfl (lv_room (Nat.le_of_ble_eq_true rfl)) dX3_init_46 ⟨Nat.le_of_ble_eq_true rfl, Nat.le_of_ble_eq_true rfl⟩) hP hD hS hA [1, 2, 3] rfl (fun _ _ => rfl) (fun u1 H locs _ hP hD hS => ?_)
  have hP : va_P G vwCl ([(x0, .inr (3, [.ref p0, .ref t0, .ref wa, .ref pa, .int 0, .int 0, .int 0, .int 0, .int 0, .int 0])), (p0, .inr (1, [.ref p1, .ref p2])), (p1, .inl (T 0, 16, .inl (fun j => nI j))), (p2, .inl (T 0, 16, .inl (fun _ => 0))), (t0, .inr (1, [.ref t1, .ref t2])), (t1, .inl (T 0, 16, .inl (fun _ => 0))), (t2, .inl (T 0, 16, .inl (fun _ => 0))), (wa, .inl (T 2, 4, .inr (.inr (.inr (.inr (fun _ => none)))))), (pa, .inl (T 1, 4, .inr (.inr (.inr (.inr (fun _ => none))))))]) H := hP
  have hD : va_D A ([(x0, .inr (3, [.ref p0, .ref t0, .ref wa, .ref pa, .int 0, .int 0, .int 0, .int 0, .int 0, .int 0])), (p0, .inr (1, [.ref p1, .ref p2])), (p1, .inl (T 0, 16, .inl (fun j => nI j))), (p2, .inl (T 0, 16, .inl (fun _ => 0))), (t0, .inr (1, [.ref t1, .ref t2])), (t1, .inl (T 0, 16, .inl (fun _ => 0))), (t2, .inl (T 0, 16, .inl (fun _ => 0))), (wa, .inl (T 2, 4, .inr (.inr (.inr (.inr (fun _ => none)))))), (pa, .inl (T 1, 4, .inr (.inr (.inr (.inr (fun _ => none))))))]) := hD
  have hP : va_P G vwCl (xC T (xad9 x0 p0 p1 p2 t0 t1 t2 wa pa) (fun _ _ => 0) xM0) H := hP
  have hD : va_D A (xC T (xad9 x0 p0 p1 p2 t0 t1 t2 wa pa) (fun _ _ => 0) xM0) := hD
  exact W.vret hx hb hr (fun t9_ ht hW => ⟨⟨(xad9 x0 p0 p1 p2 t0 t1 t2 wa pa), rfl, ⟨rfl, hD⟩, x_at ht hP⟩, hS.F ht⟩) hS.2.2 dX3_init_49
end XMD
