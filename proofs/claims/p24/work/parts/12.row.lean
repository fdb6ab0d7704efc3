section XL3
/-- the first place of a value -/
def xfp (f : Nat → Int32) (x : Int32) : Int32 := match (List.range 16).find? (fun i => decide (f i = x)) with
  | some i => nI i
  | none => -1
theorem xfp_some {f : Nat → Int32} {x : Int32} {i : Nat} (hi : i < 16) (h : f i = x) (h2 : ∀ j, j < i → ¬ f j = x) : xfp f x = nI i := by
  unfold xfp
  have : (List.range 16).find? (fun i => decide (f i = x)) = some i := by
    rw [List.find?_range_eq_some]
    exact ⟨by simpa using h, by simpa using hi, fun j hj => by simpa using h2 j hj⟩
  rw [this]
theorem xfp_none {f : Nat → Int32} {x : Int32} (h2 : ∀ j, j < 16 → ¬ f j = x) : xfp f x = -1 := by
  unfold xfp
  have : (List.range 16).find? (fun i => decide (f i = x)) = none := by
    rw [List.find?_eq_none]
    intro j hj
    simpa using h2 j (by simpa using hj)
  rw [this]
def xct (p : Nat → Bool) : Nat → Nat
  | 0 => 0
  | n + 1 => xct p n + (if p n then 1 else 0)
theorem xct_le (p : Nat → Bool) : ∀ n, xct p n ≤ n
  | 0 => Nat.le_refl 0
  | n + 1 => by have := xct_le p n; show xct p n + (if p n then 1 else 0) ≤ n + 1; split <;> omega
theorem xct_t {p : Nat → Bool} {n : Nat} (h : p n = true) : xct p (n + 1) = xct p n + 1 := by show xct p n + (if p n then 1 else 0) = _; rw [if_pos h]
theorem xct_f {p : Nat → Bool} {n : Nat} (h : ¬ p n = true) : xct p (n + 1) = xct p n := by show xct p n + (if p n then 1 else 0) = _; rw [if_neg h]; rfl
def xmx (f : Nat → Int32) (d : Int64) : Nat → Int64
  | 0 => d
  | n + 1 => xmx f d n * 31 + (f n).toInt64
theorem xlt_s {i : Nat} {P : Nat → Prop} (h : ∀ a, a < i → P a) (hi : P i) : ∀ a, a < i + 1 → P a := fun a ha => by
  rcases Nat.lt_or_ge a i with q | q
  · exact h a q
  · rw [show a = i by omega]; exact hi

set_option maxHeartbeats 4000000 in
set_option maxRecDepth 100000 in
/-- Row.at -/
theorem c_X1_at (l : Launch) (G : va_G) (T : Nat → ClassId) (sz : Nat) (a0 a1 a2 : Nat) (f g : Nat → Int32) (k : Nat) (hk : k < 16) : Met l yX1_at wsX1_at ({ frames := 1, cells := 0, slots := 0, locals := 20 }) (va_Pc [.ref a0, .int (nI k)] (xPre G T ([(a0, .inr (1, [.ref a1, .ref a2])), (a1, .inl (T 0, 16, .inl f)), (a2, .inl (T 0, 16, .inl g))]) sz)) (va_Qi (fun (r : Int32) (u : Unit) => r = f k) (fun u t => va_P G vwCl ([(a0, .inr (1, [.ref a1, .ref a2])), (a1, .inl (T 0, 16, .inl f)), (a2, .inl (T 0, 16, .inl g))]) t.heap) (va_A ([(a0, .inr (1, [.ref a1, .ref a2])), (a1, .inl (T 0, 16, .inl f)), (a2, .inl (T 0, 16, .inl g))]) sz)) 0 0 (va_A ([(a0, .inr (1, [.ref a1, .ref a2])), (a1, .inl (T 0, 16, .inl f)), (a2, .inl (T 0, 16, .inl g))]) sz) := by
  refine Met.ofW (cc := cX1_at) (maxL := 2) (ret := (some .int)) (by decide +kernel) rfl ?_
  intro p e s m args below meth c s₁ B hml hv
  obtain ⟨rfl, hsz, hP, hK, hD0, hXB, hZ⟩ := hv
  have hx := B.exec
  have hb := B.bytes
  have hr := B.returns
  have hts := atoms_spec (ws := wsX1_at) B.pre
  have hown : s.vm.findClass RX1 = some m.cls := findClass_of_methodNamed B.named
  have hlocks := B.notSynchronized
  subst hsz
  have hD := hD0.self (sz := s.heap.size)
  generalize hAe : va_A ([(a0, .inr (1, [.ref a1, .ref a2])), (a1, .inl (T 0, 16, .inl f)), (a2, .inl (T 0, 16, .inl g))]) s.heap.size = A at hD hZ ⊢
  have hA : ∀ q : Nat, s.heap.size ≤ q → A q := fun q h => by rw [← hAe]; exact Or.inr h
  have hS : va_S A s.heap s.heap [] := va_S.rf
  have hP : va_P G vwCl ([(a0, .inr (1, [.ref a1, .ref a2])), (a1, .inl (T 0, 16, .inl f)), (a2, .inl (T 0, 16, .inl g))]) s.heap := hP
  have hiX1 : ∀ w ∈ u_ws RX1 TX1 2, w ∈ wsX1_at := by decide +kernel
  have hl := lv_entry ([.ref a0, .int (nI k)]) (n := 2) (Nat.le_of_ble_eq_true rfl)
  rw [lg_entry_eq]
  generalize (lg_sl ([.ref a0, .int (nI k)]) ++ List.replicate (2 - (lg_sl ([.ref a0, .int (nI k)])).length) Slot.unset).toArray = ls at hl ⊢
  have hl : lv_has ls 2 [(0, .ref a0), (1, .int (nI k))] := hl
  refine lv_iload_n hx hb dX1_at_0 rfl (lv_at hl 1 rfl) ?_
  refine x_calli (va_runSN (As := [.int (nI k)]) (rest := []) ⟨hx, hb, hml, hown, hts⟩ (c_X3_isSixteenth l G T _ (nI k)) (⟨va_cnB 1 hts gX1_at_X3_isSixteenth_n18 rfl rfl rfl (hXB.1 (.methodLinkNest RX1 18 yX3_isSixteenth "CardFans") (by decide +kernel)) (hts (.initialized RX3) (by decide +kernel)) (by decide +kernel) ⟨Nat.le_of_ble_eq_true rfl, Nat.le_of_ble_eq_true rfl⟩, hts (.static yX3_isSixteenth) (by decide +kernel), trivial⟩) (x_preS (wc := []) hK hP hD hS hA hXB hZ [] rfl rfl _) rfl rfl hl.1 rfl (lv_room (Nat.le_of_ble_eq_true rfl)) dX1_at_1 ⟨Nat.le_of_ble_eq_true rfl, Nat.le_of_ble_eq_true rfl⟩) hP hD hS hA [] rfl (fun _ _ _ => rfl) (fun r1 u H locs hw1 hP hD hS => ?_)
  have hP : va_P G vwCl ([(a0, .inr (1, [.ref a1, .ref a2])), (a1, .inl (T 0, 16, .inl f)), (a2, .inl (T 0, 16, .inl g))]) H := hP
  have hD : va_D A ([(a0, .inr (1, [.ref a1, .ref a2])), (a1, .inl (T 0, 16, .inl f)), (a2, .inl (T 0, 16, .inl g))]) := hD
  refine lv_if_eq (tgt := 16) hx hb dX1_at_4 (by decide) (fun c_ => absurd c_ (xb_ne hw1 (xvb_k hk (by decide)))) (fun _ => ?_)
  refine lv_aload_n hx hb dX1_at_7 rfl (lv_at hl 0 rfl) ?_
  refine va_get (D := G) (ci := 1) (v := .ref a1) (C := RX1) (T := TX1) (N := 2) hx hb hts hiX1 hown hK hP 0 rfl rfl 0 (by decide) (hts (.fieldLink RX1 9 "CardFans$Row" "numbers" "[I") (by decide +kernel)) (fun _ h9 => h9) rfl dX1_at_8 ?_
  refine lv_iload_n hx hb dX1_at_11 rfl (lv_at hl 1 rfl) ?_
  refine x_iald hx hb hK hP 1 0 (f := f) (n := 16) rfl rfl hk (by decide) dX1_at_12 ?_
  refine lv_goto (tgt := 17) hx hb dX1_at_13 (by decide) ?_
  exact W.iret (v := f k) hx hb hr (fun t9_ ht hW => ⟨⟨f k, (), rfl, rfl, x_at ht hP⟩, hS.F ht⟩) hS.2.2 dX1_at_17

set_option maxHeartbeats 4000000 in
set_option maxRecDepth 100000 in
/-- Row.put -/
theorem c_X1_put (l : Launch) (G : va_G) (T : Nat → ClassId) (sz : Nat) (a0 a1 a2 : Nat) (f g : Nat → Int32) (k : Nat) (hk : k < 16) (v : Int32) : Met l yX1_put wsX1_put ({ frames := 1, cells := 0, slots := 0, locals := 20 }) (va_Pc [.ref a0, .int (nI k), .int v] (xPre G T ([(a0, .inr (1, [.ref a1, .ref a2])), (a1, .inl (T 0, 16, .inl f)), (a2, .inl (T 0, 16, .inl g))]) sz)) (va_Qv (fun (u : Unit) => True) (fun u t => va_P G vwCl ([(a0, .inr (1, [.ref a1, .ref a2])), (a1, .inl (T 0, 16, .inl (upd f k v))), (a2, .inl (T 0, 16, .inl g))]) t.heap) (va_A ([(a0, .inr (1, [.ref a1, .ref a2])), (a1, .inl (T 0, 16, .inl f)), (a2, .inl (T 0, 16, .inl g))]) sz)) 0 0 (va_A ([(a0, .inr (1, [.ref a1, .ref a2])), (a1, .inl (T 0, 16, .inl f)), (a2, .inl (T 0, 16, .inl g))]) sz) := by
  refine Met.ofW (cc := cX1_put) (maxL := 3) (ret := none) (by decide +kernel) rfl ?_
  intro p e s m args below meth c s₁ B hml hv
  obtain ⟨rfl, hsz, hP, hK, hD0, hXB, hZ⟩ := hv
  have hx := B.exec
  have hb := B.bytes
  have hr := B.returns
  have hts := atoms_spec (ws := wsX1_put) B.pre
  have hown : s.vm.findClass RX1 = some m.cls := findClass_of_methodNamed B.named
  have hlocks := B.notSynchronized
  subst hsz
  have hD := hD0.self (sz := s.heap.size)
  generalize hAe : va_A ([(a0, .inr (1, [.ref a1, .ref a2])), (a1, .inl (T 0, 16, .inl f)), (a2, .inl (T 0, 16, .inl g))]) s.heap.size = A at hD hZ ⊢
  have hA : ∀ q : Nat, s.heap.size ≤ q → A q := fun q h => by rw [← hAe]; exact Or.inr h
  have hS : va_S A s.heap s.heap [] := va_S.rf
  have hP : va_P G vwCl ([(a0, .inr (1, [.ref a1, .ref a2])), (a1, .inl (T 0, 16, .inl f)), (a2, .inl (T 0, 16, .inl g))]) s.heap := hP
  have hiX1 : ∀ w ∈ u_ws RX1 TX1 2, w ∈ wsX1_put := by decide +kernel
  have hl := lv_entry ([.ref a0, .int (nI k), .int v]) (n := 3) (Nat.le_of_ble_eq_true rfl)
  rw [lg_entry_eq]
  generalize (lg_sl ([.ref a0, .int (nI k), .int v]) ++ List.replicate (3 - (lg_sl ([.ref a0, .int (nI k), .int v])).length) Slot.unset).toArray = ls at hl ⊢
  have hl : lv_has ls 3 [(0, .ref a0), (1, .int (nI k)), (2, .int v)] := hl
  refine lv_iload_n hx hb dX1_put_0 rfl (lv_at hl 1 rfl) ?_
  refine x_calli (va_runSN (As := [.int (nI k)]) (rest := []) ⟨hx, hb, hml, hown, hts⟩ (c_X3_isSixteenth l G T _ (nI k)) (⟨va_cnB 1 hts gX1_put_X3_isSixteenth_n18 rfl rfl rfl (hXB.1 (.methodLinkNest RX1 18 yX3_isSixteenth "CardFans") (by decide +kernel)) (hts (.initialized RX3) (by decide +kernel)) (by decide +kernel) ⟨Nat.le_of_ble_eq_true rfl, Nat.le_of_ble_eq_true rfl⟩, hts (.static yX3_isSixteenth) (by decide +kernel), trivial⟩) (x_preS (wc := []) hK hP hD hS hA hXB hZ [] rfl rfl _) rfl rfl hl.1 rfl (lv_room (Nat.le_of_ble_eq_true rfl)) dX1_put_1 ⟨Nat.le_of_ble_eq_true rfl, Nat.le_of_ble_eq_true rfl⟩) hP hD hS hA [] rfl (fun _ _ _ => rfl) (fun r1 u H locs hw1 hP hD hS => ?_)
  have hP : va_P G vwCl ([(a0, .inr (1, [.ref a1, .ref a2])), (a1, .inl (T 0, 16, .inl f)), (a2, .inl (T 0, 16, .inl g))]) H := hP
  have hD : va_D A ([(a0, .inr (1, [.ref a1, .ref a2])), (a1, .inl (T 0, 16, .inl f)), (a2, .inl (T 0, 16, .inl g))]) := hD
  refine lv_if_eq (tgt := 14) hx hb dX1_put_4 (by decide) (fun c_ => absurd c_ (xb_ne hw1 (xvb_k hk (by decide)))) (fun _ => ?_)
  refine lv_aload_n hx hb dX1_put_7 rfl (lv_at hl 0 rfl) ?_
  refine va_get (D := G) (ci := 1) (v := .ref a1) (C := RX1) (T := TX1) (N := 2) hx hb hts hiX1 hown hK hP 0 rfl rfl 0 (by decide) (hts (.fieldLink RX1 9 "CardFans$Row" "numbers" "[I") (by decide +kernel)) (fun _ h9 => h9) rfl dX1_put_8 ?_
  refine lv_iload_n hx hb dX1_put_11 rfl (lv_at hl 1 rfl) ?_
  refine lv_iload_n hx hb dX1_put_12 rfl (lv_at hl 2 rfl) ?_
  refine x_iast hx hb hK hP hD hS 1 0 (f := f) (n := 16) rfl rfl hk (by decide) dX1_put_13 (fun H locs hP hD hS => ?_)
  have hP : va_P G vwCl ([(a0, .inr (1, [.ref a1, .ref a2])), (a1, .inl (T 0, 16, .inl (upd f k v))), (a2, .inl (T 0, 16, .inl g))]) H := hP
  have hD : va_D A ([(a0, .inr (1, [.ref a1, .ref a2])), (a1, .inl (T 0, 16, .inl (upd f k v))), (a2, .inl (T 0, 16, .inl g))]) := hD
  exact W.vret hx hb hr (fun t9_ ht hW => ⟨⟨(), rfl, trivial, x_at ht hP⟩, hS.F ht⟩) hS.2.2 dX1_put_14

set_option maxHeartbeats 4000000 in
set_option maxRecDepth 100000 in
/-- Row.putInOrder -/
theorem c_X1_putInOrder (l : Launch) (G : va_G) (T : Nat → ClassId) (sz : Nat) (a0 a1 a2 : Nat) (f g : Nat → Int32) : Met l yX1_putInOrder wsX1_putInOrder ({ frames := 0, cells := 0, slots := 0, locals := 0 }) (va_Pc [.ref a0] (xPre G T ([(a0, .inr (1, [.ref a1, .ref a2])), (a1, .inl (T 0, 16, .inl f)), (a2, .inl (T 0, 16, .inl g))]) sz)) (va_Qv (fun (u : Unit) => True) (fun u t => va_P G vwCl ([(a0, .inr (1, [.ref a1, .ref a2])), (a1, .inl (T 0, 16, .inl (fun j => nI j))), (a2, .inl (T 0, 16, .inl g))]) t.heap) (va_A ([(a0, .inr (1, [.ref a1, .ref a2])), (a1, .inl (T 0, 16, .inl f)), (a2, .inl (T 0, 16, .inl g))]) sz)) 0 0 (va_A ([(a0, .inr (1, [.ref a1, .ref a2])), (a1, .inl (T 0, 16, .inl f)), (a2, .inl (T 0, 16, .inl g))]) sz) := by
  refine Met.ofW (cc := cX1_putInOrder) (maxL := 2) (ret := none) (by decide +kernel) rfl ?_
  intro p e s m args below meth c s₁ B hml hv
  obtain ⟨rfl, hsz, hP, hK, hD0, hXB, hZ⟩ := hv
  have hx := B.exec
  have hb := B.bytes
  have hr := B.returns
  have hts := atoms_spec (ws := wsX1_putInOrder) B.pre
  have hown : s.vm.findClass RX1 = some m.cls := findClass_of_methodNamed B.named
  have hlocks := B.notSynchronized
  subst hsz
  have hD := hD0.self (sz := s.heap.size)
  generalize hAe : va_A ([(a0, .inr (1, [.ref a1, .ref a2])), (a1, .inl (T 0, 16, .inl f)), (a2, .inl (T 0, 16, .inl g))]) s.heap.size = A at hD hZ ⊢
  have hA : ∀ q : Nat, s.heap.size ≤ q → A q := fun q h => by rw [← hAe]; exact Or.inr h
  have hS : va_S A s.heap s.heap [] := va_S.rf
  have hP : va_P G vwCl ([(a0, .inr (1, [.ref a1, .ref a2])), (a1, .inl (T 0, 16, .inl f)), (a2, .inl (T 0, 16, .inl g))]) s.heap := hP
  have hiX1 : ∀ w ∈ u_ws RX1 TX1 2, w ∈ wsX1_putInOrder := by decide +kernel
  have hl := lv_entry ([.ref a0]) (n := 2) (Nat.le_of_ble_eq_true rfl)
  rw [lg_entry_eq]
  generalize (lg_sl ([.ref a0]) ++ List.replicate (2 - (lg_sl ([.ref a0])).length) Slot.unset).toArray = ls at hl ⊢
  have hl : lv_has ls 2 [(0, .ref a0)] := hl
  refine lv_iconst (v := nI 0) hx hb dX1_putInOrder_0 (by decide) ?_
  refine lv_istore_n (lv' := [(1, .int (nI 0)), (0, .ref a0)]) hx hb dX1_putInOrder_1 rfl hl (by decide) rfl (fun ls hl => ?_)
  suffices LP : ∀ (n : Nat) (i : Nat) (f : Nat → Int32), (i ≤ 16) → (16 < i + n) → (∀ j, j < i → f j = nI j) → ∀ (H : Heap) (locs : List Loc), va_P G vwCl ([(a0, .inr (1, [.ref a1, .ref a2])), (a1, .inl (T 0, 16, .inl f)), (a2, .inl (T 0, 16, .inl g))]) H → va_D A ([(a0, .inr (1, [.ref a1, .ref a2])), (a1, .inl (T 0, 16, .inl f)), (a2, .inl (T 0, 16, .inl g))]) → va_S A s.heap H locs → ∀ (ls : Array Slot), lv_has ls 2 [(1, .int (nI i)), (0, .ref a0)] → W p l e (headSpec wsX1_putInOrder ({ frames := 0, cells := 0, slots := 0, locals := 0 })).room s m ([.ref a0] : List Value).toArray below meth c H locs 0 0 (MQ below (va_Qv (fun (u : Unit) => True) (fun u t => va_P G vwCl ([(a0, .inr (1, [.ref a1, .ref a2])), (a1, .inl (T 0, 16, .inl (fun j => nI j))), (a2, .inl (T 0, 16, .inl g))]) t.heap) A) ([.ref a0] : List Value).toArray s 0 0 A) (F0 m 2 ls []) from LP 17 0 f (by decide) (by decide) (fun j hj => absurd hj (Nat.not_lt_zero j)) _ _ hP hD hS ls (lv_sub hl [0, 1] rfl)
  clear hP hD hS hl
  intro n
  induction n with
  | zero => intro i f hi hn hf H locs _ _ _ ls _; exfalso; omega
  | succ n ih =>
    intro i f hi hn hf H locs hP hD hS ls hl
    refine lv_iload_n hx hb dX1_putInOrder_2 rfl (lv_at hl 0 rfl) ?_
    refine lv_bipush (v := nI 16) hx hb dX1_putInOrder_3 (by decide) ?_
    by_cases hc : i < 16
    · refine lv_icmp_ge (tgt := 21) hx hb dX1_putInOrder_5 (by decide) (fun c_ => absurd c_ (nI_ge hc (by decide))) (fun _ => ?_)
      refine lv_aload_n hx hb dX1_putInOrder_8 rfl (lv_at hl 1 rfl) ?_
      refine va_get (D := G) (ci := 1) (v := .ref a1) (C := RX1) (T := TX1) (N := 2) hx hb hts hiX1 hown hK hP 0 rfl rfl 0 (by decide) (hts (.fieldLink RX1 9 "CardFans$Row" "numbers" "[I") (by decide +kernel)) (fun _ h9 => h9) rfl dX1_putInOrder_9 ?_
      refine lv_iload_n hx hb dX1_putInOrder_12 rfl (lv_at hl 0 rfl) ?_
      refine lv_iload_n hx hb dX1_putInOrder_13 rfl (lv_at hl 0 rfl) ?_
      refine x_iast hx hb hK hP hD hS 1 0 (f := f) (n := 16) rfl rfl hc (by decide) dX1_putInOrder_14 (fun H locs hP hD hS => ?_)
      have hP : va_P G vwCl ([(a0, .inr (1, [.ref a1, .ref a2])), (a1, .inl (T 0, 16, .inl (upd f i (nI i)))), (a2, .inl (T 0, 16, .inl g))]) H := hP
      have hD : va_D A ([(a0, .inr (1, [.ref a1, .ref a2])), (a1, .inl (T 0, 16, .inl (upd f i (nI i)))), (a2, .inl (T 0, 16, .inl g))]) := hD
      refine lv_iinc (v := nI (i + 1)) (lv' := [(1, .int (nI (i + 1))), (0, .ref a0)]) hx hb dX1_putInOrder_15 hl (k := 0) rfl (x_inc _) (by decide) rfl (fun ls hl => ?_)
      refine lv_goto (tgt := 2) hx hb dX1_putInOrder_18 (by decide) ?_
      exact ih (i + 1) _ (by omega) (by omega) (xlt_s (fun a ha => by rw [pk_un (by omega)]; exact hf a ha) (by rw [pk_us])) _ _ hP hD hS ls (lv_sub hl [0, 1] rfl)
    · refine lv_icmp_ge (tgt := 21) hx hb dX1_putInOrder_5 (by decide) (fun _ => ?_) (fun c_ => absurd (nI_le (by omega) (by omega)) c_)
      have hP := x_can hP 1 (g := (fun j => nI j)) rfl (fun j hj => hf j (by omega))
      have hD := xd_set hD 1 (e := .inl (T 0, 16, .inl (fun j => nI j))) rfl
      have hP : va_P G vwCl ([(a0, .inr (1, [.ref a1, .ref a2])), (a1, .inl (T 0, 16, .inl (fun j => nI j))), (a2, .inl (T 0, 16, .inl g))]) H := hP
      have hD : va_D A ([(a0, .inr (1, [.ref a1, .ref a2])), (a1, .inl (T 0, 16, .inl (fun j => nI j))), (a2, .inl (T 0, 16, .inl g))]) := hD
      exact W.vret hx hb hr (fun t9_ ht hW => ⟨⟨(), rfl, trivial, x_at ht hP⟩, hS.F ht⟩) hS.2.2 dX1_putInOrder_21

set_option maxHeartbeats 4000000 in
set_option maxRecDepth 100000 in
/-- Row.firstPlaceOf -/
theorem c_X1_firstPlaceOf (l : Launch) (G : va_G) (T : Nat → ClassId) (sz : Nat) (a0 a1 a2 : Nat) (f g : Nat → Int32) (x : Int32) : Met l yX1_firstPlaceOf wsX1_firstPlaceOf ({ frames := 0, cells := 0, slots := 0, locals := 0 }) (va_Pc [.ref a0, .int x] (xPre G T ([(a0, .inr (1, [.ref a1, .ref a2])), (a1, .inl (T 0, 16, .inl f)), (a2, .inl (T 0, 16, .inl g))]) sz)) (va_Qi (fun (r : Int32) (u : Unit) => r = xfp f x) (fun u t => va_P G vwCl ([(a0, .inr (1, [.ref a1, .ref a2])), (a1, .inl (T 0, 16, .inl f)), (a2, .inl (T 0, 16, .inl g))]) t.heap) (va_A ([(a0, .inr (1, [.ref a1, .ref a2])), (a1, .inl (T 0, 16, .inl f)), (a2, .inl (T 0, 16, .inl g))]) sz)) 0 0 (va_A ([(a0, .inr (1, [.ref a1, .ref a2])), (a1, .inl (T 0, 16, .inl f)), (a2, .inl (T 0, 16, .inl g))]) sz) := by
  refine Met.ofW (cc := cX1_firstPlaceOf) (maxL := 3) (ret := (some .int)) (by decide +kernel) rfl ?_
  intro p e s m args below meth c s₁ B hml hv
  obtain ⟨rfl, hsz, hP, hK, hD0, hXB, hZ⟩ := hv
  have hx := B.exec
  have hb := B.bytes
  have hr := B.returns
  have hts := atoms_spec (ws := wsX1_firstPlaceOf) B.pre
  have hown : s.vm.findClass RX1 = some m.cls := findClass_of_methodNamed B.named
  have hlocks := B.notSynchronized
  subst hsz
  have hD := hD0.self (sz := s.heap.size)
  generalize hAe : va_A ([(a0, .inr (1, [.ref a1, .ref a2])), (a1, .inl (T 0, 16, .inl f)), (a2, .inl (T 0, 16, .inl g))]) s.heap.size = A at hD hZ ⊢
  have hA : ∀ q : Nat, s.heap.size ≤ q → A q := fun q h => by rw [← hAe]; exact Or.inr h
  have hS : va_S A s.heap s.heap [] := va_S.rf
  have hP : va_P G vwCl ([(a0, .inr (1, [.ref a1, .ref a2])), (a1, .inl (T 0, 16, .inl f)), (a2, .inl (T 0, 16, .inl g))]) s.heap := hP
  have hiX1 : ∀ w ∈ u_ws RX1 TX1 2, w ∈ wsX1_firstPlaceOf := by decide +kernel
  have hl := lv_entry ([.ref a0, .int x]) (n := 3) (Nat.le_of_ble_eq_true rfl)
  rw [lg_entry_eq]
  generalize (lg_sl ([.ref a0, .int x]) ++ List.replicate (3 - (lg_sl ([.ref a0, .int x])).length) Slot.unset).toArray = ls at hl ⊢
  have hl : lv_has ls 3 [(0, .ref a0), (1, .int x)] := hl
  refine lv_iconst (v := nI 0) hx hb dX1_firstPlaceOf_0 (by decide) ?_
  refine lv_istore_n (lv' := [(2, .int (nI 0)), (0, .ref a0), (1, .int x)]) hx hb dX1_firstPlaceOf_1 rfl hl (by decide) rfl (fun ls hl => ?_)
  suffices LP : ∀ (n : Nat) (i : Nat), (i ≤ 16) → (16 < i + n) → (∀ j, j < i → ¬ f j = x) → ∀ (H : Heap) (locs : List Loc), va_P G vwCl ([(a0, .inr (1, [.ref a1, .ref a2])), (a1, .inl (T 0, 16, .inl f)), (a2, .inl (T 0, 16, .inl g))]) H → va_D A ([(a0, .inr (1, [.ref a1, .ref a2])), (a1, .inl (T 0, 16, .inl f)), (a2, .inl (T 0, 16, .inl g))]) → va_S A s.heap H locs → ∀ (ls : Array Slot), lv_has ls 3 [(2, .int (nI i)), (0, .ref a0), (1, .int x)] → W p l e (headSpec wsX1_firstPlaceOf ({ frames := 0, cells := 0, slots := 0, locals := 0 })).room s m ([.ref a0, .int x] : List Value).toArray below meth c H locs 0 0 (MQ below (va_Qi (fun (r : Int32) (u : Unit) => r = xfp f x) (fun u t => va_P G vwCl ([(a0, .inr (1, [.ref a1, .ref a2])), (a1, .inl (T 0, 16, .inl f)), (a2, .inl (T 0, 16, .inl g))]) t.heap) A) ([.ref a0, .int x] : List Value).toArray s 0 0 A) (F0 m 2 ls []) from LP 17 0 (by decide) (by decide) (fun j hj => absurd hj (Nat.not_lt_zero j)) _ _ hP hD hS ls (lv_sub hl [0, 1, 2] rfl)
  clear hP hD hS hl
  intro n
  induction n with
  | zero => intro i hi hn hf H locs _ _ _ ls _; exfalso; omega
  | succ n ih =>
    intro i hi hn hf H locs hP hD hS ls hl
    refine lv_iload_n hx hb dX1_firstPlaceOf_2 rfl (lv_at hl 0 rfl) ?_
    refine lv_bipush (v := nI 16) hx hb dX1_firstPlaceOf_3 (by decide) ?_
    by_cases hc : i < 16
    · refine lv_icmp_ge (tgt := 26) hx hb dX1_firstPlaceOf_5 (by decide) (fun c_ => absurd c_ (nI_ge hc (by decide))) (fun _ => ?_)
      refine lv_aload_n hx hb dX1_firstPlaceOf_8 rfl (lv_at hl 1 rfl) ?_
      refine va_get (D := G) (ci := 1) (v := .ref a1) (C := RX1) (T := TX1) (N := 2) hx hb hts hiX1 hown hK hP 0 rfl rfl 0 (by decide) (hts (.fieldLink RX1 9 "CardFans$Row" "numbers" "[I") (by decide +kernel)) (fun _ h9 => h9) rfl dX1_firstPlaceOf_9 ?_
      refine lv_iload_n hx hb dX1_firstPlaceOf_12 rfl (lv_at hl 0 rfl) ?_
      refine x_iald hx hb hK hP 1 0 (f := f) (n := 16) rfl rfl hc (by decide) dX1_firstPlaceOf_13 ?_
      refine lv_iload_n hx hb dX1_firstPlaceOf_14 rfl (lv_at hl 2 rfl) ?_
      refine lv_icmp_ne (tgt := 20) hx hb dX1_firstPlaceOf_15 (by decide) (fun c1 => ?_) (fun c1 => ?_)
      · refine lv_iinc (v := nI (i + 1)) (lv' := [(2, .int (nI (i + 1))), (0, .ref a0), (1, .int x)]) hx hb dX1_firstPlaceOf_20 hl (k := 0) rfl (x_inc _) (by decide) rfl (fun ls hl => ?_)
        refine lv_goto (tgt := 2) hx hb dX1_firstPlaceOf_23 (by decide) ?_
        exact ih (i + 1) (by omega) (by omega) (xlt_s hf c1) _ _ hP hD hS ls (lv_sub hl [0, 1, 2] rfl)
      · refine lv_iload_n hx hb dX1_firstPlaceOf_18 rfl (lv_at hl 0 rfl) ?_
        exact W.iret (v := nI i) hx hb hr (fun t9_ ht hW => ⟨⟨nI i, (), rfl, (xfp_some hc c1 hf).symm, x_at ht hP⟩, hS.F ht⟩) hS.2.2 dX1_firstPlaceOf_19
    · refine lv_icmp_ge (tgt := 26) hx hb dX1_firstPlaceOf_5 (by decide) (fun _ => ?_) (fun c_ => absurd (nI_le (by omega) (by omega)) c_)
      refine lv_iconst (v := (-1)) hx hb dX1_firstPlaceOf_26 (by decide) ?_
      exact W.iret (v := (-1)) hx hb hr (fun t9_ ht hW => ⟨⟨(-1), (), rfl, (xfp_none (fun j hj => hf j (by omega))).symm, x_at ht hP⟩, hS.F ht⟩) hS.2.2 dX1_firstPlaceOf_27

set_option maxHeartbeats 4000000 in
set_option maxRecDepth 100000 in
/-- Row.placesInOrder -/
theorem c_X1_placesInOrder (l : Launch) (G : va_G) (T : Nat → ClassId) (sz : Nat) (a0 a1 a2 : Nat) (f g : Nat → Int32) : Met l yX1_placesInOrder wsX1_placesInOrder ({ frames := 0, cells := 0, slots := 0, locals := 0 }) (va_Pc [.ref a0] (xPre G T ([(a0, .inr (1, [.ref a1, .ref a2])), (a1, .inl (T 0, 16, .inl f)), (a2, .inl (T 0, 16, .inl g))]) sz)) (va_Qi (fun (r : Int32) (u : Unit) => r = nI (xct (fun j => decide (f j = nI j)) 16)) (fun u t => va_P G vwCl ([(a0, .inr (1, [.ref a1, .ref a2])), (a1, .inl (T 0, 16, .inl f)), (a2, .inl (T 0, 16, .inl g))]) t.heap) (va_A ([(a0, .inr (1, [.ref a1, .ref a2])), (a1, .inl (T 0, 16, .inl f)), (a2, .inl (T 0, 16, .inl g))]) sz)) 0 0 (va_A ([(a0, .inr (1, [.ref a1, .ref a2])), (a1, .inl (T 0, 16, .inl f)), (a2, .inl (T 0, 16, .inl g))]) sz) := by
  refine Met.ofW (cc := cX1_placesInOrder) (maxL := 3) (ret := (some .int)) (by decide +kernel) rfl ?_
  intro p e s m args below meth c s₁ B hml hv
  obtain ⟨rfl, hsz, hP, hK, hD0, hXB, hZ⟩ := hv
  have hx := B.exec
  have hb := B.bytes
  have hr := B.returns
  have hts := atoms_spec (ws := wsX1_placesInOrder) B.pre
  have hown : s.vm.findClass RX1 = some m.cls := findClass_of_methodNamed B.named
  have hlocks := B.notSynchronized
  subst hsz
  have hD := hD0.self (sz := s.heap.size)
  generalize hAe : va_A ([(a0, .inr (1, [.ref a1, .ref a2])), (a1, .inl (T 0, 16, .inl f)), (a2, .inl (T 0, 16, .inl g))]) s.heap.size = A at hD hZ ⊢
  have hA : ∀ q : Nat, s.heap.size ≤ q → A q := fun q h => by rw [← hAe]; exact Or.inr h
  have hS : va_S A s.heap s.heap [] := va_S.rf
  have hP : va_P G vwCl ([(a0, .inr (1, [.ref a1, .ref a2])), (a1, .inl (T 0, 16, .inl f)), (a2, .inl (T 0, 16, .inl g))]) s.heap := hP
  have hiX1 : ∀ w ∈ u_ws RX1 TX1 2, w ∈ wsX1_placesInOrder := by decide +kernel
  have hl := lv_entry ([.ref a0]) (n := 3) (Nat.le_of_ble_eq_true rfl)
  rw [lg_entry_eq]
  generalize (lg_sl ([.ref a0]) ++ List.replicate (3 - (lg_sl ([.ref a0])).length) Slot.unset).toArray = ls at hl ⊢
  have hl : lv_has ls 3 [(0, .ref a0)] := hl
  refine lv_iconst (v := nI 0) hx hb dX1_placesInOrder_0 (by decide) ?_
  refine lv_istore_n (lv' := [(1, .int (nI 0)), (0, .ref a0)]) hx hb dX1_placesInOrder_1 rfl hl (by decide) rfl (fun ls hl => ?_)
  refine lv_iconst (v := nI 0) hx hb dX1_placesInOrder_2 (by decide) ?_
  refine lv_istore_n (lv' := [(2, .int (nI 0)), (1, .int (nI 0)), (0, .ref a0)]) hx hb dX1_placesInOrder_3 rfl hl (by decide) rfl (fun ls hl => ?_)
  suffices LP : ∀ (n : Nat) (i : Nat), (i ≤ 16) → (16 < i + n) → ∀ (H : Heap) (locs : List Loc), va_P G vwCl ([(a0, .inr (1, [.ref a1, .ref a2])), (a1, .inl (T 0, 16, .inl f)), (a2, .inl (T 0, 16, .inl g))]) H → va_D A ([(a0, .inr (1, [.ref a1, .ref a2])), (a1, .inl (T 0, 16, .inl f)), (a2, .inl (T 0, 16, .inl g))]) → va_S A s.heap H locs → ∀ (ls : Array Slot), lv_has ls 3 [(1, .int (nI (xct (fun j => decide (f j = nI j)) i))), (2, .int (nI i)), (0, .ref a0)] → W p l e (headSpec wsX1_placesInOrder ({ frames := 0, cells := 0, slots := 0, locals := 0 })).room s m ([.ref a0] : List Value).toArray below meth c H locs 0 0 (MQ below (va_Qi (fun (r : Int32) (u : Unit) => r = nI (xct (fun j => decide (f j = nI j)) 16)) (fun u t => va_P G vwCl ([(a0, .inr (1, [.ref a1, .ref a2])), (a1, .inl (T 0, 16, .inl f)), (a2, .inl (T 0, 16, .inl g))]) t.heap) A) ([.ref a0] : List Value).toArray s 0 0 A) (F0 m 4 ls []) from LP 17 0 (by decide) (by decide) _ _ hP hD hS ls (lv_sub hl [1, 0, 2] rfl)
  clear hP hD hS hl
  intro n
  induction n with
  | zero => intro i hi hn H locs _ _ _ ls _; exfalso; omega
  | succ n ih =>
    intro i hi hn H locs hP hD hS ls hl
    refine lv_iload_n hx hb dX1_placesInOrder_4 rfl (lv_at hl 1 rfl) ?_
    refine lv_bipush (v := nI 16) hx hb dX1_placesInOrder_5 (by decide) ?_
    by_cases hc : i < 16
    · refine lv_icmp_ge (tgt := 29) hx hb dX1_placesInOrder_7 (by decide) (fun c_ => absurd c_ (nI_ge hc (by decide))) (fun _ => ?_)
      refine lv_aload_n hx hb dX1_placesInOrder_10 rfl (lv_at hl 2 rfl) ?_
      refine va_get (D := G) (ci := 1) (v := .ref a1) (C := RX1) (T := TX1) (N := 2) hx hb hts hiX1 hown hK hP 0 rfl rfl 0 (by decide) (hts (.fieldLink RX1 9 "CardFans$Row" "numbers" "[I") (by decide +kernel)) (fun _ h9 => h9) rfl dX1_placesInOrder_11 ?_
      refine lv_iload_n hx hb dX1_placesInOrder_14 rfl (lv_at hl 1 rfl) ?_
      refine x_iald hx hb hK hP 1 0 (f := f) (n := 16) rfl rfl hc (by decide) dX1_placesInOrder_15 ?_
      refine lv_iload_n hx hb dX1_placesInOrder_16 rfl (lv_at hl 1 rfl) ?_
      have hd := @xct_t (fun j => decide (f j = nI j)) i
      have hd2 := @xct_f (fun j => decide (f j = nI j)) i
      refine lv_icmp_ne (tgt := 23) hx hb dX1_placesInOrder_17 (by decide) (fun c1 => ?_) (fun c1 => ?_)
      · have e1 : xct (fun j => decide (f j = nI j)) (i + 1) = xct (fun j => decide (f j = nI j)) i := hd2 (by simpa using c1)
        rw [← e1] at hl
        refine lv_iinc (v := nI (i + 1)) (lv' := [(2, .int (nI (i + 1))), (1, .int (nI (xct (fun j => decide (f j = nI j)) (i + 1)))), (0, .ref a0)]) hx hb dX1_placesInOrder_23 hl (k := 1) rfl (x_inc _) (by decide) rfl (fun ls hl => ?_)
        refine lv_goto (tgt := 4) hx hb dX1_placesInOrder_26 (by decide) ?_
        exact ih (i + 1) (by omega) (by omega) _ _ hP hD hS ls (lv_sub hl [1, 0, 2] rfl)
      · refine lv_iinc (v := nI (xct (fun j => decide (f j = nI j)) (i + 1))) (lv' := [(1, .int (nI (xct (fun j => decide (f j = nI j)) (i + 1)))), (2, .int (nI i)), (0, .ref a0)]) hx hb dX1_placesInOrder_20 hl (k := 0) rfl (by rw [hd (by simpa using c1)]; exact x_inc _) (by decide) rfl (fun ls hl => ?_)
        refine lv_iinc (v := nI (i + 1)) (lv' := [(2, .int (nI (i + 1))), (1, .int (nI (xct (fun j => decide (f j = nI j)) (i + 1)))), (0, .ref a0)]) hx hb dX1_placesInOrder_23 hl (k := 1) rfl (x_inc _) (by decide) rfl (fun ls hl => ?_)
        refine lv_goto (tgt := 4) hx hb dX1_placesInOrder_26 (by decide) ?_
        exact ih (i + 1) (by omega) (by omega) _ _ hP hD hS ls (lv_sub hl [1, 0, 2] rfl)
    · refine lv_icmp_ge (tgt := 29) hx hb dX1_placesInOrder_7 (by decide) (fun _ => ?_) (fun c_ => absurd (nI_le (by omega) (by omega)) c_)
      refine lv_iload_n hx hb dX1_placesInOrder_29 rfl (lv_at hl 0 rfl) ?_
      exact W.iret (v := nI (xct (fun j => decide (f j = nI j)) i)) hx hb hr (fun t9_ ht hW => ⟨⟨nI (xct (fun j => decide (f j = nI j)) i), (), rfl, by rw [show i = 16 by omega], x_at ht hP⟩, hS.F ht⟩) hS.2.2 dX1_placesInOrder_30

set_option maxHeartbeats 4000000 in
set_option maxRecDepth 100000 in
/-- Row.mixedInto -/
theorem c_X1_mixedInto (l : Launch) (G : va_G) (T : Nat → ClassId) (sz : Nat) (a0 a1 a2 : Nat) (f g : Nat → Int32) (d : Int64) : Met l yX1_mixedInto wsX1_mixedInto ({ frames := 1, cells := 0, slots := 0, locals := 22 }) (va_Pc [.ref a0, .long d] (xPre G T ([(a0, .inr (1, [.ref a1, .ref a2])), (a1, .inl (T 0, 16, .inl f)), (a2, .inl (T 0, 16, .inl g))]) sz)) (va_Ql (fun (r : Int64) (u : Unit) => r = xmx f d 16) (fun u t => va_P G vwCl ([(a0, .inr (1, [.ref a1, .ref a2])), (a1, .inl (T 0, 16, .inl f)), (a2, .inl (T 0, 16, .inl g))]) t.heap) (va_A ([(a0, .inr (1, [.ref a1, .ref a2])), (a1, .inl (T 0, 16, .inl f)), (a2, .inl (T 0, 16, .inl g))]) sz)) 0 0 (va_A ([(a0, .inr (1, [.ref a1, .ref a2])), (a1, .inl (T 0, 16, .inl f)), (a2, .inl (T 0, 16, .inl g))]) sz) := by
  refine Met.ofW (cc := cX1_mixedInto) (maxL := 6) (ret := (some .long)) (by decide +kernel) rfl ?_
  intro p e s m args below meth c s₁ B hml hv
  obtain ⟨rfl, hsz, hP, hK, hD0, hXB, hZ⟩ := hv
  have hx := B.exec
  have hb := B.bytes
  have hr := B.returns
  have hts := atoms_spec (ws := wsX1_mixedInto) B.pre
  have hown : s.vm.findClass RX1 = some m.cls := findClass_of_methodNamed B.named
  have hlocks := B.notSynchronized
  subst hsz
  have hD := hD0.self (sz := s.heap.size)
  generalize hAe : va_A ([(a0, .inr (1, [.ref a1, .ref a2])), (a1, .inl (T 0, 16, .inl f)), (a2, .inl (T 0, 16, .inl g))]) s.heap.size = A at hD hZ ⊢
  have hA : ∀ q : Nat, s.heap.size ≤ q → A q := fun q h => by rw [← hAe]; exact Or.inr h
  have hS : va_S A s.heap s.heap [] := va_S.rf
  have hP : va_P G vwCl ([(a0, .inr (1, [.ref a1, .ref a2])), (a1, .inl (T 0, 16, .inl f)), (a2, .inl (T 0, 16, .inl g))]) s.heap := hP
  have hiX1 : ∀ w ∈ u_ws RX1 TX1 2, w ∈ wsX1_mixedInto := by decide +kernel
  have hl := lv_entry ([.ref a0, .long d]) (n := 6) (Nat.le_of_ble_eq_true rfl)
  rw [lg_entry_eq]
  generalize (lg_sl ([.ref a0, .long d]) ++ List.replicate (6 - (lg_sl ([.ref a0, .long d])).length) Slot.unset).toArray = ls at hl ⊢
  have hl : lv_has ls 6 [(0, .ref a0), (1, .long d)] := hl
  refine lv_lload_n hx hb dX1_mixedInto_0 rfl (lv_at hl 1 rfl) ?_
  refine lv_lstore_n (lv' := [(3, .long d), (0, .ref a0), (1, .long d)]) hx hb dX1_mixedInto_1 rfl hl (by decide) rfl (fun ls hl => ?_)
  refine lv_iconst (v := nI 0) hx hb dX1_mixedInto_2 (by decide) ?_
  refine lv_istore (lv' := [(5, .int (nI 0)), (3, .long d), (0, .ref a0), (1, .long d)]) hx hb dX1_mixedInto_3 hl (by decide) rfl (fun ls hl => ?_)
  suffices LP : ∀ (n : Nat) (i : Nat), (i ≤ 16) → (16 < i + n) → ∀ (H : Heap) (locs : List Loc), va_P G vwCl ([(a0, .inr (1, [.ref a1, .ref a2])), (a1, .inl (T 0, 16, .inl f)), (a2, .inl (T 0, 16, .inl g))]) H → va_D A ([(a0, .inr (1, [.ref a1, .ref a2])), (a1, .inl (T 0, 16, .inl f)), (a2, .inl (T 0, 16, .inl g))]) → va_S A s.heap H locs → ∀ (ls : Array Slot), lv_has ls 6 [(3, .long (xmx f d i)), (5, .int (nI i)), (0, .ref a0), (1, .long d)] → W p l e (headSpec wsX1_mixedInto ({ frames := 1, cells := 0, slots := 0, locals := 22 })).room s m ([.ref a0, .long d] : List Value).toArray below meth c H locs 0 0 (MQ below (va_Ql (fun (r : Int64) (u : Unit) => r = xmx f d 16) (fun u t => va_P G vwCl ([(a0, .inr (1, [.ref a1, .ref a2])), (a1, .inl (T 0, 16, .inl f)), (a2, .inl (T 0, 16, .inl g))]) t.heap) A) ([.ref a0, .long d] : List Value).toArray s 0 0 A) (F0 m 5 ls []) from LP 17 0 (by decide) (by decide) _ _ hP hD hS ls (lv_sub hl [1, 0, 2, 3] rfl)
  clear hP hD hS hl
  intro n
  induction n with
  | zero => intro i hi hn H locs _ _ _ ls _; exfalso; omega
  | succ n ih =>
    intro i hi hn H locs hP hD hS ls hl
    refine lv_iload hx hb dX1_mixedInto_5 (lv_at hl 1 rfl) ?_
    refine lv_bipush (v := nI 16) hx hb dX1_mixedInto_7 (by decide) ?_
    by_cases hc : i < 16
    · refine lv_icmp_ge (tgt := 30) hx hb dX1_mixedInto_9 (by decide) (fun c_ => absurd c_ (nI_ge hc (by decide))) (fun _ => ?_)
      refine lv_lload_n hx hb dX1_mixedInto_12 rfl (lv_at hl 0 rfl) ?_
      refine lv_aload_n hx hb dX1_mixedInto_13 rfl (lv_at hl 2 rfl) ?_
      refine va_get (D := G) (ci := 1) (v := .ref a1) (C := RX1) (T := TX1) (N := 2) hx hb hts hiX1 hown hK hP 0 rfl rfl 0 (by decide) (hts (.fieldLink RX1 9 "CardFans$Row" "numbers" "[I") (by decide +kernel)) (fun _ h9 => h9) rfl dX1_mixedInto_14 ?_
      refine lv_iload hx hb dX1_mixedInto_17 (lv_at hl 1 rfl) ?_
      refine x_iald hx hb hK hP 1 0 (f := f) (n := 16) rfl rfl hc (by decide) dX1_mixedInto_19 ?_
      refine x_calll (va_runSN (As := [.long (xmx f d i), .int (f i)]) (rest := []) ⟨hx, hb, hml, hown, hts⟩ (c_X3_mixed l G T _ (xmx f d i) (f i)) (⟨va_cnB 2 hts gX1_mixedInto_X3_mixed_n26 rfl rfl rfl (hXB.1 (.methodLinkNest RX1 26 yX3_mixed "CardFans") (by decide +kernel)) (hts (.initialized RX3) (by decide +kernel)) (by decide +kernel) ⟨Nat.le_of_ble_eq_true rfl, Nat.le_of_ble_eq_true rfl⟩, hts (.static yX3_mixed) (by decide +kernel), trivial⟩) (x_preS (wc := []) hK hP hD hS hA hXB hZ [] rfl rfl _) rfl rfl hl.1 rfl (lv_room (Nat.le_of_ble_eq_true rfl)) dX1_mixedInto_20 ⟨Nat.le_of_ble_eq_true rfl, Nat.le_of_ble_eq_true rfl⟩) hP hD hS hA [] rfl (fun _ _ _ => rfl) (fun r1 u H locs hw1 hP hD hS => ?_)
      have hP : va_P G vwCl ([(a0, .inr (1, [.ref a1, .ref a2])), (a1, .inl (T 0, 16, .inl f)), (a2, .inl (T 0, 16, .inl g))]) H := hP
      have hD : va_D A ([(a0, .inr (1, [.ref a1, .ref a2])), (a1, .inl (T 0, 16, .inl f)), (a2, .inl (T 0, 16, .inl g))]) := hD
      refine x_topl (y := xmx f d (i + 1)) (hw1) ?_
      refine lv_lstore_n (lv' := [(3, .long (xmx f d (i + 1))), (5, .int (nI i)), (0, .ref a0), (1, .long d)]) hx hb dX1_mixedInto_23 rfl hl (by decide) rfl (fun ls hl => ?_)
      refine lv_iinc (v := nI (i + 1)) (lv' := [(5, .int (nI (i + 1))), (3, .long (xmx f d (i + 1))), (0, .ref a0), (1, .long d)]) hx hb dX1_mixedInto_24 hl (k := 1) rfl (x_inc _) (by decide) rfl (fun ls hl => ?_)
      refine lv_goto (tgt := 5) hx hb dX1_mixedInto_27 (by decide) ?_
      exact ih (i + 1) (by omega) (by omega) _ _ hP hD hS ls (lv_sub hl [1, 0, 2, 3] rfl)
    · refine lv_icmp_ge (tgt := 30) hx hb dX1_mixedInto_9 (by decide) (fun _ => ?_) (fun c_ => absurd (nI_le (by omega) (by omega)) c_)
      refine lv_lload_n hx hb dX1_mixedInto_30 rfl (lv_at hl 0 rfl) ?_
      exact W.lret (v := xmx f d i) hx hb hr (fun t9_ ht hW => ⟨⟨xmx f d i, (), rfl, by rw [show i = 16 by omega], x_at ht hP⟩, hS.F ht⟩) hS.2.2 dX1_mixedInto_31

set_option maxHeartbeats 4000000 in
set_option maxRecDepth 100000 in
/-- Row.carry -/
theorem c_X1_carry (l : Launch) (G : va_G) (T : Nat → ClassId) (sz : Nat) (a0 a1 a2 : Nat) (f g : Nat → Int32) (k n : Nat) (hw : xwn k n = true) : Met l yX1_carry wsX1_carry ({ frames := 2, cells := 0, slots := 0, locals := 45 }) (va_Pc [.ref a0, .int (nI k), .int (nI n)] (xPre G T ([(a0, .inr (1, [.ref a1, .ref a2])), (a1, .inl (T 0, 16, .inl f)), (a2, .inl (T 0, 16, .inl g))]) sz)) (va_Qv (fun (u : Nat → Int32) => True) (fun u t => va_P G vwCl ([(a0, .inr (1, [.ref a1, .ref a2])), (a1, .inl (T 0, 16, .inl (fun j => f (xpb k n j)))), (a2, .inl (T 0, 16, .inl u))]) t.heap) (va_A ([(a0, .inr (1, [.ref a1, .ref a2])), (a1, .inl (T 0, 16, .inl f)), (a2, .inl (T 0, 16, .inl g))]) sz)) 0 0 (va_A ([(a0, .inr (1, [.ref a1, .ref a2])), (a1, .inl (T 0, 16, .inl f)), (a2, .inl (T 0, 16, .inl g))]) sz) := by
  refine Met.ofW (cc := cX1_carry) (maxL := 5) (ret := none) (by decide +kernel) rfl ?_
  intro p e s m args below meth c s₁ B hml hv
  obtain ⟨rfl, hsz, hP, hK, hD0, hXB, hZ⟩ := hv
  have hx := B.exec
  have hb := B.bytes
  have hr := B.returns
  have hts := atoms_spec (ws := wsX1_carry) B.pre
  have hown : s.vm.findClass RX1 = some m.cls := findClass_of_methodNamed B.named
  have hlocks := B.notSynchronized
  subst hsz
  have hD := hD0.self (sz := s.heap.size)
  generalize hAe : va_A ([(a0, .inr (1, [.ref a1, .ref a2])), (a1, .inl (T 0, 16, .inl f)), (a2, .inl (T 0, 16, .inl g))]) s.heap.size = A at hD hZ ⊢
  have hA : ∀ q : Nat, s.heap.size ≤ q → A q := fun q h => by rw [← hAe]; exact Or.inr h
  have hS : va_S A s.heap s.heap [] := va_S.rf
  have hP : va_P G vwCl ([(a0, .inr (1, [.ref a1, .ref a2])), (a1, .inl (T 0, 16, .inl f)), (a2, .inl (T 0, 16, .inl g))]) s.heap := hP
  have hiX1 : ∀ w ∈ u_ws RX1 TX1 2, w ∈ wsX1_carry := by decide +kernel
  have hl := lv_entry ([.ref a0, .int (nI k), .int (nI n)]) (n := 5) (Nat.le_of_ble_eq_true rfl)
  rw [lg_entry_eq]
  generalize (lg_sl ([.ref a0, .int (nI k), .int (nI n)]) ++ List.replicate (5 - (lg_sl ([.ref a0, .int (nI k), .int (nI n)])).length) Slot.unset).toArray = ls at hl ⊢
  have hl : lv_has ls 5 [(0, .ref a0), (1, .int (nI k)), (2, .int (nI n))] := hl
  refine lv_iconst (v := nI 0) hx hb dX1_carry_0 (by decide) ?_
  refine lv_istore_n (lv' := [(3, .int (nI 0)), (0, .ref a0), (1, .int (nI k)), (2, .int (nI n))]) hx hb dX1_carry_1 rfl hl (by decide) rfl (fun ls hl => ?_)
  suffices LP1 : ∀ (n1 : Nat) (i : Nat) (g : Nat → Int32), (i ≤ 16) → (16 < i + n1) → (∀ j, j < 16 → xpb k n j < i → g j = f (xpb k n j)) → ∀ (H : Heap) (locs : List Loc), va_P G vwCl ([(a0, .inr (1, [.ref a1, .ref a2])), (a1, .inl (T 0, 16, .inl f)), (a2, .inl (T 0, 16, .inl g))]) H → va_D A ([(a0, .inr (1, [.ref a1, .ref a2])), (a1, .inl (T 0, 16, .inl f)), (a2, .inl (T 0, 16, .inl g))]) → va_S A s.heap H locs → ∀ (ls : Array Slot), lv_has ls 5 [(3, .int (nI i)), (0, .ref a0), (1, .int (nI k)), (2, .int (nI n))] → W p l e (headSpec wsX1_carry ({ frames := 2, cells := 0, slots := 0, locals := 45 })).room s m ([.ref a0, .int (nI k), .int (nI n)] : List Value).toArray below meth c H locs 0 0 (MQ below (va_Qv (fun (u : Nat → Int32) => True) (fun u t => va_P G vwCl ([(a0, .inr (1, [.ref a1, .ref a2])), (a1, .inl (T 0, 16, .inl (fun j => f (xpb k n j)))), (a2, .inl (T 0, 16, .inl u))]) t.heap) A) ([.ref a0, .int (nI k), .int (nI n)] : List Value).toArray s 0 0 A) (F0 m 2 ls []) from LP1 17 0 g (by decide) (by decide) (fun j hj h => absurd h (Nat.not_lt_zero _)) _ _ hP hD hS ls (lv_sub hl [0, 1, 2, 3] rfl)
  clear hP hD hS hl
  intro n1
  induction n1 with
  | zero => intro i g hi hn hf H locs _ _ _ ls _; exfalso; omega
  | succ n1 ih1 =>
    intro i g hi hn hf H locs hP hD hS ls hl
    refine lv_iload_n hx hb dX1_carry_2 rfl (lv_at hl 0 rfl) ?_
    refine lv_bipush (v := nI 16) hx hb dX1_carry_3 (by decide) ?_
    by_cases hc : i < 16
    · refine lv_icmp_ge (tgt := 43) hx hb dX1_carry_5 (by decide) (fun c_ => absurd c_ (nI_ge hc (by decide))) (fun _ => ?_)
      refine lv_iload_n hx hb dX1_carry_8 rfl (lv_at hl 2 rfl) ?_
      refine lv_iload_n hx hb dX1_carry_9 rfl (lv_at hl 3 rfl) ?_
      refine lv_iload_n hx hb dX1_carry_10 rfl (lv_at hl 0 rfl) ?_
      refine x_calli (va_runSN (As := [.int (nI k), .int (nI n), .int (nI i)]) (rest := []) ⟨hx, hb, hml, hown, hts⟩ (c_X3_placeAfter l G T _ k n i hw hc) (⟨va_cnB 3 hts gX1_carry_X3_placeAfter_n22 rfl rfl rfl (hXB.1 (.methodLinkNest RX1 22 yX3_placeAfter "CardFans") (by decide +kernel)) (hts (.initialized RX3) (by decide +kernel)) (by decide +kernel) ⟨Nat.le_of_ble_eq_true rfl, Nat.le_of_ble_eq_true rfl⟩, hts (.static yX3_placeAfter) (by decide +kernel), trivial⟩) (x_preS (wc := []) hK hP hD hS hA hXB hZ [] rfl rfl _) rfl rfl hl.1 rfl (lv_room (Nat.le_of_ble_eq_true rfl)) dX1_carry_11 ⟨Nat.le_of_ble_eq_true rfl, Nat.le_of_ble_eq_true rfl⟩) hP hD hS hA [] rfl (fun _ _ _ => rfl) (fun r1 u H locs hw1 hP hD hS => ?_)
      have hP : va_P G vwCl ([(a0, .inr (1, [.ref a1, .ref a2])), (a1, .inl (T 0, 16, .inl f)), (a2, .inl (T 0, 16, .inl g))]) H := hP
      have hD : va_D A ([(a0, .inr (1, [.ref a1, .ref a2])), (a1, .inl (T 0, 16, .inl f)), (a2, .inl (T 0, 16, .inl g))]) := hD
      refine x_topi (y := nI (xpa k n i)) (hw1) ?_
      refine lv_istore (lv' := [(4, .int (nI (xpa k n i))), (3, .int (nI i)), (0, .ref a0), (1, .int (nI k)), (2, .int (nI n))]) hx hb dX1_carry_14 hl (by decide) rfl (fun ls hl => ?_)
      refine lv_iload hx hb dX1_carry_16 (lv_at hl 0 rfl) ?_
      refine x_calli (va_runSN (As := [.int (nI (xpa k n i))]) (rest := []) ⟨hx, hb, hml, hown, hts⟩ (c_X3_isSixteenth l G T _ (nI (xpa k n i))) (⟨va_cnB 1 hts gX1_carry_X3_isSixteenth_n18 rfl rfl rfl (hXB.1 (.methodLinkNest RX1 18 yX3_isSixteenth "CardFans") (by decide +kernel)) (hts (.initialized RX3) (by decide +kernel)) (by decide +kernel) ⟨Nat.le_of_ble_eq_true rfl, Nat.le_of_ble_eq_true rfl⟩, hts (.static yX3_isSixteenth) (by decide +kernel), trivial⟩) (x_preS (wc := []) hK hP hD hS hA hXB hZ [] rfl rfl _) rfl rfl hl.1 rfl (lv_room (Nat.le_of_ble_eq_true rfl)) dX1_carry_18 ⟨Nat.le_of_ble_eq_true rfl, Nat.le_of_ble_eq_true rfl⟩) hP hD hS hA [] rfl (fun _ _ _ => rfl) (fun r2 u2 H locs hw2 hP hD hS => ?_)
      have hP : va_P G vwCl ([(a0, .inr (1, [.ref a1, .ref a2])), (a1, .inl (T 0, 16, .inl f)), (a2, .inl (T 0, 16, .inl g))]) H := hP
      have hD : va_D A ([(a0, .inr (1, [.ref a1, .ref a2])), (a1, .inl (T 0, 16, .inl f)), (a2, .inl (T 0, 16, .inl g))]) := hD
      obtain ⟨q1, q2, q3, q4⟩ := xway hw hc
      refine lv_if_eq (tgt := 37) hx hb dX1_carry_21 (by decide) (fun c_ => absurd c_ (xb_ne hw2 (xvb_k q1 (by decide)))) (fun _ => ?_)
      refine lv_aload_n hx hb dX1_carry_24 rfl (lv_at hl 2 rfl) ?_
      refine va_get (D := G) (ci := 1) (v := .ref a2) (C := RX1) (T := TX1) (N := 2) hx hb hts hiX1 hown hK hP 0 rfl rfl 1 (by decide) (hts (.fieldLink RX1 15 "CardFans$Row" "carried" "[I") (by decide +kernel)) (fun _ h9 => h9) rfl dX1_carry_25 ?_
      refine lv_iload hx hb dX1_carry_28 (lv_at hl 0 rfl) ?_
      refine lv_aload_n hx hb dX1_carry_30 rfl (lv_at hl 2 rfl) ?_
      refine va_get (D := G) (ci := 1) (v := .ref a1) (C := RX1) (T := TX1) (N := 2) hx hb hts hiX1 hown hK hP 0 rfl rfl 0 (by decide) (hts (.fieldLink RX1 9 "CardFans$Row" "numbers" "[I") (by decide +kernel)) (fun _ h9 => h9) rfl dX1_carry_31 ?_
      refine lv_iload_n hx hb dX1_carry_34 rfl (lv_at hl 1 rfl) ?_
      refine x_iald hx hb hK hP 1 0 (f := f) (n := 16) rfl rfl hc (by decide) dX1_carry_35 ?_
      refine x_iast hx hb hK hP hD hS 2 0 (f := g) (n := 16) rfl rfl q1 (by decide) dX1_carry_36 (fun H locs hP hD hS => ?_)
      have hP : va_P G vwCl ([(a0, .inr (1, [.ref a1, .ref a2])), (a1, .inl (T 0, 16, .inl f)), (a2, .inl (T 0, 16, .inl (upd g (xpa k n i) (f i))))]) H := hP
      have hD : va_D A ([(a0, .inr (1, [.ref a1, .ref a2])), (a1, .inl (T 0, 16, .inl f)), (a2, .inl (T 0, 16, .inl (upd g (xpa k n i) (f i))))]) := hD
      refine lv_iinc (v := nI (i + 1)) (lv' := [(3, .int (nI (i + 1))), (4, .int (nI (xpa k n i))), (0, .ref a0), (1, .int (nI k)), (2, .int (nI n))]) hx hb dX1_carry_37 hl (k := 1) rfl (x_inc _) (by decide) rfl (fun ls hl => ?_)
      refine lv_goto (tgt := 2) hx hb dX1_carry_40 (by decide) ?_
      exact ih1 (i + 1) _ (by omega) (by omega) (fun j hj hij => by
          obtain ⟨p1, p2, p3, p4⟩ := xway hw hj
          rcases Nat.lt_or_ge (xpb k n j) i with q | q
          · rw [pk_un (fun z => by subst z; rw [q4] at q; omega)]
            exact hf j hj q
          · have e : xpb k n j = i := by omega
            have e2 : j = xpa k n i := by rw [← e, p3]
            rw [e2, pk_us, q4]) _ _ hP hD hS ls (lv_sub hl [0, 2, 3, 4] rfl)
    · refine lv_icmp_ge (tgt := 43) hx hb dX1_carry_5 (by decide) (fun _ => ?_) (fun c_ => absurd (nI_le (by omega) (by omega)) c_)
      refine lv_iconst (v := nI 0) hx hb dX1_carry_43 (by decide) ?_
      refine lv_istore_n (lv' := [(3, .int (nI 0)), (0, .ref a0), (1, .int (nI k)), (2, .int (nI n))]) hx hb dX1_carry_44 rfl hl (by decide) rfl (fun ls hl => ?_)
      have hg : ∀ j, j < 16 → g j = f (xpb k n j) := fun j hj => hf j hj (by have := (xway hw hj).2.1; omega)
      suffices LP2 : ∀ (n2 : Nat) (i2 : Nat) (f2 : Nat → Int32), (i2 ≤ 16) → (16 < i2 + n2) → (∀ j, j < i2 → f2 j = g j) → ∀ (H : Heap) (locs : List Loc), va_P G vwCl ([(a0, .inr (1, [.ref a1, .ref a2])), (a1, .inl (T 0, 16, .inl f2)), (a2, .inl (T 0, 16, .inl g))]) H → va_D A ([(a0, .inr (1, [.ref a1, .ref a2])), (a1, .inl (T 0, 16, .inl f2)), (a2, .inl (T 0, 16, .inl g))]) → va_S A s.heap H locs → ∀ (ls : Array Slot), lv_has ls 5 [(3, .int (nI i2)), (0, .ref a0), (1, .int (nI k)), (2, .int (nI n))] → W p l e (headSpec wsX1_carry ({ frames := 2, cells := 0, slots := 0, locals := 45 })).room s m ([.ref a0, .int (nI k), .int (nI n)] : List Value).toArray below meth c H locs 0 0 (MQ below (va_Qv (fun (u : Nat → Int32) => True) (fun u t => va_P G vwCl ([(a0, .inr (1, [.ref a1, .ref a2])), (a1, .inl (T 0, 16, .inl (fun j => f (xpb k n j)))), (a2, .inl (T 0, 16, .inl u))]) t.heap) A) ([.ref a0, .int (nI k), .int (nI n)] : List Value).toArray s 0 0 A) (F0 m 45 ls []) from LP2 17 0 f (by decide) (by decide) (fun j hj => absurd hj (Nat.not_lt_zero j)) _ _ hP hD hS ls (lv_sub hl [0, 1, 2, 3] rfl)
      clear hP hD hS hl
      intro n2
      induction n2 with
      | zero => intro i2 f2 hi2 hn2 hf2 H locs _ _ _ ls _; exfalso; omega
      | succ n2 ih2 =>
        intro i2 f2 hi2 hn2 hf2 H locs hP hD hS ls hl
        refine lv_iload_n hx hb dX1_carry_45 rfl (lv_at hl 0 rfl) ?_
        refine lv_bipush (v := nI 16) hx hb dX1_carry_46 (by decide) ?_
        by_cases hc2 : i2 < 16
        · refine lv_icmp_ge (tgt := 69) hx hb dX1_carry_48 (by decide) (fun c_ => absurd c_ (nI_ge hc2 (by decide))) (fun _ => ?_)
          refine lv_aload_n hx hb dX1_carry_51 rfl (lv_at hl 1 rfl) ?_
          refine va_get (D := G) (ci := 1) (v := .ref a1) (C := RX1) (T := TX1) (N := 2) hx hb hts hiX1 hown hK hP 0 rfl rfl 0 (by decide) (hts (.fieldLink RX1 9 "CardFans$Row" "numbers" "[I") (by decide +kernel)) (fun _ h9 => h9) rfl dX1_carry_52 ?_
          refine lv_iload_n hx hb dX1_carry_55 rfl (lv_at hl 0 rfl) ?_
          refine lv_aload_n hx hb dX1_carry_56 rfl (lv_at hl 1 rfl) ?_
          refine va_get (D := G) (ci := 1) (v := .ref a2) (C := RX1) (T := TX1) (N := 2) hx hb hts hiX1 hown hK hP 0 rfl rfl 1 (by decide) (hts (.fieldLink RX1 15 "CardFans$Row" "carried" "[I") (by decide +kernel)) (fun _ h9 => h9) rfl dX1_carry_57 ?_
          refine lv_iload_n hx hb dX1_carry_60 rfl (lv_at hl 0 rfl) ?_
          refine x_iald hx hb hK hP 2 0 (f := g) (n := 16) rfl rfl hc2 (by decide) dX1_carry_61 ?_
          refine x_iast hx hb hK hP hD hS 1 0 (f := f2) (n := 16) rfl rfl hc2 (by decide) dX1_carry_62 (fun H locs hP hD hS => ?_)
          have hP : va_P G vwCl ([(a0, .inr (1, [.ref a1, .ref a2])), (a1, .inl (T 0, 16, .inl (upd f2 i2 (g i2)))), (a2, .inl (T 0, 16, .inl g))]) H := hP
          have hD : va_D A ([(a0, .inr (1, [.ref a1, .ref a2])), (a1, .inl (T 0, 16, .inl (upd f2 i2 (g i2)))), (a2, .inl (T 0, 16, .inl g))]) := hD
          refine lv_iinc (v := nI (i2 + 1)) (lv' := [(3, .int (nI (i2 + 1))), (0, .ref a0), (1, .int (nI k)), (2, .int (nI n))]) hx hb dX1_carry_63 hl (k := 0) rfl (x_inc _) (by decide) rfl (fun ls hl => ?_)
          refine lv_goto (tgt := 45) hx hb dX1_carry_66 (by decide) ?_
          exact ih2 (i2 + 1) _ (by omega) (by omega) (xlt_s (fun a ha => by rw [pk_un (by omega)]; exact hf2 a ha) (by rw [pk_us])) _ _ hP hD hS ls (lv_sub hl [0, 1, 2, 3] rfl)
        · refine lv_icmp_ge (tgt := 69) hx hb dX1_carry_48 (by decide) (fun _ => ?_) (fun c_ => absurd (nI_le (by omega) (by omega)) c_)
          have hP := x_can hP 1 (g := (fun j => f (xpb k n j))) rfl (fun j hj => by rw [hf2 j (by omega)]; exact hg j hj)
          have hD := xd_set hD 1 (e := .inl (T 0, 16, .inl (fun j => f (xpb k n j)))) rfl
          have hP : va_P G vwCl ([(a0, .inr (1, [.ref a1, .ref a2])), (a1, .inl (T 0, 16, .inl (fun j => f (xpb k n j)))), (a2, .inl (T 0, 16, .inl g))]) H := hP
          have hD : va_D A ([(a0, .inr (1, [.ref a1, .ref a2])), (a1, .inl (T 0, 16, .inl (fun j => f (xpb k n j)))), (a2, .inl (T 0, 16, .inl g))]) := hD
          exact W.vret hx hb hr (fun t9_ ht hW => ⟨⟨g, rfl, trivial, x_at ht hP⟩, hS.F ht⟩) hS.2.2 dX1_carry_69
end XL3
