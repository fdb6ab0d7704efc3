section XL4
theorem nI_ngt {a b : Nat} (h : a ≤ b) (hb : b < 2 ^ 31) : ¬ nI b < nI a := nI_nlt h hb
/-- cards struck from one other place -/
def xsk (f : Nat → Int32) (k : Nat) (v : Int32) (j : Nat) : Nat → Int32 := if j ≠ k ∧ ¬ f j &&& v = 0 then upd f j (f j &&& (v ^^^ (-1))) else f
def xse (f : Nat → Int32) (k : Nat) (v : Int32) : Nat → Nat → Int32
  | 0 => f
  | i + 1 => xsk (xse f k v i) k v i
def xsc (f : Nat → Int32) (k : Nat) (v : Int32) : Nat → Bool
  | 0 => false
  | i + 1 => xsc f k v i || decide (i ≠ k ∧ ¬ xse f k v i i &&& v = 0)
def xrp (f : Nat → Int32) : Nat → Nat → Int32
  | 0 => f
  | i + 1 => if xone (xrp f i i) then xse (xrp f i) i (xrp f i i) 16 else xrp f i
def xrc (f : Nat → Int32) : Nat → Bool
  | 0 => false
  | i + 1 => xrc f i || (xone (xrp f i i) && xsc (xrp f i) i (xrp f i i) 16)
def xz (f : Nat → Int32) : Bool := (List.range 16).any (fun j => decide (f j = 0))
def xcl : Nat → (Nat → Int32) → Bool × (Nat → Int32)
  | 0, f => (true, f)
  | n + 1, f => if xz (xrp f 16) then (false, xrp f 16) else if xrc f 16 then xcl n (xrp f 16) else (true, xrp f 16)
/-- what is thought behind a glimpse -/
theorem xcl_s (n : Nat) (f : Nat → Int32) : xcl (n + 1) f = if xz (xrp f 16) then (false, xrp f 16) else if xrc f 16 then xcl n (xrp f 16) else (true, xrp f 16) := rfl
def xgl (N : Nat) (f : Nat → Int32) (p : Nat) (v : Int32) : Nat → Int32 := if (xcl N (upd f p v)).1 then (xcl N (upd f p v)).2 else upd (fun _ => nI 65535 &&& (v ^^^ (-1))) p v
theorem xz_iff {f : Nat → Int32} : xz f = true ↔ ∃ j, j < 16 ∧ f j = 0 := by
  unfold xz
  simp [List.any_eq_true]
theorem xfp_neg {f : Nat → Int32} {r : Int32} (hr : r = xfp f (nI 0)) : r < 0 ↔ xz f = false := by
  rw [← Bool.not_eq_true, xz_iff, hr]
  rcases Classical.em (∃ j, j < 16 ∧ f j = 0) with h | h
  · refine ⟨fun h2 => absurd h2 ?_, fun h2 => absurd h h2⟩
    have h3 : ∃ i, i < 16 ∧ f i = nI 0 ∧ ∀ j, j < i → ¬ f j = nI 0 := by
      obtain ⟨j, hj, e⟩ := h
      have key : ∀ n, n ≤ 16 → (∃ j, j < n ∧ f j = 0) → ∃ i, i < 16 ∧ f i = nI 0 ∧ ∀ j, j < i → ¬ f j = nI 0 := by
        intro n
        induction n with
        | zero => rintro _ ⟨j, hj, _⟩; exact absurd hj (Nat.not_lt_zero j)
        | succ n ih =>
          intro hn hx
          by_cases h4 : ∃ j, j < n ∧ f j = 0
          · exact ih (by omega) h4
          · obtain ⟨j, hj, e⟩ := hx
            have : j = n := by
              rcases Nat.lt_or_ge j n with q | q
              · exact absurd ⟨j, q, e⟩ h4
              · omega
            subst this
            exact ⟨j, by omega, e, fun a ha e2 => h4 ⟨a, ha, e2⟩⟩
      exact key 16 (Nat.le_refl 16) ⟨j, hj, e⟩
    obtain ⟨i, hi, h4, h5⟩ := h3
    rw [xfp_some hi h4 h5]
    exact nI_pos (by omega)
  · refine ⟨fun _ => h, fun _ => ?_⟩
    rw [xfp_none (x := nI 0) (fun j hj e => h ⟨j, hj, e⟩)]
    decide
theorem xsk_t {f : Nat → Int32} {k j : Nat} {v : Int32} (h : j ≠ k) (h2 : ¬ f j &&& v = 0) : xsk f k v j = upd f j (f j &&& (v ^^^ (-1))) := if_pos ⟨h, h2⟩
theorem xsk_f {f : Nat → Int32} {k j : Nat} {v : Int32} (h : ¬ (j ≠ k ∧ ¬ f j &&& v = 0)) : xsk f k v j = f := if_neg h
def xsm (f : Nat → Int32) : Nat → Int32
  | 0 => nI 0
  | n + 1 => xsm f n + xbc (f n)

set_option maxHeartbeats 4000000 in
set_option maxRecDepth 100000 in
/-- Row() -/
theorem c_X1_init (l : Launch) (G : va_G) (T : Nat → ClassId) (sz : Nat) (a0 : Nat) : Met l yX1_init wsX1_init ({ frames := 1, cells := 2, slots := 32, locals := 12 }) (va_Pc [.ref a0] (xPre G T ([(a0, .inr (1, [.null, .null]))]) sz)) (va_Qv (fun (u : Nat × Nat) => va_D (va_A ([(a0, .inr (1, [.null, .null]))]) sz) [(a0, .inr (1, [.ref u.1, .ref u.2])), (u.1, .inl (T 0, 16, .inl (fun _ => 0))), (u.2, .inl (T 0, 16, .inl (fun _ => 0)))]) (fun u t => va_P G vwCl ([(a0, .inr (1, [.ref u.1, .ref u.2])), (u.1, .inl (T 0, 16, .inl (fun _ => 0))), (u.2, .inl (T 0, 16, .inl (fun _ => 0)))]) t.heap) (va_A ([(a0, .inr (1, [.null, .null]))]) sz)) 2 32 (va_A ([(a0, .inr (1, [.null, .null]))]) sz) := by
  refine Met.ofW (cc := cX1_init) (maxL := 1) (ret := none) (by decide +kernel) rfl ?_
  intro p e s m args below meth c s₁ B hml hv
  obtain ⟨rfl, hsz, hP, hK, hD0, hXB, hZ⟩ := hv
  have hx := B.exec
  have hb := B.bytes
  have hr := B.returns
  have hts := atoms_spec (ws := wsX1_init) B.pre
  have hown : s.vm.findClass RX1 = some m.cls := findClass_of_methodNamed B.named
  have hlocks := B.notSynchronized
  have hin0 : meth.name = "<init>" := (name_of_methodNamed B.named B.method).1
  subst hsz
  have hD := hD0.self (sz := s.heap.size)
  generalize hAe : va_A ([(a0, .inr (1, [.null, .null]))]) s.heap.size = A at hD hZ ⊢
  have hA : ∀ q : Nat, s.heap.size ≤ q → A q := fun q h => by rw [← hAe]; exact Or.inr h
  have hS : va_S A s.heap s.heap [] := va_S.rf
  have hP : va_P G vwCl ([(a0, .inr (1, [.null, .null]))]) s.heap := hP
  have hiX1 : ∀ w ∈ u_ws RX1 TX1 2, w ∈ wsX1_init := by decide +kernel
  have hl := lv_entry ([.ref a0]) (n := 1) (Nat.le_of_ble_eq_true rfl)
  rw [lg_entry_eq]
  generalize (lg_sl ([.ref a0]) ++ List.replicate (1 - (lg_sl ([.ref a0])).length) Slot.unset).toArray = ls at hl ⊢
  have hl : lv_has ls 1 [(0, .ref a0)] := hl
  refine lv_aload_n hx hb dX1_init_0 rfl (lv_at hl 0 rfl) ?_
  refine W.objInit hx hb hown (hts (.methodLink RX1 3 objectInit) (by decide +kernel)) (hts (.instanceMethod objectInit) (by decide +kernel)) (hts (.code objectInit ⟨#[0xb1]⟩ 1 none) (by decide +kernel)) rfl (by rw [hml]; exact hl.1) rfl dX1_init_1 (Nat.le_of_ble_eq_true rfl) (Nat.le_of_ble_eq_true rfl) ?_
  refine W.eq (g2 := F0 m 4 ls []) rfl ?_
  refine lv_aload_n hx hb dX1_init_4 rfl (lv_at hl 0 rfl) ?_
  refine lv_bipush (v := nI 16) hx hb dX1_init_5 (by decide) ?_
  refine x_newai (N := 16) hx hb (hts (.arrayClass .int) (by decide +kernel)) hK 0 rfl hP hD hS hA (by decide) (by decide) (Nat.le_of_ble_eq_true rfl) (Nat.le_of_ble_eq_true rfl) dX1_init_7 (fun q1 H hP hD hS => ?_)
  have hP : va_P G vwCl ([(a0, .inr (1, [.null, .null])), (q1, .inl (T 0, 16, .inl (fun _ => 0)))]) H := hP
  have hD : va_D A ([(a0, .inr (1, [.null, .null])), (q1, .inl (T 0, 16, .inl (fun _ => 0)))]) := hD
  refine va_putF (D := G) (ci := 1) (v := .ref q1) (ty := (.array .int)) (C := RX1) (T := TX1) (N := 2) hx hb hts hiX1 tyX1 tyX1_ok nmX1 hown hK hP hD hS 0 rfl rfl 0 (by decide) (hts (.fieldLink RX1 9 "CardFans$Row" "numbers" "[I") (by decide +kernel)) (fun _ h9 => h9) rfl hin0 rfl (by decide +kernel) rfl rfl (Nat.le_of_ble_eq_true rfl) dX1_init_9 (fun H locs hP hD hS => ?_)
  have hP : va_P G vwCl ([(a0, .inr (1, [.ref q1, .null])), (q1, .inl (T 0, 16, .inl (fun _ => 0)))]) H := hP
  have hD : va_D A ([(a0, .inr (1, [.ref q1, .null])), (q1, .inl (T 0, 16, .inl (fun _ => 0)))]) := hD
  refine lv_aload_n hx hb dX1_init_12 rfl (lv_at hl 0 rfl) ?_
  refine lv_bipush (v := nI 16) hx hb dX1_init_13 (by decide) ?_
  refine x_newai (N := 16) hx hb (hts (.arrayClass .int) (by decide +kernel)) hK 0 rfl hP hD hS hA (by decide) (by decide) (Nat.le_of_ble_eq_true rfl) (Nat.le_of_ble_eq_true rfl) dX1_init_15 (fun q2 H hP hD hS => ?_)
  have hP : va_P G vwCl ([(a0, .inr (1, [.ref q1, .null])), (q1, .inl (T 0, 16, .inl (fun _ => 0))), (q2, .inl (T 0, 16, .inl (fun _ => 0)))]) H := hP
  have hD : va_D A ([(a0, .inr (1, [.ref q1, .null])), (q1, .inl (T 0, 16, .inl (fun _ => 0))), (q2, .inl (T 0, 16, .inl (fun _ => 0)))]) := hD
  refine va_putF (D := G) (ci := 1) (v := .ref q2) (ty := (.array .int)) (C := RX1) (T := TX1) (N := 2) hx hb hts hiX1 tyX1 tyX1_ok nmX1 hown hK hP hD hS 0 rfl rfl 1 (by decide) (hts (.fieldLink RX1 15 "CardFans$Row" "carried" "[I") (by decide +kernel)) (fun _ h9 => h9) rfl hin0 rfl (by decide +kernel) rfl rfl (Nat.le_of_ble_eq_true rfl) dX1_init_17 (fun H locs hP hD hS => ?_)
  have hP : va_P G vwCl ([(a0, .inr (1, [.ref q1, .ref q2])), (q1, .inl (T 0, 16, .inl (fun _ => 0))), (q2, .inl (T 0, 16, .inl (fun _ => 0)))]) H := hP
  have hD : va_D A ([(a0, .inr (1, [.ref q1, .ref q2])), (q1, .inl (T 0, 16, .inl (fun _ => 0))), (q2, .inl (T 0, 16, .inl (fun _ => 0)))]) := hD
  exact W.vret hx hb hr (fun t9_ ht hW => ⟨⟨(q1, q2), rfl, hD, x_at ht hP⟩, hS.F ht⟩) hS.2.2 dX1_init_20

set_option maxHeartbeats 4000000 in
set_option maxRecDepth 100000 in
/-- Watcher() -/
theorem c_X2_init (l : Launch) (G : va_G) (T : Nat → ClassId) (sz : Nat) (h0 : Nat) (sh : Int32) (hsh : narrow .boolean (.int sh) = .int sh) (hfit : fits .boolean (.int sh) = true) : Met l yX2_init wsX2_init ({ frames := 3, cells := 3, slots := 34, locals := 42 }) (va_Pc [.ref h0, .int sh] (xPre G T ([(h0, .inr (2, [.int 0, .null, .int 0, .int 0]))]) sz)) (va_Qv (fun (u : Nat × Nat × Nat) => va_D (va_A ([(h0, .inr (2, [.int 0, .null, .int 0, .int 0]))]) sz) [(h0, .inr (2, [.int sh, .ref u.1, .int 0, .int 0])), (u.1, .inr (1, [.ref u.2.1, .ref u.2.2])), (u.2.1, .inl (T 0, 16, .inl (fun _ => nI 65535))), (u.2.2, .inl (T 0, 16, .inl (fun _ => 0)))]) (fun u t => va_P G vwCl ([(h0, .inr (2, [.int sh, .ref u.1, .int 0, .int 0])), (u.1, .inr (1, [.ref u.2.1, .ref u.2.2])), (u.2.1, .inl (T 0, 16, .inl (fun _ => nI 65535))), (u.2.2, .inl (T 0, 16, .inl (fun _ => 0)))]) t.heap) (va_A ([(h0, .inr (2, [.int 0, .null, .int 0, .int 0]))]) sz)) 3 34 (va_A ([(h0, .inr (2, [.int 0, .null, .int 0, .int 0]))]) sz) := by
  refine Met.ofW (cc := cX2_init) (maxL := 3) (ret := none) (by decide +kernel) rfl ?_
  intro p e s m args below meth c s₁ B hml hv
  obtain ⟨rfl, hsz, hP, hK, hD0, hXB, hZ⟩ := hv
  have hx := B.exec
  have hb := B.bytes
  have hr := B.returns
  have hts := atoms_spec (ws := wsX2_init) B.pre
  have hown : s.vm.findClass RX2 = some m.cls := findClass_of_methodNamed B.named
  have hlocks := B.notSynchronized
  have hin0 : meth.name = "<init>" := (name_of_methodNamed B.named B.method).1
  subst hsz
  have hD := hD0.self (sz := s.heap.size)
  generalize hAe : va_A ([(h0, .inr (2, [.int 0, .null, .int 0, .int 0]))]) s.heap.size = A at hD hZ ⊢
  have hA : ∀ q : Nat, s.heap.size ≤ q → A q := fun q h => by rw [← hAe]; exact Or.inr h
  have hS : va_S A s.heap s.heap [] := va_S.rf
  have hP : va_P G vwCl ([(h0, .inr (2, [.int 0, .null, .int 0, .int 0]))]) s.heap := hP
  have hiX1 : ∀ w ∈ u_ws RX1 TX1 2, w ∈ wsX2_init := by decide +kernel
  have hiX2 : ∀ w ∈ u_ws RX2 TX2 4, w ∈ wsX2_init := by decide +kernel
  have hl := lv_entry ([.ref h0, .int sh]) (n := 3) (Nat.le_of_ble_eq_true rfl)
  rw [lg_entry_eq]
  generalize (lg_sl ([.ref h0, .int sh]) ++ List.replicate (3 - (lg_sl ([.ref h0, .int sh])).length) Slot.unset).toArray = ls at hl ⊢
  have hl : lv_has ls 3 [(0, .ref h0), (1, .int sh)] := hl
  refine lv_aload_n hx hb dX2_init_0 rfl (lv_at hl 0 rfl) ?_
  refine W.objInit hx hb hown (hts (.methodLink RX2 3 objectInit) (by decide +kernel)) (hts (.instanceMethod objectInit) (by decide +kernel)) (hts (.code objectInit ⟨#[0xb1]⟩ 1 none) (by decide +kernel)) rfl (by rw [hml]; exact hl.1) rfl dX2_init_1 (Nat.le_of_ble_eq_true rfl) (Nat.le_of_ble_eq_true rfl) ?_
  refine W.eq (g2 := F0 m 4 ls []) rfl ?_
  refine lv_aload_n hx hb dX2_init_4 rfl (lv_at hl 0 rfl) ?_
  refine va_new (ci := 1) (fs := [.null, .null]) (C := RX1) (T := TX1) (N := 2) hx hb hts hiX1 tyX1 tyX1_ok hown (hts (.classLink RX2 9 RX1) (by decide +kernel)) (hts (.instantiable RX1 2) (by decide +kernel)) (hts (.initialized RX1) (by decide +kernel)) hK hP hD hS hA rfl (fun j hj => by rcases (show j = 0 ∨ j = 1 by omega) with rfl | rfl <;> rfl) (Nat.le_of_ble_eq_true rfl) (Nat.le_of_ble_eq_true rfl) dX2_init_5 (fun r0 H hP hD hS => ?_)
  have hP : va_P G vwCl ([(h0, .inr (2, [.int 0, .null, .int 0, .int 0])), (r0, .inr (1, [.null, .null]))]) H := hP
  have hD : va_D A ([(h0, .inr (2, [.int 0, .null, .int 0, .int 0])), (r0, .inr (1, [.null, .null]))]) := hD
  refine lv_dup hx hb dX2_init_8 rfl ?_
  have hP := xp_perm (List.Perm.swap _ _ _) hP
  have hD := xd_perm (List.Perm.swap _ _ _) hD
  have hP : va_P G vwCl ([(r0, .inr (1, [.null, .null]))] ++ [(h0, .inr (2, [.int 0, .null, .int 0, .int 0]))]) H := hP
  have hD : va_D A ([(r0, .inr (1, [.null, .null]))] ++ [(h0, .inr (2, [.int 0, .null, .int 0, .int 0]))]) := hD
  refine x_callvA (va_runIN (As := []) (rest := [.ref r0, .ref h0]) ⟨hx, hb, hml, hown, hts⟩ (c_X1_init l G T _ r0) ⟨va_cnB 0 hts gX2_init_X1_init_n11 rfl rfl rfl (hXB.1 (.methodLinkNest RX2 11 yX1_init "CardFans") (by decide +kernel)) (hts (.initialized RX1) (by decide +kernel)) (by decide +kernel) ⟨Nat.le_of_ble_eq_true rfl, Nat.le_of_ble_eq_true rfl⟩, rfl, hts (.instanceMethod yX1_init) (by decide +kernel)⟩ (x_preSA (wc := [(r0, .inr (1, [.null, .null]))]) (wr := [(h0, .inr (2, [.int 0, .null, .int 0, .int 0]))]) hK hP hD hS hA hXB hZ _) rfl rfl hl.1 rfl (lv_room (Nat.le_of_ble_eq_true rfl)) dX2_init_9 ⟨Nat.le_of_ble_eq_true rfl, Nat.le_of_ble_eq_true rfl⟩) hP hD hS hA (fun _ h => h) (fun u H locs hw hP hD hS => ?_)
  obtain ⟨a1, a2⟩ := u
  have hP := xp_perm (List.perm_append_comm (l₁ := [(r0, .inr (1, [.ref a1, .ref a2])), (a1, .inl (T 0, 16, .inl (fun _ => 0))), (a2, .inl (T 0, 16, .inl (fun _ => 0)))]) (l₂ := [(h0, .inr (2, [.int 0, .null, .int 0, .int 0]))])) hP
  have hD := xd_perm (List.perm_append_comm (l₁ := [(r0, .inr (1, [.ref a1, .ref a2])), (a1, .inl (T 0, 16, .inl (fun _ => 0))), (a2, .inl (T 0, 16, .inl (fun _ => 0)))]) (l₂ := [(h0, .inr (2, [.int 0, .null, .int 0, .int 0]))])) hD
  have hP : va_P G vwCl ([(h0, .inr (2, [.int 0, .null, .int 0, .int 0])), (r0, .inr (1, [.ref a1, .ref a2])), (a1, .inl (T 0, 16, .inl (fun _ => 0))), (a2, .inl (T 0, 16, .inl (fun _ => 0)))]) H := hP
  have hD : va_D A ([(h0, .inr (2, [.int 0, .null, .int 0, .int 0])), (r0, .inr (1, [.ref a1, .ref a2])), (a1, .inl (T 0, 16, .inl (fun _ => 0))), (a2, .inl (T 0, 16, .inl (fun _ => 0)))]) := hD
  refine va_putF (D := G) (ci := 2) (v := .ref r0) (ty := .object "CardFans$Row") (C := RX2) (T := TX2) (N := 4) hx hb hts hiX2 tyX2 tyX2_ok nmX2 hown hK hP hD hS 0 rfl rfl 1 (by decide) (hts (.fieldLink RX2 12 "CardFans$Watcher" "thoughts" "LCardFans$Row;") (by decide +kernel)) (fun _ h9 => h9) rfl hin0 rfl (by decide +kernel) rfl rfl (Nat.le_of_ble_eq_true rfl) dX2_init_12 (fun H locs hP hD hS => ?_)
  have hP : va_P G vwCl ([(h0, .inr (2, [.int 0, .ref r0, .int 0, .int 0])), (r0, .inr (1, [.ref a1, .ref a2])), (a1, .inl (T 0, 16, .inl (fun _ => 0))), (a2, .inl (T 0, 16, .inl (fun _ => 0)))]) H := hP
  have hD : va_D A ([(h0, .inr (2, [.int 0, .ref r0, .int 0, .int 0])), (r0, .inr (1, [.ref a1, .ref a2])), (a1, .inl (T 0, 16, .inl (fun _ => 0))), (a2, .inl (T 0, 16, .inl (fun _ => 0)))]) := hD
  refine lv_aload_n hx hb dX2_init_15 rfl (lv_at hl 0 rfl) ?_
  refine lv_iload_n hx hb dX2_init_16 rfl (lv_at hl 1 rfl) ?_
  refine va_putF (D := G) (ci := 2) (v := .int sh) (ty := .boolean) (C := RX2) (T := TX2) (N := 4) hx hb hts hiX2 tyX2 tyX2_ok nmX2 hown hK hP hD hS 0 rfl rfl 0 (by decide) (hts (.fieldLink RX2 18 "CardFans$Watcher" "isSharp" "Z") (by decide +kernel)) (fun _ h9 => h9) rfl hin0 rfl (by decide +kernel) hsh hfit (Nat.le_of_ble_eq_true rfl) dX2_init_17 (fun H locs hP hD hS => ?_)
  have hP : va_P G vwCl ([(h0, .inr (2, [.int sh, .ref r0, .int 0, .int 0])), (r0, .inr (1, [.ref a1, .ref a2])), (a1, .inl (T 0, 16, .inl (fun _ => 0))), (a2, .inl (T 0, 16, .inl (fun _ => 0)))]) H := hP
  have hD : va_D A ([(h0, .inr (2, [.int sh, .ref r0, .int 0, .int 0])), (r0, .inr (1, [.ref a1, .ref a2])), (a1, .inl (T 0, 16, .inl (fun _ => 0))), (a2, .inl (T 0, 16, .inl (fun _ => 0)))]) := hD
  refine lv_iconst (v := nI 0) hx hb dX2_init_20 (by decide) ?_
  refine lv_istore_n (lv' := [(2, .int (nI 0)), (0, .ref h0), (1, .int sh)]) hx hb dX2_init_21 rfl hl (by decide) rfl (fun ls hl => ?_)
  suffices LP : ∀ (n : Nat) (i : Nat) (f : Nat → Int32), (i ≤ 16) → (16 < i + n) → (∀ j, j < i → f j = nI 65535) → ∀ (H : Heap) (locs : List Loc), va_P G vwCl ([(h0, .inr (2, [.int sh, .ref r0, .int 0, .int 0])), (r0, .inr (1, [.ref a1, .ref a2])), (a1, .inl (T 0, 16, .inl f)), (a2, .inl (T 0, 16, .inl (fun _ => 0)))]) H → va_D A ([(h0, .inr (2, [.int sh, .ref r0, .int 0, .int 0])), (r0, .inr (1, [.ref a1, .ref a2])), (a1, .inl (T 0, 16, .inl f)), (a2, .inl (T 0, 16, .inl (fun _ => 0)))]) → va_S A s.heap H locs → ∀ (ls : Array Slot), lv_has ls 3 [(2, .int (nI i)), (0, .ref h0), (1, .int sh)] → W p l e (headSpec wsX2_init ({ frames := 3, cells := 3, slots := 34, locals := 42 })).room s m ([.ref h0, .int sh] : List Value).toArray below meth c H locs 3 34 (MQ below (va_Qv (fun (u : Nat × Nat × Nat) => va_D A [(h0, .inr (2, [.int sh, .ref u.1, .int 0, .int 0])), (u.1, .inr (1, [.ref u.2.1, .ref u.2.2])), (u.2.1, .inl (T 0, 16, .inl (fun _ => nI 65535))), (u.2.2, .inl (T 0, 16, .inl (fun _ => 0)))]) (fun u t => va_P G vwCl ([(h0, .inr (2, [.int sh, .ref u.1, .int 0, .int 0])), (u.1, .inr (1, [.ref u.2.1, .ref u.2.2])), (u.2.1, .inl (T 0, 16, .inl (fun _ => nI 65535))), (u.2.2, .inl (T 0, 16, .inl (fun _ => 0)))]) t.heap) A) ([.ref h0, .int sh] : List Value).toArray s 3 34 A) (F0 m 22 ls []) from LP 17 0 _ (by decide) (by decide) (fun j hj => absurd hj (Nat.not_lt_zero j)) _ _ hP hD hS ls (lv_sub hl [0, 1, 2] rfl)
  clear hP hD hS hl
  intro n
  induction n with
  | zero => intro i f hi hn hf H locs _ _ _ ls _; exfalso; omega
  | succ n ih =>
    intro i f hi hn hf H locs hP hD hS ls hl
    refine lv_iload_n hx hb dX2_init_22 rfl (lv_at hl 0 rfl) ?_
    refine lv_bipush (v := nI 16) hx hb dX2_init_23 (by decide) ?_
    by_cases hc : i < 16
    · refine lv_icmp_ge (tgt := 44) hx hb dX2_init_25 (by decide) (fun c_ => absurd c_ (nI_ge hc (by decide))) (fun _ => ?_)
      refine lv_aload_n hx hb dX2_init_28 rfl (lv_at hl 1 rfl) ?_
      refine va_get (D := G) (ci := 2) (v := .ref r0) (C := RX2) (T := TX2) (N := 4) hx hb hts hiX2 hown hK hP 0 rfl rfl 1 (by decide) (hts (.fieldLink RX2 12 "CardFans$Watcher" "thoughts" "LCardFans$Row;") (by decide +kernel)) (fun _ h9 => h9) rfl dX2_init_29 ?_
      refine lv_iload_n hx hb dX2_init_32 rfl (lv_at hl 0 rfl) ?_
      refine lv_ldc (v := nI 65535) hx hb hown (hts (.constant RX2 22 (65535)) (by decide +kernel)) dX2_init_33 ?_
      refine x_callv (va_runV (As := [.int (nI i), .int (nI 65535)]) (rest := []) ⟨hx, hb, hml, hown, hts⟩ (c_X1_put l G T _ r0 a1 a2 f (fun _ => 0) i hc (nI 65535)) (cwV 2 hts gX2_init_X1_put rfl rfl rfl (by decide +kernel) ⟨Nat.le_of_ble_eq_true rfl, Nat.le_of_ble_eq_true rfl⟩) (x_preV (wc := [(r0, .inr (1, [.ref a1, .ref a2])), (a1, .inl (T 0, 16, .inl f)), (a2, .inl (T 0, 16, .inl (fun _ => 0)))]) hK hP hD hS hA hXB hZ [1, 2, 3] rfl rfl _ _ 1 1 rfl rfl) rfl rfl hl.1 rfl (lv_room (Nat.le_of_ble_eq_true rfl)) dX2_init_35 ⟨Nat.le_of_ble_eq_true rfl, Nat.le_of_ble_eq_true rfl⟩) hP hD hS hA [1, 2, 3] rfl (fun _ _ => rfl) (fun u1 H locs _ hP hD hS => ?_)
      have hP : va_P G vwCl ([(h0, .inr (2, [.int sh, .ref r0, .int 0, .int 0])), (r0, .inr (1, [.ref a1, .ref a2])), (a1, .inl (T 0, 16, .inl (upd f i (nI 65535)))), (a2, .inl (T 0, 16, .inl (fun _ => 0)))]) H := hP
      have hD : va_D A ([(h0, .inr (2, [.int sh, .ref r0, .int 0, .int 0])), (r0, .inr (1, [.ref a1, .ref a2])), (a1, .inl (T 0, 16, .inl (upd f i (nI 65535)))), (a2, .inl (T 0, 16, .inl (fun _ => 0)))]) := hD
      refine lv_iinc (v := nI (i + 1)) (lv' := [(2, .int (nI (i + 1))), (0, .ref h0), (1, .int sh)]) hx hb dX2_init_38 hl (k := 0) rfl (x_inc _) (by decide) rfl (fun ls hl => ?_)
      refine lv_goto (tgt := 22) hx hb dX2_init_41 (by decide) ?_
      exact ih (i + 1) _ (by omega) (by omega) (xlt_s (fun a ha => by rw [pk_un (by omega)]; exact hf a ha) (by rw [pk_us])) _ _ hP hD hS ls (lv_sub hl [0, 1, 2] rfl)
    · refine lv_icmp_ge (tgt := 44) hx hb dX2_init_25 (by decide) (fun _ => ?_) (fun c_ => absurd (nI_le (by omega) (by omega)) c_)
      have hP := x_can hP 2 (g := (fun _ => nI 65535)) rfl (fun j hj => hf j (by omega))
      have hD := xd_set hD 2 (e := .inl (T 0, 16, .inl (fun _ => nI 65535))) rfl
      have hP : va_P G vwCl ([(h0, .inr (2, [.int sh, .ref r0, .int 0, .int 0])), (r0, .inr (1, [.ref a1, .ref a2])), (a1, .inl (T 0, 16, .inl (fun _ => nI 65535))), (a2, .inl (T 0, 16, .inl (fun _ => 0)))]) H := hP
      have hD : va_D A ([(h0, .inr (2, [.int sh, .ref r0, .int 0, .int 0])), (r0, .inr (1, [.ref a1, .ref a2])), (a1, .inl (T 0, 16, .inl (fun _ => nI 65535))), (a2, .inl (T 0, 16, .inl (fun _ => 0)))]) := hD
      exact W.vret hx hb hr (fun t9_ ht hW => ⟨⟨(r0, a1, a2), rfl, hD, x_at ht hP⟩, hS.F ht⟩) hS.2.2 dX2_init_44

set_option maxHeartbeats 4000000 in
set_option maxRecDepth 100000 in
/-- Watcher.follow -/
theorem c_X2_follow (l : Launch) (G : va_G) (T : Nat → ClassId) (sz : Nat) (h0 : Nat) (a0 a1 a2 : Nat) (sh an gl : Int32) (f g : Nat → Int32) (k n : Nat) (hw : xwn k n = true) : Met l yX2_follow wsX2_follow ({ frames := 3, cells := 0, slots := 0, locals := 69 }) (va_Pc [.ref h0, .int (nI k), .int (nI n)] (xPre G T ([(h0, .inr (2, [.int sh, .ref a0, .int an, .int gl])), (a0, .inr (1, [.ref a1, .ref a2])), (a1, .inl (T 0, 16, .inl f)), (a2, .inl (T 0, 16, .inl g))]) sz)) (va_Qv (fun (u : Nat → Int32) => True) (fun u t => va_P G vwCl ([(h0, .inr (2, [.int sh, .ref a0, .int an, .int gl])), (a0, .inr (1, [.ref a1, .ref a2])), (a1, .inl (T 0, 16, .inl (fun j => f (xpb k n j)))), (a2, .inl (T 0, 16, .inl u))]) t.heap) (va_A ([(h0, .inr (2, [.int sh, .ref a0, .int an, .int gl])), (a0, .inr (1, [.ref a1, .ref a2])), (a1, .inl (T 0, 16, .inl f)), (a2, .inl (T 0, 16, .inl g))]) sz)) 0 0 (va_A ([(h0, .inr (2, [.int sh, .ref a0, .int an, .int gl])), (a0, .inr (1, [.ref a1, .ref a2])), (a1, .inl (T 0, 16, .inl f)), (a2, .inl (T 0, 16, .inl g))]) sz) := by
  refine Met.ofW (cc := cX2_follow) (maxL := 3) (ret := none) (by decide +kernel) rfl ?_
  intro p e s m args below meth c s₁ B hml hv
  obtain ⟨rfl, hsz, hP, hK, hD0, hXB, hZ⟩ := hv
  have hx := B.exec
  have hb := B.bytes
  have hr := B.returns
  have hts := atoms_spec (ws := wsX2_follow) B.pre
  have hown : s.vm.findClass RX2 = some m.cls := findClass_of_methodNamed B.named
  have hlocks := B.notSynchronized
  subst hsz
  have hD := hD0.self (sz := s.heap.size)
  generalize hAe : va_A ([(h0, .inr (2, [.int sh, .ref a0, .int an, .int gl])), (a0, .inr (1, [.ref a1, .ref a2])), (a1, .inl (T 0, 16, .inl f)), (a2, .inl (T 0, 16, .inl g))]) s.heap.size = A at hD hZ ⊢
  have hA : ∀ q : Nat, s.heap.size ≤ q → A q := fun q h => by rw [← hAe]; exact Or.inr h
  have hS : va_S A s.heap s.heap [] := va_S.rf
  have hP : va_P G vwCl ([(h0, .inr (2, [.int sh, .ref a0, .int an, .int gl])), (a0, .inr (1, [.ref a1, .ref a2])), (a1, .inl (T 0, 16, .inl f)), (a2, .inl (T 0, 16, .inl g))]) s.heap := hP
  have hiX2 : ∀ w ∈ u_ws RX2 TX2 4, w ∈ wsX2_follow := by decide +kernel
  have hl := lv_entry ([.ref h0, .int (nI k), .int (nI n)]) (n := 3) (Nat.le_of_ble_eq_true rfl)
  rw [lg_entry_eq]
  generalize (lg_sl ([.ref h0, .int (nI k), .int (nI n)]) ++ List.replicate (3 - (lg_sl ([.ref h0, .int (nI k), .int (nI n)])).length) Slot.unset).toArray = ls at hl ⊢
  have hl : lv_has ls 3 [(0, .ref h0), (1, .int (nI k)), (2, .int (nI n))] := hl
  refine lv_aload_n hx hb dX2_follow_0 rfl (lv_at hl 0 rfl) ?_
  refine va_get (D := G) (ci := 2) (v := .ref a0) (C := RX2) (T := TX2) (N := 4) hx hb hts hiX2 hown hK hP 0 rfl rfl 1 (by decide) (hts (.fieldLink RX2 12 "CardFans$Watcher" "thoughts" "LCardFans$Row;") (by decide +kernel)) (fun _ h9 => h9) rfl dX2_follow_1 ?_
  refine lv_iload_n hx hb dX2_follow_4 rfl (lv_at hl 1 rfl) ?_
  refine lv_iload_n hx hb dX2_follow_5 rfl (lv_at hl 2 rfl) ?_
  refine x_callv (va_runV (As := [.int (nI k), .int (nI n)]) (rest := []) ⟨hx, hb, hml, hown, hts⟩ (c_X1_carry l G T _ a0 a1 a2 f g k n hw) (cwV 2 hts gX2_follow_X1_carry rfl rfl rfl (by decide +kernel) ⟨Nat.le_of_ble_eq_true rfl, Nat.le_of_ble_eq_true rfl⟩) (x_preV (wc := [(a0, .inr (1, [.ref a1, .ref a2])), (a1, .inl (T 0, 16, .inl f)), (a2, .inl (T 0, 16, .inl g))]) hK hP hD hS hA hXB hZ [1, 2, 3] rfl rfl _ _ 1 1 rfl rfl) rfl rfl hl.1 rfl (lv_room (Nat.le_of_ble_eq_true rfl)) dX2_follow_6 ⟨Nat.le_of_ble_eq_true rfl, Nat.le_of_ble_eq_true rfl⟩) hP hD hS hA [1, 2, 3] rfl (fun _ _ => rfl) (fun u1 H locs _ hP hD hS => ?_)
  have hP : va_P G vwCl ([(h0, .inr (2, [.int sh, .ref a0, .int an, .int gl])), (a0, .inr (1, [.ref a1, .ref a2])), (a1, .inl (T 0, 16, .inl (fun j => f (xpb k n j)))), (a2, .inl (T 0, 16, .inl u1))]) H := hP
  have hD : va_D A ([(h0, .inr (2, [.int sh, .ref a0, .int an, .int gl])), (a0, .inr (1, [.ref a1, .ref a2])), (a1, .inl (T 0, 16, .inl (fun j => f (xpb k n j)))), (a2, .inl (T 0, 16, .inl u1))]) := hD
  exact W.vret hx hb hr (fun t9_ ht hW => ⟨⟨u1, rfl, trivial, x_at ht hP⟩, hS.F ht⟩) hS.2.2 dX2_follow_9

set_option maxHeartbeats 4000000 in
set_option maxRecDepth 100000 in
/-- strikesElsewhere -/
theorem c_X2_strikesElsewhere (l : Launch) (G : va_G) (T : Nat → ClassId) (sz : Nat) (h0 : Nat) (a0 a1 a2 : Nat) (sh an gl : Int32) (f g : Nat → Int32) (k : Nat) (hk : k < 16) : Met l yX2_strikesElsewhere wsX2_strikesElsewhere ({ frames := 2, cells := 0, slots := 0, locals := 42 }) (va_Pc [.ref h0, .int (nI k)] (xPre G T ([(h0, .inr (2, [.int sh, .ref a0, .int an, .int gl])), (a0, .inr (1, [.ref a1, .ref a2])), (a1, .inl (T 0, 16, .inl f)), (a2, .inl (T 0, 16, .inl g))]) sz)) (va_Qi (fun (r : Int32) (u : Unit) => r = xb (xsc f k (f k) 16)) (fun u t => va_P G vwCl ([(h0, .inr (2, [.int sh, .ref a0, .int an, .int gl])), (a0, .inr (1, [.ref a1, .ref a2])), (a1, .inl (T 0, 16, .inl (xse f k (f k) 16))), (a2, .inl (T 0, 16, .inl g))]) t.heap) (va_A ([(h0, .inr (2, [.int sh, .ref a0, .int an, .int gl])), (a0, .inr (1, [.ref a1, .ref a2])), (a1, .inl (T 0, 16, .inl f)), (a2, .inl (T 0, 16, .inl g))]) sz)) 0 0 (va_A ([(h0, .inr (2, [.int sh, .ref a0, .int an, .int gl])), (a0, .inr (1, [.ref a1, .ref a2])), (a1, .inl (T 0, 16, .inl f)), (a2, .inl (T 0, 16, .inl g))]) sz) := by
  refine Met.ofW (cc := cX2_strikesElsewhere) (maxL := 6) (ret := (some .boolean)) (by decide +kernel) rfl ?_
  intro p e s m args below meth c s₁ B hml hv
  obtain ⟨rfl, hsz, hP, hK, hD0, hXB, hZ⟩ := hv
  have hx := B.exec
  have hb := B.bytes
  have hr := B.returns
  have hts := atoms_spec (ws := wsX2_strikesElsewhere) B.pre
  have hown : s.vm.findClass RX2 = some m.cls := findClass_of_methodNamed B.named
  have hlocks := B.notSynchronized
  subst hsz
  have hD := hD0.self (sz := s.heap.size)
  generalize hAe : va_A ([(h0, .inr (2, [.int sh, .ref a0, .int an, .int gl])), (a0, .inr (1, [.ref a1, .ref a2])), (a1, .inl (T 0, 16, .inl f)), (a2, .inl (T 0, 16, .inl g))]) s.heap.size = A at hD hZ ⊢
  have hA : ∀ q : Nat, s.heap.size ≤ q → A q := fun q h => by rw [← hAe]; exact Or.inr h
  have hS : va_S A s.heap s.heap [] := va_S.rf
  have hP : va_P G vwCl ([(h0, .inr (2, [.int sh, .ref a0, .int an, .int gl])), (a0, .inr (1, [.ref a1, .ref a2])), (a1, .inl (T 0, 16, .inl f)), (a2, .inl (T 0, 16, .inl g))]) s.heap := hP
  have hiX2 : ∀ w ∈ u_ws RX2 TX2 4, w ∈ wsX2_strikesElsewhere := by decide +kernel
  have hl := lv_entry ([.ref h0, .int (nI k)]) (n := 6) (Nat.le_of_ble_eq_true rfl)
  rw [lg_entry_eq]
  generalize (lg_sl ([.ref h0, .int (nI k)]) ++ List.replicate (6 - (lg_sl ([.ref h0, .int (nI k)])).length) Slot.unset).toArray = ls at hl ⊢
  have hl : lv_has ls 6 [(0, .ref h0), (1, .int (nI k))] := hl
  refine lv_aload_n hx hb dX2_strikesElsewhere_0 rfl (lv_at hl 0 rfl) ?_
  refine va_get (D := G) (ci := 2) (v := .ref a0) (C := RX2) (T := TX2) (N := 4) hx hb hts hiX2 hown hK hP 0 rfl rfl 1 (by decide) (hts (.fieldLink RX2 12 "CardFans$Watcher" "thoughts" "LCardFans$Row;") (by decide +kernel)) (fun _ h9 => h9) rfl dX2_strikesElsewhere_1 ?_
  refine lv_iload_n hx hb dX2_strikesElsewhere_4 rfl (lv_at hl 1 rfl) ?_
  refine x_calli (va_runV (As := [.int (nI k)]) (rest := []) ⟨hx, hb, hml, hown, hts⟩ (c_X1_at l G T _ a0 a1 a2 f g k hk) (cwV 1 hts gX2_strikesElsewhere_X1_at rfl rfl rfl (by decide +kernel) ⟨Nat.le_of_ble_eq_true rfl, Nat.le_of_ble_eq_true rfl⟩) (x_preV (wc := [(a0, .inr (1, [.ref a1, .ref a2])), (a1, .inl (T 0, 16, .inl f)), (a2, .inl (T 0, 16, .inl g))]) hK hP hD hS hA hXB hZ [1, 2, 3] rfl rfl _ _ 1 1 rfl rfl) rfl rfl hl.1 rfl (lv_room (Nat.le_of_ble_eq_true rfl)) dX2_strikesElsewhere_5 ⟨Nat.le_of_ble_eq_true rfl, Nat.le_of_ble_eq_true rfl⟩) hP hD hS hA [1, 2, 3] rfl (fun _ _ _ => rfl) (fun r1 u H locs hw1 hP hD hS => ?_)
  have hP : va_P G vwCl ([(h0, .inr (2, [.int sh, .ref a0, .int an, .int gl])), (a0, .inr (1, [.ref a1, .ref a2])), (a1, .inl (T 0, 16, .inl f)), (a2, .inl (T 0, 16, .inl g))]) H := hP
  have hD : va_D A ([(h0, .inr (2, [.int sh, .ref a0, .int an, .int gl])), (a0, .inr (1, [.ref a1, .ref a2])), (a1, .inl (T 0, 16, .inl f)), (a2, .inl (T 0, 16, .inl g))]) := hD
  refine x_topi (y := f k) (hw1) ?_
  refine lv_istore_n (lv' := [(2, .int (f k)), (0, .ref h0), (1, .int (nI k))]) hx hb dX2_strikesElsewhere_8 rfl hl (by decide) rfl (fun ls hl => ?_)
  refine lv_iconst (v := nI 0) hx hb dX2_strikesElsewhere_9 (by decide) ?_
  refine lv_istore_n (lv' := [(3, .int (nI 0)), (2, .int (f k)), (0, .ref h0), (1, .int (nI k))]) hx hb dX2_strikesElsewhere_10 rfl hl (by decide) rfl (fun ls hl => ?_)
  refine lv_iconst (v := nI 0) hx hb dX2_strikesElsewhere_11 (by decide) ?_
  refine lv_istore (lv' := [(4, .int (nI 0)), (3, .int (nI 0)), (2, .int (f k)), (0, .ref h0), (1, .int (nI k))]) hx hb dX2_strikesElsewhere_12 hl (by decide) rfl (fun ls hl => ?_)
  suffices LP : ∀ (n : Nat) (i : Nat), (i ≤ 16) → (16 < i + n) → ∀ (H : Heap) (locs : List Loc), va_P G vwCl ([(h0, .inr (2, [.int sh, .ref a0, .int an, .int gl])), (a0, .inr (1, [.ref a1, .ref a2])), (a1, .inl (T 0, 16, .inl (xse f k (f k) i))), (a2, .inl (T 0, 16, .inl g))]) H → va_D A ([(h0, .inr (2, [.int sh, .ref a0, .int an, .int gl])), (a0, .inr (1, [.ref a1, .ref a2])), (a1, .inl (T 0, 16, .inl (xse f k (f k) i))), (a2, .inl (T 0, 16, .inl g))]) → va_S A s.heap H locs → ∀ (ls : Array Slot), lv_has ls 6 [(4, .int (nI i)), (3, .int (xb (xsc f k (f k) i))), (2, .int (f k)), (0, .ref h0), (1, .int (nI k))] → W p l e (headSpec wsX2_strikesElsewhere ({ frames := 2, cells := 0, slots := 0, locals := 42 })).room s m ([.ref h0, .int (nI k)] : List Value).toArray below meth c H locs 0 0 (MQ below (va_Qi (fun (r : Int32) (u : Unit) => r = xb (xsc f k (f k) 16)) (fun u t => va_P G vwCl ([(h0, .inr (2, [.int sh, .ref a0, .int an, .int gl])), (a0, .inr (1, [.ref a1, .ref a2])), (a1, .inl (T 0, 16, .inl (xse f k (f k) 16))), (a2, .inl (T 0, 16, .inl g))]) t.heap) A) ([.ref h0, .int (nI k)] : List Value).toArray s 0 0 A) (F0 m 14 ls []) from LP 17 0 (by decide) (by decide) _ _ hP hD hS ls (lv_sub hl [0, 1, 2, 3, 4] rfl)
  clear hP hD hS hl
  intro n
  induction n with
  | zero => intro i hi hn H locs _ _ _ ls _; exfalso; omega
  | succ n ih =>
    intro i hi hn H locs hP hD hS ls hl
    refine lv_iload hx hb dX2_strikesElsewhere_14 (lv_at hl 0 rfl) ?_
    refine lv_bipush (v := nI 16) hx hb dX2_strikesElsewhere_16 (by decide) ?_
    by_cases hc : i < 16
    · refine lv_icmp_ge (tgt := 68) hx hb dX2_strikesElsewhere_18 (by decide) (fun c_ => absurd c_ (nI_ge hc (by decide))) (fun _ => ?_)
      refine lv_aload_n hx hb dX2_strikesElsewhere_21 rfl (lv_at hl 3 rfl) ?_
      refine va_get (D := G) (ci := 2) (v := .ref a0) (C := RX2) (T := TX2) (N := 4) hx hb hts hiX2 hown hK hP 0 rfl rfl 1 (by decide) (hts (.fieldLink RX2 12 "CardFans$Watcher" "thoughts" "LCardFans$Row;") (by decide +kernel)) (fun _ h9 => h9) rfl dX2_strikesElsewhere_22 ?_
      refine lv_iload hx hb dX2_strikesElsewhere_25 (lv_at hl 0 rfl) ?_
      refine x_calli (va_runV (As := [.int (nI i)]) (rest := []) ⟨hx, hb, hml, hown, hts⟩ (c_X1_at l G T _ a0 a1 a2 (xse f k (f k) i) g i hc) (cwV 1 hts gX2_strikesElsewhere_X1_at rfl rfl rfl (by decide +kernel) ⟨Nat.le_of_ble_eq_true rfl, Nat.le_of_ble_eq_true rfl⟩) (x_preV (wc := [(a0, .inr (1, [.ref a1, .ref a2])), (a1, .inl (T 0, 16, .inl (xse f k (f k) i))), (a2, .inl (T 0, 16, .inl g))]) hK hP hD hS hA hXB hZ [1, 2, 3] rfl rfl _ _ 1 1 rfl rfl) rfl rfl hl.1 rfl (lv_room (Nat.le_of_ble_eq_true rfl)) dX2_strikesElsewhere_27 ⟨Nat.le_of_ble_eq_true rfl, Nat.le_of_ble_eq_true rfl⟩) hP hD hS hA [1, 2, 3] rfl (fun _ _ _ => rfl) (fun r2 u H locs hw2 hP hD hS => ?_)
      have hP : va_P G vwCl ([(h0, .inr (2, [.int sh, .ref a0, .int an, .int gl])), (a0, .inr (1, [.ref a1, .ref a2])), (a1, .inl (T 0, 16, .inl (xse f k (f k) i))), (a2, .inl (T 0, 16, .inl g))]) H := hP
      have hD : va_D A ([(h0, .inr (2, [.int sh, .ref a0, .int an, .int gl])), (a0, .inr (1, [.ref a1, .ref a2])), (a1, .inl (T 0, 16, .inl (xse f k (f k) i))), (a2, .inl (T 0, 16, .inl g))]) := hD
      subst hw2
      refine lv_istore (lv' := [(5, .int (xse f k (f k) i i)), (4, .int (nI i)), (3, .int (xb (xsc f k (f k) i))), (2, .int (f k)), (0, .ref h0), (1, .int (nI k))]) hx hb dX2_strikesElsewhere_30 hl (by decide) rfl (fun ls hl => ?_)
      refine lv_iload hx hb dX2_strikesElsewhere_32 (lv_at hl 1 rfl) ?_
      refine lv_iload_n hx hb dX2_strikesElsewhere_34 rfl (lv_at hl 5 rfl) ?_
      by_cases he : i = k
      · refine lv_icmp_eq (tgt := 62) hx hb dX2_strikesElsewhere_35 (by decide) (fun _ => ?_) (fun c_ => absurd (congrArg nI he) c_)
        have e1 : xse f k (f k) (i + 1) = xse f k (f k) i := by show xsk _ k (f k) i = _; exact xsk_f (fun h => h.1 he)
        have e2 : xsc f k (f k) (i + 1) = xsc f k (f k) i := by show (_ || _) = _; rw [decide_eq_false (fun h => h.1 he), Bool.or_false]
        refine lv_iinc (v := nI (i + 1)) (lv' := [(4, .int (nI (i + 1))), (5, .int (xse f k (f k) i i)), (3, .int (xb (xsc f k (f k) i))), (2, .int (f k)), (0, .ref h0), (1, .int (nI k))]) hx hb dX2_strikesElsewhere_62 hl (k := 1) rfl (x_inc _) (by decide) rfl (fun ls hl => ?_)
        refine lv_goto (tgt := 14) hx hb dX2_strikesElsewhere_65 (by decide) ?_
        rw [← e1] at hP hD; rw [← e2] at hl
        exact ih (i + 1) (by omega) (by omega) _ _ hP hD hS ls (lv_sub hl [0, 2, 3, 4, 5] rfl)
      · refine lv_icmp_eq (tgt := 62) hx hb dX2_strikesElsewhere_35 (by decide) (fun c_ => absurd c_ (fun h => he ((nI_eq (by omega) (by omega)).mp h))) (fun _ => ?_)
        refine lv_iload hx hb dX2_strikesElsewhere_38 (lv_at hl 0 rfl) ?_
        refine lv_iload_n hx hb dX2_strikesElsewhere_40 rfl (lv_at hl 3 rfl) ?_
        refine lv_iand hx hb dX2_strikesElsewhere_41 ?_
        refine lv_if_eq (tgt := 62) hx hb dX2_strikesElsewhere_42 (by decide) (fun c1 => ?_) (fun c1 => ?_)
        · have e1 : xse f k (f k) (i + 1) = xse f k (f k) i := by show xsk _ k (f k) i = _; exact xsk_f (fun h => h.2 c1)
          have e2 : xsc f k (f k) (i + 1) = xsc f k (f k) i := by show (_ || _) = _; rw [decide_eq_false (fun h => h.2 c1), Bool.or_false]
          refine lv_iinc (v := nI (i + 1)) (lv' := [(4, .int (nI (i + 1))), (5, .int (xse f k (f k) i i)), (3, .int (xb (xsc f k (f k) i))), (2, .int (f k)), (0, .ref h0), (1, .int (nI k))]) hx hb dX2_strikesElsewhere_62 hl (k := 1) rfl (x_inc _) (by decide) rfl (fun ls hl => ?_)
          refine lv_goto (tgt := 14) hx hb dX2_strikesElsewhere_65 (by decide) ?_
          rw [← e1] at hP hD; rw [← e2] at hl
          exact ih (i + 1) (by omega) (by omega) _ _ hP hD hS ls (lv_sub hl [0, 2, 3, 4, 5] rfl)
        · refine lv_aload_n hx hb dX2_strikesElsewhere_45 rfl (lv_at hl 4 rfl) ?_
          refine va_get (D := G) (ci := 2) (v := .ref a0) (C := RX2) (T := TX2) (N := 4) hx hb hts hiX2 hown hK hP 0 rfl rfl 1 (by decide) (hts (.fieldLink RX2 12 "CardFans$Watcher" "thoughts" "LCardFans$Row;") (by decide +kernel)) (fun _ h9 => h9) rfl dX2_strikesElsewhere_46 ?_
          refine lv_iload hx hb dX2_strikesElsewhere_49 (lv_at hl 1 rfl) ?_
          refine lv_iload hx hb dX2_strikesElsewhere_51 (lv_at hl 0 rfl) ?_
          refine lv_iload_n hx hb dX2_strikesElsewhere_53 rfl (lv_at hl 3 rfl) ?_
          refine lv_iconst (v := (-1)) hx hb dX2_strikesElsewhere_54 (by decide) ?_
          refine lv_ixor hx hb dX2_strikesElsewhere_55 ?_
          refine lv_iand hx hb dX2_strikesElsewhere_56 ?_
          refine x_callv (va_runV (As := [.int (nI i), .int ((xse f k (f k) i i) &&& (f k ^^^ (-1)))]) (rest := []) ⟨hx, hb, hml, hown, hts⟩ (c_X1_put l G T _ a0 a1 a2 (xse f k (f k) i) g i hc (xse f k (f k) i i &&& (f k ^^^ (-1)))) (cwV 2 hts gX2_strikesElsewhere_X1_put rfl rfl rfl (by decide +kernel) ⟨Nat.le_of_ble_eq_true rfl, Nat.le_of_ble_eq_true rfl⟩) (x_preV (wc := [(a0, .inr (1, [.ref a1, .ref a2])), (a1, .inl (T 0, 16, .inl (xse f k (f k) i))), (a2, .inl (T 0, 16, .inl g))]) hK hP hD hS hA hXB hZ [1, 2, 3] rfl rfl _ _ 1 1 rfl rfl) rfl rfl hl.1 rfl (lv_room (Nat.le_of_ble_eq_true rfl)) dX2_strikesElsewhere_57 ⟨Nat.le_of_ble_eq_true rfl, Nat.le_of_ble_eq_true rfl⟩) hP hD hS hA [1, 2, 3] rfl (fun _ _ => rfl) (fun u1 H locs _ hP hD hS => ?_)
          have hP : va_P G vwCl ([(h0, .inr (2, [.int sh, .ref a0, .int an, .int gl])), (a0, .inr (1, [.ref a1, .ref a2])), (a1, .inl (T 0, 16, .inl (upd (xse f k (f k) i) i (xse f k (f k) i i &&& (f k ^^^ (-1)))))), (a2, .inl (T 0, 16, .inl g))]) H := hP
          have hD : va_D A ([(h0, .inr (2, [.int sh, .ref a0, .int an, .int gl])), (a0, .inr (1, [.ref a1, .ref a2])), (a1, .inl (T 0, 16, .inl (upd (xse f k (f k) i) i (xse f k (f k) i i &&& (f k ^^^ (-1)))))), (a2, .inl (T 0, 16, .inl g))]) := hD
          have e1 : xse f k (f k) (i + 1) = upd (xse f k (f k) i) i (xse f k (f k) i i &&& (f k ^^^ (-1))) := by show xsk _ k (f k) i = _; exact xsk_t he c1
          have e2 : xb (xsc f k (f k) (i + 1)) = nI 1 := by show xb (_ || _) = _; rw [decide_eq_true ⟨he, c1⟩, Bool.or_true]; rfl
          refine lv_iconst (v := nI 1) hx hb dX2_strikesElsewhere_60 (by decide) ?_
          refine lv_istore_n (lv' := [(3, .int (nI 1)), (5, .int (xse f k (f k) i i)), (4, .int (nI i)), (2, .int (f k)), (0, .ref h0), (1, .int (nI k))]) hx hb dX2_strikesElsewhere_61 rfl hl (by decide) rfl (fun ls hl => ?_)
          refine lv_iinc (v := nI (i + 1)) (lv' := [(4, .int (nI (i + 1))), (3, .int (nI 1)), (5, .int (xse f k (f k) i i)), (2, .int (f k)), (0, .ref h0), (1, .int (nI k))]) hx hb dX2_strikesElsewhere_62 hl (k := 2) rfl (x_inc _) (by decide) rfl (fun ls hl => ?_)
          refine lv_goto (tgt := 14) hx hb dX2_strikesElsewhere_65 (by decide) ?_
          rw [← e1] at hP hD; rw [← e2] at hl
          exact ih (i + 1) (by omega) (by omega) _ _ hP hD hS ls (lv_sub hl [0, 1, 3, 4, 5] rfl)
    · refine lv_icmp_ge (tgt := 68) hx hb dX2_strikesElsewhere_18 (by decide) (fun _ => ?_) (fun c_ => absurd (nI_le (by omega) (by omega)) c_)
      refine lv_iload_n hx hb dX2_strikesElsewhere_68 rfl (lv_at hl 1 rfl) ?_
      obtain rfl : i = 16 := by omega
      exact W.zret (v := (xb (xsc f k (f k) 16))) hx hb hr (xb_nar _) (fun t9_ ht hW => ⟨⟨(xb (xsc f k (f k) 16)), (), rfl, rfl, x_at ht hP⟩, hS.F ht⟩) hS.2.2 dX2_strikesElsewhere_69

set_option maxHeartbeats 4000000 in
set_option maxRecDepth 100000 in
/-- concludes -/
theorem c_X2_concludes (l : Launch) (G : va_G) (T : Nat → ClassId) (sz : Nat) (N : Nat) (hN : N = 257) (h0 : Nat) (a0 a1 a2 : Nat) (sh an gl : Int32) (f g : Nat → Int32) : Met l yX2_concludes wsX2_concludes ({ frames := 3, cells := 0, slots := 0, locals := 67 }) (va_Pc [.ref h0] (xPre G T ([(h0, .inr (2, [.int sh, .ref a0, .int an, .int gl])), (a0, .inr (1, [.ref a1, .ref a2])), (a1, .inl (T 0, 16, .inl f)), (a2, .inl (T 0, 16, .inl g))]) sz)) (va_Qi (fun (r : Int32) (u : Unit) => r = xb (xcl N f).1) (fun u t => va_P G vwCl ([(h0, .inr (2, [.int sh, .ref a0, .int an, .int gl])), (a0, .inr (1, [.ref a1, .ref a2])), (a1, .inl (T 0, 16, .inl ((xcl N f).2))), (a2, .inl (T 0, 16, .inl g))]) t.heap) (va_A ([(h0, .inr (2, [.int sh, .ref a0, .int an, .int gl])), (a0, .inr (1, [.ref a1, .ref a2])), (a1, .inl (T 0, 16, .inl f)), (a2, .inl (T 0, 16, .inl g))]) sz)) 0 0 (va_A ([(h0, .inr (2, [.int sh, .ref a0, .int an, .int gl])), (a0, .inr (1, [.ref a1, .ref a2])), (a1, .inl (T 0, 16, .inl f)), (a2, .inl (T 0, 16, .inl g))]) sz) := by
  refine Met.ofW (cc := cX2_concludes) (maxL := 4) (ret := (some .boolean)) (by decide +kernel) rfl ?_
  intro p e s m args below meth c s₁ B hml hv
  obtain ⟨rfl, hsz, hP, hK, hD0, hXB, hZ⟩ := hv
  have hx := B.exec
  have hb := B.bytes
  have hr := B.returns
  have hts := atoms_spec (ws := wsX2_concludes) B.pre
  have hown : s.vm.findClass RX2 = some m.cls := findClass_of_methodNamed B.named
  have hlocks := B.notSynchronized
  subst hsz
  have hD := hD0.self (sz := s.heap.size)
  generalize hAe : va_A ([(h0, .inr (2, [.int sh, .ref a0, .int an, .int gl])), (a0, .inr (1, [.ref a1, .ref a2])), (a1, .inl (T 0, 16, .inl f)), (a2, .inl (T 0, 16, .inl g))]) s.heap.size = A at hD hZ ⊢
  have hA : ∀ q : Nat, s.heap.size ≤ q → A q := fun q h => by rw [← hAe]; exact Or.inr h
  have hS : va_S A s.heap s.heap [] := va_S.rf
  have hP : va_P G vwCl ([(h0, .inr (2, [.int sh, .ref a0, .int an, .int gl])), (a0, .inr (1, [.ref a1, .ref a2])), (a1, .inl (T 0, 16, .inl f)), (a2, .inl (T 0, 16, .inl g))]) s.heap := hP
  have hiX2 : ∀ w ∈ u_ws RX2 TX2 4, w ∈ wsX2_concludes := by decide +kernel
  have hl := lv_entry ([.ref h0]) (n := 4) (Nat.le_of_ble_eq_true rfl)
  rw [lg_entry_eq]
  generalize (lg_sl ([.ref h0]) ++ List.replicate (4 - (lg_sl ([.ref h0])).length) Slot.unset).toArray = ls at hl ⊢
  have hl : lv_has ls 4 [(0, .ref h0)] := hl
  refine lv_iconst (v := nI 1) hx hb dX2_concludes_0 (by decide) ?_
  refine lv_istore_n (lv' := [(1, .int (nI 1)), (0, .ref h0)]) hx hb dX2_concludes_1 rfl hl (by decide) rfl (fun ls hl => ?_)
  refine lv_iconst (v := nI 0) hx hb dX2_concludes_2 (by decide) ?_
  refine lv_istore_n (lv' := [(2, .int (nI 0)), (1, .int (nI 1)), (0, .ref h0)]) hx hb dX2_concludes_3 rfl hl (by decide) rfl (fun ls hl => ?_)
  suffices LP1 : ∀ (n1 : Nat) (f1 : Nat → Int32) (ch : Bool) (rd : Nat), (rd ≤ N) → (N < rd + n1) → ((if ch then xcl (N - rd) f1 else (true, f1)) = xcl N f) → ∀ (H : Heap) (locs : List Loc), va_P G vwCl ([(h0, .inr (2, [.int sh, .ref a0, .int an, .int gl])), (a0, .inr (1, [.ref a1, .ref a2])), (a1, .inl (T 0, 16, .inl f1)), (a2, .inl (T 0, 16, .inl g))]) H → va_D A ([(h0, .inr (2, [.int sh, .ref a0, .int an, .int gl])), (a0, .inr (1, [.ref a1, .ref a2])), (a1, .inl (T 0, 16, .inl f1)), (a2, .inl (T 0, 16, .inl g))]) → va_S A s.heap H locs → ∀ (ls : Array Slot), lv_has ls 4 [(2, .int (nI rd)), (1, .int (xb ch)), (0, .ref h0)] → W p l e (headSpec wsX2_concludes ({ frames := 3, cells := 0, slots := 0, locals := 67 })).room s m ([.ref h0] : List Value).toArray below meth c H locs 0 0 (MQ below (va_Qi (fun (r : Int32) (u : Unit) => r = xb (xcl N f).1) (fun u t => va_P G vwCl ([(h0, .inr (2, [.int sh, .ref a0, .int an, .int gl])), (a0, .inr (1, [.ref a1, .ref a2])), (a1, .inl (T 0, 16, .inl ((xcl N f).2))), (a2, .inl (T 0, 16, .inl g))]) t.heap) A) ([.ref h0] : List Value).toArray s 0 0 A) (F0 m 4 ls []) from LP1 258 f true 0 (by omega) (by omega) rfl _ _ hP hD hS ls (lv_sub hl [0, 1, 2] rfl)
  clear hP hD hS hl
  intro n1
  induction n1 with
  | zero => intro f1 ch rd hrd hn hv H locs _ _ _ ls _; exfalso; omega
  | succ n1 ih1 =>
    intro f1 ch rd hrd hn hv H locs hP hD hS ls hl
    refine lv_iload_n hx hb dX2_concludes_4 rfl (lv_at hl 1 rfl) ?_
    cases ch with
    | false =>
      rw [if_neg Bool.false_ne_true] at hv
      refine lv_if_eq (tgt := 74) hx hb dX2_concludes_5 (by decide) (fun _ => ?_) (fun c_ => absurd (rfl) c_)
      refine lv_iconst (v := nI 1) hx hb dX2_concludes_74 (by decide) ?_
      have e2 : (xcl N f).2 = f1 := by rw [← hv]
      have e3 : (xcl N f).1 = true := by rw [← hv]
      have hP : va_P G vwCl ([(h0, .inr (2, [.int sh, .ref a0, .int an, .int gl])), (a0, .inr (1, [.ref a1, .ref a2])), (a1, .inl (T 0, 16, .inl ((xcl N f).2))), (a2, .inl (T 0, 16, .inl g))]) H := by rw [e2]; exact hP
      exact W.zret (v := nI 1) hx hb hr rfl (fun t9_ ht hW => ⟨⟨nI 1, (), rfl, by rw [e3]; rfl, x_at ht hP⟩, hS.F ht⟩) hS.2.2 dX2_concludes_75
    | true =>
      rw [if_pos rfl] at hv
      refine lv_if_eq (tgt := 74) hx hb dX2_concludes_5 (by decide) (fun c_ => absurd c_ (by decide)) (fun _ => ?_)
      refine lv_iload_n hx hb dX2_concludes_8 rfl (lv_at hl 0 rfl) ?_
      refine lv_sipush (v := nI 256) hx hb dX2_concludes_9 (by decide) ?_
      by_cases hrd2 : rd ≤ 256
      · refine lv_icmp_gt (tgt := 74) hx hb dX2_concludes_12 (by decide) (fun c_ => absurd c_ (nI_ngt (by omega) (by omega))) (fun _ => ?_)
        refine lv_iconst (v := nI 0) hx hb dX2_concludes_15 (by decide) ?_
        refine lv_istore_n (lv' := [(1, .int (nI 0)), (2, .int (nI rd)), (0, .ref h0)]) hx hb dX2_concludes_16 rfl hl (by decide) rfl (fun ls hl => ?_)
        refine lv_iconst (v := nI 0) hx hb dX2_concludes_17 (by decide) ?_
        refine lv_istore_n (lv' := [(3, .int (nI 0)), (1, .int (nI 0)), (2, .int (nI rd)), (0, .ref h0)]) hx hb dX2_concludes_18 rfl hl (by decide) rfl (fun ls hl => ?_)
        suffices LP2 : ∀ (n2 : Nat) (i : Nat), (i ≤ 16) → (16 < i + n2) → ∀ (H : Heap) (locs : List Loc), va_P G vwCl ([(h0, .inr (2, [.int sh, .ref a0, .int an, .int gl])), (a0, .inr (1, [.ref a1, .ref a2])), (a1, .inl (T 0, 16, .inl (xrp f1 i))), (a2, .inl (T 0, 16, .inl g))]) H → va_D A ([(h0, .inr (2, [.int sh, .ref a0, .int an, .int gl])), (a0, .inr (1, [.ref a1, .ref a2])), (a1, .inl (T 0, 16, .inl (xrp f1 i))), (a2, .inl (T 0, 16, .inl g))]) → va_S A s.heap H locs → ∀ (ls : Array Slot), lv_has ls 4 [(3, .int (nI i)), (1, .int (xb (xrc f1 i))), (2, .int (nI rd)), (0, .ref h0)] → W p l e (headSpec wsX2_concludes ({ frames := 3, cells := 0, slots := 0, locals := 67 })).room s m ([.ref h0] : List Value).toArray below meth c H locs 0 0 (MQ below (va_Qi (fun (r : Int32) (u : Unit) => r = xb (xcl N f).1) (fun u t => va_P G vwCl ([(h0, .inr (2, [.int sh, .ref a0, .int an, .int gl])), (a0, .inr (1, [.ref a1, .ref a2])), (a1, .inl (T 0, 16, .inl ((xcl N f).2))), (a2, .inl (T 0, 16, .inl g))]) t.heap) A) ([.ref h0] : List Value).toArray s 0 0 A) (F0 m 19 ls []) from LP2 17 0 (by decide) (by decide) _ _ hP hD hS ls (lv_sub hl [0, 1, 2, 3] rfl)
        clear hP hD hS hl
        intro n2
        induction n2 with
        | zero => intro i hi hn2 H locs _ _ _ ls _; exfalso; omega
        | succ n2 ih2 =>
          intro i hi hn2 H locs hP hD hS ls hl
          refine lv_iload_n hx hb dX2_concludes_19 rfl (lv_at hl 0 rfl) ?_
          refine lv_bipush (v := nI 16) hx hb dX2_concludes_20 (by decide) ?_
          by_cases hc : i < 16
          · refine lv_icmp_ge (tgt := 55) hx hb dX2_concludes_22 (by decide) (fun c_ => absurd c_ (nI_ge hc (by decide))) (fun _ => ?_)
            refine lv_aload_n hx hb dX2_concludes_25 rfl (lv_at hl 3 rfl) ?_
            refine va_get (D := G) (ci := 2) (v := .ref a0) (C := RX2) (T := TX2) (N := 4) hx hb hts hiX2 hown hK hP 0 rfl rfl 1 (by decide) (hts (.fieldLink RX2 12 "CardFans$Watcher" "thoughts" "LCardFans$Row;") (by decide +kernel)) (fun _ h9 => h9) rfl dX2_concludes_26 ?_
            refine lv_iload_n hx hb dX2_concludes_29 rfl (lv_at hl 0 rfl) ?_
            refine x_calli (va_runV (As := [.int (nI i)]) (rest := []) ⟨hx, hb, hml, hown, hts⟩ (c_X1_at l G T _ a0 a1 a2 (xrp f1 i) g i hc) (cwV 1 hts gX2_concludes_X1_at rfl rfl rfl (by decide +kernel) ⟨Nat.le_of_ble_eq_true rfl, Nat.le_of_ble_eq_true rfl⟩) (x_preV (wc := [(a0, .inr (1, [.ref a1, .ref a2])), (a1, .inl (T 0, 16, .inl (xrp f1 i))), (a2, .inl (T 0, 16, .inl g))]) hK hP hD hS hA hXB hZ [1, 2, 3] rfl rfl _ _ 1 1 rfl rfl) rfl rfl hl.1 rfl (lv_room (Nat.le_of_ble_eq_true rfl)) dX2_concludes_30 ⟨Nat.le_of_ble_eq_true rfl, Nat.le_of_ble_eq_true rfl⟩) hP hD hS hA [1, 2, 3] rfl (fun _ _ _ => rfl) (fun r1 u H locs hw1 hP hD hS => ?_)
            have hP : va_P G vwCl ([(h0, .inr (2, [.int sh, .ref a0, .int an, .int gl])), (a0, .inr (1, [.ref a1, .ref a2])), (a1, .inl (T 0, 16, .inl (xrp f1 i))), (a2, .inl (T 0, 16, .inl g))]) H := hP
            have hD : va_D A ([(h0, .inr (2, [.int sh, .ref a0, .int an, .int gl])), (a0, .inr (1, [.ref a1, .ref a2])), (a1, .inl (T 0, 16, .inl (xrp f1 i))), (a2, .inl (T 0, 16, .inl g))]) := hD
            subst hw1
            refine x_calli (va_runSN (As := [.int (xrp f1 i i)]) (rest := []) ⟨hx, hb, hml, hown, hts⟩ (c_X3_isOneAlone l G T _ (xrp f1 i i)) (⟨va_cnB 1 hts gX2_concludes_X3_isOneAlone_n51 rfl rfl rfl (hXB.1 (.methodLinkNest RX2 51 yX3_isOneAlone "CardFans") (by decide +kernel)) (hts (.initialized RX3) (by decide +kernel)) (by decide +kernel) ⟨Nat.le_of_ble_eq_true rfl, Nat.le_of_ble_eq_true rfl⟩, hts (.static yX3_isOneAlone) (by decide +kernel), trivial⟩) (x_preS (wc := []) hK hP hD hS hA hXB hZ [] rfl rfl _) rfl rfl hl.1 rfl (lv_room (Nat.le_of_ble_eq_true rfl)) dX2_concludes_33 ⟨Nat.le_of_ble_eq_true rfl, Nat.le_of_ble_eq_true rfl⟩) hP hD hS hA [] rfl (fun _ _ _ => rfl) (fun r2 u H locs hw2 hP hD hS => ?_)
            have hP : va_P G vwCl ([(h0, .inr (2, [.int sh, .ref a0, .int an, .int gl])), (a0, .inr (1, [.ref a1, .ref a2])), (a1, .inl (T 0, 16, .inl (xrp f1 i))), (a2, .inl (T 0, 16, .inl g))]) H := hP
            have hD : va_D A ([(h0, .inr (2, [.int sh, .ref a0, .int an, .int gl])), (a0, .inr (1, [.ref a1, .ref a2])), (a1, .inl (T 0, 16, .inl (xrp f1 i))), (a2, .inl (T 0, 16, .inl g))]) := hD
            refine lv_if_eq (tgt := 49) hx hb dX2_concludes_36 (by decide) (fun c1 => ?_) (fun c1 => ?_)
            · have h1 := xb_of_eq hw2 c1
              have e1 : xrp f1 (i + 1) = xrp f1 i := by show (if _ then _ else _) = _; rw [h1]; rfl
              have e2 : xrc f1 (i + 1) = xrc f1 i := by show (_ || (_ && _)) = _; rw [h1, Bool.false_and, Bool.or_false]
              refine lv_iinc (v := nI (i + 1)) (lv' := [(3, .int (nI (i + 1))), (1, .int (xb (xrc f1 i))), (2, .int (nI rd)), (0, .ref h0)]) hx hb dX2_concludes_49 hl (k := 0) rfl (x_inc _) (by decide) rfl (fun ls hl => ?_)
              refine lv_goto (tgt := 19) hx hb dX2_concludes_52 (by decide) ?_
              rw [← e1] at hP hD; rw [← e2] at hl
              exact ih2 (i + 1) (by omega) (by omega) _ _ hP hD hS ls (lv_sub hl [0, 1, 2, 3] rfl)
            · have h1 := xb_of_ne hw2 c1
              refine lv_aload_n hx hb dX2_concludes_39 rfl (lv_at hl 3 rfl) ?_
              refine lv_iload_n hx hb dX2_concludes_40 rfl (lv_at hl 0 rfl) ?_
              refine x_calli (va_runV (As := [.int (nI i)]) (rest := []) ⟨hx, hb, hml, hown, hts⟩ (c_X2_strikesElsewhere l G T _ h0 a0 a1 a2 sh an gl (xrp f1 i) g i hc) (cwV 1 hts gX2_concludes_X2_strikesElsewhere rfl rfl rfl (by decide +kernel) ⟨Nat.le_of_ble_eq_true rfl, Nat.le_of_ble_eq_true rfl⟩) (x_preV (wc := [(h0, .inr (2, [.int sh, .ref a0, .int an, .int gl])), (a0, .inr (1, [.ref a1, .ref a2])), (a1, .inl (T 0, 16, .inl (xrp f1 i))), (a2, .inl (T 0, 16, .inl g))]) hK hP hD hS hA hXB hZ [0, 1, 2, 3] rfl rfl _ _ 0 2 rfl rfl) rfl rfl hl.1 rfl (lv_room (Nat.le_of_ble_eq_true rfl)) dX2_concludes_41 ⟨Nat.le_of_ble_eq_true rfl, Nat.le_of_ble_eq_true rfl⟩) hP hD hS hA [0, 1, 2, 3] rfl (fun _ _ _ => rfl) (fun r3 u H locs hw3 hP hD hS => ?_)
              have hP : va_P G vwCl ([(h0, .inr (2, [.int sh, .ref a0, .int an, .int gl])), (a0, .inr (1, [.ref a1, .ref a2])), (a1, .inl (T 0, 16, .inl (xse (xrp f1 i) i (xrp f1 i i) 16))), (a2, .inl (T 0, 16, .inl g))]) H := hP
              have hD : va_D A ([(h0, .inr (2, [.int sh, .ref a0, .int an, .int gl])), (a0, .inr (1, [.ref a1, .ref a2])), (a1, .inl (T 0, 16, .inl (xse (xrp f1 i) i (xrp f1 i i) 16))), (a2, .inl (T 0, 16, .inl g))]) := hD
              have e1 : xrp f1 (i + 1) = xse (xrp f1 i) i (xrp f1 i i) 16 := by show (if _ then _ else _) = _; rw [h1]; rfl
              refine lv_if_eq (tgt := 49) hx hb dX2_concludes_44 (by decide) (fun c2 => ?_) (fun c2 => ?_)
              · have e2 : xrc f1 (i + 1) = xrc f1 i := by show (_ || (_ && _)) = _; rw [xb_of_eq hw3 c2, Bool.and_false, Bool.or_false]
                refine lv_iinc (v := nI (i + 1)) (lv' := [(3, .int (nI (i + 1))), (1, .int (xb (xrc f1 i))), (2, .int (nI rd)), (0, .ref h0)]) hx hb dX2_concludes_49 hl (k := 0) rfl (x_inc _) (by decide) rfl (fun ls hl => ?_)
                refine lv_goto (tgt := 19) hx hb dX2_concludes_52 (by decide) ?_
                rw [← e1] at hP hD; rw [← e2] at hl
                exact ih2 (i + 1) (by omega) (by omega) _ _ hP hD hS ls (lv_sub hl [0, 1, 2, 3] rfl)
              · have e2 : xb (xrc f1 (i + 1)) = nI 1 := by show xb (_ || (_ && _)) = _; rw [xb_of_ne hw3 c2, h1, Bool.and_true, Bool.or_true]; rfl
                refine lv_iconst (v := nI 1) hx hb dX2_concludes_47 (by decide) ?_
                refine lv_istore_n (lv' := [(1, .int (nI 1)), (3, .int (nI i)), (2, .int (nI rd)), (0, .ref h0)]) hx hb dX2_concludes_48 rfl hl (by decide) rfl (fun ls hl => ?_)
                refine lv_iinc (v := nI (i + 1)) (lv' := [(3, .int (nI (i + 1))), (1, .int (nI 1)), (2, .int (nI rd)), (0, .ref h0)]) hx hb dX2_concludes_49 hl (k := 1) rfl (x_inc _) (by decide) rfl (fun ls hl => ?_)
                refine lv_goto (tgt := 19) hx hb dX2_concludes_52 (by decide) ?_
                rw [← e1] at hP hD; rw [← e2] at hl
                exact ih2 (i + 1) (by omega) (by omega) _ _ hP hD hS ls (lv_sub hl [0, 1, 2, 3] rfl)
          · obtain rfl : i = 16 := by omega
            refine lv_icmp_ge (tgt := 55) hx hb dX2_concludes_22 (by decide) (fun _ => ?_) (fun c_ => absurd (nI_le (by omega) (by omega)) c_)
            refine lv_aload_n hx hb dX2_concludes_55 rfl (lv_at hl 3 rfl) ?_
            refine va_get (D := G) (ci := 2) (v := .ref a0) (C := RX2) (T := TX2) (N := 4) hx hb hts hiX2 hown hK hP 0 rfl rfl 1 (by decide) (hts (.fieldLink RX2 12 "CardFans$Watcher" "thoughts" "LCardFans$Row;") (by decide +kernel)) (fun _ h9 => h9) rfl dX2_concludes_56 ?_
            refine lv_iconst (v := nI 0) hx hb dX2_concludes_59 (by decide) ?_
            refine x_calli (va_runV (As := [.int (nI 0)]) (rest := []) ⟨hx, hb, hml, hown, hts⟩ (c_X1_firstPlaceOf l G T _ a0 a1 a2 (xrp f1 16) g (nI 0)) (cwV 1 hts gX2_concludes_X1_firstPlaceOf rfl rfl rfl (by decide +kernel) ⟨Nat.le_of_ble_eq_true rfl, Nat.le_of_ble_eq_true rfl⟩) (x_preV (wc := [(a0, .inr (1, [.ref a1, .ref a2])), (a1, .inl (T 0, 16, .inl (xrp f1 16))), (a2, .inl (T 0, 16, .inl g))]) hK hP hD hS hA hXB hZ [1, 2, 3] rfl rfl _ _ 1 1 rfl rfl) rfl rfl hl.1 rfl (lv_room (Nat.le_of_ble_eq_true rfl)) dX2_concludes_60 ⟨Nat.le_of_ble_eq_true rfl, Nat.le_of_ble_eq_true rfl⟩) hP hD hS hA [1, 2, 3] rfl (fun _ _ _ => rfl) (fun r3 u H locs hw3 hP hD hS => ?_)
            have hP : va_P G vwCl ([(h0, .inr (2, [.int sh, .ref a0, .int an, .int gl])), (a0, .inr (1, [.ref a1, .ref a2])), (a1, .inl (T 0, 16, .inl (xrp f1 16))), (a2, .inl (T 0, 16, .inl g))]) H := hP
            have hD : va_D A ([(h0, .inr (2, [.int sh, .ref a0, .int an, .int gl])), (a0, .inr (1, [.ref a1, .ref a2])), (a1, .inl (T 0, 16, .inl (xrp f1 16))), (a2, .inl (T 0, 16, .inl g))]) := hD
            have hz := xfp_neg hw3
            obtain ⟨z, hz2⟩ : ∃ z, N - rd = z + 1 := ⟨256 - rd, by omega⟩
            rw [hz2, xcl_s] at hv
            refine lv_if_lt (tgt := 68) hx hb dX2_concludes_63 (by decide) (fun c3 => ?_) (fun c3 => ?_)
            · have hzf := hz.mp c3
              rw [hzf, if_neg Bool.false_ne_true] at hv
              refine lv_iinc (v := nI (rd + 1)) (lv' := [(2, .int (nI (rd + 1))), (3, .int (nI 16)), (1, .int (xb (xrc f1 16))), (0, .ref h0)]) hx hb dX2_concludes_68 hl (k := 2) rfl (x_inc _) (by decide) rfl (fun ls hl => ?_)
              refine lv_goto (tgt := 4) hx hb dX2_concludes_71 (by decide) ?_
              exact ih1 (xrp f1 16) (xrc f1 16) (rd + 1) (by omega) (by omega) (by rw [show N - (rd + 1) = z by omega]; exact hv) _ _ hP hD hS ls (lv_sub hl [0, 2, 3] rfl)
            · have hzt : xz (xrp f1 16) = true := by cases hb9 : xz (xrp f1 16) with | true => rfl | false => exact absurd (hz.mpr hb9) c3
              rw [hzt, if_pos rfl] at hv
              refine lv_iconst (v := nI 0) hx hb dX2_concludes_66 (by decide) ?_
              have e2 : (xcl N f).2 = xrp f1 16 := by rw [← hv]
              have e3 : (xcl N f).1 = false := by rw [← hv]
              have hP : va_P G vwCl ([(h0, .inr (2, [.int sh, .ref a0, .int an, .int gl])), (a0, .inr (1, [.ref a1, .ref a2])), (a1, .inl (T 0, 16, .inl ((xcl N f).2))), (a2, .inl (T 0, 16, .inl g))]) H := by rw [e2]; exact hP
              exact W.zret (v := nI 0) hx hb hr rfl (fun t9_ ht hW => ⟨⟨nI 0, (), rfl, by rw [e3]; rfl, x_at ht hP⟩, hS.F ht⟩) hS.2.2 dX2_concludes_67
      · obtain rfl : rd = N := by omega
        rw [Nat.sub_self] at hv
        have hv : (true, f1) = xcl rd f := hv
        refine lv_icmp_gt (tgt := 74) hx hb dX2_concludes_12 (by decide) (fun _ => ?_) (fun c_ => absurd (nI_lt (by omega) (by omega)) c_)
        have hN2 := hN
        refine lv_iconst (v := nI 1) hx hb dX2_concludes_74 (by decide) ?_
        have e2 : (xcl rd f).2 = f1 := by rw [← hv]
        have e3 : (xcl rd f).1 = true := by rw [← hv]
        have hP : va_P G vwCl ([(h0, .inr (2, [.int sh, .ref a0, .int an, .int gl])), (a0, .inr (1, [.ref a1, .ref a2])), (a1, .inl (T 0, 16, .inl ((xcl rd f).2))), (a2, .inl (T 0, 16, .inl g))]) H := by rw [e2]; exact hP
        exact W.zret (v := nI 1) hx hb hr rfl (fun t9_ ht hW => ⟨⟨nI 1, (), rfl, by rw [e3]; rfl, x_at ht hP⟩, hS.F ht⟩) hS.2.2 dX2_concludes_75

set_option maxHeartbeats 4000000 in
set_option maxRecDepth 100000 in
/-- thinkAnew -/
theorem c_X2_thinkAnew (l : Launch) (G : va_G) (T : Nat → ClassId) (sz : Nat) (h0 : Nat) (a0 a1 a2 : Nat) (sh an gl : Int32) (f g : Nat → Int32) (k : Nat) (hk : k < 16) (x : Int32) : Met l yX2_thinkAnew wsX2_thinkAnew ({ frames := 2, cells := 0, slots := 0, locals := 42 }) (va_Pc [.ref h0, .int (nI k), .int x] (xPre G T ([(h0, .inr (2, [.int sh, .ref a0, .int an, .int gl])), (a0, .inr (1, [.ref a1, .ref a2])), (a1, .inl (T 0, 16, .inl f)), (a2, .inl (T 0, 16, .inl g))]) sz)) (va_Qv (fun (u : Unit) => True) (fun u t => va_P G vwCl ([(h0, .inr (2, [.int sh, .ref a0, .int an, .int gl])), (a0, .inr (1, [.ref a1, .ref a2])), (a1, .inl (T 0, 16, .inl (upd (fun _ => nI 65535 &&& (xso x ^^^ (-1))) k (xso x)))), (a2, .inl (T 0, 16, .inl g))]) t.heap) (va_A ([(h0, .inr (2, [.int sh, .ref a0, .int an, .int gl])), (a0, .inr (1, [.ref a1, .ref a2])), (a1, .inl (T 0, 16, .inl f)), (a2, .inl (T 0, 16, .inl g))]) sz)) 0 0 (va_A ([(h0, .inr (2, [.int sh, .ref a0, .int an, .int gl])), (a0, .inr (1, [.ref a1, .ref a2])), (a1, .inl (T 0, 16, .inl f)), (a2, .inl (T 0, 16, .inl g))]) sz) := by
  refine Met.ofW (cc := cX2_thinkAnew) (maxL := 4) (ret := none) (by decide +kernel) rfl ?_
  intro p e s m args below meth c s₁ B hml hv
  obtain ⟨rfl, hsz, hP, hK, hD0, hXB, hZ⟩ := hv
  have hx := B.exec
  have hb := B.bytes
  have hr := B.returns
  have hts := atoms_spec (ws := wsX2_thinkAnew) B.pre
  have hown : s.vm.findClass RX2 = some m.cls := findClass_of_methodNamed B.named
  have hlocks := B.notSynchronized
  subst hsz
  have hD := hD0.self (sz := s.heap.size)
  generalize hAe : va_A ([(h0, .inr (2, [.int sh, .ref a0, .int an, .int gl])), (a0, .inr (1, [.ref a1, .ref a2])), (a1, .inl (T 0, 16, .inl f)), (a2, .inl (T 0, 16, .inl g))]) s.heap.size = A at hD hZ ⊢
  have hA : ∀ q : Nat, s.heap.size ≤ q → A q := fun q h => by rw [← hAe]; exact Or.inr h
  have hS : va_S A s.heap s.heap [] := va_S.rf
  have hP : va_P G vwCl ([(h0, .inr (2, [.int sh, .ref a0, .int an, .int gl])), (a0, .inr (1, [.ref a1, .ref a2])), (a1, .inl (T 0, 16, .inl f)), (a2, .inl (T 0, 16, .inl g))]) s.heap := hP
  have hiX2 : ∀ w ∈ u_ws RX2 TX2 4, w ∈ wsX2_thinkAnew := by decide +kernel
  have hl := lv_entry ([.ref h0, .int (nI k), .int x]) (n := 4) (Nat.le_of_ble_eq_true rfl)
  rw [lg_entry_eq]
  generalize (lg_sl ([.ref h0, .int (nI k), .int x]) ++ List.replicate (4 - (lg_sl ([.ref h0, .int (nI k), .int x])).length) Slot.unset).toArray = ls at hl ⊢
  have hl : lv_has ls 4 [(0, .ref h0), (1, .int (nI k)), (2, .int x)] := hl
  refine lv_iconst (v := nI 0) hx hb dX2_thinkAnew_0 (by decide) ?_
  refine lv_istore_n (lv' := [(3, .int (nI 0)), (0, .ref h0), (1, .int (nI k)), (2, .int x)]) hx hb dX2_thinkAnew_1 rfl hl (by decide) rfl (fun ls hl => ?_)
  suffices LP : ∀ (n : Nat) (i : Nat) (f : Nat → Int32), (i ≤ 16) → (16 < i + n) → (∀ j, j < i → f j = nI 65535 &&& (xso x ^^^ (-1))) → ∀ (H : Heap) (locs : List Loc), va_P G vwCl ([(h0, .inr (2, [.int sh, .ref a0, .int an, .int gl])), (a0, .inr (1, [.ref a1, .ref a2])), (a1, .inl (T 0, 16, .inl f)), (a2, .inl (T 0, 16, .inl g))]) H → va_D A ([(h0, .inr (2, [.int sh, .ref a0, .int an, .int gl])), (a0, .inr (1, [.ref a1, .ref a2])), (a1, .inl (T 0, 16, .inl f)), (a2, .inl (T 0, 16, .inl g))]) → va_S A s.heap H locs → ∀ (ls : Array Slot), lv_has ls 4 [(3, .int (nI i)), (0, .ref h0), (1, .int (nI k)), (2, .int x)] → W p l e (headSpec wsX2_thinkAnew ({ frames := 2, cells := 0, slots := 0, locals := 42 })).room s m ([.ref h0, .int (nI k), .int x] : List Value).toArray below meth c H locs 0 0 (MQ below (va_Qv (fun (u : Unit) => True) (fun u t => va_P G vwCl ([(h0, .inr (2, [.int sh, .ref a0, .int an, .int gl])), (a0, .inr (1, [.ref a1, .ref a2])), (a1, .inl (T 0, 16, .inl (upd (fun _ => nI 65535 &&& (xso x ^^^ (-1))) k (xso x)))), (a2, .inl (T 0, 16, .inl g))]) t.heap) A) ([.ref h0, .int (nI k), .int x] : List Value).toArray s 0 0 A) (F0 m 2 ls []) from LP 17 0 _ (by decide) (by decide) (fun j hj => absurd hj (Nat.not_lt_zero j)) _ _ hP hD hS ls (lv_sub hl [0, 1, 2, 3] rfl)
  clear hP hD hS hl
  intro n
  induction n with
  | zero => intro i f hi hn hf H locs _ _ _ ls _; exfalso; omega
  | succ n ih =>
    intro i f hi hn hf H locs hP hD hS ls hl
    refine lv_iload_n hx hb dX2_thinkAnew_2 rfl (lv_at hl 0 rfl) ?_
    refine lv_bipush (v := nI 16) hx hb dX2_thinkAnew_3 (by decide) ?_
    by_cases hc : i < 16
    · refine lv_icmp_ge (tgt := 31) hx hb dX2_thinkAnew_5 (by decide) (fun c_ => absurd c_ (nI_ge hc (by decide))) (fun _ => ?_)
      refine lv_aload_n hx hb dX2_thinkAnew_8 rfl (lv_at hl 1 rfl) ?_
      refine va_get (D := G) (ci := 2) (v := .ref a0) (C := RX2) (T := TX2) (N := 4) hx hb hts hiX2 hown hK hP 0 rfl rfl 1 (by decide) (hts (.fieldLink RX2 12 "CardFans$Watcher" "thoughts" "LCardFans$Row;") (by decide +kernel)) (fun _ h9 => h9) rfl dX2_thinkAnew_9 ?_
      refine lv_iload_n hx hb dX2_thinkAnew_12 rfl (lv_at hl 0 rfl) ?_
      refine lv_ldc (v := nI 65535) hx hb hown (hts (.constant RX2 22 (65535)) (by decide +kernel)) dX2_thinkAnew_13 ?_
      refine lv_iload_n hx hb dX2_thinkAnew_15 rfl (lv_at hl 3 rfl) ?_
      refine x_calli (va_runSN (As := [.int x]) (rest := [.int (nI 65535), .int (nI i), .ref a0]) ⟨hx, hb, hml, hown, hts⟩ (c_X3_setOf l G T _ x) (⟨va_cnB 1 hts gX2_thinkAnew_X3_setOf_n34 rfl rfl rfl (hXB.1 (.methodLinkNest RX2 34 yX3_setOf "CardFans") (by decide +kernel)) (hts (.initialized RX3) (by decide +kernel)) (by decide +kernel) ⟨Nat.le_of_ble_eq_true rfl, Nat.le_of_ble_eq_true rfl⟩, hts (.static yX3_setOf) (by decide +kernel), trivial⟩) (x_preS (wc := []) hK hP hD hS hA hXB hZ [] rfl rfl _) rfl rfl hl.1 rfl (lv_room (Nat.le_of_ble_eq_true rfl)) dX2_thinkAnew_16 ⟨Nat.le_of_ble_eq_true rfl, Nat.le_of_ble_eq_true rfl⟩) hP hD hS hA [] rfl (fun _ _ _ => rfl) (fun r1 u H locs hw1 hP hD hS => ?_)
      have hP : va_P G vwCl ([(h0, .inr (2, [.int sh, .ref a0, .int an, .int gl])), (a0, .inr (1, [.ref a1, .ref a2])), (a1, .inl (T 0, 16, .inl f)), (a2, .inl (T 0, 16, .inl g))]) H := hP
      have hD : va_D A ([(h0, .inr (2, [.int sh, .ref a0, .int an, .int gl])), (a0, .inr (1, [.ref a1, .ref a2])), (a1, .inl (T 0, 16, .inl f)), (a2, .inl (T 0, 16, .inl g))]) := hD
      subst hw1
      refine lv_iconst (v := (-1)) hx hb dX2_thinkAnew_19 (by decide) ?_
      refine lv_ixor hx hb dX2_thinkAnew_20 ?_
      refine lv_iand hx hb dX2_thinkAnew_21 ?_
      refine x_callv (va_runV (As := [.int (nI i), .int (nI 65535 &&& ((xso x) ^^^ (-1)))]) (rest := []) ⟨hx, hb, hml, hown, hts⟩ (c_X1_put l G T _ a0 a1 a2 f g i hc (nI 65535 &&& (xso x ^^^ (-1)))) (cwV 2 hts gX2_thinkAnew_X1_put rfl rfl rfl (by decide +kernel) ⟨Nat.le_of_ble_eq_true rfl, Nat.le_of_ble_eq_true rfl⟩) (x_preV (wc := [(a0, .inr (1, [.ref a1, .ref a2])), (a1, .inl (T 0, 16, .inl f)), (a2, .inl (T 0, 16, .inl g))]) hK hP hD hS hA hXB hZ [1, 2, 3] rfl rfl _ _ 1 1 rfl rfl) rfl rfl hl.1 rfl (lv_room (Nat.le_of_ble_eq_true rfl)) dX2_thinkAnew_22 ⟨Nat.le_of_ble_eq_true rfl, Nat.le_of_ble_eq_true rfl⟩) hP hD hS hA [1, 2, 3] rfl (fun _ _ => rfl) (fun u1 H locs _ hP hD hS => ?_)
      have hP : va_P G vwCl ([(h0, .inr (2, [.int sh, .ref a0, .int an, .int gl])), (a0, .inr (1, [.ref a1, .ref a2])), (a1, .inl (T 0, 16, .inl (upd f i (nI 65535 &&& (xso x ^^^ (-1)))))), (a2, .inl (T 0, 16, .inl g))]) H := hP
      have hD : va_D A ([(h0, .inr (2, [.int sh, .ref a0, .int an, .int gl])), (a0, .inr (1, [.ref a1, .ref a2])), (a1, .inl (T 0, 16, .inl (upd f i (nI 65535 &&& (xso x ^^^ (-1)))))), (a2, .inl (T 0, 16, .inl g))]) := hD
      refine lv_iinc (v := nI (i + 1)) (lv' := [(3, .int (nI (i + 1))), (0, .ref h0), (1, .int (nI k)), (2, .int x)]) hx hb dX2_thinkAnew_25 hl (k := 0) rfl (x_inc _) (by decide) rfl (fun ls hl => ?_)
      refine lv_goto (tgt := 2) hx hb dX2_thinkAnew_28 (by decide) ?_
      exact ih (i + 1) _ (by omega) (by omega) (xlt_s (fun a ha => by rw [pk_un (by omega)]; exact hf a ha) (by rw [pk_us])) _ _ hP hD hS ls (lv_sub hl [0, 1, 2, 3] rfl)
    · refine lv_icmp_ge (tgt := 31) hx hb dX2_thinkAnew_5 (by decide) (fun _ => ?_) (fun c_ => absurd (nI_le (by omega) (by omega)) c_)
      refine lv_aload_n hx hb dX2_thinkAnew_31 rfl (lv_at hl 1 rfl) ?_
      refine va_get (D := G) (ci := 2) (v := .ref a0) (C := RX2) (T := TX2) (N := 4) hx hb hts hiX2 hown hK hP 0 rfl rfl 1 (by decide) (hts (.fieldLink RX2 12 "CardFans$Watcher" "thoughts" "LCardFans$Row;") (by decide +kernel)) (fun _ h9 => h9) rfl dX2_thinkAnew_32 ?_
      refine lv_iload_n hx hb dX2_thinkAnew_35 rfl (lv_at hl 2 rfl) ?_
      refine lv_iload_n hx hb dX2_thinkAnew_36 rfl (lv_at hl 3 rfl) ?_
      refine x_calli (va_runSN (As := [.int x]) (rest := [.int (nI k), .ref a0]) ⟨hx, hb, hml, hown, hts⟩ (c_X3_setOf l G T _ x) (⟨va_cnB 1 hts gX2_thinkAnew_X3_setOf_n34 rfl rfl rfl (hXB.1 (.methodLinkNest RX2 34 yX3_setOf "CardFans") (by decide +kernel)) (hts (.initialized RX3) (by decide +kernel)) (by decide +kernel) ⟨Nat.le_of_ble_eq_true rfl, Nat.le_of_ble_eq_true rfl⟩, hts (.static yX3_setOf) (by decide +kernel), trivial⟩) (x_preS (wc := []) hK hP hD hS hA hXB hZ [] rfl rfl _) rfl rfl hl.1 rfl (lv_room (Nat.le_of_ble_eq_true rfl)) dX2_thinkAnew_37 ⟨Nat.le_of_ble_eq_true rfl, Nat.le_of_ble_eq_true rfl⟩) hP hD hS hA [] rfl (fun _ _ _ => rfl) (fun r1 u H locs hw1 hP hD hS => ?_)
      have hP : va_P G vwCl ([(h0, .inr (2, [.int sh, .ref a0, .int an, .int gl])), (a0, .inr (1, [.ref a1, .ref a2])), (a1, .inl (T 0, 16, .inl f)), (a2, .inl (T 0, 16, .inl g))]) H := hP
      have hD : va_D A ([(h0, .inr (2, [.int sh, .ref a0, .int an, .int gl])), (a0, .inr (1, [.ref a1, .ref a2])), (a1, .inl (T 0, 16, .inl f)), (a2, .inl (T 0, 16, .inl g))]) := hD
      subst hw1
      refine x_callv (va_runV (As := [.int (nI k), .int (xso x)]) (rest := []) ⟨hx, hb, hml, hown, hts⟩ (c_X1_put l G T _ a0 a1 a2 f g k hk (xso x)) (cwV 2 hts gX2_thinkAnew_X1_put rfl rfl rfl (by decide +kernel) ⟨Nat.le_of_ble_eq_true rfl, Nat.le_of_ble_eq_true rfl⟩) (x_preV (wc := [(a0, .inr (1, [.ref a1, .ref a2])), (a1, .inl (T 0, 16, .inl f)), (a2, .inl (T 0, 16, .inl g))]) hK hP hD hS hA hXB hZ [1, 2, 3] rfl rfl _ _ 1 1 rfl rfl) rfl rfl hl.1 rfl (lv_room (Nat.le_of_ble_eq_true rfl)) dX2_thinkAnew_40 ⟨Nat.le_of_ble_eq_true rfl, Nat.le_of_ble_eq_true rfl⟩) hP hD hS hA [1, 2, 3] rfl (fun _ _ => rfl) (fun u1 H locs _ hP hD hS => ?_)
      have hP : va_P G vwCl ([(h0, .inr (2, [.int sh, .ref a0, .int an, .int gl])), (a0, .inr (1, [.ref a1, .ref a2])), (a1, .inl (T 0, 16, .inl (upd f k (xso x)))), (a2, .inl (T 0, 16, .inl g))]) H := hP
      have hD : va_D A ([(h0, .inr (2, [.int sh, .ref a0, .int an, .int gl])), (a0, .inr (1, [.ref a1, .ref a2])), (a1, .inl (T 0, 16, .inl (upd f k (xso x)))), (a2, .inl (T 0, 16, .inl g))]) := hD
      have hP := x_can hP 2 (g := (upd (fun _ => nI 65535 &&& (xso x ^^^ (-1))) k (xso x))) rfl (fun j hj => (Decidable.em (j = k)).elim (fun e => by subst e; rw [pk_us, pk_us]) (fun e => by rw [pk_un e, pk_un e]; exact hf j (by omega)))
      have hD := xd_set hD 2 (e := .inl (T 0, 16, .inl (upd (fun _ => nI 65535 &&& (xso x ^^^ (-1))) k (xso x)))) rfl
      have hP : va_P G vwCl ([(h0, .inr (2, [.int sh, .ref a0, .int an, .int gl])), (a0, .inr (1, [.ref a1, .ref a2])), (a1, .inl (T 0, 16, .inl (upd (fun _ => nI 65535 &&& (xso x ^^^ (-1))) k (xso x)))), (a2, .inl (T 0, 16, .inl g))]) H := hP
      have hD : va_D A ([(h0, .inr (2, [.int sh, .ref a0, .int an, .int gl])), (a0, .inr (1, [.ref a1, .ref a2])), (a1, .inl (T 0, 16, .inl (upd (fun _ => nI 65535 &&& (xso x ^^^ (-1))) k (xso x)))), (a2, .inl (T 0, 16, .inl g))]) := hD
      exact W.vret hx hb hr (fun t9_ ht hW => ⟨⟨(), rfl, trivial, x_at ht hP⟩, hS.F ht⟩) hS.2.2 dX2_thinkAnew_43

set_option maxHeartbeats 4000000 in
set_option maxRecDepth 100000 in
/-- see -/
theorem c_X2_see (l : Launch) (G : va_G) (T : Nat → ClassId) (sz : Nat) (N : Nat) (hN : N = 257) (h0 : Nat) (a0 a1 a2 : Nat) (sh an gl : Int32) (f g : Nat → Int32) (k : Nat) (hk : k < 16) (x : Int32) : Met l yX2_see wsX2_see ({ frames := 4, cells := 0, slots := 0, locals := 91 }) (va_Pc [.ref h0, .int (nI k), .int x] (xPre G T ([(h0, .inr (2, [.int sh, .ref a0, .int an, .int gl])), (a0, .inr (1, [.ref a1, .ref a2])), (a1, .inl (T 0, 16, .inl f)), (a2, .inl (T 0, 16, .inl g))]) sz)) (va_Qv (fun (u : Unit) => True) (fun u t => va_P G vwCl ([(h0, .inr (2, [.int sh, .ref a0, .int (if (xcl N (upd f k (xso x))).1 then an else an + nI 1), .int (gl + nI 1)])), (a0, .inr (1, [.ref a1, .ref a2])), (a1, .inl (T 0, 16, .inl (xgl N f k (xso x)))), (a2, .inl (T 0, 16, .inl g))]) t.heap) (va_A ([(h0, .inr (2, [.int sh, .ref a0, .int an, .int gl])), (a0, .inr (1, [.ref a1, .ref a2])), (a1, .inl (T 0, 16, .inl f)), (a2, .inl (T 0, 16, .inl g))]) sz)) 0 0 (va_A ([(h0, .inr (2, [.int sh, .ref a0, .int an, .int gl])), (a0, .inr (1, [.ref a1, .ref a2])), (a1, .inl (T 0, 16, .inl f)), (a2, .inl (T 0, 16, .inl g))]) sz) := by
  refine Met.ofW (cc := cX2_see) (maxL := 3) (ret := none) (by decide +kernel) rfl ?_
  intro p e s m args below meth c s₁ B hml hv
  obtain ⟨rfl, hsz, hP, hK, hD0, hXB, hZ⟩ := hv
  have hx := B.exec
  have hb := B.bytes
  have hr := B.returns
  have hts := atoms_spec (ws := wsX2_see) B.pre
  have hown : s.vm.findClass RX2 = some m.cls := findClass_of_methodNamed B.named
  have hlocks := B.notSynchronized
  subst hsz
  have hD := hD0.self (sz := s.heap.size)
  generalize hAe : va_A ([(h0, .inr (2, [.int sh, .ref a0, .int an, .int gl])), (a0, .inr (1, [.ref a1, .ref a2])), (a1, .inl (T 0, 16, .inl f)), (a2, .inl (T 0, 16, .inl g))]) s.heap.size = A at hD hZ ⊢
  have hA : ∀ q : Nat, s.heap.size ≤ q → A q := fun q h => by rw [← hAe]; exact Or.inr h
  have hS : va_S A s.heap s.heap [] := va_S.rf
  have hP : va_P G vwCl ([(h0, .inr (2, [.int sh, .ref a0, .int an, .int gl])), (a0, .inr (1, [.ref a1, .ref a2])), (a1, .inl (T 0, 16, .inl f)), (a2, .inl (T 0, 16, .inl g))]) s.heap := hP
  have hiX2 : ∀ w ∈ u_ws RX2 TX2 4, w ∈ wsX2_see := by decide +kernel
  have hl := lv_entry ([.ref h0, .int (nI k), .int x]) (n := 3) (Nat.le_of_ble_eq_true rfl)
  rw [lg_entry_eq]
  generalize (lg_sl ([.ref h0, .int (nI k), .int x]) ++ List.replicate (3 - (lg_sl ([.ref h0, .int (nI k), .int x])).length) Slot.unset).toArray = ls at hl ⊢
  have hl : lv_has ls 3 [(0, .ref h0), (1, .int (nI k)), (2, .int x)] := hl
  refine lv_aload_n hx hb dX2_see_0 rfl (lv_at hl 0 rfl) ?_
  refine lv_dup hx hb dX2_see_1 rfl ?_
  refine va_get (D := G) (ci := 2) (v := .int gl) (C := RX2) (T := TX2) (N := 4) hx hb hts hiX2 hown hK hP 0 rfl rfl 3 (by decide) (hts (.fieldLink RX2 30 "CardFans$Watcher" "glimpses" "I") (by decide +kernel)) (fun _ h9 => h9) rfl dX2_see_2 ?_
  refine lv_iconst (v := nI 1) hx hb dX2_see_5 (by decide) ?_
  refine lv_iadd hx hb dX2_see_6 ?_
  refine va_put (D := G) (ci := 2) (v := .int (gl + nI 1)) (ty := .int) (C := RX2) (T := TX2) (N := 4) hx hb hts hiX2 tyX2 tyX2_ok nmX2 hown hK hP hD hS 0 rfl rfl 3 (by decide) (hts (.fieldLink RX2 30 "CardFans$Watcher" "glimpses" "I") (by decide +kernel)) (fun _ h9 => h9) rfl (by decide +kernel) rfl rfl (Nat.le_of_ble_eq_true rfl) dX2_see_7 (fun H locs hP hD hS => ?_)
  have hP : va_P G vwCl ([(h0, .inr (2, [.int sh, .ref a0, .int an, .int (gl + nI 1)])), (a0, .inr (1, [.ref a1, .ref a2])), (a1, .inl (T 0, 16, .inl f)), (a2, .inl (T 0, 16, .inl g))]) H := hP
  have hD : va_D A ([(h0, .inr (2, [.int sh, .ref a0, .int an, .int (gl + nI 1)])), (a0, .inr (1, [.ref a1, .ref a2])), (a1, .inl (T 0, 16, .inl f)), (a2, .inl (T 0, 16, .inl g))]) := hD
  refine lv_aload_n hx hb dX2_see_10 rfl (lv_at hl 0 rfl) ?_
  refine va_get (D := G) (ci := 2) (v := .ref a0) (C := RX2) (T := TX2) (N := 4) hx hb hts hiX2 hown hK hP 0 rfl rfl 1 (by decide) (hts (.fieldLink RX2 12 "CardFans$Watcher" "thoughts" "LCardFans$Row;") (by decide +kernel)) (fun _ h9 => h9) rfl dX2_see_11 ?_
  refine lv_iload_n hx hb dX2_see_14 rfl (lv_at hl 1 rfl) ?_
  refine lv_iload_n hx hb dX2_see_15 rfl (lv_at hl 2 rfl) ?_
  refine x_calli (va_runSN (As := [.int x]) (rest := [.int (nI k), .ref a0]) ⟨hx, hb, hml, hown, hts⟩ (c_X3_setOf l G T _ x) (⟨va_cnB 1 hts gX2_see_X3_setOf_n34 rfl rfl rfl (hXB.1 (.methodLinkNest RX2 34 yX3_setOf "CardFans") (by decide +kernel)) (hts (.initialized RX3) (by decide +kernel)) (by decide +kernel) ⟨Nat.le_of_ble_eq_true rfl, Nat.le_of_ble_eq_true rfl⟩, hts (.static yX3_setOf) (by decide +kernel), trivial⟩) (x_preS (wc := []) hK hP hD hS hA hXB hZ [] rfl rfl _) rfl rfl hl.1 rfl (lv_room (Nat.le_of_ble_eq_true rfl)) dX2_see_16 ⟨Nat.le_of_ble_eq_true rfl, Nat.le_of_ble_eq_true rfl⟩) hP hD hS hA [] rfl (fun _ _ _ => rfl) (fun r1 u H locs hw1 hP hD hS => ?_)
  have hP : va_P G vwCl ([(h0, .inr (2, [.int sh, .ref a0, .int an, .int (gl + nI 1)])), (a0, .inr (1, [.ref a1, .ref a2])), (a1, .inl (T 0, 16, .inl f)), (a2, .inl (T 0, 16, .inl g))]) H := hP
  have hD : va_D A ([(h0, .inr (2, [.int sh, .ref a0, .int an, .int (gl + nI 1)])), (a0, .inr (1, [.ref a1, .ref a2])), (a1, .inl (T 0, 16, .inl f)), (a2, .inl (T 0, 16, .inl g))]) := hD
  subst hw1
  refine x_callv (va_runV (As := [.int (nI k), .int (xso x)]) (rest := []) ⟨hx, hb, hml, hown, hts⟩ (c_X1_put l G T _ a0 a1 a2 f g k hk (xso x)) (cwV 2 hts gX2_see_X1_put rfl rfl rfl (by decide +kernel) ⟨Nat.le_of_ble_eq_true rfl, Nat.le_of_ble_eq_true rfl⟩) (x_preV (wc := [(a0, .inr (1, [.ref a1, .ref a2])), (a1, .inl (T 0, 16, .inl f)), (a2, .inl (T 0, 16, .inl g))]) hK hP hD hS hA hXB hZ [1, 2, 3] rfl rfl _ _ 1 1 rfl rfl) rfl rfl hl.1 rfl (lv_room (Nat.le_of_ble_eq_true rfl)) dX2_see_19 ⟨Nat.le_of_ble_eq_true rfl, Nat.le_of_ble_eq_true rfl⟩) hP hD hS hA [1, 2, 3] rfl (fun _ _ => rfl) (fun u1 H locs _ hP hD hS => ?_)
  have hP : va_P G vwCl ([(h0, .inr (2, [.int sh, .ref a0, .int an, .int (gl + nI 1)])), (a0, .inr (1, [.ref a1, .ref a2])), (a1, .inl (T 0, 16, .inl (upd f k (xso x)))), (a2, .inl (T 0, 16, .inl g))]) H := hP
  have hD : va_D A ([(h0, .inr (2, [.int sh, .ref a0, .int an, .int (gl + nI 1)])), (a0, .inr (1, [.ref a1, .ref a2])), (a1, .inl (T 0, 16, .inl (upd f k (xso x)))), (a2, .inl (T 0, 16, .inl g))]) := hD
  refine lv_aload_n hx hb dX2_see_22 rfl (lv_at hl 0 rfl) ?_
  refine x_calli (va_runV (As := []) (rest := []) ⟨hx, hb, hml, hown, hts⟩ (c_X2_concludes l G T _ N hN h0 a0 a1 a2 sh an (gl + nI 1) (upd f k (xso x)) g) (cwV 0 hts gX2_see_X2_concludes rfl rfl rfl (by decide +kernel) ⟨Nat.le_of_ble_eq_true rfl, Nat.le_of_ble_eq_true rfl⟩) (x_preV (wc := [(h0, .inr (2, [.int sh, .ref a0, .int an, .int (gl + nI 1)])), (a0, .inr (1, [.ref a1, .ref a2])), (a1, .inl (T 0, 16, .inl (upd f k (xso x)))), (a2, .inl (T 0, 16, .inl g))]) hK hP hD hS hA hXB hZ [0, 1, 2, 3] rfl rfl _ _ 0 2 rfl rfl) rfl rfl hl.1 rfl (lv_room (Nat.le_of_ble_eq_true rfl)) dX2_see_23 ⟨Nat.le_of_ble_eq_true rfl, Nat.le_of_ble_eq_true rfl⟩) hP hD hS hA [0, 1, 2, 3] rfl (fun _ _ _ => rfl) (fun r2 u H locs hw2 hP hD hS => ?_)
  have hP : va_P G vwCl ([(h0, .inr (2, [.int sh, .ref a0, .int an, .int (gl + nI 1)])), (a0, .inr (1, [.ref a1, .ref a2])), (a1, .inl (T 0, 16, .inl ((xcl N (upd f k (xso x))).2))), (a2, .inl (T 0, 16, .inl g))]) H := hP
  have hD : va_D A ([(h0, .inr (2, [.int sh, .ref a0, .int an, .int (gl + nI 1)])), (a0, .inr (1, [.ref a1, .ref a2])), (a1, .inl (T 0, 16, .inl ((xcl N (upd f k (xso x))).2))), (a2, .inl (T 0, 16, .inl g))]) := hD
  refine lv_if_ne (tgt := 45) hx hb dX2_see_26 (by decide) (fun c1 => ?_) (fun c1 => ?_)
  · have h1 := xb_of_ne hw2 c1
    have e1 : xgl N f k (xso x) = (xcl N (upd f k (xso x))).2 := by unfold xgl; rw [if_pos h1]
    have e2 : (if (xcl N (upd f k (xso x))).1 then an else an + nI 1) = an := if_pos h1
    have hP : va_P G vwCl ([(h0, .inr (2, [.int sh, .ref a0, .int (if (xcl N (upd f k (xso x))).1 then an else an + nI 1), .int (gl + nI 1)])), (a0, .inr (1, [.ref a1, .ref a2])), (a1, .inl (T 0, 16, .inl (xgl N f k (xso x)))), (a2, .inl (T 0, 16, .inl g))]) H := by rw [e1, e2]; exact hP
    exact W.vret hx hb hr (fun t9_ ht hW => ⟨⟨(), rfl, trivial, x_at ht hP⟩, hS.F ht⟩) hS.2.2 dX2_see_45
  · have h1 := xb_of_eq hw2 c1
    refine lv_aload_n hx hb dX2_see_29 rfl (lv_at hl 0 rfl) ?_
    refine lv_iload_n hx hb dX2_see_30 rfl (lv_at hl 1 rfl) ?_
    refine lv_iload_n hx hb dX2_see_31 rfl (lv_at hl 2 rfl) ?_
    refine x_callv (va_runV (As := [.int (nI k), .int x]) (rest := []) ⟨hx, hb, hml, hown, hts⟩ (c_X2_thinkAnew l G T _ h0 a0 a1 a2 sh an (gl + nI 1) (xcl N (upd f k (xso x))).2 g k hk x) (cwV 2 hts gX2_see_X2_thinkAnew rfl rfl rfl (by decide +kernel) ⟨Nat.le_of_ble_eq_true rfl, Nat.le_of_ble_eq_true rfl⟩) (x_preV (wc := [(h0, .inr (2, [.int sh, .ref a0, .int an, .int (gl + nI 1)])), (a0, .inr (1, [.ref a1, .ref a2])), (a1, .inl (T 0, 16, .inl ((xcl N (upd f k (xso x))).2))), (a2, .inl (T 0, 16, .inl g))]) hK hP hD hS hA hXB hZ [0, 1, 2, 3] rfl rfl _ _ 0 2 rfl rfl) rfl rfl hl.1 rfl (lv_room (Nat.le_of_ble_eq_true rfl)) dX2_see_32 ⟨Nat.le_of_ble_eq_true rfl, Nat.le_of_ble_eq_true rfl⟩) hP hD hS hA [0, 1, 2, 3] rfl (fun _ _ => rfl) (fun u3 H locs _ hP hD hS => ?_)
    have hP : va_P G vwCl ([(h0, .inr (2, [.int sh, .ref a0, .int an, .int (gl + nI 1)])), (a0, .inr (1, [.ref a1, .ref a2])), (a1, .inl (T 0, 16, .inl (upd (fun _ => nI 65535 &&& (xso x ^^^ (-1))) k (xso x)))), (a2, .inl (T 0, 16, .inl g))]) H := hP
    have hD : va_D A ([(h0, .inr (2, [.int sh, .ref a0, .int an, .int (gl + nI 1)])), (a0, .inr (1, [.ref a1, .ref a2])), (a1, .inl (T 0, 16, .inl (upd (fun _ => nI 65535 &&& (xso x ^^^ (-1))) k (xso x)))), (a2, .inl (T 0, 16, .inl g))]) := hD
    refine lv_aload_n hx hb dX2_see_35 rfl (lv_at hl 0 rfl) ?_
    refine lv_dup hx hb dX2_see_36 rfl ?_
    refine va_get (D := G) (ci := 2) (v := .int an) (C := RX2) (T := TX2) (N := 4) hx hb hts hiX2 hown hK hP 0 rfl rfl 2 (by decide) (hts (.fieldLink RX2 45 "CardFans$Watcher" "timesAnew" "I") (by decide +kernel)) (fun _ h9 => h9) rfl dX2_see_37 ?_
    refine lv_iconst (v := nI 1) hx hb dX2_see_40 (by decide) ?_
    refine lv_iadd hx hb dX2_see_41 ?_
    refine va_put (D := G) (ci := 2) (v := .int (an + nI 1)) (ty := .int) (C := RX2) (T := TX2) (N := 4) hx hb hts hiX2 tyX2 tyX2_ok nmX2 hown hK hP hD hS 0 rfl rfl 2 (by decide) (hts (.fieldLink RX2 45 "CardFans$Watcher" "timesAnew" "I") (by decide +kernel)) (fun _ h9 => h9) rfl (by decide +kernel) rfl rfl (Nat.le_of_ble_eq_true rfl) dX2_see_42 (fun H locs hP hD hS => ?_)
    have hP : va_P G vwCl ([(h0, .inr (2, [.int sh, .ref a0, .int (an + nI 1), .int (gl + nI 1)])), (a0, .inr (1, [.ref a1, .ref a2])), (a1, .inl (T 0, 16, .inl (upd (fun _ => nI 65535 &&& (xso x ^^^ (-1))) k (xso x)))), (a2, .inl (T 0, 16, .inl g))]) H := hP
    have hD : va_D A ([(h0, .inr (2, [.int sh, .ref a0, .int (an + nI 1), .int (gl + nI 1)])), (a0, .inr (1, [.ref a1, .ref a2])), (a1, .inl (T 0, 16, .inl (upd (fun _ => nI 65535 &&& (xso x ^^^ (-1))) k (xso x)))), (a2, .inl (T 0, 16, .inl g))]) := hD
    have h2 : ¬ (xcl N (upd f k (xso x))).1 = true := by rw [h1]; exact Bool.false_ne_true
    have e1 : xgl N f k (xso x) = upd (fun _ => nI 65535 &&& (xso x ^^^ (-1))) k (xso x) := by unfold xgl; rw [if_neg h2]
    have e2 : (if (xcl N (upd f k (xso x))).1 then an else an + nI 1) = an + nI 1 := if_neg h2
    have hP : va_P G vwCl ([(h0, .inr (2, [.int sh, .ref a0, .int (if (xcl N (upd f k (xso x))).1 then an else an + nI 1), .int (gl + nI 1)])), (a0, .inr (1, [.ref a1, .ref a2])), (a1, .inl (T 0, 16, .inl (xgl N f k (xso x)))), (a2, .inl (T 0, 16, .inl g))]) H := by rw [e1, e2]; exact hP
    exact W.vret hx hb hr (fun t9_ ht hW => ⟨⟨(), rfl, trivial, x_at ht hP⟩, hS.F ht⟩) hS.2.2 dX2_see_45

set_option maxHeartbeats 4000000 in
set_option maxRecDepth 100000 in
/-- placesHeldPossible -/
theorem c_X2_placesHeldPossible (l : Launch) (G : va_G) (T : Nat → ClassId) (sz : Nat) (h0 : Nat) (a0 a1 a2 : Nat) (sh an gl : Int32) (f g : Nat → Int32) (p0 p1 p2 : Nat) (pf pg : Nat → Int32) : Met l yX2_placesHeldPossible wsX2_placesHeldPossible ({ frames := 2, cells := 0, slots := 0, locals := 42 }) (va_Pc [.ref h0, .ref p0] (xPre G T ([(h0, .inr (2, [.int sh, .ref a0, .int an, .int gl])), (a0, .inr (1, [.ref a1, .ref a2])), (a1, .inl (T 0, 16, .inl f)), (a2, .inl (T 0, 16, .inl g)), (p0, .inr (1, [.ref p1, .ref p2])), (p1, .inl (T 0, 16, .inl pf)), (p2, .inl (T 0, 16, .inl pg))]) sz)) (va_Qi (fun (r : Int32) (u : Unit) => r = nI (xct (fun j => decide (¬ f j &&& xso (pf j) = 0)) 16)) (fun u t => va_P G vwCl ([(h0, .inr (2, [.int sh, .ref a0, .int an, .int gl])), (a0, .inr (1, [.ref a1, .ref a2])), (a1, .inl (T 0, 16, .inl f)), (a2, .inl (T 0, 16, .inl g)), (p0, .inr (1, [.ref p1, .ref p2])), (p1, .inl (T 0, 16, .inl pf)), (p2, .inl (T 0, 16, .inl pg))]) t.heap) (va_A ([(h0, .inr (2, [.int sh, .ref a0, .int an, .int gl])), (a0, .inr (1, [.ref a1, .ref a2])), (a1, .inl (T 0, 16, .inl f)), (a2, .inl (T 0, 16, .inl g)), (p0, .inr (1, [.ref p1, .ref p2])), (p1, .inl (T 0, 16, .inl pf)), (p2, .inl (T 0, 16, .inl pg))]) sz)) 0 0 (va_A ([(h0, .inr (2, [.int sh, .ref a0, .int an, .int gl])), (a0, .inr (1, [.ref a1, .ref a2])), (a1, .inl (T 0, 16, .inl f)), (a2, .inl (T 0, 16, .inl g)), (p0, .inr (1, [.ref p1, .ref p2])), (p1, .inl (T 0, 16, .inl pf)), (p2, .inl (T 0, 16, .inl pg))]) sz) := by
  refine Met.ofW (cc := cX2_placesHeldPossible) (maxL := 4) (ret := (some .int)) (by decide +kernel) rfl ?_
  intro p e s m args below meth c s₁ B hml hv
  obtain ⟨rfl, hsz, hP, hK, hD0, hXB, hZ⟩ := hv
  have hx := B.exec
  have hb := B.bytes
  have hr := B.returns
  have hts := atoms_spec (ws := wsX2_placesHeldPossible) B.pre
  have hown : s.vm.findClass RX2 = some m.cls := findClass_of_methodNamed B.named
  have hlocks := B.notSynchronized
  subst hsz
  have hD := hD0.self (sz := s.heap.size)
  generalize hAe : va_A ([(h0, .inr (2, [.int sh, .ref a0, .int an, .int gl])), (a0, .inr (1, [.ref a1, .ref a2])), (a1, .inl (T 0, 16, .inl f)), (a2, .inl (T 0, 16, .inl g)), (p0, .inr (1, [.ref p1, .ref p2])), (p1, .inl (T 0, 16, .inl pf)), (p2, .inl (T 0, 16, .inl pg))]) s.heap.size = A at hD hZ ⊢
  have hA : ∀ q : Nat, s.heap.size ≤ q → A q := fun q h => by rw [← hAe]; exact Or.inr h
  have hS : va_S A s.heap s.heap [] := va_S.rf
  have hP : va_P G vwCl ([(h0, .inr (2, [.int sh, .ref a0, .int an, .int gl])), (a0, .inr (1, [.ref a1, .ref a2])), (a1, .inl (T 0, 16, .inl f)), (a2, .inl (T 0, 16, .inl g)), (p0, .inr (1, [.ref p1, .ref p2])), (p1, .inl (T 0, 16, .inl pf)), (p2, .inl (T 0, 16, .inl pg))]) s.heap := hP
  have hiX2 : ∀ w ∈ u_ws RX2 TX2 4, w ∈ wsX2_placesHeldPossible := by decide +kernel
  have hl := lv_entry ([.ref h0, .ref p0]) (n := 4) (Nat.le_of_ble_eq_true rfl)
  rw [lg_entry_eq]
  generalize (lg_sl ([.ref h0, .ref p0]) ++ List.replicate (4 - (lg_sl ([.ref h0, .ref p0])).length) Slot.unset).toArray = ls at hl ⊢
  have hl : lv_has ls 4 [(0, .ref h0), (1, .ref p0)] := hl
  refine lv_iconst (v := nI 0) hx hb dX2_placesHeldPossible_0 (by decide) ?_
  refine lv_istore_n (lv' := [(2, .int (nI 0)), (0, .ref h0), (1, .ref p0)]) hx hb dX2_placesHeldPossible_1 rfl hl (by decide) rfl (fun ls hl => ?_)
  refine lv_iconst (v := nI 0) hx hb dX2_placesHeldPossible_2 (by decide) ?_
  refine lv_istore_n (lv' := [(3, .int (nI 0)), (2, .int (nI 0)), (0, .ref h0), (1, .ref p0)]) hx hb dX2_placesHeldPossible_3 rfl hl (by decide) rfl (fun ls hl => ?_)
  suffices LP : ∀ (n : Nat) (i : Nat), (i ≤ 16) → (16 < i + n) → ∀ (H : Heap) (locs : List Loc), va_P G vwCl ([(h0, .inr (2, [.int sh, .ref a0, .int an, .int gl])), (a0, .inr (1, [.ref a1, .ref a2])), (a1, .inl (T 0, 16, .inl f)), (a2, .inl (T 0, 16, .inl g)), (p0, .inr (1, [.ref p1, .ref p2])), (p1, .inl (T 0, 16, .inl pf)), (p2, .inl (T 0, 16, .inl pg))]) H → va_D A ([(h0, .inr (2, [.int sh, .ref a0, .int an, .int gl])), (a0, .inr (1, [.ref a1, .ref a2])), (a1, .inl (T 0, 16, .inl f)), (a2, .inl (T 0, 16, .inl g)), (p0, .inr (1, [.ref p1, .ref p2])), (p1, .inl (T 0, 16, .inl pf)), (p2, .inl (T 0, 16, .inl pg))]) → va_S A s.heap H locs → ∀ (ls : Array Slot), lv_has ls 4 [(3, .int (nI i)), (2, .int (nI (xct (fun j => decide (¬ f j &&& xso (pf j) = 0)) i))), (0, .ref h0), (1, .ref p0)] → W p l e (headSpec wsX2_placesHeldPossible ({ frames := 2, cells := 0, slots := 0, locals := 42 })).room s m ([.ref h0, .ref p0] : List Value).toArray below meth c H locs 0 0 (MQ below (va_Qi (fun (r : Int32) (u : Unit) => r = nI (xct (fun j => decide (¬ f j &&& xso (pf j) = 0)) 16)) (fun u t => va_P G vwCl ([(h0, .inr (2, [.int sh, .ref a0, .int an, .int gl])), (a0, .inr (1, [.ref a1, .ref a2])), (a1, .inl (T 0, 16, .inl f)), (a2, .inl (T 0, 16, .inl g)), (p0, .inr (1, [.ref p1, .ref p2])), (p1, .inl (T 0, 16, .inl pf)), (p2, .inl (T 0, 16, .inl pg))]) t.heap) A) ([.ref h0, .ref p0] : List Value).toArray s 0 0 A) (F0 m 4 ls []) from LP 17 0 (by decide) (by decide) _ _ hP hD hS ls (lv_sub hl [0, 1, 2, 3] rfl)
  clear hP hD hS hl
  intro n
  induction n with
  | zero => intro i hi hn H locs _ _ _ ls _; exfalso; omega
  | succ n ih =>
    intro i hi hn H locs hP hD hS ls hl
    refine lv_iload_n hx hb dX2_placesHeldPossible_4 rfl (lv_at hl 0 rfl) ?_
    refine lv_bipush (v := nI 16) hx hb dX2_placesHeldPossible_5 (by decide) ?_
    by_cases hc : i < 16
    · refine lv_icmp_ge (tgt := 39) hx hb dX2_placesHeldPossible_7 (by decide) (fun c_ => absurd c_ (nI_ge hc (by decide))) (fun _ => ?_)
      refine lv_aload_n hx hb dX2_placesHeldPossible_10 rfl (lv_at hl 2 rfl) ?_
      refine va_get (D := G) (ci := 2) (v := .ref a0) (C := RX2) (T := TX2) (N := 4) hx hb hts hiX2 hown hK hP 0 rfl rfl 1 (by decide) (hts (.fieldLink RX2 12 "CardFans$Watcher" "thoughts" "LCardFans$Row;") (by decide +kernel)) (fun _ h9 => h9) rfl dX2_placesHeldPossible_11 ?_
      refine lv_iload_n hx hb dX2_placesHeldPossible_14 rfl (lv_at hl 0 rfl) ?_
      refine x_calli (va_runV (As := [.int (nI i)]) (rest := []) ⟨hx, hb, hml, hown, hts⟩ (c_X1_at l G T _ a0 a1 a2 f g i hc) (cwV 1 hts gX2_placesHeldPossible_X1_at rfl rfl rfl (by decide +kernel) ⟨Nat.le_of_ble_eq_true rfl, Nat.le_of_ble_eq_true rfl⟩) (x_preV (wc := [(a0, .inr (1, [.ref a1, .ref a2])), (a1, .inl (T 0, 16, .inl f)), (a2, .inl (T 0, 16, .inl g))]) hK hP hD hS hA hXB hZ [1, 2, 3] rfl rfl _ _ 1 1 rfl rfl) rfl rfl hl.1 rfl (lv_room (Nat.le_of_ble_eq_true rfl)) dX2_placesHeldPossible_15 ⟨Nat.le_of_ble_eq_true rfl, Nat.le_of_ble_eq_true rfl⟩) hP hD hS hA [1, 2, 3] rfl (fun _ _ _ => rfl) (fun r1 u H locs hw1 hP hD hS => ?_)
      have hP : va_P G vwCl ([(h0, .inr (2, [.int sh, .ref a0, .int an, .int gl])), (a0, .inr (1, [.ref a1, .ref a2])), (a1, .inl (T 0, 16, .inl f)), (a2, .inl (T 0, 16, .inl g)), (p0, .inr (1, [.ref p1, .ref p2])), (p1, .inl (T 0, 16, .inl pf)), (p2, .inl (T 0, 16, .inl pg))]) H := hP
      have hD : va_D A ([(h0, .inr (2, [.int sh, .ref a0, .int an, .int gl])), (a0, .inr (1, [.ref a1, .ref a2])), (a1, .inl (T 0, 16, .inl f)), (a2, .inl (T 0, 16, .inl g)), (p0, .inr (1, [.ref p1, .ref p2])), (p1, .inl (T 0, 16, .inl pf)), (p2, .inl (T 0, 16, .inl pg))]) := hD
      subst hw1
      refine lv_aload_n hx hb dX2_placesHeldPossible_18 rfl (lv_at hl 3 rfl) ?_
      refine lv_iload_n hx hb dX2_placesHeldPossible_19 rfl (lv_at hl 0 rfl) ?_
      have hd := @xct_t (fun j => decide (¬ f j &&& xso (pf j) = 0)) i
      have hd2 := @xct_f (fun j => decide (¬ f j &&& xso (pf j) = 0)) i
      refine x_calli (va_runV (As := [.int (nI i)]) (rest := [.int (f i)]) ⟨hx, hb, hml, hown, hts⟩ (c_X1_at l G T _ p0 p1 p2 pf pg i hc) (cwV 1 hts gX2_placesHeldPossible_X1_at rfl rfl rfl (by decide +kernel) ⟨Nat.le_of_ble_eq_true rfl, Nat.le_of_ble_eq_true rfl⟩) (x_preV (wc := [(p0, .inr (1, [.ref p1, .ref p2])), (p1, .inl (T 0, 16, .inl pf)), (p2, .inl (T 0, 16, .inl pg))]) hK hP hD hS hA hXB hZ [4, 5, 6] rfl rfl _ _ 4 1 rfl rfl) rfl rfl hl.1 rfl (lv_room (Nat.le_of_ble_eq_true rfl)) dX2_placesHeldPossible_20 ⟨Nat.le_of_ble_eq_true rfl, Nat.le_of_ble_eq_true rfl⟩) hP hD hS hA [4, 5, 6] rfl (fun _ _ _ => rfl) (fun r2 u H locs hw2 hP hD hS => ?_)
      have hP : va_P G vwCl ([(h0, .inr (2, [.int sh, .ref a0, .int an, .int gl])), (a0, .inr (1, [.ref a1, .ref a2])), (a1, .inl (T 0, 16, .inl f)), (a2, .inl (T 0, 16, .inl g)), (p0, .inr (1, [.ref p1, .ref p2])), (p1, .inl (T 0, 16, .inl pf)), (p2, .inl (T 0, 16, .inl pg))]) H := hP
      have hD : va_D A ([(h0, .inr (2, [.int sh, .ref a0, .int an, .int gl])), (a0, .inr (1, [.ref a1, .ref a2])), (a1, .inl (T 0, 16, .inl f)), (a2, .inl (T 0, 16, .inl g)), (p0, .inr (1, [.ref p1, .ref p2])), (p1, .inl (T 0, 16, .inl pf)), (p2, .inl (T 0, 16, .inl pg))]) := hD
      subst hw2
      refine x_calli (va_runSN (As := [.int (pf i)]) (rest := [.int (f i)]) ⟨hx, hb, hml, hown, hts⟩ (c_X3_setOf l G T _ (pf i)) (⟨va_cnB 1 hts gX2_placesHeldPossible_X3_setOf_n34 rfl rfl rfl (hXB.1 (.methodLinkNest RX2 34 yX3_setOf "CardFans") (by decide +kernel)) (hts (.initialized RX3) (by decide +kernel)) (by decide +kernel) ⟨Nat.le_of_ble_eq_true rfl, Nat.le_of_ble_eq_true rfl⟩, hts (.static yX3_setOf) (by decide +kernel), trivial⟩) (x_preS (wc := []) hK hP hD hS hA hXB hZ [] rfl rfl _) rfl rfl hl.1 rfl (lv_room (Nat.le_of_ble_eq_true rfl)) dX2_placesHeldPossible_23 ⟨Nat.le_of_ble_eq_true rfl, Nat.le_of_ble_eq_true rfl⟩) hP hD hS hA [] rfl (fun _ _ _ => rfl) (fun r3 u H locs hw3 hP hD hS => ?_)
      have hP : va_P G vwCl ([(h0, .inr (2, [.int sh, .ref a0, .int an, .int gl])), (a0, .inr (1, [.ref a1, .ref a2])), (a1, .inl (T 0, 16, .inl f)), (a2, .inl (T 0, 16, .inl g)), (p0, .inr (1, [.ref p1, .ref p2])), (p1, .inl (T 0, 16, .inl pf)), (p2, .inl (T 0, 16, .inl pg))]) H := hP
      have hD : va_D A ([(h0, .inr (2, [.int sh, .ref a0, .int an, .int gl])), (a0, .inr (1, [.ref a1, .ref a2])), (a1, .inl (T 0, 16, .inl f)), (a2, .inl (T 0, 16, .inl g)), (p0, .inr (1, [.ref p1, .ref p2])), (p1, .inl (T 0, 16, .inl pf)), (p2, .inl (T 0, 16, .inl pg))]) := hD
      subst hw3
      refine lv_iand hx hb dX2_placesHeldPossible_26 ?_
      refine lv_if_eq (tgt := 33) hx hb dX2_placesHeldPossible_27 (by decide) (fun c1 => ?_) (fun c1 => ?_)
      · have e1 : xct (fun j => decide (¬ f j &&& xso (pf j) = 0)) (i + 1) = xct (fun j => decide (¬ f j &&& xso (pf j) = 0)) i := hd2 (by simpa using c1)
        rw [← e1] at hl
        refine lv_iinc (v := nI (i + 1)) (lv' := [(3, .int (nI (i + 1))), (2, .int (nI (xct (fun j => decide (¬ f j &&& xso (pf j) = 0)) (i + 1)))), (0, .ref h0), (1, .ref p0)]) hx hb dX2_placesHeldPossible_33 hl (k := 0) rfl (x_inc _) (by decide) rfl (fun ls hl => ?_)
        refine lv_goto (tgt := 4) hx hb dX2_placesHeldPossible_36 (by decide) ?_
        exact ih (i + 1) (by omega) (by omega) _ _ hP hD hS ls (lv_sub hl [0, 1, 2, 3] rfl)
      · refine lv_iinc (v := nI (xct (fun j => decide (¬ f j &&& xso (pf j) = 0)) (i + 1))) (lv' := [(2, .int (nI (xct (fun j => decide (¬ f j &&& xso (pf j) = 0)) (i + 1)))), (3, .int (nI i)), (0, .ref h0), (1, .ref p0)]) hx hb dX2_placesHeldPossible_30 hl (k := 1) rfl (by rw [hd (by simpa using c1)]; exact x_inc _) (by decide) rfl (fun ls hl => ?_)
        refine lv_iinc (v := nI (i + 1)) (lv' := [(3, .int (nI (i + 1))), (2, .int (nI (xct (fun j => decide (¬ f j &&& xso (pf j) = 0)) (i + 1)))), (0, .ref h0), (1, .ref p0)]) hx hb dX2_placesHeldPossible_33 hl (k := 1) rfl (x_inc _) (by decide) rfl (fun ls hl => ?_)
        refine lv_goto (tgt := 4) hx hb dX2_placesHeldPossible_36 (by decide) ?_
        exact ih (i + 1) (by omega) (by omega) _ _ hP hD hS ls (lv_sub hl [0, 1, 2, 3] rfl)
    · refine lv_icmp_ge (tgt := 39) hx hb dX2_placesHeldPossible_7 (by decide) (fun _ => ?_) (fun c_ => absurd (nI_le (by omega) (by omega)) c_)
      refine lv_iload_n hx hb dX2_placesHeldPossible_39 rfl (lv_at hl 1 rfl) ?_
      exact W.iret (v := nI (xct (fun j => decide (¬ f j &&& xso (pf j) = 0)) i)) hx hb hr (fun t9_ ht hW => ⟨⟨nI (xct (fun j => decide (¬ f j &&& xso (pf j) = 0)) i), (), rfl, by rw [show i = 16 by omega], x_at ht hP⟩, hS.F ht⟩) hS.2.2 dX2_placesHeldPossible_40

set_option maxHeartbeats 4000000 in
set_option maxRecDepth 100000 in
/-- placesSettled -/
theorem c_X2_placesSettled (l : Launch) (G : va_G) (T : Nat → ClassId) (sz : Nat) (h0 : Nat) (a0 a1 a2 : Nat) (sh an gl : Int32) (f g : Nat → Int32) : Met l yX2_placesSettled wsX2_placesSettled ({ frames := 2, cells := 0, slots := 0, locals := 42 }) (va_Pc [.ref h0] (xPre G T ([(h0, .inr (2, [.int sh, .ref a0, .int an, .int gl])), (a0, .inr (1, [.ref a1, .ref a2])), (a1, .inl (T 0, 16, .inl f)), (a2, .inl (T 0, 16, .inl g))]) sz)) (va_Qi (fun (r : Int32) (u : Unit) => r = nI (xct (fun j => xone (f j)) 16)) (fun u t => va_P G vwCl ([(h0, .inr (2, [.int sh, .ref a0, .int an, .int gl])), (a0, .inr (1, [.ref a1, .ref a2])), (a1, .inl (T 0, 16, .inl f)), (a2, .inl (T 0, 16, .inl g))]) t.heap) (va_A ([(h0, .inr (2, [.int sh, .ref a0, .int an, .int gl])), (a0, .inr (1, [.ref a1, .ref a2])), (a1, .inl (T 0, 16, .inl f)), (a2, .inl (T 0, 16, .inl g))]) sz)) 0 0 (va_A ([(h0, .inr (2, [.int sh, .ref a0, .int an, .int gl])), (a0, .inr (1, [.ref a1, .ref a2])), (a1, .inl (T 0, 16, .inl f)), (a2, .inl (T 0, 16, .inl g))]) sz) := by
  refine Met.ofW (cc := cX2_placesSettled) (maxL := 3) (ret := (some .int)) (by decide +kernel) rfl ?_
  intro p e s m args below meth c s₁ B hml hv
  obtain ⟨rfl, hsz, hP, hK, hD0, hXB, hZ⟩ := hv
  have hx := B.exec
  have hb := B.bytes
  have hr := B.returns
  have hts := atoms_spec (ws := wsX2_placesSettled) B.pre
  have hown : s.vm.findClass RX2 = some m.cls := findClass_of_methodNamed B.named
  have hlocks := B.notSynchronized
  subst hsz
  have hD := hD0.self (sz := s.heap.size)
  generalize hAe : va_A ([(h0, .inr (2, [.int sh, .ref a0, .int an, .int gl])), (a0, .inr (1, [.ref a1, .ref a2])), (a1, .inl (T 0, 16, .inl f)), (a2, .inl (T 0, 16, .inl g))]) s.heap.size = A at hD hZ ⊢
  have hA : ∀ q : Nat, s.heap.size ≤ q → A q := fun q h => by rw [← hAe]; exact Or.inr h
  have hS : va_S A s.heap s.heap [] := va_S.rf
  have hP : va_P G vwCl ([(h0, .inr (2, [.int sh, .ref a0, .int an, .int gl])), (a0, .inr (1, [.ref a1, .ref a2])), (a1, .inl (T 0, 16, .inl f)), (a2, .inl (T 0, 16, .inl g))]) s.heap := hP
  have hiX2 : ∀ w ∈ u_ws RX2 TX2 4, w ∈ wsX2_placesSettled := by decide +kernel
  have hl := lv_entry ([.ref h0]) (n := 3) (Nat.le_of_ble_eq_true rfl)
  rw [lg_entry_eq]
  generalize (lg_sl ([.ref h0]) ++ List.replicate (3 - (lg_sl ([.ref h0])).length) Slot.unset).toArray = ls at hl ⊢
  have hl : lv_has ls 3 [(0, .ref h0)] := hl
  refine lv_iconst (v := nI 0) hx hb dX2_placesSettled_0 (by decide) ?_
  refine lv_istore_n (lv' := [(1, .int (nI 0)), (0, .ref h0)]) hx hb dX2_placesSettled_1 rfl hl (by decide) rfl (fun ls hl => ?_)
  refine lv_iconst (v := nI 0) hx hb dX2_placesSettled_2 (by decide) ?_
  refine lv_istore_n (lv' := [(2, .int (nI 0)), (1, .int (nI 0)), (0, .ref h0)]) hx hb dX2_placesSettled_3 rfl hl (by decide) rfl (fun ls hl => ?_)
  suffices LP : ∀ (n : Nat) (i : Nat), (i ≤ 16) → (16 < i + n) → ∀ (H : Heap) (locs : List Loc), va_P G vwCl ([(h0, .inr (2, [.int sh, .ref a0, .int an, .int gl])), (a0, .inr (1, [.ref a1, .ref a2])), (a1, .inl (T 0, 16, .inl f)), (a2, .inl (T 0, 16, .inl g))]) H → va_D A ([(h0, .inr (2, [.int sh, .ref a0, .int an, .int gl])), (a0, .inr (1, [.ref a1, .ref a2])), (a1, .inl (T 0, 16, .inl f)), (a2, .inl (T 0, 16, .inl g))]) → va_S A s.heap H locs → ∀ (ls : Array Slot), lv_has ls 3 [(2, .int (nI i)), (1, .int (nI (xct (fun j => xone (f j)) i))), (0, .ref h0)] → W p l e (headSpec wsX2_placesSettled ({ frames := 2, cells := 0, slots := 0, locals := 42 })).room s m ([.ref h0] : List Value).toArray below meth c H locs 0 0 (MQ below (va_Qi (fun (r : Int32) (u : Unit) => r = nI (xct (fun j => xone (f j)) 16)) (fun u t => va_P G vwCl ([(h0, .inr (2, [.int sh, .ref a0, .int an, .int gl])), (a0, .inr (1, [.ref a1, .ref a2])), (a1, .inl (T 0, 16, .inl f)), (a2, .inl (T 0, 16, .inl g))]) t.heap) A) ([.ref h0] : List Value).toArray s 0 0 A) (F0 m 4 ls []) from LP 17 0 (by decide) (by decide) _ _ hP hD hS ls (lv_sub hl [0, 1, 2] rfl)
  clear hP hD hS hl
  intro n
  induction n with
  | zero => intro i hi hn H locs _ _ _ ls _; exfalso; omega
  | succ n ih =>
    intro i hi hn H locs hP hD hS ls hl
    refine lv_iload_n hx hb dX2_placesSettled_4 rfl (lv_at hl 0 rfl) ?_
    refine lv_bipush (v := nI 16) hx hb dX2_placesSettled_5 (by decide) ?_
    by_cases hc : i < 16
    · refine lv_icmp_ge (tgt := 33) hx hb dX2_placesSettled_7 (by decide) (fun c_ => absurd c_ (nI_ge hc (by decide))) (fun _ => ?_)
      refine lv_aload_n hx hb dX2_placesSettled_10 rfl (lv_at hl 2 rfl) ?_
      refine va_get (D := G) (ci := 2) (v := .ref a0) (C := RX2) (T := TX2) (N := 4) hx hb hts hiX2 hown hK hP 0 rfl rfl 1 (by decide) (hts (.fieldLink RX2 12 "CardFans$Watcher" "thoughts" "LCardFans$Row;") (by decide +kernel)) (fun _ h9 => h9) rfl dX2_placesSettled_11 ?_
      refine lv_iload_n hx hb dX2_placesSettled_14 rfl (lv_at hl 0 rfl) ?_
      refine x_calli (va_runV (As := [.int (nI i)]) (rest := []) ⟨hx, hb, hml, hown, hts⟩ (c_X1_at l G T _ a0 a1 a2 f g i hc) (cwV 1 hts gX2_placesSettled_X1_at rfl rfl rfl (by decide +kernel) ⟨Nat.le_of_ble_eq_true rfl, Nat.le_of_ble_eq_true rfl⟩) (x_preV (wc := [(a0, .inr (1, [.ref a1, .ref a2])), (a1, .inl (T 0, 16, .inl f)), (a2, .inl (T 0, 16, .inl g))]) hK hP hD hS hA hXB hZ [1, 2, 3] rfl rfl _ _ 1 1 rfl rfl) rfl rfl hl.1 rfl (lv_room (Nat.le_of_ble_eq_true rfl)) dX2_placesSettled_15 ⟨Nat.le_of_ble_eq_true rfl, Nat.le_of_ble_eq_true rfl⟩) hP hD hS hA [1, 2, 3] rfl (fun _ _ _ => rfl) (fun r1 u H locs hw1 hP hD hS => ?_)
      have hP : va_P G vwCl ([(h0, .inr (2, [.int sh, .ref a0, .int an, .int gl])), (a0, .inr (1, [.ref a1, .ref a2])), (a1, .inl (T 0, 16, .inl f)), (a2, .inl (T 0, 16, .inl g))]) H := hP
      have hD : va_D A ([(h0, .inr (2, [.int sh, .ref a0, .int an, .int gl])), (a0, .inr (1, [.ref a1, .ref a2])), (a1, .inl (T 0, 16, .inl f)), (a2, .inl (T 0, 16, .inl g))]) := hD
      subst hw1
      have hd := @xct_t (fun j => xone (f j)) i
      have hd2 := @xct_f (fun j => xone (f j)) i
      refine x_calli (va_runSN (As := [.int (f i)]) (rest := []) ⟨hx, hb, hml, hown, hts⟩ (c_X3_isOneAlone l G T _ (f i)) (⟨va_cnB 1 hts gX2_placesSettled_X3_isOneAlone_n51 rfl rfl rfl (hXB.1 (.methodLinkNest RX2 51 yX3_isOneAlone "CardFans") (by decide +kernel)) (hts (.initialized RX3) (by decide +kernel)) (by decide +kernel) ⟨Nat.le_of_ble_eq_true rfl, Nat.le_of_ble_eq_true rfl⟩, hts (.static yX3_isOneAlone) (by decide +kernel), trivial⟩) (x_preS (wc := []) hK hP hD hS hA hXB hZ [] rfl rfl _) rfl rfl hl.1 rfl (lv_room (Nat.le_of_ble_eq_true rfl)) dX2_placesSettled_18 ⟨Nat.le_of_ble_eq_true rfl, Nat.le_of_ble_eq_true rfl⟩) hP hD hS hA [] rfl (fun _ _ _ => rfl) (fun r2 u H locs hw2 hP hD hS => ?_)
      have hP : va_P G vwCl ([(h0, .inr (2, [.int sh, .ref a0, .int an, .int gl])), (a0, .inr (1, [.ref a1, .ref a2])), (a1, .inl (T 0, 16, .inl f)), (a2, .inl (T 0, 16, .inl g))]) H := hP
      have hD : va_D A ([(h0, .inr (2, [.int sh, .ref a0, .int an, .int gl])), (a0, .inr (1, [.ref a1, .ref a2])), (a1, .inl (T 0, 16, .inl f)), (a2, .inl (T 0, 16, .inl g))]) := hD
      refine lv_if_eq (tgt := 27) hx hb dX2_placesSettled_21 (by decide) (fun c1 => ?_) (fun c1 => ?_)
      · have e1 : xct (fun j => xone (f j)) (i + 1) = xct (fun j => xone (f j)) i := hd2 (by rw [xb_of_eq hw2 c1]; exact Bool.false_ne_true)
        rw [← e1] at hl
        refine lv_iinc (v := nI (i + 1)) (lv' := [(2, .int (nI (i + 1))), (1, .int (nI (xct (fun j => xone (f j)) (i + 1)))), (0, .ref h0)]) hx hb dX2_placesSettled_27 hl (k := 0) rfl (x_inc _) (by decide) rfl (fun ls hl => ?_)
        refine lv_goto (tgt := 4) hx hb dX2_placesSettled_30 (by decide) ?_
        exact ih (i + 1) (by omega) (by omega) _ _ hP hD hS ls (lv_sub hl [0, 1, 2] rfl)
      · refine lv_iinc (v := nI (xct (fun j => xone (f j)) (i + 1))) (lv' := [(1, .int (nI (xct (fun j => xone (f j)) (i + 1)))), (2, .int (nI i)), (0, .ref h0)]) hx hb dX2_placesSettled_24 hl (k := 1) rfl (by rw [hd (xb_of_ne hw2 c1)]; exact x_inc _) (by decide) rfl (fun ls hl => ?_)
        refine lv_iinc (v := nI (i + 1)) (lv' := [(2, .int (nI (i + 1))), (1, .int (nI (xct (fun j => xone (f j)) (i + 1)))), (0, .ref h0)]) hx hb dX2_placesSettled_27 hl (k := 1) rfl (x_inc _) (by decide) rfl (fun ls hl => ?_)
        refine lv_goto (tgt := 4) hx hb dX2_placesSettled_30 (by decide) ?_
        exact ih (i + 1) (by omega) (by omega) _ _ hP hD hS ls (lv_sub hl [0, 1, 2] rfl)
    · refine lv_icmp_ge (tgt := 33) hx hb dX2_placesSettled_7 (by decide) (fun _ => ?_) (fun c_ => absurd (nI_le (by omega) (by omega)) c_)
      refine lv_iload_n hx hb dX2_placesSettled_33 rfl (lv_at hl 1 rfl) ?_
      exact W.iret (v := nI (xct (fun j => xone (f j)) i)) hx hb hr (fun t9_ ht hW => ⟨⟨nI (xct (fun j => xone (f j)) i), (), rfl, by rw [show i = 16 by omega], x_at ht hP⟩, hS.F ht⟩) hS.2.2 dX2_placesSettled_34

set_option maxHeartbeats 4000000 in
set_option maxRecDepth 100000 in
/-- placesSettledRightly -/
theorem c_X2_placesSettledRightly (l : Launch) (G : va_G) (T : Nat → ClassId) (sz : Nat) (h0 : Nat) (a0 a1 a2 : Nat) (sh an gl : Int32) (f g : Nat → Int32) (p0 p1 p2 : Nat) (pf pg : Nat → Int32) : Met l yX2_placesSettledRightly wsX2_placesSettledRightly ({ frames := 2, cells := 0, slots := 0, locals := 42 }) (va_Pc [.ref h0, .ref p0] (xPre G T ([(h0, .inr (2, [.int sh, .ref a0, .int an, .int gl])), (a0, .inr (1, [.ref a1, .ref a2])), (a1, .inl (T 0, 16, .inl f)), (a2, .inl (T 0, 16, .inl g)), (p0, .inr (1, [.ref p1, .ref p2])), (p1, .inl (T 0, 16, .inl pf)), (p2, .inl (T 0, 16, .inl pg))]) sz)) (va_Qi (fun (r : Int32) (u : Unit) => r = nI (xct (fun j => decide (f j = xso (pf j))) 16)) (fun u t => va_P G vwCl ([(h0, .inr (2, [.int sh, .ref a0, .int an, .int gl])), (a0, .inr (1, [.ref a1, .ref a2])), (a1, .inl (T 0, 16, .inl f)), (a2, .inl (T 0, 16, .inl g)), (p0, .inr (1, [.ref p1, .ref p2])), (p1, .inl (T 0, 16, .inl pf)), (p2, .inl (T 0, 16, .inl pg))]) t.heap) (va_A ([(h0, .inr (2, [.int sh, .ref a0, .int an, .int gl])), (a0, .inr (1, [.ref a1, .ref a2])), (a1, .inl (T 0, 16, .inl f)), (a2, .inl (T 0, 16, .inl g)), (p0, .inr (1, [.ref p1, .ref p2])), (p1, .inl (T 0, 16, .inl pf)), (p2, .inl (T 0, 16, .inl pg))]) sz)) 0 0 (va_A ([(h0, .inr (2, [.int sh, .ref a0, .int an, .int gl])), (a0, .inr (1, [.ref a1, .ref a2])), (a1, .inl (T 0, 16, .inl f)), (a2, .inl (T 0, 16, .inl g)), (p0, .inr (1, [.ref p1, .ref p2])), (p1, .inl (T 0, 16, .inl pf)), (p2, .inl (T 0, 16, .inl pg))]) sz) := by
  refine Met.ofW (cc := cX2_placesSettledRightly) (maxL := 4) (ret := (some .int)) (by decide +kernel) rfl ?_
  intro p e s m args below meth c s₁ B hml hv
  obtain ⟨rfl, hsz, hP, hK, hD0, hXB, hZ⟩ := hv
  have hx := B.exec
  have hb := B.bytes
  have hr := B.returns
  have hts := atoms_spec (ws := wsX2_placesSettledRightly) B.pre
  have hown : s.vm.findClass RX2 = some m.cls := findClass_of_methodNamed B.named
  have hlocks := B.notSynchronized
  subst hsz
  have hD := hD0.self (sz := s.heap.size)
  generalize hAe : va_A ([(h0, .inr (2, [.int sh, .ref a0, .int an, .int gl])), (a0, .inr (1, [.ref a1, .ref a2])), (a1, .inl (T 0, 16, .inl f)), (a2, .inl (T 0, 16, .inl g)), (p0, .inr (1, [.ref p1, .ref p2])), (p1, .inl (T 0, 16, .inl pf)), (p2, .inl (T 0, 16, .inl pg))]) s.heap.size = A at hD hZ ⊢
  have hA : ∀ q : Nat, s.heap.size ≤ q → A q := fun q h => by rw [← hAe]; exact Or.inr h
  have hS : va_S A s.heap s.heap [] := va_S.rf
  have hP : va_P G vwCl ([(h0, .inr (2, [.int sh, .ref a0, .int an, .int gl])), (a0, .inr (1, [.ref a1, .ref a2])), (a1, .inl (T 0, 16, .inl f)), (a2, .inl (T 0, 16, .inl g)), (p0, .inr (1, [.ref p1, .ref p2])), (p1, .inl (T 0, 16, .inl pf)), (p2, .inl (T 0, 16, .inl pg))]) s.heap := hP
  have hiX2 : ∀ w ∈ u_ws RX2 TX2 4, w ∈ wsX2_placesSettledRightly := by decide +kernel
  have hl := lv_entry ([.ref h0, .ref p0]) (n := 4) (Nat.le_of_ble_eq_true rfl)
  rw [lg_entry_eq]
  generalize (lg_sl ([.ref h0, .ref p0]) ++ List.replicate (4 - (lg_sl ([.ref h0, .ref p0])).length) Slot.unset).toArray = ls at hl ⊢
  have hl : lv_has ls 4 [(0, .ref h0), (1, .ref p0)] := hl
  refine lv_iconst (v := nI 0) hx hb dX2_placesSettledRightly_0 (by decide) ?_
  refine lv_istore_n (lv' := [(2, .int (nI 0)), (0, .ref h0), (1, .ref p0)]) hx hb dX2_placesSettledRightly_1 rfl hl (by decide) rfl (fun ls hl => ?_)
  refine lv_iconst (v := nI 0) hx hb dX2_placesSettledRightly_2 (by decide) ?_
  refine lv_istore_n (lv' := [(3, .int (nI 0)), (2, .int (nI 0)), (0, .ref h0), (1, .ref p0)]) hx hb dX2_placesSettledRightly_3 rfl hl (by decide) rfl (fun ls hl => ?_)
  suffices LP : ∀ (n : Nat) (i : Nat), (i ≤ 16) → (16 < i + n) → ∀ (H : Heap) (locs : List Loc), va_P G vwCl ([(h0, .inr (2, [.int sh, .ref a0, .int an, .int gl])), (a0, .inr (1, [.ref a1, .ref a2])), (a1, .inl (T 0, 16, .inl f)), (a2, .inl (T 0, 16, .inl g)), (p0, .inr (1, [.ref p1, .ref p2])), (p1, .inl (T 0, 16, .inl pf)), (p2, .inl (T 0, 16, .inl pg))]) H → va_D A ([(h0, .inr (2, [.int sh, .ref a0, .int an, .int gl])), (a0, .inr (1, [.ref a1, .ref a2])), (a1, .inl (T 0, 16, .inl f)), (a2, .inl (T 0, 16, .inl g)), (p0, .inr (1, [.ref p1, .ref p2])), (p1, .inl (T 0, 16, .inl pf)), (p2, .inl (T 0, 16, .inl pg))]) → va_S A s.heap H locs → ∀ (ls : Array Slot), lv_has ls 4 [(3, .int (nI i)), (2, .int (nI (xct (fun j => decide (f j = xso (pf j))) i))), (0, .ref h0), (1, .ref p0)] → W p l e (headSpec wsX2_placesSettledRightly ({ frames := 2, cells := 0, slots := 0, locals := 42 })).room s m ([.ref h0, .ref p0] : List Value).toArray below meth c H locs 0 0 (MQ below (va_Qi (fun (r : Int32) (u : Unit) => r = nI (xct (fun j => decide (f j = xso (pf j))) 16)) (fun u t => va_P G vwCl ([(h0, .inr (2, [.int sh, .ref a0, .int an, .int gl])), (a0, .inr (1, [.ref a1, .ref a2])), (a1, .inl (T 0, 16, .inl f)), (a2, .inl (T 0, 16, .inl g)), (p0, .inr (1, [.ref p1, .ref p2])), (p1, .inl (T 0, 16, .inl pf)), (p2, .inl (T 0, 16, .inl pg))]) t.heap) A) ([.ref h0, .ref p0] : List Value).toArray s 0 0 A) (F0 m 4 ls []) from LP 17 0 (by decide) (by decide) _ _ hP hD hS ls (lv_sub hl [0, 1, 2, 3] rfl)
  clear hP hD hS hl
  intro n
  induction n with
  | zero => intro i hi hn H locs _ _ _ ls _; exfalso; omega
  | succ n ih =>
    intro i hi hn H locs hP hD hS ls hl
    refine lv_iload_n hx hb dX2_placesSettledRightly_4 rfl (lv_at hl 0 rfl) ?_
    refine lv_bipush (v := nI 16) hx hb dX2_placesSettledRightly_5 (by decide) ?_
    by_cases hc : i < 16
    · refine lv_icmp_ge (tgt := 38) hx hb dX2_placesSettledRightly_7 (by decide) (fun c_ => absurd c_ (nI_ge hc (by decide))) (fun _ => ?_)
      refine lv_aload_n hx hb dX2_placesSettledRightly_10 rfl (lv_at hl 2 rfl) ?_
      refine va_get (D := G) (ci := 2) (v := .ref a0) (C := RX2) (T := TX2) (N := 4) hx hb hts hiX2 hown hK hP 0 rfl rfl 1 (by decide) (hts (.fieldLink RX2 12 "CardFans$Watcher" "thoughts" "LCardFans$Row;") (by decide +kernel)) (fun _ h9 => h9) rfl dX2_placesSettledRightly_11 ?_
      refine lv_iload_n hx hb dX2_placesSettledRightly_14 rfl (lv_at hl 0 rfl) ?_
      refine x_calli (va_runV (As := [.int (nI i)]) (rest := []) ⟨hx, hb, hml, hown, hts⟩ (c_X1_at l G T _ a0 a1 a2 f g i hc) (cwV 1 hts gX2_placesSettledRightly_X1_at rfl rfl rfl (by decide +kernel) ⟨Nat.le_of_ble_eq_true rfl, Nat.le_of_ble_eq_true rfl⟩) (x_preV (wc := [(a0, .inr (1, [.ref a1, .ref a2])), (a1, .inl (T 0, 16, .inl f)), (a2, .inl (T 0, 16, .inl g))]) hK hP hD hS hA hXB hZ [1, 2, 3] rfl rfl _ _ 1 1 rfl rfl) rfl rfl hl.1 rfl (lv_room (Nat.le_of_ble_eq_true rfl)) dX2_placesSettledRightly_15 ⟨Nat.le_of_ble_eq_true rfl, Nat.le_of_ble_eq_true rfl⟩) hP hD hS hA [1, 2, 3] rfl (fun _ _ _ => rfl) (fun r1 u H locs hw1 hP hD hS => ?_)
      have hP : va_P G vwCl ([(h0, .inr (2, [.int sh, .ref a0, .int an, .int gl])), (a0, .inr (1, [.ref a1, .ref a2])), (a1, .inl (T 0, 16, .inl f)), (a2, .inl (T 0, 16, .inl g)), (p0, .inr (1, [.ref p1, .ref p2])), (p1, .inl (T 0, 16, .inl pf)), (p2, .inl (T 0, 16, .inl pg))]) H := hP
      have hD : va_D A ([(h0, .inr (2, [.int sh, .ref a0, .int an, .int gl])), (a0, .inr (1, [.ref a1, .ref a2])), (a1, .inl (T 0, 16, .inl f)), (a2, .inl (T 0, 16, .inl g)), (p0, .inr (1, [.ref p1, .ref p2])), (p1, .inl (T 0, 16, .inl pf)), (p2, .inl (T 0, 16, .inl pg))]) := hD
      subst hw1
      refine lv_aload_n hx hb dX2_placesSettledRightly_18 rfl (lv_at hl 3 rfl) ?_
      refine lv_iload_n hx hb dX2_placesSettledRightly_19 rfl (lv_at hl 0 rfl) ?_
      have hd := @xct_t (fun j => decide (f j = xso (pf j))) i
      have hd2 := @xct_f (fun j => decide (f j = xso (pf j))) i
      refine x_calli (va_runV (As := [.int (nI i)]) (rest := [.int (f i)]) ⟨hx, hb, hml, hown, hts⟩ (c_X1_at l G T _ p0 p1 p2 pf pg i hc) (cwV 1 hts gX2_placesSettledRightly_X1_at rfl rfl rfl (by decide +kernel) ⟨Nat.le_of_ble_eq_true rfl, Nat.le_of_ble_eq_true rfl⟩) (x_preV (wc := [(p0, .inr (1, [.ref p1, .ref p2])), (p1, .inl (T 0, 16, .inl pf)), (p2, .inl (T 0, 16, .inl pg))]) hK hP hD hS hA hXB hZ [4, 5, 6] rfl rfl _ _ 4 1 rfl rfl) rfl rfl hl.1 rfl (lv_room (Nat.le_of_ble_eq_true rfl)) dX2_placesSettledRightly_20 ⟨Nat.le_of_ble_eq_true rfl, Nat.le_of_ble_eq_true rfl⟩) hP hD hS hA [4, 5, 6] rfl (fun _ _ _ => rfl) (fun r2 u H locs hw2 hP hD hS => ?_)
      have hP : va_P G vwCl ([(h0, .inr (2, [.int sh, .ref a0, .int an, .int gl])), (a0, .inr (1, [.ref a1, .ref a2])), (a1, .inl (T 0, 16, .inl f)), (a2, .inl (T 0, 16, .inl g)), (p0, .inr (1, [.ref p1, .ref p2])), (p1, .inl (T 0, 16, .inl pf)), (p2, .inl (T 0, 16, .inl pg))]) H := hP
      have hD : va_D A ([(h0, .inr (2, [.int sh, .ref a0, .int an, .int gl])), (a0, .inr (1, [.ref a1, .ref a2])), (a1, .inl (T 0, 16, .inl f)), (a2, .inl (T 0, 16, .inl g)), (p0, .inr (1, [.ref p1, .ref p2])), (p1, .inl (T 0, 16, .inl pf)), (p2, .inl (T 0, 16, .inl pg))]) := hD
      subst hw2
      refine x_calli (va_runSN (As := [.int (pf i)]) (rest := [.int (f i)]) ⟨hx, hb, hml, hown, hts⟩ (c_X3_setOf l G T _ (pf i)) (⟨va_cnB 1 hts gX2_placesSettledRightly_X3_setOf_n34 rfl rfl rfl (hXB.1 (.methodLinkNest RX2 34 yX3_setOf "CardFans") (by decide +kernel)) (hts (.initialized RX3) (by decide +kernel)) (by decide +kernel) ⟨Nat.le_of_ble_eq_true rfl, Nat.le_of_ble_eq_true rfl⟩, hts (.static yX3_setOf) (by decide +kernel), trivial⟩) (x_preS (wc := []) hK hP hD hS hA hXB hZ [] rfl rfl _) rfl rfl hl.1 rfl (lv_room (Nat.le_of_ble_eq_true rfl)) dX2_placesSettledRightly_23 ⟨Nat.le_of_ble_eq_true rfl, Nat.le_of_ble_eq_true rfl⟩) hP hD hS hA [] rfl (fun _ _ _ => rfl) (fun r3 u H locs hw3 hP hD hS => ?_)
      have hP : va_P G vwCl ([(h0, .inr (2, [.int sh, .ref a0, .int an, .int gl])), (a0, .inr (1, [.ref a1, .ref a2])), (a1, .inl (T 0, 16, .inl f)), (a2, .inl (T 0, 16, .inl g)), (p0, .inr (1, [.ref p1, .ref p2])), (p1, .inl (T 0, 16, .inl pf)), (p2, .inl (T 0, 16, .inl pg))]) H := hP
      have hD : va_D A ([(h0, .inr (2, [.int sh, .ref a0, .int an, .int gl])), (a0, .inr (1, [.ref a1, .ref a2])), (a1, .inl (T 0, 16, .inl f)), (a2, .inl (T 0, 16, .inl g)), (p0, .inr (1, [.ref p1, .ref p2])), (p1, .inl (T 0, 16, .inl pf)), (p2, .inl (T 0, 16, .inl pg))]) := hD
      subst hw3
      refine lv_icmp_ne (tgt := 32) hx hb dX2_placesSettledRightly_26 (by decide) (fun c1 => ?_) (fun c1 => ?_)
      · have e1 : xct (fun j => decide (f j = xso (pf j))) (i + 1) = xct (fun j => decide (f j = xso (pf j))) i := hd2 (by simpa using c1)
        rw [← e1] at hl
        refine lv_iinc (v := nI (i + 1)) (lv' := [(3, .int (nI (i + 1))), (2, .int (nI (xct (fun j => decide (f j = xso (pf j))) (i + 1)))), (0, .ref h0), (1, .ref p0)]) hx hb dX2_placesSettledRightly_32 hl (k := 0) rfl (x_inc _) (by decide) rfl (fun ls hl => ?_)
        refine lv_goto (tgt := 4) hx hb dX2_placesSettledRightly_35 (by decide) ?_
        exact ih (i + 1) (by omega) (by omega) _ _ hP hD hS ls (lv_sub hl [0, 1, 2, 3] rfl)
      · refine lv_iinc (v := nI (xct (fun j => decide (f j = xso (pf j))) (i + 1))) (lv' := [(2, .int (nI (xct (fun j => decide (f j = xso (pf j))) (i + 1)))), (3, .int (nI i)), (0, .ref h0), (1, .ref p0)]) hx hb dX2_placesSettledRightly_29 hl (k := 1) rfl (by rw [hd (by simpa using c1)]; exact x_inc _) (by decide) rfl (fun ls hl => ?_)
        refine lv_iinc (v := nI (i + 1)) (lv' := [(3, .int (nI (i + 1))), (2, .int (nI (xct (fun j => decide (f j = xso (pf j))) (i + 1)))), (0, .ref h0), (1, .ref p0)]) hx hb dX2_placesSettledRightly_32 hl (k := 1) rfl (x_inc _) (by decide) rfl (fun ls hl => ?_)
        refine lv_goto (tgt := 4) hx hb dX2_placesSettledRightly_35 (by decide) ?_
        exact ih (i + 1) (by omega) (by omega) _ _ hP hD hS ls (lv_sub hl [0, 1, 2, 3] rfl)
    · refine lv_icmp_ge (tgt := 38) hx hb dX2_placesSettledRightly_7 (by decide) (fun _ => ?_) (fun c_ => absurd (nI_le (by omega) (by omega)) c_)
      refine lv_iload_n hx hb dX2_placesSettledRightly_38 rfl (lv_at hl 1 rfl) ?_
      exact W.iret (v := nI (xct (fun j => decide (f j = xso (pf j))) i)) hx hb hr (fun t9_ ht hW => ⟨⟨nI (xct (fun j => decide (f j = xso (pf j))) i), (), rfl, by rw [show i = 16 by omega], x_at ht hP⟩, hS.F ht⟩) hS.2.2 dX2_placesSettledRightly_39

set_option maxHeartbeats 4000000 in
set_option maxRecDepth 100000 in
/-- cardsThought -/
theorem c_X2_cardsThought (l : Launch) (G : va_G) (T : Nat → ClassId) (sz : Nat) (h0 : Nat) (a0 a1 a2 : Nat) (sh an gl : Int32) (f g : Nat → Int32) : Met l yX2_cardsThought wsX2_cardsThought ({ frames := 2, cells := 0, slots := 0, locals := 42 }) (va_Pc [.ref h0] (xPre G T ([(h0, .inr (2, [.int sh, .ref a0, .int an, .int gl])), (a0, .inr (1, [.ref a1, .ref a2])), (a1, .inl (T 0, 16, .inl f)), (a2, .inl (T 0, 16, .inl g))]) sz)) (va_Qi (fun (r : Int32) (u : Unit) => r = xsm f 16) (fun u t => va_P G vwCl ([(h0, .inr (2, [.int sh, .ref a0, .int an, .int gl])), (a0, .inr (1, [.ref a1, .ref a2])), (a1, .inl (T 0, 16, .inl f)), (a2, .inl (T 0, 16, .inl g))]) t.heap) (va_A ([(h0, .inr (2, [.int sh, .ref a0, .int an, .int gl])), (a0, .inr (1, [.ref a1, .ref a2])), (a1, .inl (T 0, 16, .inl f)), (a2, .inl (T 0, 16, .inl g))]) sz)) 0 0 (va_A ([(h0, .inr (2, [.int sh, .ref a0, .int an, .int gl])), (a0, .inr (1, [.ref a1, .ref a2])), (a1, .inl (T 0, 16, .inl f)), (a2, .inl (T 0, 16, .inl g))]) sz) := by
  refine Met.ofW (cc := cX2_cardsThought) (maxL := 3) (ret := (some .int)) (by decide +kernel) rfl ?_
  intro p e s m args below meth c s₁ B hml hv
  obtain ⟨rfl, hsz, hP, hK, hD0, hXB, hZ⟩ := hv
  have hx := B.exec
  have hb := B.bytes
  have hr := B.returns
  have hts := atoms_spec (ws := wsX2_cardsThought) B.pre
  have hown : s.vm.findClass RX2 = some m.cls := findClass_of_methodNamed B.named
  have hlocks := B.notSynchronized
  subst hsz
  have hD := hD0.self (sz := s.heap.size)
  generalize hAe : va_A ([(h0, .inr (2, [.int sh, .ref a0, .int an, .int gl])), (a0, .inr (1, [.ref a1, .ref a2])), (a1, .inl (T 0, 16, .inl f)), (a2, .inl (T 0, 16, .inl g))]) s.heap.size = A at hD hZ ⊢
  have hA : ∀ q : Nat, s.heap.size ≤ q → A q := fun q h => by rw [← hAe]; exact Or.inr h
  have hS : va_S A s.heap s.heap [] := va_S.rf
  have hP : va_P G vwCl ([(h0, .inr (2, [.int sh, .ref a0, .int an, .int gl])), (a0, .inr (1, [.ref a1, .ref a2])), (a1, .inl (T 0, 16, .inl f)), (a2, .inl (T 0, 16, .inl g))]) s.heap := hP
  have hiX2 : ∀ w ∈ u_ws RX2 TX2 4, w ∈ wsX2_cardsThought := by decide +kernel
  have hl := lv_entry ([.ref h0]) (n := 3) (Nat.le_of_ble_eq_true rfl)
  rw [lg_entry_eq]
  generalize (lg_sl ([.ref h0]) ++ List.replicate (3 - (lg_sl ([.ref h0])).length) Slot.unset).toArray = ls at hl ⊢
  have hl : lv_has ls 3 [(0, .ref h0)] := hl
  refine lv_iconst (v := nI 0) hx hb dX2_cardsThought_0 (by decide) ?_
  refine lv_istore_n (lv' := [(1, .int (nI 0)), (0, .ref h0)]) hx hb dX2_cardsThought_1 rfl hl (by decide) rfl (fun ls hl => ?_)
  refine lv_iconst (v := nI 0) hx hb dX2_cardsThought_2 (by decide) ?_
  refine lv_istore_n (lv' := [(2, .int (nI 0)), (1, .int (nI 0)), (0, .ref h0)]) hx hb dX2_cardsThought_3 rfl hl (by decide) rfl (fun ls hl => ?_)
  suffices LP : ∀ (n : Nat) (i : Nat), (i ≤ 16) → (16 < i + n) → ∀ (H : Heap) (locs : List Loc), va_P G vwCl ([(h0, .inr (2, [.int sh, .ref a0, .int an, .int gl])), (a0, .inr (1, [.ref a1, .ref a2])), (a1, .inl (T 0, 16, .inl f)), (a2, .inl (T 0, 16, .inl g))]) H → va_D A ([(h0, .inr (2, [.int sh, .ref a0, .int an, .int gl])), (a0, .inr (1, [.ref a1, .ref a2])), (a1, .inl (T 0, 16, .inl f)), (a2, .inl (T 0, 16, .inl g))]) → va_S A s.heap H locs → ∀ (ls : Array Slot), lv_has ls 3 [(2, .int (nI i)), (1, .int (xsm f i)), (0, .ref h0)] → W p l e (headSpec wsX2_cardsThought ({ frames := 2, cells := 0, slots := 0, locals := 42 })).room s m ([.ref h0] : List Value).toArray below meth c H locs 0 0 (MQ below (va_Qi (fun (r : Int32) (u : Unit) => r = xsm f 16) (fun u t => va_P G vwCl ([(h0, .inr (2, [.int sh, .ref a0, .int an, .int gl])), (a0, .inr (1, [.ref a1, .ref a2])), (a1, .inl (T 0, 16, .inl f)), (a2, .inl (T 0, 16, .inl g))]) t.heap) A) ([.ref h0] : List Value).toArray s 0 0 A) (F0 m 4 ls []) from LP 17 0 (by decide) (by decide) _ _ hP hD hS ls (lv_sub hl [0, 1, 2] rfl)
  clear hP hD hS hl
  intro n
  induction n with
  | zero => intro i hi hn H locs _ _ _ ls _; exfalso; omega
  | succ n ih =>
    intro i hi hn H locs hP hD hS ls hl
    refine lv_iload_n hx hb dX2_cardsThought_4 rfl (lv_at hl 0 rfl) ?_
    refine lv_bipush (v := nI 16) hx hb dX2_cardsThought_5 (by decide) ?_
    by_cases hc : i < 16
    · refine lv_icmp_ge (tgt := 30) hx hb dX2_cardsThought_7 (by decide) (fun c_ => absurd c_ (nI_ge hc (by decide))) (fun _ => ?_)
      refine lv_iload_n hx hb dX2_cardsThought_10 rfl (lv_at hl 1 rfl) ?_
      refine lv_aload_n hx hb dX2_cardsThought_11 rfl (lv_at hl 2 rfl) ?_
      refine va_get (D := G) (ci := 2) (v := .ref a0) (C := RX2) (T := TX2) (N := 4) hx hb hts hiX2 hown hK hP 0 rfl rfl 1 (by decide) (hts (.fieldLink RX2 12 "CardFans$Watcher" "thoughts" "LCardFans$Row;") (by decide +kernel)) (fun _ h9 => h9) rfl dX2_cardsThought_12 ?_
      refine lv_iload_n hx hb dX2_cardsThought_15 rfl (lv_at hl 0 rfl) ?_
      refine x_calli (va_runV (As := [.int (nI i)]) (rest := [.int (xsm f i)]) ⟨hx, hb, hml, hown, hts⟩ (c_X1_at l G T _ a0 a1 a2 f g i hc) (cwV 1 hts gX2_cardsThought_X1_at rfl rfl rfl (by decide +kernel) ⟨Nat.le_of_ble_eq_true rfl, Nat.le_of_ble_eq_true rfl⟩) (x_preV (wc := [(a0, .inr (1, [.ref a1, .ref a2])), (a1, .inl (T 0, 16, .inl f)), (a2, .inl (T 0, 16, .inl g))]) hK hP hD hS hA hXB hZ [1, 2, 3] rfl rfl _ _ 1 1 rfl rfl) rfl rfl hl.1 rfl (lv_room (Nat.le_of_ble_eq_true rfl)) dX2_cardsThought_16 ⟨Nat.le_of_ble_eq_true rfl, Nat.le_of_ble_eq_true rfl⟩) hP hD hS hA [1, 2, 3] rfl (fun _ _ _ => rfl) (fun r1 u H locs hw1 hP hD hS => ?_)
      have hP : va_P G vwCl ([(h0, .inr (2, [.int sh, .ref a0, .int an, .int gl])), (a0, .inr (1, [.ref a1, .ref a2])), (a1, .inl (T 0, 16, .inl f)), (a2, .inl (T 0, 16, .inl g))]) H := hP
      have hD : va_D A ([(h0, .inr (2, [.int sh, .ref a0, .int an, .int gl])), (a0, .inr (1, [.ref a1, .ref a2])), (a1, .inl (T 0, 16, .inl f)), (a2, .inl (T 0, 16, .inl g))]) := hD
      subst hw1
      refine x_calli (va_runS (As := [.int (f i)]) (rest := [.int (xsm f i)]) ⟨hx, hb, hml, hown, hts⟩ (c_J6_bitCount_0f7a4 l G T _ (f i)) (va_cwS 1 hts gX2_cardsThought_J6_bitCount_0f7a4 rfl rfl rfl (by decide +kernel) ⟨Nat.le_of_ble_eq_true rfl, Nat.le_of_ble_eq_true rfl⟩) (x_preS (wc := []) hK hP hD hS hA hXB hZ [] rfl rfl _) rfl rfl hl.1 rfl (lv_room (Nat.le_of_ble_eq_true rfl)) dX2_cardsThought_19 ⟨Nat.le_of_ble_eq_true rfl, Nat.le_of_ble_eq_true rfl⟩) hP hD hS hA [] rfl (fun _ _ _ => rfl) (fun r2 u H locs hw2 hP hD hS => ?_)
      have hP : va_P G vwCl ([(h0, .inr (2, [.int sh, .ref a0, .int an, .int gl])), (a0, .inr (1, [.ref a1, .ref a2])), (a1, .inl (T 0, 16, .inl f)), (a2, .inl (T 0, 16, .inl g))]) H := hP
      have hD : va_D A ([(h0, .inr (2, [.int sh, .ref a0, .int an, .int gl])), (a0, .inr (1, [.ref a1, .ref a2])), (a1, .inl (T 0, 16, .inl f)), (a2, .inl (T 0, 16, .inl g))]) := hD
      subst hw2
      refine lv_iadd hx hb dX2_cardsThought_22 ?_
      refine x_topi (y := (xsm f (i + 1))) (rfl) ?_
      refine lv_istore_n (lv' := [(1, .int (xsm f (i + 1))), (2, .int (nI i)), (0, .ref h0)]) hx hb dX2_cardsThought_23 rfl hl (by decide) rfl (fun ls hl => ?_)
      refine lv_iinc (v := nI (i + 1)) (lv' := [(2, .int (nI (i + 1))), (1, .int (xsm f (i + 1))), (0, .ref h0)]) hx hb dX2_cardsThought_24 hl (k := 1) rfl (x_inc _) (by decide) rfl (fun ls hl => ?_)
      refine lv_goto (tgt := 4) hx hb dX2_cardsThought_27 (by decide) ?_
      exact ih (i + 1) (by omega) (by omega) _ _ hP hD hS ls (lv_sub hl [0, 1, 2] rfl)
    · refine lv_icmp_ge (tgt := 30) hx hb dX2_cardsThought_7 (by decide) (fun _ => ?_) (fun c_ => absurd (nI_le (by omega) (by omega)) c_)
      refine lv_iload_n hx hb dX2_cardsThought_30 rfl (lv_at hl 1 rfl) ?_
      exact W.iret (v := xsm f i) hx hb hr (fun t9_ ht hW => ⟨⟨xsm f i, (), rfl, by rw [show i = 16 by omega], x_at ht hP⟩, hS.F ht⟩) hS.2.2 dX2_cardsThought_31
end XL4
