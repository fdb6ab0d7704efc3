section XR7
/-! back: lengths of the circles, and their least common multiple step by step -/
def xita (k n : Nat) : Nat → Nat → Nat
  | 0, q => q
  | t + 1, q => xpa k n (xita k n t q)
def xcy (k n q : Nat) : Nat := ((List.range 17).find? (fun t => decide (1 ≤ t) && xita k n t q == q)).getD 0
def xba (k n : Nat) : Nat → Nat
  | 0 => 1
  | i + 1 => xba k n i / Nat.gcd (xba k n i) (xcy k n i) * xcy k n i
theorem xcy_all : ((List.range 5).all fun k => (List.range 17).all fun n => !xwn k n || ((decide (xba k n 16 = xord k n) && (List.range 17).all fun q => decide (1 ≤ xba k n q) && decide (xba k n q ≤ 1000)) && (List.range 16).all fun q => decide (1 ≤ xcy k n q) && (decide (xcy k n q ≤ 16) && ((xita k n (xcy k n q) q == q) && (List.range (xcy k n q)).all fun t => !(decide (1 ≤ t) && xita k n t q == q))))) = true := by decide +kernel
theorem xcy_k {k n : Nat} (h : xwn k n = true) : (xba k n 16 = xord k n ∧ ∀ q, q < 17 → 1 ≤ xba k n q ∧ xba k n q ≤ 1000) ∧ ∀ q, q < 16 → 1 ≤ xcy k n q ∧ xcy k n q ≤ 16 ∧ xita k n (xcy k n q) q = q ∧ ∀ t, 1 ≤ t → t < xcy k n q → ¬ xita k n t q = q := by
  have h1 := List.all_eq_true.mp xcy_all k (List.mem_range.mpr (xwn_lt h).1)
  have h2 := List.all_eq_true.mp h1 n (List.mem_range.mpr (xwn_lt h).2)
  rw [h] at h2
  simp only [Bool.not_true, Bool.false_or, Bool.and_eq_true, decide_eq_true_eq] at h2
  obtain ⟨⟨a, b⟩, c⟩ := h2
  refine ⟨⟨a, fun q hq => ?_⟩, fun q hq => ?_⟩
  · have := List.all_eq_true.mp b q (List.mem_range.mpr hq)
    simpa using this
  · have h3 := List.all_eq_true.mp c q (List.mem_range.mpr hq)
    simp only [Bool.and_eq_true, decide_eq_true_eq] at h3
    obtain ⟨c1, c2, c3, c4⟩ := h3
    refine ⟨c1, c2, eq_of_beq c3, fun t ht hlt e => ?_⟩
    have h4 := List.all_eq_true.mp c4 t (List.mem_range.mpr hlt)
    rw [decide_eq_true ht, e] at h4
    simp at h4
theorem xita_lt {k n : Nat} (h : xwn k n = true) {q : Nat} (hq : q < 16) : ∀ t, xita k n t q < 16
  | 0 => hq
  | t + 1 => (xway h (xita_lt h hq t)).1
theorem xgcd_at {a c d : Nat} (hd : Nat.gcd a c ≤ d) (h1 : a % d = 0) (h2 : c % d = 0) (hc : 0 < c) : d = Nat.gcd a c := by
  have h3 : d ∣ Nat.gcd a c := Nat.dvd_gcd (Nat.dvd_of_mod_eq_zero h1) (Nat.dvd_of_mod_eq_zero h2)
  have h4 := Nat.le_of_dvd (Nat.gcd_pos_of_pos_right a hc) h3
  omega
theorem xgcd_no {a c d : Nat} (hd : Nat.gcd a c ≤ d) (h : ¬ (a % d = 0 ∧ c % d = 0)) : Nat.gcd a c ≤ d - 1 := by
  rcases Nat.lt_or_ge (Nat.gcd a c) d with q | q
  · omega
  · have e : d = Nat.gcd a c := by omega
    exact absurd ⟨by rw [e]; exact Nat.mod_eq_zero_of_dvd (Nat.gcd_dvd_left a c), by rw [e]; exact Nat.mod_eq_zero_of_dvd (Nat.gcd_dvd_right a c)⟩ h

set_option maxHeartbeats 4000000 in
set_option maxRecDepth 100000 in
/-- back -/
theorem c_X4_back (l : Launch) (G : va_G) (T : Nat → ClassId) (sz : Nat) (bd : Nat → Nat) (thr : Int32) (M : XM) (a b : Int32) : Met l yX4_back wsX4_back ({ frames := 2, cells := 0, slots := 0, locals := 43 }) (va_Pc [.ref (bd 0), .int a, .int b] (xPre G T (xD T bd thr M) sz)) (va_Qi (fun (r : Int32) (u : Int32) => (xwb a b = true ∧ u = nI 0 ∧ r = nI (xord (xka a) (xka b))) ∨ (xwb a b = false ∧ u = nI 1)) (fun u t => va_P G vwCl (xD T bd u M) t.heap) (va_A (xD T bd thr M) sz)) 0 0 (va_A (xD T bd thr M) sz) := by
  refine Met.ofW (cc := cX4_back) (maxL := 7) (ret := (some .int)) (by decide +kernel) rfl ?_
  intro p e s m args below meth c s₁ B hml hv
  obtain ⟨rfl, hsz, hP, hK, hD0, hXB, hZ⟩ := hv
  have hx := B.exec
  have hb := B.bytes
  have hr := B.returns
  have hts := atoms_spec (ws := wsX4_back) B.pre
  have hown : s.vm.findClass RX4 = some m.cls := findClass_of_methodNamed B.named
  have hlocks := B.notSynchronized
  subst hsz
  have hD := hD0.self (sz := s.heap.size)
  generalize hAe : va_A (xD T bd thr M) s.heap.size = A at hD hZ ⊢
  have hA : ∀ q : Nat, s.heap.size ≤ q → A q := fun q h => by rw [← hAe]; exact Or.inr h
  have hS : va_S A s.heap s.heap [] := va_S.rf
  have hP : va_P G vwCl (xD T bd thr M) s.heap := hP
  have hiX4 : ∀ w ∈ u_ws RX4 TX4 14, w ∈ wsX4_back := by decide +kernel
  have hl := lv_entry ([.ref (bd 0), .int a, .int b]) (n := 7) (Nat.le_of_ble_eq_true rfl)
  rw [lg_entry_eq]
  generalize (lg_sl ([.ref (bd 0), .int a, .int b]) ++ List.replicate (7 - (lg_sl ([.ref (bd 0), .int a, .int b])).length) Slot.unset).toArray = ls at hl ⊢
  have hl : lv_has ls 7 [(0, .ref (bd 0)), (1, .int a), (2, .int b)] := hl
  refine lv_aload_n hx hb dX4_back_0 rfl (lv_at hl 0 rfl) ?_
  refine lv_iconst (v := nI 0) hx hb dX4_back_1 (by decide) ?_
  refine va_put (D := G) (ci := 4) (v := .int (nI 0)) (ty := .int) (C := RX4) (T := TX4) (N := 14) hx hb hts hiX4 tyX4 tyX4_ok nmX4 hown hK hP hD hS 0 rfl rfl 0 (by decide) (hts (.fieldLink RX4 33 "CardFansModel" "thrown" "I") (by decide +kernel)) (fun _ h9 => h9) rfl (by decide +kernel) rfl rfl (Nat.le_of_ble_eq_true rfl) dX4_back_2 (fun H locs hP hD hS => ?_)
  have hP : va_P G vwCl (xD T bd (nI 0) M) H := hP
  have hD : va_D A (xD T bd (nI 0) M) := hD
  refine lv_iload_n hx hb dX4_back_5 rfl (lv_at hl 1 rfl) ?_
  refine lv_iload_n hx hb dX4_back_6 rfl (lv_at hl 2 rfl) ?_
  refine x_calli (va_runS (As := [.int a, .int b]) (rest := []) ⟨hx, hb, hml, hown, hts⟩ (c_X4_isWay l G T _ a b) (va_cwS 2 hts gX4_back_X4_isWay rfl rfl rfl (by decide +kernel) ⟨Nat.le_of_ble_eq_true rfl, Nat.le_of_ble_eq_true rfl⟩) (x_preS (wc := []) hK hP hD hS hA hXB hZ [] rfl rfl _) rfl rfl hl.1 rfl (lv_room (Nat.le_of_ble_eq_true rfl)) dX4_back_7 ⟨Nat.le_of_ble_eq_true rfl, Nat.le_of_ble_eq_true rfl⟩) hP hD hS hA [] rfl (fun _ _ _ => rfl) (fun r0 u0 H locs hw0 hP hD hS => ?_)
  have hP : va_P G vwCl (xD T bd (nI 0) M) H := hP
  have hD : va_D A (xD T bd (nI 0) M) := hD
  refine lv_if_ne (tgt := 19) hx hb dX4_back_10 (by decide) (fun c0 => ?_) (fun c0 => ?_)
  · have hv0 := xb_of_ne hw0 c0
    obtain ⟨k, n, hkn, rfl, rfl⟩ := xwb_iff.mp hv0
    have hb5 := xwn_lt hkn
    rw [xka_n (show k < 2 ^ 31 by omega), xka_n (show n < 2 ^ 31 by omega)]
    obtain ⟨⟨hba, hbb⟩, hcy⟩ := xcy_k hkn
    refine lv_iconst (v := nI 1) hx hb dX4_back_19 (by decide) ?_
    refine lv_istore_n (lv' := [(3, .int (nI 1)), (0, .ref (bd 0)), (1, .int (nI k)), (2, .int (nI n))]) hx hb dX4_back_20 rfl hl (by decide) rfl (fun ls hl => ?_)
    refine lv_iconst (v := nI 0) hx hb dX4_back_21 (by decide) ?_
    refine lv_istore (lv' := [(4, .int (nI 0)), (3, .int (nI 1)), (0, .ref (bd 0)), (1, .int (nI k)), (2, .int (nI n))]) hx hb dX4_back_22 hl (by decide) rfl (fun ls hl => ?_)
    suffices LP1 : ∀ (n1 : Nat) (i : Nat), (i ≤ 16) → (16 < i + n1) → ∀ (H : Heap) (locs : List Loc), va_P G vwCl (xD T bd (nI 0) M) H → va_D A (xD T bd (nI 0) M) → va_S A s.heap H locs → ∀ (ls : Array Slot), lv_has ls 7 [(4, .int (nI i)), (3, .int (nI (xba k n i))), (0, .ref (bd 0)), (1, .int (nI k)), (2, .int (nI n))] → W p l e (headSpec wsX4_back ({ frames := 2, cells := 0, slots := 0, locals := 43 })).room s m ([.ref (bd 0), .int (nI k), .int (nI n)] : List Value).toArray below meth c H locs 0 0 (MQ below (va_Qi (fun (r : Int32) (u : Int32) => (xwb (nI k) (nI n) = true ∧ u = nI 0 ∧ r = nI (xord k n)) ∨ (xwb (nI k) (nI n) = false ∧ u = nI 1)) (fun u t => va_P G vwCl (xD T bd u M) t.heap) A) ([.ref (bd 0), .int (nI k), .int (nI n)] : List Value).toArray s 0 0 A) (F0 m 24 ls []) from LP1 17 0 (by decide) (by decide) _ _ hP hD hS ls (lv_sub hl [0, 1, 2, 3, 4] rfl)
    clear hP hD hS hl
    intro n1
    induction n1 with
    | zero => intro i hi hn H locs _ _ _ ls _; exfalso; omega
    | succ n1 ih1 =>
      intro i hi hn H locs hP hD hS ls hl
      refine lv_iload hx hb dX4_back_24 (lv_at hl 0 rfl) ?_
      refine lv_bipush (v := nI 16) hx hb dX4_back_26 (by decide) ?_
      by_cases hc : i < 16
      · obtain ⟨hy1, hy2, hy3, hy4⟩ := hcy i hc
        obtain ⟨ha1, ha2⟩ := hbb i (by omega)
        refine lv_icmp_ge (tgt := 104) hx hb dX4_back_28 (by decide) (fun c_ => absurd c_ (nI_ge hc (by decide))) (fun _ => ?_)
        refine lv_iconst (v := nI 1) hx hb dX4_back_31 (by decide) ?_
        refine lv_istore (lv' := [(5, .int (nI 1)), (4, .int (nI i)), (3, .int (nI (xba k n i))), (0, .ref (bd 0)), (1, .int (nI k)), (2, .int (nI n))]) hx hb dX4_back_32 hl (by decide) rfl (fun ls hl => ?_)
        refine lv_iload_n hx hb dX4_back_34 rfl (lv_at hl 4 rfl) ?_
        refine lv_iload_n hx hb dX4_back_35 rfl (lv_at hl 5 rfl) ?_
        refine lv_iload hx hb dX4_back_36 (lv_at hl 1 rfl) ?_
        refine x_calli (va_runS (As := [.int (nI k), .int (nI n), .int (nI i)]) (rest := []) ⟨hx, hb, hml, hown, hts⟩ (c_X4_to l G T _ k n i hkn hc) (va_cwS 3 hts gX4_back_X4_to rfl rfl rfl (by decide +kernel) ⟨Nat.le_of_ble_eq_true rfl, Nat.le_of_ble_eq_true rfl⟩) (x_preS (wc := []) hK hP hD hS hA hXB hZ [] rfl rfl _) rfl rfl hl.1 rfl (lv_room (Nat.le_of_ble_eq_true rfl)) dX4_back_38 ⟨Nat.le_of_ble_eq_true rfl, Nat.le_of_ble_eq_true rfl⟩) hP hD hS hA [] rfl (fun _ _ _ => rfl) (fun r1 u1 H locs hw1 hP hD hS => ?_)
        have hP : va_P G vwCl (xD T bd (nI 0) M) H := hP
        have hD : va_D A (xD T bd (nI 0) M) := hD
        refine x_topi (y := nI (xita k n 1 i)) (hw1) ?_
        refine lv_istore (lv' := [(6, .int (nI (xita k n 1 i))), (5, .int (nI 1)), (4, .int (nI i)), (3, .int (nI (xba k n i))), (0, .ref (bd 0)), (1, .int (nI k)), (2, .int (nI n))]) hx hb dX4_back_41 hl (by decide) rfl (fun ls hl => ?_)
        suffices LP2 : ∀ (n2 : Nat) (t : Nat), (1 ≤ t) → (t ≤ xcy k n i) → (16 < t + n2) → ∀ (H : Heap) (locs : List Loc), va_P G vwCl (xD T bd (nI 0) M) H → va_D A (xD T bd (nI 0) M) → va_S A s.heap H locs → ∀ (ls : Array Slot), lv_has ls 7 [(5, .int (nI t)), (6, .int (nI (xita k n t i))), (4, .int (nI i)), (3, .int (nI (xba k n i))), (0, .ref (bd 0)), (1, .int (nI k)), (2, .int (nI n))] → W p l e (headSpec wsX4_back ({ frames := 2, cells := 0, slots := 0, locals := 43 })).room s m ([.ref (bd 0), .int (nI k), .int (nI n)] : List Value).toArray below meth c H locs 0 0 (MQ below (va_Qi (fun (r : Int32) (u : Int32) => (xwb (nI k) (nI n) = true ∧ u = nI 0 ∧ r = nI (xord k n)) ∨ (xwb (nI k) (nI n) = false ∧ u = nI 1)) (fun u t => va_P G vwCl (xD T bd u M) t.heap) A) ([.ref (bd 0), .int (nI k), .int (nI n)] : List Value).toArray s 0 0 A) (F0 m 43 ls []) from LP2 17 1 (Nat.le_refl 1) hy1 (by decide) _ _ hP hD hS ls (lv_sub hl [1, 0, 2, 3, 4, 5, 6] rfl)
        clear hP hD hS hl
        intro n2
        induction n2 with
        | zero => intro t ht1 htc0 hn2 H locs _ _ _ ls _; exfalso; omega
        | succ n2 ih2 =>
          intro t ht1 htc0 hn2 H locs hP hD hS ls hl
          have hl9 := xita_lt hkn hc t
          refine lv_iload hx hb dX4_back_43 (lv_at hl 1 rfl) ?_
          refine lv_iload hx hb dX4_back_45 (lv_at hl 2 rfl) ?_
          by_cases he : xita k n t i = i
          · have et : t = xcy k n i := by rcases Nat.lt_trichotomy t (xcy k n i) with g | g | g; exact absurd he (hy4 t ht1 g); exact g; omega
            refine lv_icmp_eq (tgt := 65) hx hb dX4_back_47 (by decide) (fun _ => ?_) (fun c_ => absurd (congrArg nI he) c_)
            subst et
            refine lv_iload hx hb dX4_back_65 (lv_at hl 0 rfl) ?_
            refine lv_istore (lv' := [(6, .int (nI (xcy k n i))), (5, .int (nI (xcy k n i))), (4, .int (nI i)), (3, .int (nI (xba k n i))), (0, .ref (bd 0)), (1, .int (nI k)), (2, .int (nI n))]) hx hb dX4_back_67 hl (by decide) rfl (fun ls hl => ?_)
            suffices LP3 : ∀ (n3 : Nat) (d : Nat), (Nat.gcd (xba k n i) (xcy k n i) ≤ d) → (d ≤ xcy k n i) → (d < n3) → ∀ (H : Heap) (locs : List Loc), va_P G vwCl (xD T bd (nI 0) M) H → va_D A (xD T bd (nI 0) M) → va_S A s.heap H locs → ∀ (ls : Array Slot), lv_has ls 7 [(6, .int (nI d)), (5, .int (nI (xcy k n i))), (4, .int (nI i)), (3, .int (nI (xba k n i))), (0, .ref (bd 0)), (1, .int (nI k)), (2, .int (nI n))] → W p l e (headSpec wsX4_back ({ frames := 2, cells := 0, slots := 0, locals := 43 })).room s m ([.ref (bd 0), .int (nI k), .int (nI n)] : List Value).toArray below meth c H locs 0 0 (MQ below (va_Qi (fun (r : Int32) (u : Int32) => (xwb (nI k) (nI n) = true ∧ u = nI 0 ∧ r = nI (xord k n)) ∨ (xwb (nI k) (nI n) = false ∧ u = nI 1)) (fun u t => va_P G vwCl (xD T bd u M) t.heap) A) ([.ref (bd 0), .int (nI k), .int (nI n)] : List Value).toArray s 0 0 A) (F0 m 69 ls []) from LP3 17 (xcy k n i) (Nat.le_of_dvd hy1 (Nat.gcd_dvd_right _ _)) (Nat.le_refl _) (by omega) _ _ hP hD hS ls (lv_sub hl [0, 1, 2, 3, 4, 5, 6] rfl)
            clear hP hD hS hl
            intro n3
            induction n3 with
            | zero => intro d hd hdc hn3 H locs _ _ _ ls _; exfalso; omega
            | succ n3 ih3 =>
              intro d hd hdc hn3 H locs hP hD hS ls hl
              have hg0 : 0 < Nat.gcd (xba k n i) (xcy k n i) := Nat.gcd_pos_of_pos_right _ hy1
              refine lv_iload_n hx hb dX4_back_69 rfl (lv_at hl 3 rfl) ?_
              refine lv_iload hx hb dX4_back_70 (lv_at hl 0 rfl) ?_
              refine lv_irem hx hb dX4_back_72 (nI_ne0 (by omega) (by omega)) ?_
              refine x_topi (y := nI (xba k n i % d)) (pk_rem (by omega) (by omega) (by omega)) ?_
              have hm1 := Nat.mod_lt (xba k n i) (show 0 < d by omega)
              have hm2 := Nat.mod_lt (xcy k n i) (show 0 < d by omega)
              by_cases hq1 : xba k n i % d = 0
              · refine lv_if_ne (tgt := 84) hx hb dX4_back_73 (by decide) (fun c_ => absurd (congrArg nI hq1) c_) (fun _ => ?_)
                refine lv_iload hx hb dX4_back_76 (lv_at hl 1 rfl) ?_
                refine lv_iload hx hb dX4_back_78 (lv_at hl 0 rfl) ?_
                refine lv_irem hx hb dX4_back_80 (nI_ne0 (by omega) (by omega)) ?_
                refine x_topi (y := nI (xcy k n i % d)) (pk_rem (by omega) (by omega) (by omega)) ?_
                by_cases hq2 : xcy k n i % d = 0
                · refine lv_if_eq (tgt := 90) hx hb dX4_back_81 (by decide) (fun _ => ?_) (fun c_ => absurd (congrArg nI hq2) c_)
                  have ed := xgcd_at hd hq1 hq2 hy1
                  refine lv_iload_n hx hb dX4_back_90 rfl (lv_at hl 3 rfl) ?_
                  refine lv_iload hx hb dX4_back_91 (lv_at hl 0 rfl) ?_
                  refine lv_idiv hx hb dX4_back_93 (nI_ne0 (by omega) (by omega)) ?_
                  refine x_topi (y := nI (xba k n i / d)) (pk_div (by omega) (by omega) (by omega)) ?_
                  refine lv_iload hx hb dX4_back_94 (lv_at hl 1 rfl) ?_
                  refine lv_imul hx hb dX4_back_96 ?_
                  refine x_topi (y := nI (xba k n (i + 1))) (by rw [pk_mul, ed]; rfl) ?_
                  refine lv_istore_n (lv' := [(3, .int (nI (xba k n (i + 1)))), (6, .int (nI d)), (5, .int (nI (xcy k n i))), (4, .int (nI i)), (0, .ref (bd 0)), (1, .int (nI k)), (2, .int (nI n))]) hx hb dX4_back_97 rfl hl (by decide) rfl (fun ls hl => ?_)
                  refine lv_iinc (v := nI (i + 1)) (lv' := [(4, .int (nI (i + 1))), (3, .int (nI (xba k n (i + 1)))), (6, .int (nI d)), (5, .int (nI (xcy k n i))), (0, .ref (bd 0)), (1, .int (nI k)), (2, .int (nI n))]) hx hb dX4_back_98 hl (k := 3) rfl (x_inc _) (by decide) rfl (fun ls hl => ?_)
                  refine lv_goto (tgt := 24) hx hb dX4_back_101 (by decide) ?_
                  exact ih1 (i + 1) (by omega) (by omega) _ _ hP hD hS ls (lv_sub hl [0, 1, 4, 5, 6] rfl)
                · refine lv_if_eq (tgt := 90) hx hb dX4_back_81 (by decide) (fun c_ => absurd c_ (nI_ne0 (by omega) (by omega))) (fun _ => ?_)
                  have hnd : ¬ (xba k n i % d = 0 ∧ xcy k n i % d = 0) := fun h => hq2 h.2
                  refine lv_iinc (v := nI (d - 1)) (lv' := [(6, .int (nI (d - 1))), (5, .int (nI (xcy k n i))), (4, .int (nI i)), (3, .int (nI (xba k n i))), (0, .ref (bd 0)), (1, .int (nI k)), (2, .int (nI n))]) hx hb dX4_back_84 hl (k := 0) rfl (by rw [← pk_sub (a := d) (b := 1) (by omega), Int32.sub_eq_add_neg]; rfl) (by decide) rfl (fun ls hl => ?_)
                  refine lv_goto (tgt := 69) hx hb dX4_back_87 (by decide) ?_
                  have hgd := xgcd_no hd hnd
                  exact ih3 (d - 1) hgd (by omega) (by omega) _ _ hP hD hS ls (lv_sub hl [0, 1, 2, 3, 4, 5, 6] rfl)
              · refine lv_if_ne (tgt := 84) hx hb dX4_back_73 (by decide) (fun _ => ?_) (fun c_ => absurd c_ (nI_ne0 (by omega) (by omega)))
                have hnd : ¬ (xba k n i % d = 0 ∧ xcy k n i % d = 0) := fun h => hq1 h.1
                refine lv_iinc (v := nI (d - 1)) (lv' := [(6, .int (nI (d - 1))), (5, .int (nI (xcy k n i))), (4, .int (nI i)), (3, .int (nI (xba k n i))), (0, .ref (bd 0)), (1, .int (nI k)), (2, .int (nI n))]) hx hb dX4_back_84 hl (k := 0) rfl (by rw [← pk_sub (a := d) (b := 1) (by omega), Int32.sub_eq_add_neg]; rfl) (by decide) rfl (fun ls hl => ?_)
                refine lv_goto (tgt := 69) hx hb dX4_back_87 (by decide) ?_
                have hgd := xgcd_no hd hnd
                exact ih3 (d - 1) hgd (by omega) (by omega) _ _ hP hD hS ls (lv_sub hl [0, 1, 2, 3, 4, 5, 6] rfl)
          · have htc : t < xcy k n i := by rcases Nat.lt_trichotomy t (xcy k n i) with g | g | g; exact g; exact absurd (by rw [g]; exact hy3) he; omega
            refine lv_icmp_eq (tgt := 65) hx hb dX4_back_47 (by decide) (fun c_ => absurd c_ (fun h => he ((nI_eq (by omega) (by omega)).mp h))) (fun _ => ?_)
            refine lv_iinc (v := nI (t + 1)) (lv' := [(5, .int (nI (t + 1))), (6, .int (nI (xita k n t i))), (4, .int (nI i)), (3, .int (nI (xba k n i))), (0, .ref (bd 0)), (1, .int (nI k)), (2, .int (nI n))]) hx hb dX4_back_50 hl (k := 0) rfl (x_inc _) (by decide) rfl (fun ls hl => ?_)
            refine lv_iload_n hx hb dX4_back_53 rfl (lv_at hl 5 rfl) ?_
            refine lv_iload_n hx hb dX4_back_54 rfl (lv_at hl 6 rfl) ?_
            refine lv_iload hx hb dX4_back_55 (lv_at hl 1 rfl) ?_
            refine x_calli (va_runS (As := [.int (nI k), .int (nI n), .int (nI (xita k n t i))]) (rest := []) ⟨hx, hb, hml, hown, hts⟩ (c_X4_to l G T _ k n (xita k n t i) hkn hl9) (va_cwS 3 hts gX4_back_X4_to rfl rfl rfl (by decide +kernel) ⟨Nat.le_of_ble_eq_true rfl, Nat.le_of_ble_eq_true rfl⟩) (x_preS (wc := []) hK hP hD hS hA hXB hZ [] rfl rfl _) rfl rfl hl.1 rfl (lv_room (Nat.le_of_ble_eq_true rfl)) dX4_back_57 ⟨Nat.le_of_ble_eq_true rfl, Nat.le_of_ble_eq_true rfl⟩) hP hD hS hA [] rfl (fun _ _ _ => rfl) (fun r2 u2 H locs hw2 hP hD hS => ?_)
            have hP : va_P G vwCl (xD T bd (nI 0) M) H := hP
            have hD : va_D A (xD T bd (nI 0) M) := hD
            refine x_topi (y := nI (xita k n (t + 1) i)) (hw2) ?_
            refine lv_istore (lv' := [(6, .int (nI (xita k n (t + 1) i))), (5, .int (nI (t + 1))), (4, .int (nI i)), (3, .int (nI (xba k n i))), (0, .ref (bd 0)), (1, .int (nI k)), (2, .int (nI n))]) hx hb dX4_back_60 hl (by decide) rfl (fun ls hl => ?_)
            refine lv_goto (tgt := 43) hx hb dX4_back_62 (by decide) ?_
            exact ih2 (t + 1) (by omega) (by omega) (by omega) _ _ hP hD hS ls (lv_sub hl [1, 0, 2, 3, 4, 5, 6] rfl)
      · obtain rfl : i = 16 := by omega
        refine lv_icmp_ge (tgt := 104) hx hb dX4_back_28 (by decide) (fun _ => ?_) (fun c_ => absurd (nI_le (by omega) (by omega)) c_)
        refine lv_iload_n hx hb dX4_back_104 rfl (lv_at hl 1 rfl) ?_
        exact W.iret (v := nI (xba k n 16)) hx hb hr (fun t9_ ht hW => ⟨⟨nI (xba k n 16), (nI 0), rfl, Or.inl ⟨hv0, rfl, by rw [hba]⟩, x_at ht hP⟩, hS.F ht⟩) hS.2.2 dX4_back_105
  · refine lv_aload_n hx hb dX4_back_13 rfl (lv_at hl 0 rfl) ?_
    refine lv_iconst (v := nI 1) hx hb dX4_back_14 (by decide) ?_
    refine x_calliW (va_runV (As := [.int (nI 1)]) (rest := []) ⟨hx, hb, hml, hown, hts⟩ (c_X4_no l G T _ bd (nI 0) M (nI 1)) (cwV 1 hts gX4_back_X4_no rfl rfl rfl (by decide +kernel) ⟨Nat.le_of_ble_eq_true rfl, Nat.le_of_ble_eq_true rfl⟩) (x_preVW (wc := (xD T bd (nI 0) M)) hK hP hD hS hA hXB hZ _ _ 0 4 rfl rfl) rfl rfl hl.1 rfl (lv_room (Nat.le_of_ble_eq_true rfl)) dX4_back_15 ⟨Nat.le_of_ble_eq_true rfl, Nat.le_of_ble_eq_true rfl⟩) hP hD hS hA (fun _ _ _ => xd_self rfl hD) (fun r8 u8 H locs hw8 hP hD hS => ?_)
    have hP : va_P G vwCl (xD T bd (nI 1) M) H := hP
    have hD : va_D A (xD T bd (nI 1) M) := hD
    exact W.iret (v := r8) hx hb hr (fun t9_ ht hW => ⟨⟨r8, (nI 1), rfl, Or.inr ⟨xb_of_eq hw0 c0, rfl⟩, x_at ht hP⟩, hS.F ht⟩) hS.2.2 dX4_back_18

theorem xow_lt (m : Nat) : ∀ i, i ≤ 16 → xowi m i < 2 ^ 16
  | 0, _ => by show (0 : Nat) < 2 ^ 16; decide
  | i + 1, h => by
    have ih := xow_lt m i (by omega)
    have e : ∀ {k n : Nat}, xwn k n = true → 2 ^ xpa k n i < 2 ^ 16 := fun hw => Nat.pow_lt_pow_right (by decide) (xway hw (show i < 16 by omega)).1
    show xow1 m i _ < _
    unfold xow1
    split
    · exact Nat.or_lt_two_pow (Nat.or_lt_two_pow (Nat.or_lt_two_pow (Nat.or_lt_two_pow ih (e rfl)) (e rfl)) (e rfl)) (e rfl)
    · exact ih
theorem xrt_lt {s : Nat} (hs : s < 16) : ∀ t, xrt s t < 2 ^ 16
  | 0 => Nat.pow_lt_pow_right (by decide) hs
  | t + 1 => Nat.or_lt_two_pow (xrt_lt hs t) (xow_lt _ 16 (Nat.le_refl 16))

set_option maxHeartbeats 4000000 in
set_option maxRecDepth 100000 in
/-- bring -/
theorem c_X4_bring (l : Launch) (G : va_G) (T : Nat → ClassId) (sz : Nat) (bd : Nat → Nat) (thr : Int32) (M : XM) (x y : Int32) (hsur : ∀ c, c < 16 → ∃ j, j < 16 ∧ mpk M j = nI c) : Met l yX4_bring wsX4_bring ({ frames := 2, cells := 0, slots := 0, locals := 42 }) (va_Pc [.ref (bd 0), .int x, .int y] (xPre G T (xD T bd thr M) sz)) (va_Qi (fun (r : Int32) (u : Int32) => ((xvb 16 x && xvb 16 y) = true ∧ u = nI 0 ∧ r = nI (xbr (xka (xfp (mpk M) x)) (xka y))) ∨ ((xvb 16 x && xvb 16 y) = false ∧ u = nI 1)) (fun u t => va_P G vwCl (xD T bd u M) t.heap) (va_A (xD T bd thr M) sz)) 0 0 (va_A (xD T bd thr M) sz) := by
  refine Met.ofW (cc := cX4_bring) (maxL := 7) (ret := (some .int)) (by decide +kernel) rfl ?_
  intro p e s m args below meth c s₁ B hml hv
  obtain ⟨rfl, hsz, hP, hK, hD0, hXB, hZ⟩ := hv
  have hx := B.exec
  have hb := B.bytes
  have hr := B.returns
  have hts := atoms_spec (ws := wsX4_bring) B.pre
  have hown : s.vm.findClass RX4 = some m.cls := findClass_of_methodNamed B.named
  have hlocks := B.notSynchronized
  subst hsz
  have hD := hD0.self (sz := s.heap.size)
  generalize hAe : va_A (xD T bd thr M) s.heap.size = A at hD hZ ⊢
  have hA : ∀ q : Nat, s.heap.size ≤ q → A q := fun q h => by rw [← hAe]; exact Or.inr h
  have hS : va_S A s.heap s.heap [] := va_S.rf
  have hP : va_P G vwCl (xD T bd thr M) s.heap := hP
  have hiX4 : ∀ w ∈ u_ws RX4 TX4 14, w ∈ wsX4_bring := by decide +kernel
  have hl := lv_entry ([.ref (bd 0), .int x, .int y]) (n := 7) (Nat.le_of_ble_eq_true rfl)
  rw [lg_entry_eq]
  generalize (lg_sl ([.ref (bd 0), .int x, .int y]) ++ List.replicate (7 - (lg_sl ([.ref (bd 0), .int x, .int y])).length) Slot.unset).toArray = ls at hl ⊢
  have hl : lv_has ls 7 [(0, .ref (bd 0)), (1, .int x), (2, .int y)] := hl
  refine lv_aload_n hx hb dX4_bring_0 rfl (lv_at hl 0 rfl) ?_
  refine lv_iconst (v := nI 0) hx hb dX4_bring_1 (by decide) ?_
  refine va_put (D := G) (ci := 4) (v := .int (nI 0)) (ty := .int) (C := RX4) (T := TX4) (N := 14) hx hb hts hiX4 tyX4 tyX4_ok nmX4 hown hK hP hD hS 0 rfl rfl 0 (by decide) (hts (.fieldLink RX4 33 "CardFansModel" "thrown" "I") (by decide +kernel)) (fun _ h9 => h9) rfl (by decide +kernel) rfl rfl (Nat.le_of_ble_eq_true rfl) dX4_bring_2 (fun H locs hP hD hS => ?_)
  have hP : va_P G vwCl (xD T bd (nI 0) M) H := hP
  have hD : va_D A (xD T bd (nI 0) M) := hD
  refine lv_iload_n hx hb dX4_bring_5 rfl (lv_at hl 1 rfl) ?_
  refine x_calli (va_runS (As := [.int x]) (rest := []) ⟨hx, hb, hml, hown, hts⟩ (c_X4_isPlace l G T _ x) (va_cwS 1 hts gX4_bring_X4_isPlace rfl rfl rfl (by decide +kernel) ⟨Nat.le_of_ble_eq_true rfl, Nat.le_of_ble_eq_true rfl⟩) (x_preS (wc := []) hK hP hD hS hA hXB hZ [] rfl rfl _) rfl rfl hl.1 rfl (lv_room (Nat.le_of_ble_eq_true rfl)) dX4_bring_6 ⟨Nat.le_of_ble_eq_true rfl, Nat.le_of_ble_eq_true rfl⟩) hP hD hS hA [] rfl (fun _ _ _ => rfl) (fun r1 u1 H locs hw1 hP hD hS => ?_)
  have hP : va_P G vwCl (xD T bd (nI 0) M) H := hP
  have hD : va_D A (xD T bd (nI 0) M) := hD
  refine lv_if_eq (tgt := 19) hx hb dX4_bring_9 (by decide) (fun c0 => ?_) (fun c0 => ?_)
  · refine lv_aload_n hx hb dX4_bring_19 rfl (lv_at hl 0 rfl) ?_
    refine lv_iconst (v := nI 1) hx hb dX4_bring_20 (by decide) ?_
    refine x_calliW (va_runV (As := [.int (nI 1)]) (rest := []) ⟨hx, hb, hml, hown, hts⟩ (c_X4_no l G T _ bd (nI 0) M (nI 1)) (cwV 1 hts gX4_bring_X4_no rfl rfl rfl (by decide +kernel) ⟨Nat.le_of_ble_eq_true rfl, Nat.le_of_ble_eq_true rfl⟩) (x_preVW (wc := (xD T bd (nI 0) M)) hK hP hD hS hA hXB hZ _ _ 0 4 rfl rfl) rfl rfl hl.1 rfl (lv_room (Nat.le_of_ble_eq_true rfl)) dX4_bring_21 ⟨Nat.le_of_ble_eq_true rfl, Nat.le_of_ble_eq_true rfl⟩) hP hD hS hA (fun _ _ _ => xd_self rfl hD) (fun r8 u8 H locs hw8 hP hD hS => ?_)
    have hP : va_P G vwCl (xD T bd (nI 1) M) H := hP
    have hD : va_D A (xD T bd (nI 1) M) := hD
    exact W.iret (v := r8) hx hb hr (fun t9_ ht hW => ⟨⟨r8, (nI 1), rfl, Or.inr ⟨by rw [xb_of_eq hw1 c0, Bool.false_and], rfl⟩, x_at ht hP⟩, hS.F ht⟩) hS.2.2 dX4_bring_24
  · have hv1 := xb_of_ne hw1 c0
    refine lv_iload_n hx hb dX4_bring_12 rfl (lv_at hl 2 rfl) ?_
    refine x_calli (va_runS (As := [.int y]) (rest := []) ⟨hx, hb, hml, hown, hts⟩ (c_X4_isPlace l G T _ y) (va_cwS 1 hts gX4_bring_X4_isPlace rfl rfl rfl (by decide +kernel) ⟨Nat.le_of_ble_eq_true rfl, Nat.le_of_ble_eq_true rfl⟩) (x_preS (wc := []) hK hP hD hS hA hXB hZ [] rfl rfl _) rfl rfl hl.1 rfl (lv_room (Nat.le_of_ble_eq_true rfl)) dX4_bring_13 ⟨Nat.le_of_ble_eq_true rfl, Nat.le_of_ble_eq_true rfl⟩) hP hD hS hA [] rfl (fun _ _ _ => rfl) (fun r2 u2 H locs hw2 hP hD hS => ?_)
    have hP : va_P G vwCl (xD T bd (nI 0) M) H := hP
    have hD : va_D A (xD T bd (nI 0) M) := hD
    refine lv_if_ne (tgt := 25) hx hb dX4_bring_16 (by decide) (fun c1 => ?_) (fun c1 => ?_)
    · have hv2 := xb_of_ne hw2 c1
      have hv12 : (xvb 16 x && xvb 16 y) = true := by rw [hv1, hv2]; rfl
      obtain ⟨c0_, hc0_, rfl⟩ := (xvb_iff (n := 16) (by decide)).mp (hv1)
      obtain ⟨q, hq, rfl⟩ := (xvb_iff (n := 16) (by decide)).mp (hv2)
      obtain ⟨s0, hs0, es0, -, -⟩ := xfp_in (hsur c0_ hc0_)
      rw [es0, xka_n (show s0 < 2 ^ 31 by omega), xka_n (show q < 2 ^ 31 by omega)]
      refine lv_iconst (v := nI 1) hx hb dX4_bring_25 (by decide) ?_
      refine lv_aload_n hx hb dX4_bring_26 rfl (lv_at hl 0 rfl) ?_
      refine lv_iload_n hx hb dX4_bring_27 rfl (lv_at hl 1 rfl) ?_
      refine x_calliW (va_runV (As := [.int (nI c0_)]) (rest := [.int (nI 1)]) ⟨hx, hb, hml, hown, hts⟩ (c_X4_placeOf l G T _ bd (nI 0) M (nI c0_) (hsur c0_ hc0_)) (cwV 1 hts gX4_bring_X4_placeOf rfl rfl rfl (by decide +kernel) ⟨Nat.le_of_ble_eq_true rfl, Nat.le_of_ble_eq_true rfl⟩) (x_preVW (wc := (xD T bd (nI 0) M)) hK hP hD hS hA hXB hZ _ _ 0 4 rfl rfl) rfl rfl hl.1 rfl (lv_room (Nat.le_of_ble_eq_true rfl)) dX4_bring_28 ⟨Nat.le_of_ble_eq_true rfl, Nat.le_of_ble_eq_true rfl⟩) hP hD hS hA (fun _ _ _ => xd_self rfl hD) (fun r3 u3 H locs hw3 hP hD hS => ?_)
      have hP : va_P G vwCl (xD T bd (nI 0) M) H := hP
      have hD : va_D A (xD T bd (nI 0) M) := hD
      refine x_topi (y := nI s0) (hw3.trans es0) ?_
      refine lv_ishl hx hb dX4_bring_31 ?_
      refine x_topi (y := nI (xrt s0 0)) (show xso (nI s0) = _ from xso_n (by omega)) ?_
      refine lv_istore_n (lv' := [(3, .int (nI (xrt s0 0))), (0, .ref (bd 0)), (1, .int (nI c0_)), (2, .int (nI q))]) hx hb dX4_bring_32 rfl hl (by decide) rfl (fun ls hl => ?_)
      refine lv_iconst (v := nI 0) hx hb dX4_bring_33 (by decide) ?_
      refine lv_istore (lv' := [(4, .int (nI 0)), (3, .int (nI (xrt s0 0))), (0, .ref (bd 0)), (1, .int (nI c0_)), (2, .int (nI q))]) hx hb dX4_bring_34 hl (by decide) rfl (fun ls hl => ?_)
      obtain ⟨hb1, hb2, hb3⟩ := xbr_ok hs0 hq
      suffices LP1 : ∀ (n1 : Nat) (i : Nat), (i ≤ xbr s0 q) → (16 < i + n1) → ∀ (H : Heap) (locs : List Loc), va_P G vwCl (xD T bd (nI 0) M) H → va_D A (xD T bd (nI 0) M) → va_S A s.heap H locs → ∀ (ls : Array Slot), lv_has ls 7 [(4, .int (nI i)), (3, .int (nI (xrt s0 i))), (0, .ref (bd 0)), (1, .int (nI c0_)), (2, .int (nI q))] → W p l e (headSpec wsX4_bring ({ frames := 2, cells := 0, slots := 0, locals := 42 })).room s m ([.ref (bd 0), .int (nI c0_), .int (nI q)] : List Value).toArray below meth c H locs 0 0 (MQ below (va_Qi (fun (r : Int32) (u : Int32) => ((xvb 16 (nI c0_) && xvb 16 (nI q)) = true ∧ u = nI 0 ∧ r = nI (xbr s0 q)) ∨ ((xvb 16 (nI c0_) && xvb 16 (nI q)) = false ∧ u = nI 1)) (fun u t => va_P G vwCl (xD T bd u M) t.heap) A) ([.ref (bd 0), .int (nI c0_), .int (nI q)] : List Value).toArray s 0 0 A) (F0 m 36 ls []) from LP1 17 0 (Nat.zero_le _) (by decide) _ _ hP hD hS ls (lv_sub hl [0, 1, 2, 3, 4] rfl)
      clear hP hD hS hl
      intro n1
      induction n1 with
      | zero => intro i hi hn H locs _ _ _ ls _; exfalso; omega
      | succ n1 ih1 =>
        intro i hi hn H locs hP hD hS ls hl
        have ht16 := xrt_lt hs0 i
        refine lv_iload hx hb dX4_bring_36 (lv_at hl 0 rfl) ?_
        refine lv_bipush (v := nI 16) hx hb dX4_bring_38 (by decide) ?_
        refine lv_icmp_gt (tgt := 138) hx hb dX4_bring_40 (by decide) (fun c_ => absurd c_ (nI_ngt (by omega) (by omega))) (fun _ => ?_)
        refine lv_iload_n hx hb dX4_bring_43 rfl (lv_at hl 1 rfl) ?_
        refine lv_iload_n hx hb dX4_bring_44 rfl (lv_at hl 4 rfl) ?_
        refine lv_ishr hx hb dX4_bring_45 ?_
        refine lv_iconst (v := nI 1) hx hb dX4_bring_46 (by decide) ?_
        refine lv_iand hx hb dX4_bring_47 ?_
        refine x_topi (y := nI (xrt s0 i / 2 ^ q % 2)) (x_bit1 (by omega) (by omega)) ?_
        refine lv_iconst (v := nI 1) hx hb dX4_bring_48 (by decide) ?_
        have hbi : (xrt s0 i).testBit q = decide (xrt s0 i / 2 ^ q % 2 = 1) := Nat.testBit_eq_decide_div_mod_eq
        by_cases hq1 : xrt s0 i / 2 ^ q % 2 = 1
        · have hbt : (xrt s0 i).testBit q = true := by rw [hbi]; exact decide_eq_true hq1
          have ei : i = xbr s0 q := by rcases Nat.lt_trichotomy i (xbr s0 q) with g | g | g; exact absurd (hbt.symm.trans (hb3 i g)) Bool.noConfusion; exact g; omega
          refine lv_icmp_ne (tgt := 55) hx hb dX4_bring_49 (by decide) (fun c_ => absurd (congrArg nI hq1) c_) (fun _ => ?_)
          refine lv_iload hx hb dX4_bring_52 (lv_at hl 0 rfl) ?_
          exact W.iret (v := nI i) hx hb hr (fun t9_ ht hW => ⟨⟨nI i, (nI 0), rfl, Or.inl ⟨hv12, rfl, congrArg nI ei⟩, x_at ht hP⟩, hS.F ht⟩) hS.2.2 dX4_bring_54
        · have hb0 := hbi.trans (decide_eq_false hq1)
          have hlt : i < xbr s0 q := by rcases Nat.lt_trichotomy i (xbr s0 q) with g | g | g; exact g; exact absurd (hb2.symm.trans (show (xrt s0 (xbr s0 q)).testBit q = false by rw [← g]; exact hb0)) Bool.noConfusion; omega
          refine lv_icmp_ne (tgt := 55) hx hb dX4_bring_49 (by decide) (fun _ => ?_) (fun c_ => absurd c_ (fun h => hq1 ((nI_eq (by omega) (by decide)).mp h)))
          refine lv_iload_n hx hb dX4_bring_55 rfl (lv_at hl 1 rfl) ?_
          refine x_topi (y := nI (xrt s0 i ||| xowi (xrt s0 i) 0)) (by rw [show xowi (xrt s0 i) 0 = 0 from rfl, Nat.or_zero]) ?_
          refine lv_istore (lv' := [(5, .int (nI (xrt s0 i ||| xowi (xrt s0 i) 0))), (4, .int (nI i)), (3, .int (nI (xrt s0 i))), (0, .ref (bd 0)), (1, .int (nI c0_)), (2, .int (nI q))]) hx hb dX4_bring_56 hl (by decide) rfl (fun ls hl => ?_)
          refine lv_iconst (v := nI 0) hx hb dX4_bring_58 (by decide) ?_
          refine lv_istore (lv' := [(6, .int (nI 0)), (5, .int (nI (xrt s0 i ||| xowi (xrt s0 i) 0))), (4, .int (nI i)), (3, .int (nI (xrt s0 i))), (0, .ref (bd 0)), (1, .int (nI c0_)), (2, .int (nI q))]) hx hb dX4_bring_59 hl (by decide) rfl (fun ls hl => ?_)
          suffices LP2 : ∀ (n2 : Nat) (j : Nat), (j ≤ 16) → (16 < j + n2) → ∀ (H : Heap) (locs : List Loc), va_P G vwCl (xD T bd (nI 0) M) H → va_D A (xD T bd (nI 0) M) → va_S A s.heap H locs → ∀ (ls : Array Slot), lv_has ls 7 [(6, .int (nI j)), (5, .int (nI (xrt s0 i ||| xowi (xrt s0 i) j))), (4, .int (nI i)), (3, .int (nI (xrt s0 i))), (0, .ref (bd 0)), (1, .int (nI c0_)), (2, .int (nI q))] → W p l e (headSpec wsX4_bring ({ frames := 2, cells := 0, slots := 0, locals := 42 })).room s m ([.ref (bd 0), .int (nI c0_), .int (nI q)] : List Value).toArray below meth c H locs 0 0 (MQ below (va_Qi (fun (r : Int32) (u : Int32) => ((xvb 16 (nI c0_) && xvb 16 (nI q)) = true ∧ u = nI 0 ∧ r = nI (xbr s0 q)) ∨ ((xvb 16 (nI c0_) && xvb 16 (nI q)) = false ∧ u = nI 1)) (fun u t => va_P G vwCl (xD T bd u M) t.heap) A) ([.ref (bd 0), .int (nI c0_), .int (nI q)] : List Value).toArray s 0 0 A) (F0 m 61 ls []) from LP2 17 0 (by decide) (by decide) _ _ hP hD hS ls (lv_sub hl [0, 1, 2, 3, 4, 5, 6] rfl)
          clear hP hD hS hl
          intro n2
          induction n2 with
          | zero => intro j hj hn2 H locs _ _ _ ls _; exfalso; omega
          | succ n2 ih2 =>
            intro j hj hn2 H locs hP hD hS ls hl
            refine lv_iload hx hb dX4_bring_61 (lv_at hl 0 rfl) ?_
            refine lv_bipush (v := nI 16) hx hb dX4_bring_63 (by decide) ?_
            by_cases hc : j < 16
            · refine lv_icmp_ge (tgt := 129) hx hb dX4_bring_65 (by decide) (fun c_ => absurd c_ (nI_ge hc (by decide))) (fun _ => ?_)
              refine lv_iload_n hx hb dX4_bring_68 rfl (lv_at hl 3 rfl) ?_
              refine lv_iload hx hb dX4_bring_69 (lv_at hl 0 rfl) ?_
              refine lv_ishr hx hb dX4_bring_71 ?_
              refine lv_iconst (v := nI 1) hx hb dX4_bring_72 (by decide) ?_
              refine lv_iand hx hb dX4_bring_73 ?_
              refine x_topi (y := nI (xrt s0 i / 2 ^ j % 2)) (x_bit1 (by omega) (by omega)) ?_
              refine lv_iconst (v := nI 1) hx hb dX4_bring_74 (by decide) ?_
              have hbj : (xrt s0 i).testBit j = decide (xrt s0 i / 2 ^ j % 2 = 1) := Nat.testBit_eq_decide_div_mod_eq
              by_cases hq2 : xrt s0 i / 2 ^ j % 2 = 1
              · refine lv_icmp_ne (tgt := 123) hx hb dX4_bring_75 (by decide) (fun c_ => absurd (congrArg nI hq2) c_) (fun _ => ?_)
                refine lv_iload hx hb dX4_bring_78 (lv_at hl 1 rfl) ?_
                have hx0 := (xway (k := 1) (n := 0) rfl hc).1
                refine lv_iconst (v := nI 1) hx hb dX4_bring_80 (by decide) ?_
                refine lv_iconst (v := nI 1) hx hb dX4_bring_81 (by decide) ?_
                refine lv_iconst (v := nI 0) hx hb dX4_bring_82 (by decide) ?_
                refine lv_iload hx hb dX4_bring_83 (lv_at hl 0 rfl) ?_
                refine x_calli (va_runS (As := [.int (nI 1), .int (nI 0), .int (nI j)]) (rest := [.int (nI 1), .int (nI (xrt s0 i ||| xowi (xrt s0 i) j))]) ⟨hx, hb, hml, hown, hts⟩ (c_X4_to l G T _ 1 0 j rfl hc) (va_cwS 3 hts gX4_bring_X4_to rfl rfl rfl (by decide +kernel) ⟨Nat.le_of_ble_eq_true rfl, Nat.le_of_ble_eq_true rfl⟩) (x_preS (wc := []) hK hP hD hS hA hXB hZ [] rfl rfl _) rfl rfl hl.1 rfl (lv_room (Nat.le_of_ble_eq_true rfl)) dX4_bring_85 ⟨Nat.le_of_ble_eq_true rfl, Nat.le_of_ble_eq_true rfl⟩) hP hD hS hA [] rfl (fun _ _ _ => rfl) (fun q0 u0 H locs hq_0 hP hD hS => ?_)
                have hP : va_P G vwCl (xD T bd (nI 0) M) H := hP
                have hD : va_D A (xD T bd (nI 0) M) := hD
                refine x_topi (y := nI (xpa 1 0 j)) (hq_0) ?_
                refine lv_ishl hx hb dX4_bring_88 ?_
                refine x_topi (y := nI (2 ^ xpa 1 0 j)) (show xso (nI (xpa 1 0 j)) = _ from xso_n (by omega)) ?_
                have hx1 := (xway (k := 2) (n := 0) rfl hc).1
                refine lv_iconst (v := nI 1) hx hb dX4_bring_89 (by decide) ?_
                refine lv_iconst (v := nI 2) hx hb dX4_bring_90 (by decide) ?_
                refine lv_iconst (v := nI 0) hx hb dX4_bring_91 (by decide) ?_
                refine lv_iload hx hb dX4_bring_92 (lv_at hl 0 rfl) ?_
                refine x_calli (va_runS (As := [.int (nI 2), .int (nI 0), .int (nI j)]) (rest := [.int (nI 1), .int (nI (2 ^ xpa 1 0 j)), .int (nI (xrt s0 i ||| xowi (xrt s0 i) j))]) ⟨hx, hb, hml, hown, hts⟩ (c_X4_to l G T _ 2 0 j rfl hc) (va_cwS 3 hts gX4_bring_X4_to rfl rfl rfl (by decide +kernel) ⟨Nat.le_of_ble_eq_true rfl, Nat.le_of_ble_eq_true rfl⟩) (x_preS (wc := []) hK hP hD hS hA hXB hZ [] rfl rfl _) rfl rfl hl.1 rfl (lv_room (Nat.le_of_ble_eq_true rfl)) dX4_bring_94 ⟨Nat.le_of_ble_eq_true rfl, Nat.le_of_ble_eq_true rfl⟩) hP hD hS hA [] rfl (fun _ _ _ => rfl) (fun q1 u1 H locs hq_1 hP hD hS => ?_)
                have hP : va_P G vwCl (xD T bd (nI 0) M) H := hP
                have hD : va_D A (xD T bd (nI 0) M) := hD
                refine x_topi (y := nI (xpa 2 0 j)) (hq_1) ?_
                refine lv_ishl hx hb dX4_bring_97 ?_
                refine x_topi (y := nI (2 ^ xpa 2 0 j)) (show xso (nI (xpa 2 0 j)) = _ from xso_n (by omega)) ?_
                refine lv_ior hx hb dX4_bring_98 ?_
                refine x_topi (y := nI (2 ^ xpa 1 0 j ||| 2 ^ xpa 2 0 j)) (x_or _ _) ?_
                have hx2 := (xway (k := 4) (n := 0) rfl hc).1
                refine lv_iconst (v := nI 1) hx hb dX4_bring_99 (by decide) ?_
                refine lv_iconst (v := nI 4) hx hb dX4_bring_100 (by decide) ?_
                refine lv_iconst (v := nI 0) hx hb dX4_bring_101 (by decide) ?_
                refine lv_iload hx hb dX4_bring_102 (lv_at hl 0 rfl) ?_
                refine x_calli (va_runS (As := [.int (nI 4), .int (nI 0), .int (nI j)]) (rest := [.int (nI 1), .int (nI (2 ^ xpa 1 0 j ||| 2 ^ xpa 2 0 j)), .int (nI (xrt s0 i ||| xowi (xrt s0 i) j))]) ⟨hx, hb, hml, hown, hts⟩ (c_X4_to l G T _ 4 0 j rfl hc) (va_cwS 3 hts gX4_bring_X4_to rfl rfl rfl (by decide +kernel) ⟨Nat.le_of_ble_eq_true rfl, Nat.le_of_ble_eq_true rfl⟩) (x_preS (wc := []) hK hP hD hS hA hXB hZ [] rfl rfl _) rfl rfl hl.1 rfl (lv_room (Nat.le_of_ble_eq_true rfl)) dX4_bring_104 ⟨Nat.le_of_ble_eq_true rfl, Nat.le_of_ble_eq_true rfl⟩) hP hD hS hA [] rfl (fun _ _ _ => rfl) (fun q2 u2 H locs hq_2 hP hD hS => ?_)
                have hP : va_P G vwCl (xD T bd (nI 0) M) H := hP
                have hD : va_D A (xD T bd (nI 0) M) := hD
                refine x_topi (y := nI (xpa 4 0 j)) (hq_2) ?_
                refine lv_ishl hx hb dX4_bring_107 ?_
                refine x_topi (y := nI (2 ^ xpa 4 0 j)) (show xso (nI (xpa 4 0 j)) = _ from xso_n (by omega)) ?_
                refine lv_ior hx hb dX4_bring_108 ?_
                refine x_topi (y := nI ((2 ^ xpa 1 0 j ||| 2 ^ xpa 2 0 j) ||| 2 ^ xpa 4 0 j)) (x_or _ _) ?_
                have hx3 := (xway (k := 3) (n := 8) rfl hc).1
                refine lv_iconst (v := nI 1) hx hb dX4_bring_109 (by decide) ?_
                refine lv_iconst (v := nI 3) hx hb dX4_bring_110 (by decide) ?_
                refine lv_bipush (v := nI 8) hx hb dX4_bring_111 (by decide) ?_
                refine lv_iload hx hb dX4_bring_113 (lv_at hl 0 rfl) ?_
                refine x_calli (va_runS (As := [.int (nI 3), .int (nI 8), .int (nI j)]) (rest := [.int (nI 1), .int (nI ((2 ^ xpa 1 0 j ||| 2 ^ xpa 2 0 j) ||| 2 ^ xpa 4 0 j)), .int (nI (xrt s0 i ||| xowi (xrt s0 i) j))]) ⟨hx, hb, hml, hown, hts⟩ (c_X4_to l G T _ 3 8 j rfl hc) (va_cwS 3 hts gX4_bring_X4_to rfl rfl rfl (by decide +kernel) ⟨Nat.le_of_ble_eq_true rfl, Nat.le_of_ble_eq_true rfl⟩) (x_preS (wc := []) hK hP hD hS hA hXB hZ [] rfl rfl _) rfl rfl hl.1 rfl (lv_room (Nat.le_of_ble_eq_true rfl)) dX4_bring_115 ⟨Nat.le_of_ble_eq_true rfl, Nat.le_of_ble_eq_true rfl⟩) hP hD hS hA [] rfl (fun _ _ _ => rfl) (fun q3 u3 H locs hq_3 hP hD hS => ?_)
                have hP : va_P G vwCl (xD T bd (nI 0) M) H := hP
                have hD : va_D A (xD T bd (nI 0) M) := hD
                refine x_topi (y := nI (xpa 3 8 j)) (hq_3) ?_
                refine lv_ishl hx hb dX4_bring_118 ?_
                refine x_topi (y := nI (2 ^ xpa 3 8 j)) (show xso (nI (xpa 3 8 j)) = _ from xso_n (by omega)) ?_
                refine lv_ior hx hb dX4_bring_119 ?_
                refine x_topi (y := nI (((2 ^ xpa 1 0 j ||| 2 ^ xpa 2 0 j) ||| 2 ^ xpa 4 0 j) ||| 2 ^ xpa 3 8 j)) (x_or _ _) ?_
                refine lv_ior hx hb dX4_bring_120 ?_
                refine x_topi (y := nI (xrt s0 i ||| xowi (xrt s0 i) (j + 1))) (by rw [x_or]; show _ = nI (_ ||| xow1 _ j _); unfold xow1; rw [hbj, decide_eq_true hq2, if_pos rfl]; simp only [Nat.or_assoc]) ?_
                refine lv_istore (lv' := [(5, .int (nI (xrt s0 i ||| xowi (xrt s0 i) (j + 1)))), (6, .int (nI j)), (4, .int (nI i)), (3, .int (nI (xrt s0 i))), (0, .ref (bd 0)), (1, .int (nI c0_)), (2, .int (nI q))]) hx hb dX4_bring_121 hl (by decide) rfl (fun ls hl => ?_)
                refine lv_iinc (v := nI (j + 1)) (lv' := [(6, .int (nI (j + 1))), (5, .int (nI (xrt s0 i ||| xowi (xrt s0 i) (j + 1)))), (4, .int (nI i)), (3, .int (nI (xrt s0 i))), (0, .ref (bd 0)), (1, .int (nI c0_)), (2, .int (nI q))]) hx hb dX4_bring_123 hl (k := 1) rfl (x_inc _) (by decide) rfl (fun ls hl => ?_)
                refine lv_goto (tgt := 61) hx hb dX4_bring_126 (by decide) ?_
                exact ih2 (j + 1) (by omega) (by omega) _ _ hP hD hS ls (lv_sub hl [0, 1, 2, 3, 4, 5, 6] rfl)
              · refine lv_icmp_ne (tgt := 123) hx hb dX4_bring_75 (by decide) (fun _ => ?_) (fun c_ => absurd c_ (fun h => hq2 ((nI_eq (by omega) (by decide)).mp h)))
                have e1 : (xrt s0 i ||| xowi (xrt s0 i) (j + 1)) = (xrt s0 i ||| xowi (xrt s0 i) j) := by show _ ||| xow1 _ j _ = _; unfold xow1; rw [hbj, decide_eq_false hq2]; rfl
                rw [← e1] at hl
                refine lv_iinc (v := nI (j + 1)) (lv' := [(6, .int (nI (j + 1))), (5, .int (nI (xrt s0 i ||| xowi (xrt s0 i) (j + 1)))), (4, .int (nI i)), (3, .int (nI (xrt s0 i))), (0, .ref (bd 0)), (1, .int (nI c0_)), (2, .int (nI q))]) hx hb dX4_bring_123 hl (k := 0) rfl (x_inc _) (by decide) rfl (fun ls hl => ?_)
                refine lv_goto (tgt := 61) hx hb dX4_bring_126 (by decide) ?_
                exact ih2 (j + 1) (by omega) (by omega) _ _ hP hD hS ls (lv_sub hl [0, 1, 2, 3, 4, 5, 6] rfl)
            · obtain rfl : j = 16 := by omega
              refine lv_icmp_ge (tgt := 129) hx hb dX4_bring_65 (by decide) (fun _ => ?_) (fun c_ => absurd (nI_le (by omega) (by omega)) c_)
              refine lv_iload hx hb dX4_bring_129 (lv_at hl 1 rfl) ?_
              refine lv_istore_n (lv' := [(3, .int (nI (xrt s0 i ||| xowi (xrt s0 i) 16))), (6, .int (nI 16)), (5, .int (nI (xrt s0 i ||| xowi (xrt s0 i) 16))), (4, .int (nI i)), (0, .ref (bd 0)), (1, .int (nI c0_)), (2, .int (nI q))]) hx hb dX4_bring_131 rfl hl (by decide) rfl (fun ls hl => ?_)
              refine lv_iinc (v := nI (i + 1)) (lv' := [(4, .int (nI (i + 1))), (3, .int (nI (xrt s0 i ||| xowi (xrt s0 i) 16))), (6, .int (nI 16)), (5, .int (nI (xrt s0 i ||| xowi (xrt s0 i) 16))), (0, .ref (bd 0)), (1, .int (nI c0_)), (2, .int (nI q))]) hx hb dX4_bring_132 hl (k := 3) rfl (x_inc _) (by decide) rfl (fun ls hl => ?_)
              refine lv_goto (tgt := 36) hx hb dX4_bring_135 (by decide) ?_
              exact ih1 (i + 1) (by omega) (by omega) _ _ hP hD hS ls (lv_sub hl [0, 1, 4, 5, 6] rfl)
    · refine lv_aload_n hx hb dX4_bring_19 rfl (lv_at hl 0 rfl) ?_
      refine lv_iconst (v := nI 1) hx hb dX4_bring_20 (by decide) ?_
      refine x_calliW (va_runV (As := [.int (nI 1)]) (rest := []) ⟨hx, hb, hml, hown, hts⟩ (c_X4_no l G T _ bd (nI 0) M (nI 1)) (cwV 1 hts gX4_bring_X4_no rfl rfl rfl (by decide +kernel) ⟨Nat.le_of_ble_eq_true rfl, Nat.le_of_ble_eq_true rfl⟩) (x_preVW (wc := (xD T bd (nI 0) M)) hK hP hD hS hA hXB hZ _ _ 0 4 rfl rfl) rfl rfl hl.1 rfl (lv_room (Nat.le_of_ble_eq_true rfl)) dX4_bring_21 ⟨Nat.le_of_ble_eq_true rfl, Nat.le_of_ble_eq_true rfl⟩) hP hD hS hA (fun _ _ _ => xd_self rfl hD) (fun r8 u8 H locs hw8 hP hD hS => ?_)
      have hP : va_P G vwCl (xD T bd (nI 1) M) H := hP
      have hD : va_D A (xD T bd (nI 1) M) := hD
      exact W.iret (v := r8) hx hb hr (fun t9_ ht hW => ⟨⟨r8, (nI 1), rfl, Or.inr ⟨by rw [hv1, xb_of_eq hw2 c1]; rfl, rfl⟩, x_at ht hP⟩, hS.F ht⟩) hS.2.2 dX4_bring_24
end XR7
