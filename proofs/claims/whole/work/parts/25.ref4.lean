section XR4
theorem xMr_self (M : XM) (k : Nat) : xMr M k (mth M k) = M := by
  have e : va_up (mth M) k (mth M k) = mth M := by
    funext j
    unfold va_up
    by_cases h : j = k
    · rw [if_pos h, h]
    · rw [if_neg h]
  unfold xMr
  rw [e]
theorem xD_rowr (T : Nat → ClassId) (bd : Nat → Nat) (thr : Int32) (M : XM) {k : Nat} (hk : k < 4) (g : Nat → Int32) : (xD T bd thr (xMr M k g))[8 + k]? = some (bd (8 + k), .inl (T 0, 16, .inl g)) := by
  rcases (show k = 0 ∨ k = 1 ∨ k = 2 ∨ k = 3 by omega) with rfl | rfl | rfl | rfl <;> rfl
theorem xD_setr (T : Nat → ClassId) (bd : Nat → Nat) (thr : Int32) (M : XM) {k : Nat} (hk : k < 4) (g f : Nat → Int32) : (xD T bd thr (xMr M k g)).set (8 + k) (bd (8 + k), .inl (T 0, 16, .inl f)) = xD T bd thr (xMr M k f) := by
  have e : va_up (va_up (mth M) k g) k f = va_up (mth M) k f := by
    funext j
    unfold va_up
    by_cases h : j = k
    · rw [if_pos h, if_pos h]
    · rw [if_neg h, if_neg h, if_neg h]
  rw [xD_set T bd thr _ hk]
  unfold xMr
  show xD T bd thr (xmk _ (va_up (va_up (mth M) k g) k f) _ _ _ _ _ _ _ _ _ _ _) = _
  rw [e]
theorem xright {x y : Int32} (h : x.toBitVec.toNat < 65536) (hy : ∃ c, c < 16 ∧ y = nI c) : ((x >>> (y &&& 31)) &&& nI 1) = nI 1 ↔ ¬ x &&& xso y = 0 := by
  obtain ⟨c, hc, rfl⟩ := hy
  rw [x_ofn x, x_bit1 (by omega) (by omega), xso_n (by omega), x_bit (by omega), nI_eq (by omega) (by decide), Nat.testBit_eq_decide_div_mod_eq]
  simp
theorem xboth {x y : Int32} (h : x.toBitVec.toNat < 65536) (hy : ∃ c, c < 16 ∧ y = nI c) : (¬ x &&& xso y = 0 ∧ xone x = true) ↔ x = xso y := by
  obtain ⟨c, hc, rfl⟩ := hy
  rw [xso_n (by omega), xone_iff h]
  constructor
  · rintro ⟨h1, d, hd, rfl⟩
    rw [x_bit (by omega), Nat.testBit_two_pow] at h1
    have : d = c := by simpa using h1
    rw [this]
  · rintro rfl
    refine ⟨?_, c, hc, rfl⟩
    rw [x_bit (by omega), Nat.testBit_two_pow_self]
    decide

set_option maxHeartbeats 4000000 in
set_option maxRecDepth 100000 in
/-- watch -/
theorem c_X4_watch (l : Launch) (G : va_G) (T : Nat → ClassId) (sz : Nat) (bd : Nat → Nat) (thr : Int32) (M : XM) (sh1 : Int32) (hs1 : sh1 = nI 0 ∨ sh1 = nI 1) (hn4 : mnw M ≤ 4) : Met l yX4_watch wsX4_watch ({ frames := 1, cells := 0, slots := 0, locals := 21 }) (va_Pc [.ref (bd 0), .int sh1] (xPre G T (xD T bd thr M) sz)) (va_Qi (fun (r : Int32) (u : Int32) => (mnw M < 4 ∧ u = nI 0 ∧ r = nI (mnw M)) ∨ (mnw M = 4 ∧ u = nI 1)) (fun u t => va_P G vwCl (xD T bd u (if mnw M < 4 then (xmk (mpk M) (va_up (mth M) (mnw M) (fun _ => nI 65535)) (upd (msh M) (mnw M) sh1) (man M) (mgl M) (mhb M) (mtk M) (mnw M + 1) (mnp M) (mle M) (mwy M) (mfc M) (mta M)) else M)) t.heap) (va_A (xD T bd thr M) sz)) 0 0 (va_A (xD T bd thr M) sz) := by
  refine Met.ofW (cc := cX4_watch) (maxL := 3) (ret := (some .int)) (by decide +kernel) rfl ?_
  intro p e s m args below meth c s₁ B hml hv
  obtain ⟨rfl, hsz, hP, hK, hD0, hXB, hZ⟩ := hv
  have hx := B.exec
  have hb := B.bytes
  have hr := B.returns
  have hts := atoms_spec (ws := wsX4_watch) B.pre
  have hown : s.vm.findClass RX4 = some m.cls := findClass_of_methodNamed B.named
  have hlocks := B.notSynchronized
  subst hsz
  have hD := hD0.self (sz := s.heap.size)
  generalize hAe : va_A (xD T bd thr M) s.heap.size = A at hD hZ ⊢
  have hA : ∀ q : Nat, s.heap.size ≤ q → A q := fun q h => by rw [← hAe]; exact Or.inr h
  have hS : va_S A s.heap s.heap [] := va_S.rf
  have hP : va_P G vwCl (xD T bd thr M) s.heap := hP
  have hiX4 : ∀ w ∈ u_ws RX4 TX4 14, w ∈ wsX4_watch := by decide +kernel
  have hl := lv_entry ([.ref (bd 0), .int sh1]) (n := 3) (Nat.le_of_ble_eq_true rfl)
  rw [lg_entry_eq]
  generalize (lg_sl ([.ref (bd 0), .int sh1]) ++ List.replicate (3 - (lg_sl ([.ref (bd 0), .int sh1])).length) Slot.unset).toArray = ls at hl ⊢
  have hl : lv_has ls 3 [(0, .ref (bd 0)), (1, .int sh1)] := hl
  refine lv_aload_n hx hb dX4_watch_0 rfl (lv_at hl 0 rfl) ?_
  refine lv_iconst (v := nI 0) hx hb dX4_watch_1 (by decide) ?_
  refine va_put (D := G) (ci := 4) (v := .int (nI 0)) (ty := .int) (C := RX4) (T := TX4) (N := 14) hx hb hts hiX4 tyX4 tyX4_ok nmX4 hown hK hP hD hS 0 rfl rfl 0 (by decide) (hts (.fieldLink RX4 33 "CardFansModel" "thrown" "I") (by decide +kernel)) (fun _ h9 => h9) rfl (by decide +kernel) rfl rfl (Nat.le_of_ble_eq_true rfl) dX4_watch_2 (fun H locs hP hD hS => ?_)
  have hP : va_P G vwCl (xD T bd (nI 0) M) H := hP
  have hD : va_D A (xD T bd (nI 0) M) := hD
  refine lv_aload_n hx hb dX4_watch_5 rfl (lv_at hl 0 rfl) ?_
  refine va_get (D := G) (ci := 4) (v := .int (nI (mnw M))) (C := RX4) (T := TX4) (N := 14) hx hb hts hiX4 hown hK hP 0 rfl rfl 2 (by decide) (hts (.fieldLink RX4 41 "CardFansModel" "watchers" "I") (by decide +kernel)) (fun _ h9 => h9) rfl dX4_watch_6 ?_
  refine lv_iconst (v := nI 4) hx hb dX4_watch_9 (by decide) ?_
  refine lv_icmp_ne (tgt := 19) hx hb dX4_watch_10 (by decide) (fun c0 => ?_) (fun c0 => ?_)
  · have h4 : mnw M < 4 := by rcases Nat.lt_or_ge (mnw M) 4 with q | q; exact q; exact absurd (by rw [show mnw M = 4 by omega]) c0
    rw [if_pos h4]
    refine lv_aload_n hx hb dX4_watch_19 rfl (lv_at hl 0 rfl) ?_
    refine va_get (D := G) (ci := 4) (v := .ref (bd 2)) (C := RX4) (T := TX4) (N := 14) hx hb hts hiX4 hown hK hP 0 rfl rfl 3 (by decide) (hts (.fieldLink RX4 13 "CardFansModel" "isSharp" "[I") (by decide +kernel)) (fun _ h9 => h9) rfl dX4_watch_20 ?_
    refine lv_aload_n hx hb dX4_watch_23 rfl (lv_at hl 0 rfl) ?_
    refine va_get (D := G) (ci := 4) (v := .int (nI (mnw M))) (C := RX4) (T := TX4) (N := 14) hx hb hts hiX4 hown hK hP 0 rfl rfl 2 (by decide) (hts (.fieldLink RX4 41 "CardFansModel" "watchers" "I") (by decide +kernel)) (fun _ h9 => h9) rfl dX4_watch_24 ?_
    refine lv_iload_n hx hb dX4_watch_27 rfl (lv_at hl 1 rfl) ?_
    refine lv_if_eq (tgt := 35) hx hb dX4_watch_28 (by decide) (fun c1 => ?_) (fun c1 => ?_)
    · refine lv_iconst (v := nI 0) hx hb dX4_watch_35 (by decide) ?_
      refine x_topi (y := sh1) (c1.symm) ?_
      refine x_iast hx hb hK hP hD hS 2 0 (f := (msh M)) (n := 4) rfl rfl h4 (by decide) dX4_watch_36 (fun H locs hP hD hS => ?_)
      have hP : va_P G vwCl (xD T bd (nI 0) (xmk (mpk M) (mth M) (upd (msh M) (mnw M) sh1) (man M) (mgl M) (mhb M) (mtk M) (mnw M) (mnp M) (mle M) (mwy M) (mfc M) (mta M))) H := hP
      have hD : va_D A (xD T bd (nI 0) (xmk (mpk M) (mth M) (upd (msh M) (mnw M) sh1) (man M) (mgl M) (mhb M) (mtk M) (mnw M) (mnp M) (mle M) (mwy M) (mfc M) (mta M))) := hD
      refine lv_iconst (v := nI 0) hx hb dX4_watch_37 (by decide) ?_
      refine lv_istore_n (lv' := [(2, .int (nI 0)), (0, .ref (bd 0)), (1, .int sh1)]) hx hb dX4_watch_38 rfl hl (by decide) rfl (fun ls hl => ?_)
      have eM : xMr (xmk (mpk M) (mth M) (upd (msh M) (mnw M) sh1) (man M) (mgl M) (mhb M) (mtk M) (mnw M) (mnp M) (mle M) (mwy M) (mfc M) (mta M)) (mnw M) (mth M (mnw M)) = (xmk (mpk M) (mth M) (upd (msh M) (mnw M) sh1) (man M) (mgl M) (mhb M) (mtk M) (mnw M) (mnp M) (mle M) (mwy M) (mfc M) (mta M)) := xMr_self (xmk (mpk M) (mth M) (upd (msh M) (mnw M) sh1) (man M) (mgl M) (mhb M) (mtk M) (mnw M) (mnp M) (mle M) (mwy M) (mfc M) (mta M)) (mnw M)
      have hP : va_P G vwCl (xD T bd (nI 0) (xMr (xmk (mpk M) (mth M) (upd (msh M) (mnw M) sh1) (man M) (mgl M) (mhb M) (mtk M) (mnw M) (mnp M) (mle M) (mwy M) (mfc M) (mta M)) (mnw M) (mth M (mnw M)))) H := by rw [eM]; exact hP
      have hD : va_D A (xD T bd (nI 0) (xMr (xmk (mpk M) (mth M) (upd (msh M) (mnw M) sh1) (man M) (mgl M) (mhb M) (mtk M) (mnw M) (mnp M) (mle M) (mwy M) (mfc M) (mta M)) (mnw M) (mth M (mnw M)))) := by rw [eM]; exact hD
      suffices LP1 : ∀ (n1 : Nat) (i : Nat) (g : Nat → Int32), (i ≤ 16) → (16 < i + n1) → (∀ j, j < i → g j = nI 65535) → ∀ (H : Heap) (locs : List Loc), va_P G vwCl (xD T bd (nI 0) (xMr (xmk (mpk M) (mth M) (upd (msh M) (mnw M) sh1) (man M) (mgl M) (mhb M) (mtk M) (mnw M) (mnp M) (mle M) (mwy M) (mfc M) (mta M)) (mnw M) g)) H → va_D A (xD T bd (nI 0) (xMr (xmk (mpk M) (mth M) (upd (msh M) (mnw M) sh1) (man M) (mgl M) (mhb M) (mtk M) (mnw M) (mnp M) (mle M) (mwy M) (mfc M) (mta M)) (mnw M) g)) → va_S A s.heap H locs → ∀ (ls : Array Slot), lv_has ls 3 [(2, .int (nI i)), (0, .ref (bd 0)), (1, .int sh1)] → W p l e (headSpec wsX4_watch ({ frames := 1, cells := 0, slots := 0, locals := 21 })).room s m ([.ref (bd 0), .int sh1] : List Value).toArray below meth c H locs 0 0 (MQ below (va_Qi (fun (r : Int32) (u : Int32) => (mnw M < 4 ∧ u = nI 0 ∧ r = nI (mnw M)) ∨ (mnw M = 4 ∧ u = nI 1)) (fun u t => va_P G vwCl (xD T bd u ((xmk (mpk M) (va_up (mth M) (mnw M) (fun _ => nI 65535)) (upd (msh M) (mnw M) sh1) (man M) (mgl M) (mhb M) (mtk M) (mnw M + 1) (mnp M) (mle M) (mwy M) (mfc M) (mta M)))) t.heap) A) ([.ref (bd 0), .int sh1] : List Value).toArray s 0 0 A) (F0 m 39 ls []) from LP1 17 0 _ (by decide) (by decide) (fun j h => absurd h (Nat.not_lt_zero _)) _ _ hP hD hS ls (lv_sub hl [0, 1, 2] rfl)
      clear hP hD hS hl
      intro n1
      induction n1 with
      | zero => intro i g hi hn hf H locs _ _ _ ls _; exfalso; omega
      | succ n1 ih1 =>
        intro i g hi hn hf H locs hP hD hS ls hl
        refine lv_iload_n hx hb dX4_watch_39 rfl (lv_at hl 0 rfl) ?_
        refine lv_bipush (v := nI 16) hx hb dX4_watch_40 (by decide) ?_
        by_cases hc : i < 16
        · refine lv_icmp_ge (tgt := 64) hx hb dX4_watch_42 (by decide) (fun c_ => absurd c_ (nI_ge hc (by decide))) (fun _ => ?_)
          refine lv_aload_n hx hb dX4_watch_45 rfl (lv_at hl 1 rfl) ?_
          refine va_get (D := G) (ci := 4) (v := .ref (bd 3)) (C := RX4) (T := TX4) (N := 14) hx hb hts hiX4 hown hK hP 0 rfl rfl 4 (by decide) (hts (.fieldLink RX4 18 "CardFansModel" "thinks" "[[I") (by decide +kernel)) (fun _ h9 => h9) rfl dX4_watch_46 ?_
          refine lv_aload_n hx hb dX4_watch_49 rfl (lv_at hl 1 rfl) ?_
          refine va_get (D := G) (ci := 4) (v := .int (nI (mnw (xMr (xmk (mpk M) (mth M) (upd (msh M) (mnw M) sh1) (man M) (mgl M) (mhb M) (mtk M) (mnw M) (mnp M) (mle M) (mwy M) (mfc M) (mta M)) (mnw M) g)))) (C := RX4) (T := TX4) (N := 14) hx hb hts hiX4 hown hK hP 0 rfl rfl 2 (by decide) (hts (.fieldLink RX4 41 "CardFansModel" "watchers" "I") (by decide +kernel)) (fun _ h9 => h9) rfl dX4_watch_50 ?_
          refine x_topi (y := nI (mnw M)) (rfl) ?_
          refine x_aaldA hx hb hK hP 3 3 rfl rfl h4 (by decide) dX4_watch_53 (v := .ref (bd (8 + mnw M))) (by show va_rf (if mnw M < 4 then _ else _) = _; rw [if_pos h4]; rfl) ?_
          refine lv_iload_n hx hb dX4_watch_54 rfl (lv_at hl 0 rfl) ?_
          refine lv_ldc (v := nI 65535) hx hb hown (hts (.constant RX4 84 (65535)) (by decide +kernel)) dX4_watch_55 ?_
          refine x_iast hx hb hK hP hD hS (8 + (mnw M)) 0 (f := g) (n := 16) (xD_rowr T bd (nI 0) (xmk (mpk M) (mth M) (upd (msh M) (mnw M) sh1) (man M) (mgl M) (mhb M) (mtk M) (mnw M) (mnp M) (mle M) (mwy M) (mfc M) (mta M)) h4 _) rfl hc (by decide) dX4_watch_57 (fun H locs hP hD hS => ?_)
          rw [xD_setr T bd (nI 0) (xmk (mpk M) (mth M) (upd (msh M) (mnw M) sh1) (man M) (mgl M) (mhb M) (mtk M) (mnw M) (mnp M) (mle M) (mwy M) (mfc M) (mta M)) h4] at hP hD
          have hP : va_P G vwCl (xD T bd (nI 0) (xMr (xmk (mpk M) (mth M) (upd (msh M) (mnw M) sh1) (man M) (mgl M) (mhb M) (mtk M) (mnw M) (mnp M) (mle M) (mwy M) (mfc M) (mta M)) (mnw M) (upd g i (nI 65535)))) H := hP
          have hD : va_D A (xD T bd (nI 0) (xMr (xmk (mpk M) (mth M) (upd (msh M) (mnw M) sh1) (man M) (mgl M) (mhb M) (mtk M) (mnw M) (mnp M) (mle M) (mwy M) (mfc M) (mta M)) (mnw M) (upd g i (nI 65535)))) := hD
          refine lv_iinc (v := nI (i + 1)) (lv' := [(2, .int (nI (i + 1))), (0, .ref (bd 0)), (1, .int sh1)]) hx hb dX4_watch_58 hl (k := 0) rfl (x_inc _) (by decide) rfl (fun ls hl => ?_)
          refine lv_goto (tgt := 39) hx hb dX4_watch_61 (by decide) ?_
          exact ih1 (i + 1) _ (by omega) (by omega) (fun j hj => by by_cases e : j = i; rw [e]; exact pk_us; rw [pk_un e]; exact hf j (by omega)) _ _ hP hD hS ls (lv_sub hl [0, 1, 2] rfl)
        · refine lv_icmp_ge (tgt := 64) hx hb dX4_watch_42 (by decide) (fun _ => ?_) (fun c_ => absurd (nI_le (by omega) (by omega)) c_)
          have hP := x_can hP (8 + (mnw M)) (g := (fun _ => nI 65535)) (xD_rowr T bd (nI 0) (xmk (mpk M) (mth M) (upd (msh M) (mnw M) sh1) (man M) (mgl M) (mhb M) (mtk M) (mnw M) (mnp M) (mle M) (mwy M) (mfc M) (mta M)) h4 _) (fun j hj => hf j (by omega))
          have hD := xd_set hD (8 + (mnw M)) (e := .inl (T 0, 16, .inl (fun _ => nI 65535))) (xD_rowr T bd (nI 0) (xmk (mpk M) (mth M) (upd (msh M) (mnw M) sh1) (man M) (mgl M) (mhb M) (mtk M) (mnw M) (mnp M) (mle M) (mwy M) (mfc M) (mta M)) h4 _)
          rw [xD_setr T bd (nI 0) (xmk (mpk M) (mth M) (upd (msh M) (mnw M) sh1) (man M) (mgl M) (mhb M) (mtk M) (mnw M) (mnp M) (mle M) (mwy M) (mfc M) (mta M)) h4] at hP hD
          have hP : va_P G vwCl (xD T bd (nI 0) (xMr (xmk (mpk M) (mth M) (upd (msh M) (mnw M) sh1) (man M) (mgl M) (mhb M) (mtk M) (mnw M) (mnp M) (mle M) (mwy M) (mfc M) (mta M)) (mnw M) (fun _ => nI 65535))) _ := hP
          have hD : va_D A (xD T bd (nI 0) (xMr (xmk (mpk M) (mth M) (upd (msh M) (mnw M) sh1) (man M) (mgl M) (mhb M) (mtk M) (mnw M) (mnp M) (mle M) (mwy M) (mfc M) (mta M)) (mnw M) (fun _ => nI 65535))) := hD
          refine lv_aload_n hx hb dX4_watch_64 rfl (lv_at hl 1 rfl) ?_
          refine lv_dup hx hb dX4_watch_65 rfl ?_
          refine va_get (D := G) (ci := 4) (v := .int (nI (mnw (xMr (xmk (mpk M) (mth M) (upd (msh M) (mnw M) sh1) (man M) (mgl M) (mhb M) (mtk M) (mnw M) (mnp M) (mle M) (mwy M) (mfc M) (mta M)) (mnw M) (fun _ => nI 65535))))) (C := RX4) (T := TX4) (N := 14) hx hb hts hiX4 hown hK hP 0 rfl rfl 2 (by decide) (hts (.fieldLink RX4 41 "CardFansModel" "watchers" "I") (by decide +kernel)) (fun _ h9 => h9) rfl dX4_watch_66 ?_
          refine lv_iconst (v := nI 1) hx hb dX4_watch_69 (by decide) ?_
          refine lv_iadd hx hb dX4_watch_70 ?_
          refine x_topi (y := nI (mnw M + 1)) (nI_add _ _) ?_
          refine va_put (D := G) (ci := 4) (v := .int (nI (mnw M + 1))) (ty := .int) (C := RX4) (T := TX4) (N := 14) hx hb hts hiX4 tyX4 tyX4_ok nmX4 hown hK hP hD hS 0 rfl rfl 2 (by decide) (hts (.fieldLink RX4 41 "CardFansModel" "watchers" "I") (by decide +kernel)) (fun _ h9 => h9) rfl (by decide +kernel) rfl rfl (Nat.le_of_ble_eq_true rfl) dX4_watch_71 (fun H locs hP hD hS => ?_)
          have hP : va_P G vwCl (xD T bd (nI 0) (xmk (mpk M) (va_up (mth M) (mnw M) (fun _ => nI 65535)) (upd (msh M) (mnw M) sh1) (man M) (mgl M) (mhb M) (mtk M) (mnw M + 1) (mnp M) (mle M) (mwy M) (mfc M) (mta M))) H := hP
          have hD : va_D A (xD T bd (nI 0) (xmk (mpk M) (va_up (mth M) (mnw M) (fun _ => nI 65535)) (upd (msh M) (mnw M) sh1) (man M) (mgl M) (mhb M) (mtk M) (mnw M + 1) (mnp M) (mle M) (mwy M) (mfc M) (mta M))) := hD
          refine lv_aload_n hx hb dX4_watch_74 rfl (lv_at hl 1 rfl) ?_
          refine va_get (D := G) (ci := 4) (v := .int (nI (mnw (xmk (mpk M) (va_up (mth M) (mnw M) (fun _ => nI 65535)) (upd (msh M) (mnw M) sh1) (man M) (mgl M) (mhb M) (mtk M) (mnw M + 1) (mnp M) (mle M) (mwy M) (mfc M) (mta M))))) (C := RX4) (T := TX4) (N := 14) hx hb hts hiX4 hown hK hP 0 rfl rfl 2 (by decide) (hts (.fieldLink RX4 41 "CardFansModel" "watchers" "I") (by decide +kernel)) (fun _ h9 => h9) rfl dX4_watch_75 ?_
          refine lv_iconst (v := nI 1) hx hb dX4_watch_78 (by decide) ?_
          refine lv_isub hx hb dX4_watch_79 ?_
          refine x_topi (y := nI (mnw M)) (pk_sub (a := mnw M + 1) (b := 1) (by omega)) ?_
          exact W.iret (v := nI (mnw M)) hx hb hr (fun t9_ ht hW => ⟨⟨nI (mnw M), (nI 0), rfl, Or.inl ⟨h4, rfl, rfl⟩, x_at ht hP⟩, hS.F ht⟩) hS.2.2 dX4_watch_80
    · refine lv_iconst (v := nI 1) hx hb dX4_watch_31 (by decide) ?_
      refine lv_goto (tgt := 36) hx hb dX4_watch_32 (by decide) ?_
      refine x_topi (y := sh1) (by rcases hs1 with h | h; exact absurd h c1; exact h.symm) ?_
      refine x_iast hx hb hK hP hD hS 2 0 (f := (msh M)) (n := 4) rfl rfl h4 (by decide) dX4_watch_36 (fun H locs hP hD hS => ?_)
      have hP : va_P G vwCl (xD T bd (nI 0) (xmk (mpk M) (mth M) (upd (msh M) (mnw M) sh1) (man M) (mgl M) (mhb M) (mtk M) (mnw M) (mnp M) (mle M) (mwy M) (mfc M) (mta M))) H := hP
      have hD : va_D A (xD T bd (nI 0) (xmk (mpk M) (mth M) (upd (msh M) (mnw M) sh1) (man M) (mgl M) (mhb M) (mtk M) (mnw M) (mnp M) (mle M) (mwy M) (mfc M) (mta M))) := hD
      refine lv_iconst (v := nI 0) hx hb dX4_watch_37 (by decide) ?_
      refine lv_istore_n (lv' := [(2, .int (nI 0)), (0, .ref (bd 0)), (1, .int sh1)]) hx hb dX4_watch_38 rfl hl (by decide) rfl (fun ls hl => ?_)
      have eM : xMr (xmk (mpk M) (mth M) (upd (msh M) (mnw M) sh1) (man M) (mgl M) (mhb M) (mtk M) (mnw M) (mnp M) (mle M) (mwy M) (mfc M) (mta M)) (mnw M) (mth M (mnw M)) = (xmk (mpk M) (mth M) (upd (msh M) (mnw M) sh1) (man M) (mgl M) (mhb M) (mtk M) (mnw M) (mnp M) (mle M) (mwy M) (mfc M) (mta M)) := xMr_self (xmk (mpk M) (mth M) (upd (msh M) (mnw M) sh1) (man M) (mgl M) (mhb M) (mtk M) (mnw M) (mnp M) (mle M) (mwy M) (mfc M) (mta M)) (mnw M)
      have hP : va_P G vwCl (xD T bd (nI 0) (xMr (xmk (mpk M) (mth M) (upd (msh M) (mnw M) sh1) (man M) (mgl M) (mhb M) (mtk M) (mnw M) (mnp M) (mle M) (mwy M) (mfc M) (mta M)) (mnw M) (mth M (mnw M)))) H := by rw [eM]; exact hP
      have hD : va_D A (xD T bd (nI 0) (xMr (xmk (mpk M) (mth M) (upd (msh M) (mnw M) sh1) (man M) (mgl M) (mhb M) (mtk M) (mnw M) (mnp M) (mle M) (mwy M) (mfc M) (mta M)) (mnw M) (mth M (mnw M)))) := by rw [eM]; exact hD
      suffices LP1 : ∀ (n1 : Nat) (i : Nat) (g : Nat → Int32), (i ≤ 16) → (16 < i + n1) → (∀ j, j < i → g j = nI 65535) → ∀ (H : Heap) (locs : List Loc), va_P G vwCl (xD T bd (nI 0) (xMr (xmk (mpk M) (mth M) (upd (msh M) (mnw M) sh1) (man M) (mgl M) (mhb M) (mtk M) (mnw M) (mnp M) (mle M) (mwy M) (mfc M) (mta M)) (mnw M) g)) H → va_D A (xD T bd (nI 0) (xMr (xmk (mpk M) (mth M) (upd (msh M) (mnw M) sh1) (man M) (mgl M) (mhb M) (mtk M) (mnw M) (mnp M) (mle M) (mwy M) (mfc M) (mta M)) (mnw M) g)) → va_S A s.heap H locs → ∀ (ls : Array Slot), lv_has ls 3 [(2, .int (nI i)), (0, .ref (bd 0)), (1, .int sh1)] → W p l e (headSpec wsX4_watch ({ frames := 1, cells := 0, slots := 0, locals := 21 })).room s m ([.ref (bd 0), .int sh1] : List Value).toArray below meth c H locs 0 0 (MQ below (va_Qi (fun (r : Int32) (u : Int32) => (mnw M < 4 ∧ u = nI 0 ∧ r = nI (mnw M)) ∨ (mnw M = 4 ∧ u = nI 1)) (fun u t => va_P G vwCl (xD T bd u ((xmk (mpk M) (va_up (mth M) (mnw M) (fun _ => nI 65535)) (upd (msh M) (mnw M) sh1) (man M) (mgl M) (mhb M) (mtk M) (mnw M + 1) (mnp M) (mle M) (mwy M) (mfc M) (mta M)))) t.heap) A) ([.ref (bd 0), .int sh1] : List Value).toArray s 0 0 A) (F0 m 39 ls []) from LP1 17 0 _ (by decide) (by decide) (fun j h => absurd h (Nat.not_lt_zero _)) _ _ hP hD hS ls (lv_sub hl [0, 1, 2] rfl)
      clear hP hD hS hl
      intro n1
      induction n1 with
      | zero => intro i g hi hn hf H locs _ _ _ ls _; exfalso; omega
      | succ n1 ih1 =>
        intro i g hi hn hf H locs hP hD hS ls hl
        refine lv_iload_n hx hb dX4_watch_39 rfl (lv_at hl 0 rfl) ?_
        refine lv_bipush (v := nI 16) hx hb dX4_watch_40 (by decide) ?_
        by_cases hc : i < 16
        · refine lv_icmp_ge (tgt := 64) hx hb dX4_watch_42 (by decide) (fun c_ => absurd c_ (nI_ge hc (by decide))) (fun _ => ?_)
          refine lv_aload_n hx hb dX4_watch_45 rfl (lv_at hl 1 rfl) ?_
          refine va_get (D := G) (ci := 4) (v := .ref (bd 3)) (C := RX4) (T := TX4) (N := 14) hx hb hts hiX4 hown hK hP 0 rfl rfl 4 (by decide) (hts (.fieldLink RX4 18 "CardFansModel" "thinks" "[[I") (by decide +kernel)) (fun _ h9 => h9) rfl dX4_watch_46 ?_
          refine lv_aload_n hx hb dX4_watch_49 rfl (lv_at hl 1 rfl) ?_
          refine va_get (D := G) (ci := 4) (v := .int (nI (mnw (xMr (xmk (mpk M) (mth M) (upd (msh M) (mnw M) sh1) (man M) (mgl M) (mhb M) (mtk M) (mnw M) (mnp M) (mle M) (mwy M) (mfc M) (mta M)) (mnw M) g)))) (C := RX4) (T := TX4) (N := 14) hx hb hts hiX4 hown hK hP 0 rfl rfl 2 (by decide) (hts (.fieldLink RX4 41 "CardFansModel" "watchers" "I") (by decide +kernel)) (fun _ h9 => h9) rfl dX4_watch_50 ?_
          refine x_topi (y := nI (mnw M)) (rfl) ?_
          refine x_aaldA hx hb hK hP 3 3 rfl rfl h4 (by decide) dX4_watch_53 (v := .ref (bd (8 + mnw M))) (by show va_rf (if mnw M < 4 then _ else _) = _; rw [if_pos h4]; rfl) ?_
          refine lv_iload_n hx hb dX4_watch_54 rfl (lv_at hl 0 rfl) ?_
          refine lv_ldc (v := nI 65535) hx hb hown (hts (.constant RX4 84 (65535)) (by decide +kernel)) dX4_watch_55 ?_
          refine x_iast hx hb hK hP hD hS (8 + (mnw M)) 0 (f := g) (n := 16) (xD_rowr T bd (nI 0) (xmk (mpk M) (mth M) (upd (msh M) (mnw M) sh1) (man M) (mgl M) (mhb M) (mtk M) (mnw M) (mnp M) (mle M) (mwy M) (mfc M) (mta M)) h4 _) rfl hc (by decide) dX4_watch_57 (fun H locs hP hD hS => ?_)
          rw [xD_setr T bd (nI 0) (xmk (mpk M) (mth M) (upd (msh M) (mnw M) sh1) (man M) (mgl M) (mhb M) (mtk M) (mnw M) (mnp M) (mle M) (mwy M) (mfc M) (mta M)) h4] at hP hD
          have hP : va_P G vwCl (xD T bd (nI 0) (xMr (xmk (mpk M) (mth M) (upd (msh M) (mnw M) sh1) (man M) (mgl M) (mhb M) (mtk M) (mnw M) (mnp M) (mle M) (mwy M) (mfc M) (mta M)) (mnw M) (upd g i (nI 65535)))) H := hP
          have hD : va_D A (xD T bd (nI 0) (xMr (xmk (mpk M) (mth M) (upd (msh M) (mnw M) sh1) (man M) (mgl M) (mhb M) (mtk M) (mnw M) (mnp M) (mle M) (mwy M) (mfc M) (mta M)) (mnw M) (upd g i (nI 65535)))) := hD
          refine lv_iinc (v := nI (i + 1)) (lv' := [(2, .int (nI (i + 1))), (0, .ref (bd 0)), (1, .int sh1)]) hx hb dX4_watch_58 hl (k := 0) rfl (x_inc _) (by decide) rfl (fun ls hl => ?_)
          refine lv_goto (tgt := 39) hx hb dX4_watch_61 (by decide) ?_
          exact ih1 (i + 1) _ (by omega) (by omega) (fun j hj => by by_cases e : j = i; rw [e]; exact pk_us; rw [pk_un e]; exact hf j (by omega)) _ _ hP hD hS ls (lv_sub hl [0, 1, 2] rfl)
        · refine lv_icmp_ge (tgt := 64) hx hb dX4_watch_42 (by decide) (fun _ => ?_) (fun c_ => absurd (nI_le (by omega) (by omega)) c_)
          have hP := x_can hP (8 + (mnw M)) (g := (fun _ => nI 65535)) (xD_rowr T bd (nI 0) (xmk (mpk M) (mth M) (upd (msh M) (mnw M) sh1) (man M) (mgl M) (mhb M) (mtk M) (mnw M) (mnp M) (mle M) (mwy M) (mfc M) (mta M)) h4 _) (fun j hj => hf j (by omega))
          have hD := xd_set hD (8 + (mnw M)) (e := .inl (T 0, 16, .inl (fun _ => nI 65535))) (xD_rowr T bd (nI 0) (xmk (mpk M) (mth M) (upd (msh M) (mnw M) sh1) (man M) (mgl M) (mhb M) (mtk M) (mnw M) (mnp M) (mle M) (mwy M) (mfc M) (mta M)) h4 _)
          rw [xD_setr T bd (nI 0) (xmk (mpk M) (mth M) (upd (msh M) (mnw M) sh1) (man M) (mgl M) (mhb M) (mtk M) (mnw M) (mnp M) (mle M) (mwy M) (mfc M) (mta M)) h4] at hP hD
          have hP : va_P G vwCl (xD T bd (nI 0) (xMr (xmk (mpk M) (mth M) (upd (msh M) (mnw M) sh1) (man M) (mgl M) (mhb M) (mtk M) (mnw M) (mnp M) (mle M) (mwy M) (mfc M) (mta M)) (mnw M) (fun _ => nI 65535))) _ := hP
          have hD : va_D A (xD T bd (nI 0) (xMr (xmk (mpk M) (mth M) (upd (msh M) (mnw M) sh1) (man M) (mgl M) (mhb M) (mtk M) (mnw M) (mnp M) (mle M) (mwy M) (mfc M) (mta M)) (mnw M) (fun _ => nI 65535))) := hD
          refine lv_aload_n hx hb dX4_watch_64 rfl (lv_at hl 1 rfl) ?_
          refine lv_dup hx hb dX4_watch_65 rfl ?_
          refine va_get (D := G) (ci := 4) (v := .int (nI (mnw (xMr (xmk (mpk M) (mth M) (upd (msh M) (mnw M) sh1) (man M) (mgl M) (mhb M) (mtk M) (mnw M) (mnp M) (mle M) (mwy M) (mfc M) (mta M)) (mnw M) (fun _ => nI 65535))))) (C := RX4) (T := TX4) (N := 14) hx hb hts hiX4 hown hK hP 0 rfl rfl 2 (by decide) (hts (.fieldLink RX4 41 "CardFansModel" "watchers" "I") (by decide +kernel)) (fun _ h9 => h9) rfl dX4_watch_66 ?_
          refine lv_iconst (v := nI 1) hx hb dX4_watch_69 (by decide) ?_
          refine lv_iadd hx hb dX4_watch_70 ?_
          refine x_topi (y := nI (mnw M + 1)) (nI_add _ _) ?_
          refine va_put (D := G) (ci := 4) (v := .int (nI (mnw M + 1))) (ty := .int) (C := RX4) (T := TX4) (N := 14) hx hb hts hiX4 tyX4 tyX4_ok nmX4 hown hK hP hD hS 0 rfl rfl 2 (by decide) (hts (.fieldLink RX4 41 "CardFansModel" "watchers" "I") (by decide +kernel)) (fun _ h9 => h9) rfl (by decide +kernel) rfl rfl (Nat.le_of_ble_eq_true rfl) dX4_watch_71 (fun H locs hP hD hS => ?_)
          have hP : va_P G vwCl (xD T bd (nI 0) (xmk (mpk M) (va_up (mth M) (mnw M) (fun _ => nI 65535)) (upd (msh M) (mnw M) sh1) (man M) (mgl M) (mhb M) (mtk M) (mnw M + 1) (mnp M) (mle M) (mwy M) (mfc M) (mta M))) H := hP
          have hD : va_D A (xD T bd (nI 0) (xmk (mpk M) (va_up (mth M) (mnw M) (fun _ => nI 65535)) (upd (msh M) (mnw M) sh1) (man M) (mgl M) (mhb M) (mtk M) (mnw M + 1) (mnp M) (mle M) (mwy M) (mfc M) (mta M))) := hD
          refine lv_aload_n hx hb dX4_watch_74 rfl (lv_at hl 1 rfl) ?_
          refine va_get (D := G) (ci := 4) (v := .int (nI (mnw (xmk (mpk M) (va_up (mth M) (mnw M) (fun _ => nI 65535)) (upd (msh M) (mnw M) sh1) (man M) (mgl M) (mhb M) (mtk M) (mnw M + 1) (mnp M) (mle M) (mwy M) (mfc M) (mta M))))) (C := RX4) (T := TX4) (N := 14) hx hb hts hiX4 hown hK hP 0 rfl rfl 2 (by decide) (hts (.fieldLink RX4 41 "CardFansModel" "watchers" "I") (by decide +kernel)) (fun _ h9 => h9) rfl dX4_watch_75 ?_
          refine lv_iconst (v := nI 1) hx hb dX4_watch_78 (by decide) ?_
          refine lv_isub hx hb dX4_watch_79 ?_
          refine x_topi (y := nI (mnw M)) (pk_sub (a := mnw M + 1) (b := 1) (by omega)) ?_
          exact W.iret (v := nI (mnw M)) hx hb hr (fun t9_ ht hW => ⟨⟨nI (mnw M), (nI 0), rfl, Or.inl ⟨h4, rfl, rfl⟩, x_at ht hP⟩, hS.F ht⟩) hS.2.2 dX4_watch_80
  · have h4 : mnw M = 4 := (nI_eq (by omega) (by decide)).mp c0
    refine lv_aload_n hx hb dX4_watch_13 rfl (lv_at hl 0 rfl) ?_
    refine lv_iconst (v := nI 1) hx hb dX4_watch_14 (by decide) ?_
    refine x_calliW (va_runV (As := [.int (nI 1)]) (rest := []) ⟨hx, hb, hml, hown, hts⟩ (c_X4_no l G T _ bd (nI 0) M (nI 1)) (cwV 1 hts gX4_watch_X4_no rfl rfl rfl (by decide +kernel) ⟨Nat.le_of_ble_eq_true rfl, Nat.le_of_ble_eq_true rfl⟩) (x_preVW (wc := (xD T bd (nI 0) M)) hK hP hD hS hA hXB hZ _ _ 0 4 rfl rfl) rfl rfl hl.1 rfl (lv_room (Nat.le_of_ble_eq_true rfl)) dX4_watch_15 ⟨Nat.le_of_ble_eq_true rfl, Nat.le_of_ble_eq_true rfl⟩) hP hD hS hA (fun _ _ _ => xd_self rfl hD) (fun r8 u8 H locs hw8 hP hD hS => ?_)
    have hP : va_P G vwCl (xD T bd (nI 1) M) H := hP
    have hD : va_D A (xD T bd (nI 1) M) := hD
    exact W.iret (v := r8) hx hb hr (fun t9_ ht hW => ⟨⟨r8, (nI 1), rfl, Or.inr ⟨h4, rfl⟩, x_at ht (by rw [if_neg (by omega)]; exact hP)⟩, hS.F ht⟩) hS.2.2 dX4_watch_18

set_option maxHeartbeats 4000000 in
set_option maxRecDepth 100000 in
/-- sit -/
theorem c_X4_sit (l : Launch) (G : va_G) (T : Nat → ClassId) (sz : Nat) (bd : Nat → Nat) (thr : Int32) (M : XM) (x : Int32) (hm4 : mnp M ≤ 4) : Met l yX4_sit wsX4_sit ({ frames := 2, cells := 0, slots := 0, locals := 42 }) (va_Pc [.ref (bd 0), .int x] (xPre G T (xD T bd thr M) sz)) (va_Qi (fun (r : Int32) (u : Int32) => (xvb 16 x = true ∧ mnp M < 4 ∧ u = nI 0 ∧ r = nI (mnp M)) ∨ (xvb 16 x = false ∧ u = nI 1) ∨ (xvb 16 x = true ∧ mnp M = 4 ∧ u = nI 2)) (fun u t => va_P G vwCl (xD T bd u (if xvb 16 x = true ∧ mnp M < 4 then (xmk (mpk M) (mth M) (msh M) (man M) (mgl M) (upd (mhb M) (mnp M) x) (upd (mtk M) (mnp M) (-1)) (mnw M) (mnp M + 1) (mle M) (mwy M) (mfc M) (mta M)) else M)) t.heap) (va_A (xD T bd thr M) sz)) 0 0 (va_A (xD T bd thr M) sz) := by
  refine Met.ofW (cc := cX4_sit) (maxL := 2) (ret := (some .int)) (by decide +kernel) rfl ?_
  intro p e s m args below meth c s₁ B hml hv
  obtain ⟨rfl, hsz, hP, hK, hD0, hXB, hZ⟩ := hv
  have hx := B.exec
  have hb := B.bytes
  have hr := B.returns
  have hts := atoms_spec (ws := wsX4_sit) B.pre
  have hown : s.vm.findClass RX4 = some m.cls := findClass_of_methodNamed B.named
  have hlocks := B.notSynchronized
  subst hsz
  have hD := hD0.self (sz := s.heap.size)
  generalize hAe : va_A (xD T bd thr M) s.heap.size = A at hD hZ ⊢
  have hA : ∀ q : Nat, s.heap.size ≤ q → A q := fun q h => by rw [← hAe]; exact Or.inr h
  have hS : va_S A s.heap s.heap [] := va_S.rf
  have hP : va_P G vwCl (xD T bd thr M) s.heap := hP
  have hiX4 : ∀ w ∈ u_ws RX4 TX4 14, w ∈ wsX4_sit := by decide +kernel
  have hl := lv_entry ([.ref (bd 0), .int x]) (n := 2) (Nat.le_of_ble_eq_true rfl)
  rw [lg_entry_eq]
  generalize (lg_sl ([.ref (bd 0), .int x]) ++ List.replicate (2 - (lg_sl ([.ref (bd 0), .int x])).length) Slot.unset).toArray = ls at hl ⊢
  have hl : lv_has ls 2 [(0, .ref (bd 0)), (1, .int x)] := hl
  refine lv_aload_n hx hb dX4_sit_0 rfl (lv_at hl 0 rfl) ?_
  refine lv_iconst (v := nI 0) hx hb dX4_sit_1 (by decide) ?_
  refine va_put (D := G) (ci := 4) (v := .int (nI 0)) (ty := .int) (C := RX4) (T := TX4) (N := 14) hx hb hts hiX4 tyX4 tyX4_ok nmX4 hown hK hP hD hS 0 rfl rfl 0 (by decide) (hts (.fieldLink RX4 33 "CardFansModel" "thrown" "I") (by decide +kernel)) (fun _ h9 => h9) rfl (by decide +kernel) rfl rfl (Nat.le_of_ble_eq_true rfl) dX4_sit_2 (fun H locs hP hD hS => ?_)
  have hP : va_P G vwCl (xD T bd (nI 0) M) H := hP
  have hD : va_D A (xD T bd (nI 0) M) := hD
  refine lv_iload_n hx hb dX4_sit_5 rfl (lv_at hl 1 rfl) ?_
  refine x_calli (va_runS (As := [.int x]) (rest := []) ⟨hx, hb, hml, hown, hts⟩ (c_X4_isPlace l G T _ x) (va_cwS 1 hts gX4_sit_X4_isPlace rfl rfl rfl (by decide +kernel) ⟨Nat.le_of_ble_eq_true rfl, Nat.le_of_ble_eq_true rfl⟩) (x_preS (wc := []) hK hP hD hS hA hXB hZ [] rfl rfl _) rfl rfl hl.1 rfl (lv_room (Nat.le_of_ble_eq_true rfl)) dX4_sit_6 ⟨Nat.le_of_ble_eq_true rfl, Nat.le_of_ble_eq_true rfl⟩) hP hD hS hA [] rfl (fun _ _ _ => rfl) (fun r1 u1 H locs hw1 hP hD hS => ?_)
  have hP : va_P G vwCl (xD T bd (nI 0) M) H := hP
  have hD : va_D A (xD T bd (nI 0) M) := hD
  refine lv_if_ne (tgt := 18) hx hb dX4_sit_9 (by decide) (fun c1 => ?_) (fun c1 => ?_)
  · have hv1 := xb_of_ne hw1 c1
    refine lv_aload_n hx hb dX4_sit_18 rfl (lv_at hl 0 rfl) ?_
    refine va_get (D := G) (ci := 4) (v := .int (nI (mnp M))) (C := RX4) (T := TX4) (N := 14) hx hb hts hiX4 hown hK hP 0 rfl rfl 7 (by decide) (hts (.fieldLink RX4 44 "CardFansModel" "players" "I") (by decide +kernel)) (fun _ h9 => h9) rfl dX4_sit_19 ?_
    refine lv_iconst (v := nI 4) hx hb dX4_sit_22 (by decide) ?_
    refine lv_icmp_ne (tgt := 32) hx hb dX4_sit_23 (by decide) (fun c2 => ?_) (fun c2 => ?_)
    · have h4 : mnp M < 4 := by rcases Nat.lt_or_ge (mnp M) 4 with q | q; exact q; exact absurd (by rw [show mnp M = 4 by omega]) c2
      refine lv_aload_n hx hb dX4_sit_32 rfl (lv_at hl 0 rfl) ?_
      refine va_get (D := G) (ci := 4) (v := .ref (bd 6)) (C := RX4) (T := TX4) (N := 14) hx hb hts hiX4 hown hK hP 0 rfl rfl 8 (by decide) (hts (.fieldLink RX4 27 "CardFansModel" "habit" "[I") (by decide +kernel)) (fun _ h9 => h9) rfl dX4_sit_33 ?_
      refine lv_aload_n hx hb dX4_sit_36 rfl (lv_at hl 0 rfl) ?_
      refine va_get (D := G) (ci := 4) (v := .int (nI (mnp M))) (C := RX4) (T := TX4) (N := 14) hx hb hts hiX4 hown hK hP 0 rfl rfl 7 (by decide) (hts (.fieldLink RX4 44 "CardFansModel" "players" "I") (by decide +kernel)) (fun _ h9 => h9) rfl dX4_sit_37 ?_
      refine lv_iload_n hx hb dX4_sit_40 rfl (lv_at hl 1 rfl) ?_
      refine x_iast hx hb hK hP hD hS 6 0 (f := (mhb M)) (n := 4) rfl rfl h4 (by decide) dX4_sit_41 (fun H locs hP hD hS => ?_)
      have hP : va_P G vwCl (xD T bd (nI 0) (xmk (mpk M) (mth M) (msh M) (man M) (mgl M) (upd (mhb M) (mnp M) x) (mtk M) (mnw M) (mnp M) (mle M) (mwy M) (mfc M) (mta M))) H := hP
      have hD : va_D A (xD T bd (nI 0) (xmk (mpk M) (mth M) (msh M) (man M) (mgl M) (upd (mhb M) (mnp M) x) (mtk M) (mnw M) (mnp M) (mle M) (mwy M) (mfc M) (mta M))) := hD
      refine lv_aload_n hx hb dX4_sit_42 rfl (lv_at hl 0 rfl) ?_
      refine va_get (D := G) (ci := 4) (v := .ref (bd 7)) (C := RX4) (T := TX4) (N := 14) hx hb hts hiX4 hown hK hP 0 rfl rfl 9 (by decide) (hts (.fieldLink RX4 30 "CardFansModel" "took" "[I") (by decide +kernel)) (fun _ h9 => h9) rfl dX4_sit_43 ?_
      refine lv_aload_n hx hb dX4_sit_46 rfl (lv_at hl 0 rfl) ?_
      refine va_get (D := G) (ci := 4) (v := .int (nI (mnp (xmk (mpk M) (mth M) (msh M) (man M) (mgl M) (upd (mhb M) (mnp M) x) (mtk M) (mnw M) (mnp M) (mle M) (mwy M) (mfc M) (mta M))))) (C := RX4) (T := TX4) (N := 14) hx hb hts hiX4 hown hK hP 0 rfl rfl 7 (by decide) (hts (.fieldLink RX4 44 "CardFansModel" "players" "I") (by decide +kernel)) (fun _ h9 => h9) rfl dX4_sit_47 ?_
      refine lv_iconst (v := (-1)) hx hb dX4_sit_50 (by decide) ?_
      refine x_iast hx hb hK hP hD hS 7 0 (f := (mtk (xmk (mpk M) (mth M) (msh M) (man M) (mgl M) (upd (mhb M) (mnp M) x) (mtk M) (mnw M) (mnp M) (mle M) (mwy M) (mfc M) (mta M)))) (n := 4) rfl rfl h4 (by decide) dX4_sit_51 (fun H locs hP hD hS => ?_)
      have hP : va_P G vwCl (xD T bd (nI 0) (xmk (mpk M) (mth M) (msh M) (man M) (mgl M) (upd (mhb M) (mnp M) x) (upd (mtk M) (mnp M) (-1)) (mnw M) (mnp M) (mle M) (mwy M) (mfc M) (mta M))) H := hP
      have hD : va_D A (xD T bd (nI 0) (xmk (mpk M) (mth M) (msh M) (man M) (mgl M) (upd (mhb M) (mnp M) x) (upd (mtk M) (mnp M) (-1)) (mnw M) (mnp M) (mle M) (mwy M) (mfc M) (mta M))) := hD
      refine lv_aload_n hx hb dX4_sit_52 rfl (lv_at hl 0 rfl) ?_
      refine lv_dup hx hb dX4_sit_53 rfl ?_
      refine va_get (D := G) (ci := 4) (v := .int (nI (mnp (xmk (mpk M) (mth M) (msh M) (man M) (mgl M) (upd (mhb M) (mnp M) x) (upd (mtk M) (mnp M) (-1)) (mnw M) (mnp M) (mle M) (mwy M) (mfc M) (mta M))))) (C := RX4) (T := TX4) (N := 14) hx hb hts hiX4 hown hK hP 0 rfl rfl 7 (by decide) (hts (.fieldLink RX4 44 "CardFansModel" "players" "I") (by decide +kernel)) (fun _ h9 => h9) rfl dX4_sit_54 ?_
      refine lv_iconst (v := nI 1) hx hb dX4_sit_57 (by decide) ?_
      refine lv_iadd hx hb dX4_sit_58 ?_
      refine x_topi (y := nI (mnp M + 1)) (nI_add _ _) ?_
      refine va_put (D := G) (ci := 4) (v := .int (nI (mnp M + 1))) (ty := .int) (C := RX4) (T := TX4) (N := 14) hx hb hts hiX4 tyX4 tyX4_ok nmX4 hown hK hP hD hS 0 rfl rfl 7 (by decide) (hts (.fieldLink RX4 44 "CardFansModel" "players" "I") (by decide +kernel)) (fun _ h9 => h9) rfl (by decide +kernel) rfl rfl (Nat.le_of_ble_eq_true rfl) dX4_sit_59 (fun H locs hP hD hS => ?_)
      have hP : va_P G vwCl (xD T bd (nI 0) (xmk (mpk M) (mth M) (msh M) (man M) (mgl M) (upd (mhb M) (mnp M) x) (upd (mtk M) (mnp M) (-1)) (mnw M) (mnp M + 1) (mle M) (mwy M) (mfc M) (mta M))) H := hP
      have hD : va_D A (xD T bd (nI 0) (xmk (mpk M) (mth M) (msh M) (man M) (mgl M) (upd (mhb M) (mnp M) x) (upd (mtk M) (mnp M) (-1)) (mnw M) (mnp M + 1) (mle M) (mwy M) (mfc M) (mta M))) := hD
      refine lv_aload_n hx hb dX4_sit_62 rfl (lv_at hl 0 rfl) ?_
      refine va_get (D := G) (ci := 4) (v := .int (nI (mnp (xmk (mpk M) (mth M) (msh M) (man M) (mgl M) (upd (mhb M) (mnp M) x) (upd (mtk M) (mnp M) (-1)) (mnw M) (mnp M + 1) (mle M) (mwy M) (mfc M) (mta M))))) (C := RX4) (T := TX4) (N := 14) hx hb hts hiX4 hown hK hP 0 rfl rfl 7 (by decide) (hts (.fieldLink RX4 44 "CardFansModel" "players" "I") (by decide +kernel)) (fun _ h9 => h9) rfl dX4_sit_63 ?_
      refine lv_iconst (v := nI 1) hx hb dX4_sit_66 (by decide) ?_
      refine lv_isub hx hb dX4_sit_67 ?_
      refine x_topi (y := nI (mnp M)) (pk_sub (a := mnp M + 1) (b := 1) (by omega)) ?_
      exact W.iret (v := nI (mnp M)) hx hb hr (fun t9_ ht hW => ⟨⟨nI (mnp M), (nI 0), rfl, Or.inl ⟨hv1, h4, rfl, rfl⟩, x_at ht (by rw [if_pos ⟨hv1, h4⟩]; exact hP)⟩, hS.F ht⟩) hS.2.2 dX4_sit_68
    · have h4 : mnp M = 4 := (nI_eq (by omega) (by decide)).mp c2
      refine lv_aload_n hx hb dX4_sit_26 rfl (lv_at hl 0 rfl) ?_
      refine lv_iconst (v := nI 2) hx hb dX4_sit_27 (by decide) ?_
      refine x_calliW (va_runV (As := [.int (nI 2)]) (rest := []) ⟨hx, hb, hml, hown, hts⟩ (c_X4_no l G T _ bd (nI 0) M (nI 2)) (cwV 1 hts gX4_sit_X4_no rfl rfl rfl (by decide +kernel) ⟨Nat.le_of_ble_eq_true rfl, Nat.le_of_ble_eq_true rfl⟩) (x_preVW (wc := (xD T bd (nI 0) M)) hK hP hD hS hA hXB hZ _ _ 0 4 rfl rfl) rfl rfl hl.1 rfl (lv_room (Nat.le_of_ble_eq_true rfl)) dX4_sit_28 ⟨Nat.le_of_ble_eq_true rfl, Nat.le_of_ble_eq_true rfl⟩) hP hD hS hA (fun _ _ _ => xd_self rfl hD) (fun r8 u8 H locs hw8 hP hD hS => ?_)
      have hP : va_P G vwCl (xD T bd (nI 2) M) H := hP
      have hD : va_D A (xD T bd (nI 2) M) := hD
      exact W.iret (v := r8) hx hb hr (fun t9_ ht hW => ⟨⟨r8, (nI 2), rfl, Or.inr (Or.inr ⟨hv1, h4, rfl⟩), x_at ht (by rw [if_neg (fun h => by omega)]; exact hP)⟩, hS.F ht⟩) hS.2.2 dX4_sit_31
  · refine lv_aload_n hx hb dX4_sit_12 rfl (lv_at hl 0 rfl) ?_
    refine lv_iconst (v := nI 1) hx hb dX4_sit_13 (by decide) ?_
    refine x_calliW (va_runV (As := [.int (nI 1)]) (rest := []) ⟨hx, hb, hml, hown, hts⟩ (c_X4_no l G T _ bd (nI 0) M (nI 1)) (cwV 1 hts gX4_sit_X4_no rfl rfl rfl (by decide +kernel) ⟨Nat.le_of_ble_eq_true rfl, Nat.le_of_ble_eq_true rfl⟩) (x_preVW (wc := (xD T bd (nI 0) M)) hK hP hD hS hA hXB hZ _ _ 0 4 rfl rfl) rfl rfl hl.1 rfl (lv_room (Nat.le_of_ble_eq_true rfl)) dX4_sit_14 ⟨Nat.le_of_ble_eq_true rfl, Nat.le_of_ble_eq_true rfl⟩) hP hD hS hA (fun _ _ _ => xd_self rfl hD) (fun r8 u8 H locs hw8 hP hD hS => ?_)
    have hP : va_P G vwCl (xD T bd (nI 1) M) H := hP
    have hD : va_D A (xD T bd (nI 1) M) := hD
    exact W.iret (v := r8) hx hb hr (fun t9_ ht hW => ⟨⟨r8, (nI 1), rfl, Or.inr (Or.inl ⟨xb_of_eq hw1 c1, rfl⟩), x_at ht (by rw [if_neg (fun h => by rw [xb_of_eq hw1 c1] at h; exact Bool.false_ne_true h.1)]; exact hP)⟩, hS.F ht⟩) hS.2.2 dX4_sit_17

set_option maxHeartbeats 4000000 in
set_option maxRecDepth 100000 in
/-- take -/
theorem c_X4_take (l : Launch) (G : va_G) (T : Nat → ClassId) (sz : Nat) (bd : Nat → Nat) (thr : Int32) (M : XM) (x : Int32) (hm4 : mnp M ≤ 4) (hhb : ∀ q, q < mnp M → ∃ h, h < 16 ∧ mhb M q = nI h) (hle : ∃ v, v < 16 ∧ mle M = nI v) (hta : mta M ≤ 512) : Met l yX4_take wsX4_take ({ frames := 2, cells := 0, slots := 0, locals := 43 }) (va_Pc [.ref (bd 0), .int x] (xPre G T (xD T bd thr M) sz)) (va_Qi (fun (r : Int32) (u : Int32) => (xvb (mnp M) x = true ∧ u = nI 0 ∧ r = xtk M (xka x)) ∨ (xvb (mnp M) x = false ∧ u = nI 1)) (fun u t => va_P G vwCl (xD T bd u (if xvb (mnp M) x then xMt M (xka x) else M)) t.heap) (va_A (xD T bd thr M) sz)) 0 0 (va_A (xD T bd thr M) sz) := by
  refine Met.ofW (cc := cX4_take) (maxL := 2) (ret := (some .int)) (by decide +kernel) rfl ?_
  intro p e s m args below meth c s₁ B hml hv
  obtain ⟨rfl, hsz, hP, hK, hD0, hXB, hZ⟩ := hv
  have hx := B.exec
  have hb := B.bytes
  have hr := B.returns
  have hts := atoms_spec (ws := wsX4_take) B.pre
  have hown : s.vm.findClass RX4 = some m.cls := findClass_of_methodNamed B.named
  have hlocks := B.notSynchronized
  subst hsz
  have hD := hD0.self (sz := s.heap.size)
  generalize hAe : va_A (xD T bd thr M) s.heap.size = A at hD hZ ⊢
  have hA : ∀ q : Nat, s.heap.size ≤ q → A q := fun q h => by rw [← hAe]; exact Or.inr h
  have hS : va_S A s.heap s.heap [] := va_S.rf
  have hP : va_P G vwCl (xD T bd thr M) s.heap := hP
  have hiX4 : ∀ w ∈ u_ws RX4 TX4 14, w ∈ wsX4_take := by decide +kernel
  have hl := lv_entry ([.ref (bd 0), .int x]) (n := 2) (Nat.le_of_ble_eq_true rfl)
  rw [lg_entry_eq]
  generalize (lg_sl ([.ref (bd 0), .int x]) ++ List.replicate (2 - (lg_sl ([.ref (bd 0), .int x])).length) Slot.unset).toArray = ls at hl ⊢
  have hl : lv_has ls 2 [(0, .ref (bd 0)), (1, .int x)] := hl
  refine lv_aload_n hx hb dX4_take_0 rfl (lv_at hl 0 rfl) ?_
  refine lv_iconst (v := nI 0) hx hb dX4_take_1 (by decide) ?_
  refine va_put (D := G) (ci := 4) (v := .int (nI 0)) (ty := .int) (C := RX4) (T := TX4) (N := 14) hx hb hts hiX4 tyX4 tyX4_ok nmX4 hown hK hP hD hS 0 rfl rfl 0 (by decide) (hts (.fieldLink RX4 33 "CardFansModel" "thrown" "I") (by decide +kernel)) (fun _ h9 => h9) rfl (by decide +kernel) rfl rfl (Nat.le_of_ble_eq_true rfl) dX4_take_2 (fun H locs hP hD hS => ?_)
  have hP : va_P G vwCl (xD T bd (nI 0) M) H := hP
  have hD : va_D A (xD T bd (nI 0) M) := hD
  refine lv_aload_n hx hb dX4_take_5 rfl (lv_at hl 0 rfl) ?_
  refine lv_iload_n hx hb dX4_take_6 rfl (lv_at hl 1 rfl) ?_
  refine x_calliW (va_runV (As := [.int x]) (rest := []) ⟨hx, hb, hml, hown, hts⟩ (c_X4_isPlayer l G T _ bd (nI 0) M x hm4) (cwV 1 hts gX4_take_X4_isPlayer rfl rfl rfl (by decide +kernel) ⟨Nat.le_of_ble_eq_true rfl, Nat.le_of_ble_eq_true rfl⟩) (x_preVW (wc := (xD T bd (nI 0) M)) hK hP hD hS hA hXB hZ _ _ 0 4 rfl rfl) rfl rfl hl.1 rfl (lv_room (Nat.le_of_ble_eq_true rfl)) dX4_take_7 ⟨Nat.le_of_ble_eq_true rfl, Nat.le_of_ble_eq_true rfl⟩) hP hD hS hA (fun _ _ _ => xd_self rfl hD) (fun r0 u0 H locs hw0 hP hD hS => ?_)
  have hP : va_P G vwCl (xD T bd (nI 0) M) H := hP
  have hD : va_D A (xD T bd (nI 0) M) := hD
  refine lv_if_ne (tgt := 19) hx hb dX4_take_10 (by decide) (fun c1 => ?_) (fun c1 => ?_)
  · have hv1 := xb_of_ne hw0 c1
    rw [if_pos hv1]
    obtain ⟨k, hk, rfl⟩ := (xvb_iff (n := mnp M) (by omega)).mp (hv1)
    rw [xka_n (show k < 2 ^ 31 by omega)]
    have hk4 : k < 4 := Nat.lt_of_lt_of_le hk hm4
    obtain ⟨h9, hh9, eh9⟩ := hhb k hk
    obtain ⟨v9, hv9, ev9⟩ := hle
    have e16 : mhb M k + mle M + nI (mta M) = nI (h9 + v9 + mta M) := by rw [eh9, ev9, nI_add, nI_add]
    have et : xtk M k = mpk M ((h9 + v9 + mta M) % 16) := by unfold xtk; rw [e16, xfm_n (by omega), xka_n (by omega)]
    refine lv_aload_n hx hb dX4_take_19 rfl (lv_at hl 0 rfl) ?_
    refine va_get (D := G) (ci := 4) (v := .ref (bd 7)) (C := RX4) (T := TX4) (N := 14) hx hb hts hiX4 hown hK hP 0 rfl rfl 9 (by decide) (hts (.fieldLink RX4 30 "CardFansModel" "took" "[I") (by decide +kernel)) (fun _ h9 => h9) rfl dX4_take_20 ?_
    refine lv_iload_n hx hb dX4_take_23 rfl (lv_at hl 1 rfl) ?_
    refine lv_aload_n hx hb dX4_take_24 rfl (lv_at hl 0 rfl) ?_
    refine va_get (D := G) (ci := 4) (v := .ref (bd 1)) (C := RX4) (T := TX4) (N := 14) hx hb hts hiX4 hown hK hP 0 rfl rfl 1 (by decide) (hts (.fieldLink RX4 9 "CardFansModel" "pack" "[I") (by decide +kernel)) (fun _ h9 => h9) rfl dX4_take_25 ?_
    refine lv_aload_n hx hb dX4_take_28 rfl (lv_at hl 0 rfl) ?_
    refine va_get (D := G) (ci := 4) (v := .ref (bd 6)) (C := RX4) (T := TX4) (N := 14) hx hb hts hiX4 hown hK hP 0 rfl rfl 8 (by decide) (hts (.fieldLink RX4 27 "CardFansModel" "habit" "[I") (by decide +kernel)) (fun _ h9 => h9) rfl dX4_take_29 ?_
    refine lv_iload_n hx hb dX4_take_32 rfl (lv_at hl 1 rfl) ?_
    refine x_iald hx hb hK hP 6 0 (f := (mhb M)) (n := 4) rfl rfl hk4 (by decide) dX4_take_33 ?_
    refine lv_aload_n hx hb dX4_take_34 rfl (lv_at hl 0 rfl) ?_
    refine va_get (D := G) (ci := 4) (v := .int (mle M)) (C := RX4) (T := TX4) (N := 14) hx hb hts hiX4 hown hK hP 0 rfl rfl 10 (by decide) (hts (.fieldLink RX4 104 "CardFansModel" "lean" "I") (by decide +kernel)) (fun _ h9 => h9) rfl dX4_take_35 ?_
    refine lv_iadd hx hb dX4_take_38 ?_
    refine lv_aload_n hx hb dX4_take_39 rfl (lv_at hl 0 rfl) ?_
    refine va_get (D := G) (ci := 4) (v := .int (nI (mta M))) (C := RX4) (T := TX4) (N := 14) hx hb hts hiX4 hown hK hP 0 rfl rfl 13 (by decide) (hts (.fieldLink RX4 110 "CardFansModel" "taken" "I") (by decide +kernel)) (fun _ h9 => h9) rfl dX4_take_40 ?_
    refine lv_iadd hx hb dX4_take_43 ?_
    refine lv_bipush (v := nI 16) hx hb dX4_take_44 (by decide) ?_
    refine lv_irem hx hb dX4_take_46 (by decide) ?_
    refine x_topi (y := nI ((h9 + v9 + mta M) % 16)) (by rw [e16, pk_rem (by omega) (by decide) (by decide)]) ?_
    refine x_iald hx hb hK hP 1 0 (f := (mpk M)) (n := 16) rfl rfl (Nat.mod_lt _ (by decide)) (by decide) dX4_take_47 ?_
    refine x_topi (y := (xtk M k)) (et.symm) ?_
    refine x_iast hx hb hK hP hD hS 7 0 (f := (mtk M)) (n := 4) rfl rfl hk4 (by decide) dX4_take_48 (fun H locs hP hD hS => ?_)
    have hP : va_P G vwCl (xD T bd (nI 0) (xmk (mpk M) (mth M) (msh M) (man M) (mgl M) (mhb M) (upd (mtk M) k (xtk M k)) (mnw M) (mnp M) (mle M) (mwy M) (mfc M) (mta M))) H := hP
    have hD : va_D A (xD T bd (nI 0) (xmk (mpk M) (mth M) (msh M) (man M) (mgl M) (mhb M) (upd (mtk M) k (xtk M k)) (mnw M) (mnp M) (mle M) (mwy M) (mfc M) (mta M))) := hD
    refine lv_aload_n hx hb dX4_take_49 rfl (lv_at hl 0 rfl) ?_
    refine lv_dup hx hb dX4_take_50 rfl ?_
    refine va_get (D := G) (ci := 4) (v := .int (nI (mta (xmk (mpk M) (mth M) (msh M) (man M) (mgl M) (mhb M) (upd (mtk M) k (xtk M k)) (mnw M) (mnp M) (mle M) (mwy M) (mfc M) (mta M))))) (C := RX4) (T := TX4) (N := 14) hx hb hts hiX4 hown hK hP 0 rfl rfl 13 (by decide) (hts (.fieldLink RX4 110 "CardFansModel" "taken" "I") (by decide +kernel)) (fun _ h9 => h9) rfl dX4_take_51 ?_
    refine lv_iconst (v := nI 1) hx hb dX4_take_54 (by decide) ?_
    refine lv_iadd hx hb dX4_take_55 ?_
    refine x_topi (y := nI (mta M + 1)) (nI_add _ _) ?_
    refine va_put (D := G) (ci := 4) (v := .int (nI (mta M + 1))) (ty := .int) (C := RX4) (T := TX4) (N := 14) hx hb hts hiX4 tyX4 tyX4_ok nmX4 hown hK hP hD hS 0 rfl rfl 13 (by decide) (hts (.fieldLink RX4 110 "CardFansModel" "taken" "I") (by decide +kernel)) (fun _ h9 => h9) rfl (by decide +kernel) rfl rfl (Nat.le_of_ble_eq_true rfl) dX4_take_56 (fun H locs hP hD hS => ?_)
    have hP : va_P G vwCl (xD T bd (nI 0) (xMt M k)) H := hP
    have hD : va_D A (xD T bd (nI 0) (xMt M k)) := hD
    refine lv_aload_n hx hb dX4_take_59 rfl (lv_at hl 0 rfl) ?_
    refine va_get (D := G) (ci := 4) (v := .ref (bd 7)) (C := RX4) (T := TX4) (N := 14) hx hb hts hiX4 hown hK hP 0 rfl rfl 9 (by decide) (hts (.fieldLink RX4 30 "CardFansModel" "took" "[I") (by decide +kernel)) (fun _ h9 => h9) rfl dX4_take_60 ?_
    refine lv_iload_n hx hb dX4_take_63 rfl (lv_at hl 1 rfl) ?_
    refine x_iald hx hb hK hP 7 0 (f := (mtk (xmk (mpk M) (mth M) (msh M) (man M) (mgl M) (mhb M) (upd (mtk M) k (xtk M k)) (mnw M) (mnp M) (mle M) (mwy M) (mfc M) (mta M + 1)))) (n := 4) rfl rfl hk4 (by decide) dX4_take_64 ?_
    refine x_topi (y := (xtk M k)) (pk_us) ?_
    exact W.iret (v := (xtk M k)) hx hb hr (fun t9_ ht hW => ⟨⟨(xtk M k), (nI 0), rfl, Or.inl ⟨hv1, rfl, rfl⟩, x_at ht hP⟩, hS.F ht⟩) hS.2.2 dX4_take_65
  · refine lv_aload_n hx hb dX4_take_13 rfl (lv_at hl 0 rfl) ?_
    refine lv_iconst (v := nI 1) hx hb dX4_take_14 (by decide) ?_
    refine x_calliW (va_runV (As := [.int (nI 1)]) (rest := []) ⟨hx, hb, hml, hown, hts⟩ (c_X4_no l G T _ bd (nI 0) M (nI 1)) (cwV 1 hts gX4_take_X4_no rfl rfl rfl (by decide +kernel) ⟨Nat.le_of_ble_eq_true rfl, Nat.le_of_ble_eq_true rfl⟩) (x_preVW (wc := (xD T bd (nI 0) M)) hK hP hD hS hA hXB hZ _ _ 0 4 rfl rfl) rfl rfl hl.1 rfl (lv_room (Nat.le_of_ble_eq_true rfl)) dX4_take_15 ⟨Nat.le_of_ble_eq_true rfl, Nat.le_of_ble_eq_true rfl⟩) hP hD hS hA (fun _ _ _ => xd_self rfl hD) (fun r8 u8 H locs hw8 hP hD hS => ?_)
    have hP : va_P G vwCl (xD T bd (nI 1) M) H := hP
    have hD : va_D A (xD T bd (nI 1) M) := hD
    exact W.iret (v := r8) hx hb hr (fun t9_ ht hW => ⟨⟨r8, (nI 1), rfl, Or.inr ⟨xb_of_eq hw0 c1, rfl⟩, x_at ht (by rw [if_neg (by rw [xb_of_eq hw0 c1]; exact Bool.false_ne_true)]; exact hP)⟩, hS.F ht⟩) hS.2.2 dX4_take_18

set_option maxHeartbeats 4000000 in
set_option maxRecDepth 100000 in
/-- counted -/
theorem c_X4_counted (l : Launch) (G : va_G) (T : Nat → ClassId) (sz : Nat) (bd : Nat → Nat) (thr : Int32) (M : XM) (q : Nat) (hq : q < 7) : Met l yX4_counted wsX4_counted ({ frames := 0, cells := 1, slots := 7, locals := 0 }) (va_Pc [.ref (bd 0), .int (nI q)] (xPre G T (xD T bd thr M) sz)) (va_Qi (fun (r : Int32) (u : Unit) => r = xcnt M q) (fun u t => va_P G vwCl (xD T bd thr M) t.heap) (va_A (xD T bd thr M) sz)) 1 7 (va_A (xD T bd thr M) sz) := by
  refine Met.ofW (cc := cX4_counted) (maxL := 4) (ret := (some .int)) (by decide +kernel) rfl ?_
  intro p e s m args below meth c s₁ B hml hv
  obtain ⟨rfl, hsz, hP, hK, hD0, hXB, hZ⟩ := hv
  have hx := B.exec
  have hb := B.bytes
  have hr := B.returns
  have hts := atoms_spec (ws := wsX4_counted) B.pre
  have hown : s.vm.findClass RX4 = some m.cls := findClass_of_methodNamed B.named
  have hlocks := B.notSynchronized
  subst hsz
  have hD := hD0.self (sz := s.heap.size)
  generalize hAe : va_A (xD T bd thr M) s.heap.size = A at hD hZ ⊢
  have hA : ∀ q : Nat, s.heap.size ≤ q → A q := fun q h => by rw [← hAe]; exact Or.inr h
  have hS : va_S A s.heap s.heap [] := va_S.rf
  have hP : va_P G vwCl (xD T bd thr M) s.heap := hP
  have hiX4 : ∀ w ∈ u_ws RX4 TX4 14, w ∈ wsX4_counted := by decide +kernel
  have hl := lv_entry ([.ref (bd 0), .int (nI q)]) (n := 4) (Nat.le_of_ble_eq_true rfl)
  rw [lg_entry_eq]
  generalize (lg_sl ([.ref (bd 0), .int (nI q)]) ++ List.replicate (4 - (lg_sl ([.ref (bd 0), .int (nI q)])).length) Slot.unset).toArray = ls at hl ⊢
  have hl : lv_has ls 4 [(0, .ref (bd 0)), (1, .int (nI q))] := hl
  refine lv_iconst (v := nI 0) hx hb dX4_counted_0 (by decide) ?_
  refine lv_istore_n (lv' := [(2, .int (nI 0)), (0, .ref (bd 0)), (1, .int (nI q))]) hx hb dX4_counted_1 rfl hl (by decide) rfl (fun ls hl => ?_)
  refine lv_iconst (v := nI 0) hx hb dX4_counted_2 (by decide) ?_
  refine lv_istore_n (lv' := [(3, .int (nI 0)), (2, .int (nI 0)), (0, .ref (bd 0)), (1, .int (nI q))]) hx hb dX4_counted_3 rfl hl (by decide) rfl (fun ls hl => ?_)
  suffices LP : ∀ (n : Nat) (i : Nat), (i ≤ 16) → (16 < i + n) → ∀ (H : Heap) (locs : List Loc), va_P G vwCl (xD T bd thr M) H → va_D A (xD T bd thr M) → va_S A s.heap H locs → ∀ (ls : Array Slot), lv_has ls 4 [(3, .int (nI i)), (2, .int (nI (xct (fun j => decide (mpk M j = nI j)) i))), (0, .ref (bd 0)), (1, .int (nI q))] → W p l e (headSpec wsX4_counted ({ frames := 0, cells := 1, slots := 7, locals := 0 })).room s m ([.ref (bd 0), .int (nI q)] : List Value).toArray below meth c H locs 0 0 (MQ below (va_Qi (fun (r : Int32) (u : Unit) => r = xcnt M q) (fun u t => va_P G vwCl (xD T bd thr M) t.heap) A) ([.ref (bd 0), .int (nI q)] : List Value).toArray s 1 7 A) (F0 m 4 ls []) from LP 17 0 (by decide) (by decide) _ _ hP hD hS ls (lv_sub hl [0, 1, 2, 3] rfl)
  clear hP hD hS hl
  intro n
  induction n with
  | zero => intro i hi hn H locs _ _ _ ls _; exfalso; omega
  | succ n ih =>
    intro i hi hn H locs hP hD hS ls hl
    refine lv_iload_n hx hb dX4_counted_4 rfl (lv_at hl 0 rfl) ?_
    refine lv_bipush (v := nI 16) hx hb dX4_counted_5 (by decide) ?_
    by_cases hc : i < 16
    · refine lv_icmp_ge (tgt := 34) hx hb dX4_counted_7 (by decide) (fun c_ => absurd c_ (nI_ge hc (by decide))) (fun _ => ?_)
      refine lv_iload_n hx hb dX4_counted_10 rfl (lv_at hl 1 rfl) ?_
      refine lv_aload_n hx hb dX4_counted_11 rfl (lv_at hl 2 rfl) ?_
      refine va_get (D := G) (ci := 4) (v := .ref (bd 1)) (C := RX4) (T := TX4) (N := 14) hx hb hts hiX4 hown hK hP 0 rfl rfl 1 (by decide) (hts (.fieldLink RX4 9 "CardFansModel" "pack" "[I") (by decide +kernel)) (fun _ h9 => h9) rfl dX4_counted_12 ?_
      refine lv_iload_n hx hb dX4_counted_15 rfl (lv_at hl 0 rfl) ?_
      refine x_iald hx hb hK hP 1 0 (f := (mpk M)) (n := 16) rfl rfl hc (by decide) dX4_counted_16 ?_
      refine lv_iload_n hx hb dX4_counted_17 rfl (lv_at hl 0 rfl) ?_
      refine lv_icmp_ne (tgt := 25) hx hb dX4_counted_18 (by decide) (fun c1 => ?_) (fun c1 => ?_)
      · have e1 : xct (fun j => decide (mpk M j = nI j)) (i + 1) = xct (fun j => decide (mpk M j = nI j)) i := xct_f (fun h => c1 (of_decide_eq_true h))
        refine lv_iconst (v := nI 0) hx hb dX4_counted_25 (by decide) ?_
        refine lv_iadd hx hb dX4_counted_26 ?_
        refine x_topi (y := nI (xct (fun j => decide (mpk M j = nI j)) (i + 1))) (by rw [e1]; exact nI_add _ 0) ?_
        refine lv_istore_n (lv' := [(2, .int (nI (xct (fun j => decide (mpk M j = nI j)) (i + 1)))), (3, .int (nI i)), (0, .ref (bd 0)), (1, .int (nI q))]) hx hb dX4_counted_27 rfl hl (by decide) rfl (fun ls hl => ?_)
        refine lv_iinc (v := nI (i + 1)) (lv' := [(3, .int (nI (i + 1))), (2, .int (nI (xct (fun j => decide (mpk M j = nI j)) (i + 1)))), (0, .ref (bd 0)), (1, .int (nI q))]) hx hb dX4_counted_28 hl (k := 1) rfl (x_inc _) (by decide) rfl (fun ls hl => ?_)
        refine lv_goto (tgt := 4) hx hb dX4_counted_31 (by decide) ?_
        exact ih (i + 1) (by omega) (by omega) _ _ hP hD hS ls (lv_sub hl [0, 1, 2, 3] rfl)
      · have e1 : xct (fun j => decide (mpk M j = nI j)) (i + 1) = xct (fun j => decide (mpk M j = nI j)) i + 1 := xct_t (p := (fun j => decide (mpk M j = nI j))) (n := i) (decide_eq_true c1)
        refine lv_iconst (v := nI 1) hx hb dX4_counted_21 (by decide) ?_
        refine lv_goto (tgt := 26) hx hb dX4_counted_22 (by decide) ?_
        refine lv_iadd hx hb dX4_counted_26 ?_
        refine x_topi (y := nI (xct (fun j => decide (mpk M j = nI j)) (i + 1))) (by rw [e1]; exact nI_add _ 1) ?_
        refine lv_istore_n (lv' := [(2, .int (nI (xct (fun j => decide (mpk M j = nI j)) (i + 1)))), (3, .int (nI i)), (0, .ref (bd 0)), (1, .int (nI q))]) hx hb dX4_counted_27 rfl hl (by decide) rfl (fun ls hl => ?_)
        refine lv_iinc (v := nI (i + 1)) (lv' := [(3, .int (nI (i + 1))), (2, .int (nI (xct (fun j => decide (mpk M j = nI j)) (i + 1)))), (0, .ref (bd 0)), (1, .int (nI q))]) hx hb dX4_counted_28 hl (k := 1) rfl (x_inc _) (by decide) rfl (fun ls hl => ?_)
        refine lv_goto (tgt := 4) hx hb dX4_counted_31 (by decide) ?_
        exact ih (i + 1) (by omega) (by omega) _ _ hP hD hS ls (lv_sub hl [0, 1, 2, 3] rfl)
    · refine lv_icmp_ge (tgt := 34) hx hb dX4_counted_7 (by decide) (fun _ => ?_) (fun c_ => absurd (nI_le (by omega) (by omega)) c_)
      obtain rfl : i = 16 := by omega
      have hP : va_P G vwCl ([(bd 0, .inr (4, [.int thr, .ref (bd 1), .int (nI (mnw M)), .ref (bd 2), .ref (bd 3), .ref (bd 4), .ref (bd 5), .int (nI (mnp M)), .ref (bd 6), .ref (bd 7), .int (mle M), .int (mwy M), .int (mfc M), .int (nI (mta M))])), (bd 1, .inl (T 0, 16, .inl (mpk M))), (bd 2, .inl (T 0, 4, .inl (msh M))), (bd 3, .inl (T 3, 4, .inr (.inr (.inr (.inr (fun j => if j < 4 then some (bd (8 + j)) else none)))))), (bd 4, .inl (T 0, 4, .inl (man M))), (bd 5, .inl (T 0, 4, .inl (mgl M))), (bd 6, .inl (T 0, 4, .inl (mhb M))), (bd 7, .inl (T 0, 4, .inl (mtk M))), (bd 8, .inl (T 0, 16, .inl (mth M 0))), (bd 9, .inl (T 0, 16, .inl (mth M 1))), (bd 10, .inl (T 0, 16, .inl (mth M 2))), (bd 11, .inl (T 0, 16, .inl (mth M 3)))]) H := hP
      have hD : va_D A ([(bd 0, .inr (4, [.int thr, .ref (bd 1), .int (nI (mnw M)), .ref (bd 2), .ref (bd 3), .ref (bd 4), .ref (bd 5), .int (nI (mnp M)), .ref (bd 6), .ref (bd 7), .int (mle M), .int (mwy M), .int (mfc M), .int (nI (mta M))])), (bd 1, .inl (T 0, 16, .inl (mpk M))), (bd 2, .inl (T 0, 4, .inl (msh M))), (bd 3, .inl (T 3, 4, .inr (.inr (.inr (.inr (fun j => if j < 4 then some (bd (8 + j)) else none)))))), (bd 4, .inl (T 0, 4, .inl (man M))), (bd 5, .inl (T 0, 4, .inl (mgl M))), (bd 6, .inl (T 0, 4, .inl (mhb M))), (bd 7, .inl (T 0, 4, .inl (mtk M))), (bd 8, .inl (T 0, 16, .inl (mth M 0))), (bd 9, .inl (T 0, 16, .inl (mth M 1))), (bd 10, .inl (T 0, 16, .inl (mth M 2))), (bd 11, .inl (T 0, 16, .inl (mth M 3)))]) := hD
      refine lv_bipush (v := nI 7) hx hb dX4_counted_34 (by decide) ?_
      refine x_newai (N := 7) hx hb (hts (.arrayClass .int) (by decide +kernel)) hK 0 rfl hP hD hS hA (by decide) (by decide) (Nat.le_of_ble_eq_true rfl) (Nat.le_of_ble_eq_true rfl) dX4_counted_36 (fun b0 H hP hD hS => ?_)
      have hP : va_P G vwCl ([(bd 0, .inr (4, [.int thr, .ref (bd 1), .int (nI (mnw M)), .ref (bd 2), .ref (bd 3), .ref (bd 4), .ref (bd 5), .int (nI (mnp M)), .ref (bd 6), .ref (bd 7), .int (mle M), .int (mwy M), .int (mfc M), .int (nI (mta M))])), (bd 1, .inl (T 0, 16, .inl (mpk M))), (bd 2, .inl (T 0, 4, .inl (msh M))), (bd 3, .inl (T 3, 4, .inr (.inr (.inr (.inr (fun j => if j < 4 then some (bd (8 + j)) else none)))))), (bd 4, .inl (T 0, 4, .inl (man M))), (bd 5, .inl (T 0, 4, .inl (mgl M))), (bd 6, .inl (T 0, 4, .inl (mhb M))), (bd 7, .inl (T 0, 4, .inl (mtk M))), (bd 8, .inl (T 0, 16, .inl (mth M 0))), (bd 9, .inl (T 0, 16, .inl (mth M 1))), (bd 10, .inl (T 0, 16, .inl (mth M 2))), (bd 11, .inl (T 0, 16, .inl (mth M 3))), (b0, .inl (T 0, 7, .inl (fun _ => 0)))]) H := hP
      have hD : va_D A ([(bd 0, .inr (4, [.int thr, .ref (bd 1), .int (nI (mnw M)), .ref (bd 2), .ref (bd 3), .ref (bd 4), .ref (bd 5), .int (nI (mnp M)), .ref (bd 6), .ref (bd 7), .int (mle M), .int (mwy M), .int (mfc M), .int (nI (mta M))])), (bd 1, .inl (T 0, 16, .inl (mpk M))), (bd 2, .inl (T 0, 4, .inl (msh M))), (bd 3, .inl (T 3, 4, .inr (.inr (.inr (.inr (fun j => if j < 4 then some (bd (8 + j)) else none)))))), (bd 4, .inl (T 0, 4, .inl (man M))), (bd 5, .inl (T 0, 4, .inl (mgl M))), (bd 6, .inl (T 0, 4, .inl (mhb M))), (bd 7, .inl (T 0, 4, .inl (mtk M))), (bd 8, .inl (T 0, 16, .inl (mth M 0))), (bd 9, .inl (T 0, 16, .inl (mth M 1))), (bd 10, .inl (T 0, 16, .inl (mth M 2))), (bd 11, .inl (T 0, 16, .inl (mth M 3))), (b0, .inl (T 0, 7, .inl (fun _ => 0)))]) := hD
      refine lv_dup hx hb dX4_counted_38 rfl ?_
      refine lv_iconst (v := nI 0) hx hb dX4_counted_39 (by decide) ?_
      refine lv_aload_n hx hb dX4_counted_40 rfl (lv_at hl 2 rfl) ?_
      refine va_get (D := G) (ci := 4) (v := .int (mwy M)) (C := RX4) (T := TX4) (N := 14) hx hb hts hiX4 hown hK hP 0 rfl rfl 11 (by decide) (hts (.fieldLink RX4 71 "CardFansModel" "ways" "I") (by decide +kernel)) (fun _ h9 => h9) rfl dX4_counted_41 ?_
      refine x_iast hx hb hK hP hD hS 12 0 (f := (fun _ => 0)) (n := 7) rfl rfl (by decide) (by decide) dX4_counted_44 (fun H locs hP hD hS => ?_)
      have hP : va_P G vwCl ([(bd 0, .inr (4, [.int thr, .ref (bd 1), .int (nI (mnw M)), .ref (bd 2), .ref (bd 3), .ref (bd 4), .ref (bd 5), .int (nI (mnp M)), .ref (bd 6), .ref (bd 7), .int (mle M), .int (mwy M), .int (mfc M), .int (nI (mta M))])), (bd 1, .inl (T 0, 16, .inl (mpk M))), (bd 2, .inl (T 0, 4, .inl (msh M))), (bd 3, .inl (T 3, 4, .inr (.inr (.inr (.inr (fun j => if j < 4 then some (bd (8 + j)) else none)))))), (bd 4, .inl (T 0, 4, .inl (man M))), (bd 5, .inl (T 0, 4, .inl (mgl M))), (bd 6, .inl (T 0, 4, .inl (mhb M))), (bd 7, .inl (T 0, 4, .inl (mtk M))), (bd 8, .inl (T 0, 16, .inl (mth M 0))), (bd 9, .inl (T 0, 16, .inl (mth M 1))), (bd 10, .inl (T 0, 16, .inl (mth M 2))), (bd 11, .inl (T 0, 16, .inl (mth M 3))), (b0, .inl (T 0, 7, .inl (upd (fun _ => 0) 0 (mwy M))))]) H := hP
      have hD : va_D A ([(bd 0, .inr (4, [.int thr, .ref (bd 1), .int (nI (mnw M)), .ref (bd 2), .ref (bd 3), .ref (bd 4), .ref (bd 5), .int (nI (mnp M)), .ref (bd 6), .ref (bd 7), .int (mle M), .int (mwy M), .int (mfc M), .int (nI (mta M))])), (bd 1, .inl (T 0, 16, .inl (mpk M))), (bd 2, .inl (T 0, 4, .inl (msh M))), (bd 3, .inl (T 3, 4, .inr (.inr (.inr (.inr (fun j => if j < 4 then some (bd (8 + j)) else none)))))), (bd 4, .inl (T 0, 4, .inl (man M))), (bd 5, .inl (T 0, 4, .inl (mgl M))), (bd 6, .inl (T 0, 4, .inl (mhb M))), (bd 7, .inl (T 0, 4, .inl (mtk M))), (bd 8, .inl (T 0, 16, .inl (mth M 0))), (bd 9, .inl (T 0, 16, .inl (mth M 1))), (bd 10, .inl (T 0, 16, .inl (mth M 2))), (bd 11, .inl (T 0, 16, .inl (mth M 3))), (b0, .inl (T 0, 7, .inl (upd (fun _ => 0) 0 (mwy M))))]) := hD
      refine lv_dup hx hb dX4_counted_45 rfl ?_
      refine lv_iconst (v := nI 1) hx hb dX4_counted_46 (by decide) ?_
      refine lv_aload_n hx hb dX4_counted_47 rfl (lv_at hl 2 rfl) ?_
      refine va_get (D := G) (ci := 4) (v := .int (mfc M)) (C := RX4) (T := TX4) (N := 14) hx hb hts hiX4 hown hK hP 0 rfl rfl 12 (by decide) (hts (.fieldLink RX4 74 "CardFansModel" "falseCuts" "I") (by decide +kernel)) (fun _ h9 => h9) rfl dX4_counted_48 ?_
      refine x_iast hx hb hK hP hD hS 12 0 (f := (upd (fun _ => 0) 0 (mwy M))) (n := 7) rfl rfl (by decide) (by decide) dX4_counted_51 (fun H locs hP hD hS => ?_)
      have hP : va_P G vwCl ([(bd 0, .inr (4, [.int thr, .ref (bd 1), .int (nI (mnw M)), .ref (bd 2), .ref (bd 3), .ref (bd 4), .ref (bd 5), .int (nI (mnp M)), .ref (bd 6), .ref (bd 7), .int (mle M), .int (mwy M), .int (mfc M), .int (nI (mta M))])), (bd 1, .inl (T 0, 16, .inl (mpk M))), (bd 2, .inl (T 0, 4, .inl (msh M))), (bd 3, .inl (T 3, 4, .inr (.inr (.inr (.inr (fun j => if j < 4 then some (bd (8 + j)) else none)))))), (bd 4, .inl (T 0, 4, .inl (man M))), (bd 5, .inl (T 0, 4, .inl (mgl M))), (bd 6, .inl (T 0, 4, .inl (mhb M))), (bd 7, .inl (T 0, 4, .inl (mtk M))), (bd 8, .inl (T 0, 16, .inl (mth M 0))), (bd 9, .inl (T 0, 16, .inl (mth M 1))), (bd 10, .inl (T 0, 16, .inl (mth M 2))), (bd 11, .inl (T 0, 16, .inl (mth M 3))), (b0, .inl (T 0, 7, .inl (upd (upd (fun _ => 0) 0 (mwy M)) 1 (mfc M))))]) H := hP
      have hD : va_D A ([(bd 0, .inr (4, [.int thr, .ref (bd 1), .int (nI (mnw M)), .ref (bd 2), .ref (bd 3), .ref (bd 4), .ref (bd 5), .int (nI (mnp M)), .ref (bd 6), .ref (bd 7), .int (mle M), .int (mwy M), .int (mfc M), .int (nI (mta M))])), (bd 1, .inl (T 0, 16, .inl (mpk M))), (bd 2, .inl (T 0, 4, .inl (msh M))), (bd 3, .inl (T 3, 4, .inr (.inr (.inr (.inr (fun j => if j < 4 then some (bd (8 + j)) else none)))))), (bd 4, .inl (T 0, 4, .inl (man M))), (bd 5, .inl (T 0, 4, .inl (mgl M))), (bd 6, .inl (T 0, 4, .inl (mhb M))), (bd 7, .inl (T 0, 4, .inl (mtk M))), (bd 8, .inl (T 0, 16, .inl (mth M 0))), (bd 9, .inl (T 0, 16, .inl (mth M 1))), (bd 10, .inl (T 0, 16, .inl (mth M 2))), (bd 11, .inl (T 0, 16, .inl (mth M 3))), (b0, .inl (T 0, 7, .inl (upd (upd (fun _ => 0) 0 (mwy M)) 1 (mfc M))))]) := hD
      refine lv_dup hx hb dX4_counted_52 rfl ?_
      refine lv_iconst (v := nI 2) hx hb dX4_counted_53 (by decide) ?_
      refine lv_aload_n hx hb dX4_counted_54 rfl (lv_at hl 2 rfl) ?_
      refine va_get (D := G) (ci := 4) (v := .int (nI (mnw M))) (C := RX4) (T := TX4) (N := 14) hx hb hts hiX4 hown hK hP 0 rfl rfl 2 (by decide) (hts (.fieldLink RX4 41 "CardFansModel" "watchers" "I") (by decide +kernel)) (fun _ h9 => h9) rfl dX4_counted_55 ?_
      refine x_iast hx hb hK hP hD hS 12 0 (f := (upd (upd (fun _ => 0) 0 (mwy M)) 1 (mfc M))) (n := 7) rfl rfl (by decide) (by decide) dX4_counted_58 (fun H locs hP hD hS => ?_)
      have hP : va_P G vwCl ([(bd 0, .inr (4, [.int thr, .ref (bd 1), .int (nI (mnw M)), .ref (bd 2), .ref (bd 3), .ref (bd 4), .ref (bd 5), .int (nI (mnp M)), .ref (bd 6), .ref (bd 7), .int (mle M), .int (mwy M), .int (mfc M), .int (nI (mta M))])), (bd 1, .inl (T 0, 16, .inl (mpk M))), (bd 2, .inl (T 0, 4, .inl (msh M))), (bd 3, .inl (T 3, 4, .inr (.inr (.inr (.inr (fun j => if j < 4 then some (bd (8 + j)) else none)))))), (bd 4, .inl (T 0, 4, .inl (man M))), (bd 5, .inl (T 0, 4, .inl (mgl M))), (bd 6, .inl (T 0, 4, .inl (mhb M))), (bd 7, .inl (T 0, 4, .inl (mtk M))), (bd 8, .inl (T 0, 16, .inl (mth M 0))), (bd 9, .inl (T 0, 16, .inl (mth M 1))), (bd 10, .inl (T 0, 16, .inl (mth M 2))), (bd 11, .inl (T 0, 16, .inl (mth M 3))), (b0, .inl (T 0, 7, .inl (upd (upd (upd (fun _ => 0) 0 (mwy M)) 1 (mfc M)) 2 (nI (mnw M)))))]) H := hP
      have hD : va_D A ([(bd 0, .inr (4, [.int thr, .ref (bd 1), .int (nI (mnw M)), .ref (bd 2), .ref (bd 3), .ref (bd 4), .ref (bd 5), .int (nI (mnp M)), .ref (bd 6), .ref (bd 7), .int (mle M), .int (mwy M), .int (mfc M), .int (nI (mta M))])), (bd 1, .inl (T 0, 16, .inl (mpk M))), (bd 2, .inl (T 0, 4, .inl (msh M))), (bd 3, .inl (T 3, 4, .inr (.inr (.inr (.inr (fun j => if j < 4 then some (bd (8 + j)) else none)))))), (bd 4, .inl (T 0, 4, .inl (man M))), (bd 5, .inl (T 0, 4, .inl (mgl M))), (bd 6, .inl (T 0, 4, .inl (mhb M))), (bd 7, .inl (T 0, 4, .inl (mtk M))), (bd 8, .inl (T 0, 16, .inl (mth M 0))), (bd 9, .inl (T 0, 16, .inl (mth M 1))), (bd 10, .inl (T 0, 16, .inl (mth M 2))), (bd 11, .inl (T 0, 16, .inl (mth M 3))), (b0, .inl (T 0, 7, .inl (upd (upd (upd (fun _ => 0) 0 (mwy M)) 1 (mfc M)) 2 (nI (mnw M)))))]) := hD
      refine lv_dup hx hb dX4_counted_59 rfl ?_
      refine lv_iconst (v := nI 3) hx hb dX4_counted_60 (by decide) ?_
      refine lv_aload_n hx hb dX4_counted_61 rfl (lv_at hl 2 rfl) ?_
      refine va_get (D := G) (ci := 4) (v := .int (nI (mnp M))) (C := RX4) (T := TX4) (N := 14) hx hb hts hiX4 hown hK hP 0 rfl rfl 7 (by decide) (hts (.fieldLink RX4 44 "CardFansModel" "players" "I") (by decide +kernel)) (fun _ h9 => h9) rfl dX4_counted_62 ?_
      refine x_iast hx hb hK hP hD hS 12 0 (f := (upd (upd (upd (fun _ => 0) 0 (mwy M)) 1 (mfc M)) 2 (nI (mnw M)))) (n := 7) rfl rfl (by decide) (by decide) dX4_counted_65 (fun H locs hP hD hS => ?_)
      have hP : va_P G vwCl ([(bd 0, .inr (4, [.int thr, .ref (bd 1), .int (nI (mnw M)), .ref (bd 2), .ref (bd 3), .ref (bd 4), .ref (bd 5), .int (nI (mnp M)), .ref (bd 6), .ref (bd 7), .int (mle M), .int (mwy M), .int (mfc M), .int (nI (mta M))])), (bd 1, .inl (T 0, 16, .inl (mpk M))), (bd 2, .inl (T 0, 4, .inl (msh M))), (bd 3, .inl (T 3, 4, .inr (.inr (.inr (.inr (fun j => if j < 4 then some (bd (8 + j)) else none)))))), (bd 4, .inl (T 0, 4, .inl (man M))), (bd 5, .inl (T 0, 4, .inl (mgl M))), (bd 6, .inl (T 0, 4, .inl (mhb M))), (bd 7, .inl (T 0, 4, .inl (mtk M))), (bd 8, .inl (T 0, 16, .inl (mth M 0))), (bd 9, .inl (T 0, 16, .inl (mth M 1))), (bd 10, .inl (T 0, 16, .inl (mth M 2))), (bd 11, .inl (T 0, 16, .inl (mth M 3))), (b0, .inl (T 0, 7, .inl (upd (upd (upd (upd (fun _ => 0) 0 (mwy M)) 1 (mfc M)) 2 (nI (mnw M))) 3 (nI (mnp M)))))]) H := hP
      have hD : va_D A ([(bd 0, .inr (4, [.int thr, .ref (bd 1), .int (nI (mnw M)), .ref (bd 2), .ref (bd 3), .ref (bd 4), .ref (bd 5), .int (nI (mnp M)), .ref (bd 6), .ref (bd 7), .int (mle M), .int (mwy M), .int (mfc M), .int (nI (mta M))])), (bd 1, .inl (T 0, 16, .inl (mpk M))), (bd 2, .inl (T 0, 4, .inl (msh M))), (bd 3, .inl (T 3, 4, .inr (.inr (.inr (.inr (fun j => if j < 4 then some (bd (8 + j)) else none)))))), (bd 4, .inl (T 0, 4, .inl (man M))), (bd 5, .inl (T 0, 4, .inl (mgl M))), (bd 6, .inl (T 0, 4, .inl (mhb M))), (bd 7, .inl (T 0, 4, .inl (mtk M))), (bd 8, .inl (T 0, 16, .inl (mth M 0))), (bd 9, .inl (T 0, 16, .inl (mth M 1))), (bd 10, .inl (T 0, 16, .inl (mth M 2))), (bd 11, .inl (T 0, 16, .inl (mth M 3))), (b0, .inl (T 0, 7, .inl (upd (upd (upd (upd (fun _ => 0) 0 (mwy M)) 1 (mfc M)) 2 (nI (mnw M))) 3 (nI (mnp M)))))]) := hD
      refine lv_dup hx hb dX4_counted_66 rfl ?_
      refine lv_iconst (v := nI 4) hx hb dX4_counted_67 (by decide) ?_
      refine lv_aload_n hx hb dX4_counted_68 rfl (lv_at hl 2 rfl) ?_
      refine va_get (D := G) (ci := 4) (v := .int (mle M)) (C := RX4) (T := TX4) (N := 14) hx hb hts hiX4 hown hK hP 0 rfl rfl 10 (by decide) (hts (.fieldLink RX4 104 "CardFansModel" "lean" "I") (by decide +kernel)) (fun _ h9 => h9) rfl dX4_counted_69 ?_
      refine x_iast hx hb hK hP hD hS 12 0 (f := (upd (upd (upd (upd (fun _ => 0) 0 (mwy M)) 1 (mfc M)) 2 (nI (mnw M))) 3 (nI (mnp M)))) (n := 7) rfl rfl (by decide) (by decide) dX4_counted_72 (fun H locs hP hD hS => ?_)
      have hP : va_P G vwCl ([(bd 0, .inr (4, [.int thr, .ref (bd 1), .int (nI (mnw M)), .ref (bd 2), .ref (bd 3), .ref (bd 4), .ref (bd 5), .int (nI (mnp M)), .ref (bd 6), .ref (bd 7), .int (mle M), .int (mwy M), .int (mfc M), .int (nI (mta M))])), (bd 1, .inl (T 0, 16, .inl (mpk M))), (bd 2, .inl (T 0, 4, .inl (msh M))), (bd 3, .inl (T 3, 4, .inr (.inr (.inr (.inr (fun j => if j < 4 then some (bd (8 + j)) else none)))))), (bd 4, .inl (T 0, 4, .inl (man M))), (bd 5, .inl (T 0, 4, .inl (mgl M))), (bd 6, .inl (T 0, 4, .inl (mhb M))), (bd 7, .inl (T 0, 4, .inl (mtk M))), (bd 8, .inl (T 0, 16, .inl (mth M 0))), (bd 9, .inl (T 0, 16, .inl (mth M 1))), (bd 10, .inl (T 0, 16, .inl (mth M 2))), (bd 11, .inl (T 0, 16, .inl (mth M 3))), (b0, .inl (T 0, 7, .inl (upd (upd (upd (upd (upd (fun _ => 0) 0 (mwy M)) 1 (mfc M)) 2 (nI (mnw M))) 3 (nI (mnp M))) 4 (mle M))))]) H := hP
      have hD : va_D A ([(bd 0, .inr (4, [.int thr, .ref (bd 1), .int (nI (mnw M)), .ref (bd 2), .ref (bd 3), .ref (bd 4), .ref (bd 5), .int (nI (mnp M)), .ref (bd 6), .ref (bd 7), .int (mle M), .int (mwy M), .int (mfc M), .int (nI (mta M))])), (bd 1, .inl (T 0, 16, .inl (mpk M))), (bd 2, .inl (T 0, 4, .inl (msh M))), (bd 3, .inl (T 3, 4, .inr (.inr (.inr (.inr (fun j => if j < 4 then some (bd (8 + j)) else none)))))), (bd 4, .inl (T 0, 4, .inl (man M))), (bd 5, .inl (T 0, 4, .inl (mgl M))), (bd 6, .inl (T 0, 4, .inl (mhb M))), (bd 7, .inl (T 0, 4, .inl (mtk M))), (bd 8, .inl (T 0, 16, .inl (mth M 0))), (bd 9, .inl (T 0, 16, .inl (mth M 1))), (bd 10, .inl (T 0, 16, .inl (mth M 2))), (bd 11, .inl (T 0, 16, .inl (mth M 3))), (b0, .inl (T 0, 7, .inl (upd (upd (upd (upd (upd (fun _ => 0) 0 (mwy M)) 1 (mfc M)) 2 (nI (mnw M))) 3 (nI (mnp M))) 4 (mle M))))]) := hD
      refine lv_dup hx hb dX4_counted_73 rfl ?_
      refine lv_iconst (v := nI 5) hx hb dX4_counted_74 (by decide) ?_
      refine lv_aload_n hx hb dX4_counted_75 rfl (lv_at hl 2 rfl) ?_
      refine va_get (D := G) (ci := 4) (v := .int (nI (mta M))) (C := RX4) (T := TX4) (N := 14) hx hb hts hiX4 hown hK hP 0 rfl rfl 13 (by decide) (hts (.fieldLink RX4 110 "CardFansModel" "taken" "I") (by decide +kernel)) (fun _ h9 => h9) rfl dX4_counted_76 ?_
      refine x_iast hx hb hK hP hD hS 12 0 (f := (upd (upd (upd (upd (upd (fun _ => 0) 0 (mwy M)) 1 (mfc M)) 2 (nI (mnw M))) 3 (nI (mnp M))) 4 (mle M))) (n := 7) rfl rfl (by decide) (by decide) dX4_counted_79 (fun H locs hP hD hS => ?_)
      have hP : va_P G vwCl ([(bd 0, .inr (4, [.int thr, .ref (bd 1), .int (nI (mnw M)), .ref (bd 2), .ref (bd 3), .ref (bd 4), .ref (bd 5), .int (nI (mnp M)), .ref (bd 6), .ref (bd 7), .int (mle M), .int (mwy M), .int (mfc M), .int (nI (mta M))])), (bd 1, .inl (T 0, 16, .inl (mpk M))), (bd 2, .inl (T 0, 4, .inl (msh M))), (bd 3, .inl (T 3, 4, .inr (.inr (.inr (.inr (fun j => if j < 4 then some (bd (8 + j)) else none)))))), (bd 4, .inl (T 0, 4, .inl (man M))), (bd 5, .inl (T 0, 4, .inl (mgl M))), (bd 6, .inl (T 0, 4, .inl (mhb M))), (bd 7, .inl (T 0, 4, .inl (mtk M))), (bd 8, .inl (T 0, 16, .inl (mth M 0))), (bd 9, .inl (T 0, 16, .inl (mth M 1))), (bd 10, .inl (T 0, 16, .inl (mth M 2))), (bd 11, .inl (T 0, 16, .inl (mth M 3))), (b0, .inl (T 0, 7, .inl (upd (upd (upd (upd (upd (upd (fun _ => 0) 0 (mwy M)) 1 (mfc M)) 2 (nI (mnw M))) 3 (nI (mnp M))) 4 (mle M)) 5 (nI (mta M)))))]) H := hP
      have hD : va_D A ([(bd 0, .inr (4, [.int thr, .ref (bd 1), .int (nI (mnw M)), .ref (bd 2), .ref (bd 3), .ref (bd 4), .ref (bd 5), .int (nI (mnp M)), .ref (bd 6), .ref (bd 7), .int (mle M), .int (mwy M), .int (mfc M), .int (nI (mta M))])), (bd 1, .inl (T 0, 16, .inl (mpk M))), (bd 2, .inl (T 0, 4, .inl (msh M))), (bd 3, .inl (T 3, 4, .inr (.inr (.inr (.inr (fun j => if j < 4 then some (bd (8 + j)) else none)))))), (bd 4, .inl (T 0, 4, .inl (man M))), (bd 5, .inl (T 0, 4, .inl (mgl M))), (bd 6, .inl (T 0, 4, .inl (mhb M))), (bd 7, .inl (T 0, 4, .inl (mtk M))), (bd 8, .inl (T 0, 16, .inl (mth M 0))), (bd 9, .inl (T 0, 16, .inl (mth M 1))), (bd 10, .inl (T 0, 16, .inl (mth M 2))), (bd 11, .inl (T 0, 16, .inl (mth M 3))), (b0, .inl (T 0, 7, .inl (upd (upd (upd (upd (upd (upd (fun _ => 0) 0 (mwy M)) 1 (mfc M)) 2 (nI (mnw M))) 3 (nI (mnp M))) 4 (mle M)) 5 (nI (mta M)))))]) := hD
      refine lv_dup hx hb dX4_counted_80 rfl ?_
      refine lv_bipush (v := nI 6) hx hb dX4_counted_81 (by decide) ?_
      refine lv_iload_n hx hb dX4_counted_83 rfl (lv_at hl 1 rfl) ?_
      refine x_iast hx hb hK hP hD hS 12 0 (f := (upd (upd (upd (upd (upd (upd (fun _ => 0) 0 (mwy M)) 1 (mfc M)) 2 (nI (mnw M))) 3 (nI (mnp M))) 4 (mle M)) 5 (nI (mta M)))) (n := 7) rfl rfl (by decide) (by decide) dX4_counted_84 (fun H locs hP hD hS => ?_)
      have hP : va_P G vwCl ([(bd 0, .inr (4, [.int thr, .ref (bd 1), .int (nI (mnw M)), .ref (bd 2), .ref (bd 3), .ref (bd 4), .ref (bd 5), .int (nI (mnp M)), .ref (bd 6), .ref (bd 7), .int (mle M), .int (mwy M), .int (mfc M), .int (nI (mta M))])), (bd 1, .inl (T 0, 16, .inl (mpk M))), (bd 2, .inl (T 0, 4, .inl (msh M))), (bd 3, .inl (T 3, 4, .inr (.inr (.inr (.inr (fun j => if j < 4 then some (bd (8 + j)) else none)))))), (bd 4, .inl (T 0, 4, .inl (man M))), (bd 5, .inl (T 0, 4, .inl (mgl M))), (bd 6, .inl (T 0, 4, .inl (mhb M))), (bd 7, .inl (T 0, 4, .inl (mtk M))), (bd 8, .inl (T 0, 16, .inl (mth M 0))), (bd 9, .inl (T 0, 16, .inl (mth M 1))), (bd 10, .inl (T 0, 16, .inl (mth M 2))), (bd 11, .inl (T 0, 16, .inl (mth M 3))), (b0, .inl (T 0, 7, .inl (upd (upd (upd (upd (upd (upd (upd (fun _ => 0) 0 (mwy M)) 1 (mfc M)) 2 (nI (mnw M))) 3 (nI (mnp M))) 4 (mle M)) 5 (nI (mta M))) 6 (nI (xct (fun j => decide (mpk M j = nI j)) 16)))))]) H := hP
      have hD : va_D A ([(bd 0, .inr (4, [.int thr, .ref (bd 1), .int (nI (mnw M)), .ref (bd 2), .ref (bd 3), .ref (bd 4), .ref (bd 5), .int (nI (mnp M)), .ref (bd 6), .ref (bd 7), .int (mle M), .int (mwy M), .int (mfc M), .int (nI (mta M))])), (bd 1, .inl (T 0, 16, .inl (mpk M))), (bd 2, .inl (T 0, 4, .inl (msh M))), (bd 3, .inl (T 3, 4, .inr (.inr (.inr (.inr (fun j => if j < 4 then some (bd (8 + j)) else none)))))), (bd 4, .inl (T 0, 4, .inl (man M))), (bd 5, .inl (T 0, 4, .inl (mgl M))), (bd 6, .inl (T 0, 4, .inl (mhb M))), (bd 7, .inl (T 0, 4, .inl (mtk M))), (bd 8, .inl (T 0, 16, .inl (mth M 0))), (bd 9, .inl (T 0, 16, .inl (mth M 1))), (bd 10, .inl (T 0, 16, .inl (mth M 2))), (bd 11, .inl (T 0, 16, .inl (mth M 3))), (b0, .inl (T 0, 7, .inl (upd (upd (upd (upd (upd (upd (upd (fun _ => 0) 0 (mwy M)) 1 (mfc M)) 2 (nI (mnw M))) 3 (nI (mnp M))) 4 (mle M)) 5 (nI (mta M))) 6 (nI (xct (fun j => decide (mpk M j = nI j)) 16)))))]) := hD
      refine lv_astore_n (lv' := [(3, .ref b0), (2, .int (nI (xct (fun j => decide (mpk M j = nI j)) 16))), (0, .ref (bd 0)), (1, .int (nI q))]) hx hb dX4_counted_85 rfl hl (by decide) rfl (fun ls hl => ?_)
      refine lv_aload_n hx hb dX4_counted_86 rfl (lv_at hl 0 rfl) ?_
      refine lv_iload_n hx hb dX4_counted_87 rfl (lv_at hl 3 rfl) ?_
      refine x_iald hx hb hK hP 12 0 (f := (upd (upd (upd (upd (upd (upd (upd (fun _ => 0) 0 (mwy M)) 1 (mfc M)) 2 (nI (mnw M))) 3 (nI (mnp M))) 4 (mle M)) 5 (nI (mta M))) 6 (nI (xct (fun j => decide (mpk M j = nI j)) 16)))) (n := 7) rfl rfl hq (by decide) dX4_counted_88 ?_
      exact W.iret (v := (upd (upd (upd (upd (upd (upd (upd (fun _ => 0) 0 (mwy M)) 1 (mfc M)) 2 (nI (mnw M))) 3 (nI (mnp M))) 4 (mle M)) 5 (nI (mta M))) 6 (nI (xct (fun j => decide (mpk M j = nI j)) 16))) q) hx hb hr (fun t9_ ht hW => ⟨⟨(upd (upd (upd (upd (upd (upd (upd (fun _ => 0) 0 (mwy M)) 1 (mfc M)) 2 (nI (mnw M))) 3 (nI (mnp M))) 4 (mle M)) 5 (nI (mta M))) 6 (nI (xct (fun j => decide (mpk M j = nI j)) 16))) q, (), rfl, by rcases (show q = 0 ∨ q = 1 ∨ q = 2 ∨ q = 3 ∨ q = 4 ∨ q = 5 ∨ q = 6 by omega) with rfl | rfl | rfl | rfl | rfl | rfl | rfl <;> rfl, x_at ht (hP.sub [0, 1, 2, 3, 4, 5, 6, 7, 8, 9, 10, 11] rfl)⟩, hS.F ht⟩) hS.2.2 dX4_counted_89

set_option maxHeartbeats 4000000 in
set_option maxRecDepth 100000 in
/-- count -/
theorem c_X4_count (l : Launch) (G : va_G) (T : Nat → ClassId) (sz : Nat) (bd : Nat → Nat) (thr : Int32) (M : XM) (x : Int32) : Met l yX4_count wsX4_count ({ frames := 1, cells := 1, slots := 7, locals := 23 }) (va_Pc [.ref (bd 0), .int x] (xPre G T (xD T bd thr M) sz)) (va_Qi (fun (r : Int32) (u : Int32) => (xvb 7 x = true ∧ u = nI 0 ∧ r = xcnt M (xka x)) ∨ (xvb 7 x = false ∧ u = nI 1)) (fun u t => va_P G vwCl (xD T bd u M) t.heap) (va_A (xD T bd thr M) sz)) 1 7 (va_A (xD T bd thr M) sz) := by
  refine Met.ofW (cc := cX4_count) (maxL := 2) (ret := (some .int)) (by decide +kernel) rfl ?_
  intro p e s m args below meth c s₁ B hml hv
  obtain ⟨rfl, hsz, hP, hK, hD0, hXB, hZ⟩ := hv
  have hx := B.exec
  have hb := B.bytes
  have hr := B.returns
  have hts := atoms_spec (ws := wsX4_count) B.pre
  have hown : s.vm.findClass RX4 = some m.cls := findClass_of_methodNamed B.named
  have hlocks := B.notSynchronized
  subst hsz
  have hD := hD0.self (sz := s.heap.size)
  generalize hAe : va_A (xD T bd thr M) s.heap.size = A at hD hZ ⊢
  have hA : ∀ q : Nat, s.heap.size ≤ q → A q := fun q h => by rw [← hAe]; exact Or.inr h
  have hS : va_S A s.heap s.heap [] := va_S.rf
  have hP : va_P G vwCl (xD T bd thr M) s.heap := hP
  have hiX4 : ∀ w ∈ u_ws RX4 TX4 14, w ∈ wsX4_count := by decide +kernel
  have hl := lv_entry ([.ref (bd 0), .int x]) (n := 2) (Nat.le_of_ble_eq_true rfl)
  rw [lg_entry_eq]
  generalize (lg_sl ([.ref (bd 0), .int x]) ++ List.replicate (2 - (lg_sl ([.ref (bd 0), .int x])).length) Slot.unset).toArray = ls at hl ⊢
  have hl : lv_has ls 2 [(0, .ref (bd 0)), (1, .int x)] := hl
  refine lv_aload_n hx hb dX4_count_0 rfl (lv_at hl 0 rfl) ?_
  refine lv_iconst (v := nI 0) hx hb dX4_count_1 (by decide) ?_
  refine va_put (D := G) (ci := 4) (v := .int (nI 0)) (ty := .int) (C := RX4) (T := TX4) (N := 14) hx hb hts hiX4 tyX4 tyX4_ok nmX4 hown hK hP hD hS 0 rfl rfl 0 (by decide) (hts (.fieldLink RX4 33 "CardFansModel" "thrown" "I") (by decide +kernel)) (fun _ h9 => h9) rfl (by decide +kernel) rfl rfl (Nat.le_of_ble_eq_true rfl) dX4_count_2 (fun H locs hP hD hS => ?_)
  have hP : va_P G vwCl (xD T bd (nI 0) M) H := hP
  have hD : va_D A (xD T bd (nI 0) M) := hD
  refine lv_iload_n hx hb dX4_count_5 rfl (lv_at hl 1 rfl) ?_
  refine lv_iconst (v := nI 0) hx hb dX4_count_6 (by decide) ?_
  refine lv_bipush (v := nI 6) hx hb dX4_count_7 (by decide) ?_
  refine x_calli (va_runS (As := [.int x, .int (nI 0), .int (nI 6)]) (rest := []) ⟨hx, hb, hml, hown, hts⟩ (c_X4_isIn l G T _ x (nI 0) (nI 6)) (va_cwS 3 hts gX4_count_X4_isIn rfl rfl rfl (by decide +kernel) ⟨Nat.le_of_ble_eq_true rfl, Nat.le_of_ble_eq_true rfl⟩) (x_preS (wc := []) hK hP hD hS hA hXB hZ [] rfl rfl _) rfl rfl hl.1 rfl (lv_room (Nat.le_of_ble_eq_true rfl)) dX4_count_9 ⟨Nat.le_of_ble_eq_true rfl, Nat.le_of_ble_eq_true rfl⟩) hP hD hS hA [] rfl (fun _ _ _ => rfl) (fun r1 u1 H locs hw1 hP hD hS => ?_)
  have hP : va_P G vwCl (xD T bd (nI 0) M) H := hP
  have hD : va_D A (xD T bd (nI 0) M) := hD
  rw [show (decide (nI 0 ≤ x) && decide (x ≤ nI 6)) = xvb 7 x from xin_n (n := 7) (by decide) x] at hw1
  refine lv_if_eq (tgt := 23) hx hb dX4_count_12 (by decide) (fun c1 => ?_) (fun c1 => ?_)
  · refine lv_aload_n hx hb dX4_count_23 rfl (lv_at hl 0 rfl) ?_
    refine lv_iconst (v := nI 1) hx hb dX4_count_24 (by decide) ?_
    refine x_calliW (va_runV (As := [.int (nI 1)]) (rest := []) ⟨hx, hb, hml, hown, hts⟩ (c_X4_no l G T _ bd (nI 0) M (nI 1)) (cwV 1 hts gX4_count_X4_no rfl rfl rfl (by decide +kernel) ⟨Nat.le_of_ble_eq_true rfl, Nat.le_of_ble_eq_true rfl⟩) (x_preVW (wc := (xD T bd (nI 0) M)) hK hP hD hS hA hXB hZ _ _ 0 4 rfl rfl) rfl rfl hl.1 rfl (lv_room (Nat.le_of_ble_eq_true rfl)) dX4_count_25 ⟨Nat.le_of_ble_eq_true rfl, Nat.le_of_ble_eq_true rfl⟩) hP hD hS hA (fun _ _ _ => xd_self rfl hD) (fun r8 u8 H locs hw8 hP hD hS => ?_)
    have hP : va_P G vwCl (xD T bd (nI 1) M) H := hP
    have hD : va_D A (xD T bd (nI 1) M) := hD
    refine W.widen (k := 1) (n := 7) (by omega) (by omega) ?_
    exact W.iret (v := r8) hx hb hr (fun t9_ ht hW => ⟨⟨r8, (nI 1), rfl, Or.inr ⟨xb_of_eq hw1 c1, rfl⟩, x_at ht hP⟩, hS.F ht⟩) hS.2.2 dX4_count_28
  · have hv1 := xb_of_ne hw1 c1
    obtain ⟨k, hk, rfl⟩ := (xvb_iff (n := 7) (by decide)).mp (hv1)
    refine lv_aload_n hx hb dX4_count_15 rfl (lv_at hl 0 rfl) ?_
    refine lv_iload_n hx hb dX4_count_16 rfl (lv_at hl 1 rfl) ?_
    refine x_calliW (va_runV (As := [.int (nI k)]) (rest := []) ⟨hx, hb, hml, hown, hts⟩ (c_X4_counted l G T _ bd (nI 0) M k hk) (cwV 1 hts gX4_count_X4_counted rfl rfl rfl (by decide +kernel) ⟨Nat.le_of_ble_eq_true rfl, Nat.le_of_ble_eq_true rfl⟩) (x_preVW (wc := (xD T bd (nI 0) M)) hK hP hD hS hA hXB hZ _ _ 0 4 rfl rfl) rfl rfl hl.1 rfl (lv_room (Nat.le_of_ble_eq_true rfl)) dX4_count_17 ⟨Nat.le_of_ble_eq_true rfl, Nat.le_of_ble_eq_true rfl⟩) hP hD hS hA (fun _ _ _ => xd_self rfl hD) (fun r2 u2 H locs hw2 hP hD hS => ?_)
    have hP : va_P G vwCl (xD T bd (nI 0) M) H := hP
    have hD : va_D A (xD T bd (nI 0) M) := hD
    refine lv_goto (tgt := 28) hx hb dX4_count_20 (by decide) ?_
    exact W.iret (v := r2) hx hb hr (fun t9_ ht hW => ⟨⟨r2, (nI 0), rfl, Or.inl ⟨hv1, rfl, by rw [xka_n (by omega)]; exact hw2⟩, x_at ht hP⟩, hS.F ht⟩) hS.2.2 dX4_count_28

set_option maxHeartbeats 4000000 in
set_option maxRecDepth 100000 in
/-- watcherTold -/
theorem c_X4_watcherTold (l : Launch) (G : va_G) (T : Nat → ClassId) (sz : Nat) (bd : Nat → Nat) (thr : Int32) (M : XM) (k q : Nat) (hk4 : k < 4) (hq : q < 6) (hin : ∀ j, j < 16 → (mth M k j).toBitVec.toNat < 65536) (hpk : ∀ j, j < 16 → ∃ c, c < 16 ∧ mpk M j = nI c) : Met l yX4_watcherTold wsX4_watcherTold ({ frames := 2, cells := 1, slots := 6, locals := 40 }) (va_Pc [.ref (bd 0), .int (nI k), .int (nI q)] (xPre G T (xD T bd thr M) sz)) (va_Qi (fun (r : Int32) (u : Unit) => r = xtold M k q) (fun u t => va_P G vwCl (xD T bd thr M) t.heap) (va_A (xD T bd thr M) sz)) 1 6 (va_A (xD T bd thr M) sz) := by
  refine Met.ofW (cc := cX4_watcherTold) (maxL := 8) (ret := (some .int)) (by decide +kernel) rfl ?_
  intro p e s m args below meth c s₁ B hml hv
  obtain ⟨rfl, hsz, hP, hK, hD0, hXB, hZ⟩ := hv
  have hx := B.exec
  have hb := B.bytes
  have hr := B.returns
  have hts := atoms_spec (ws := wsX4_watcherTold) B.pre
  have hown : s.vm.findClass RX4 = some m.cls := findClass_of_methodNamed B.named
  have hlocks := B.notSynchronized
  subst hsz
  have hD := hD0.self (sz := s.heap.size)
  generalize hAe : va_A (xD T bd thr M) s.heap.size = A at hD hZ ⊢
  have hA : ∀ q : Nat, s.heap.size ≤ q → A q := fun q h => by rw [← hAe]; exact Or.inr h
  have hS : va_S A s.heap s.heap [] := va_S.rf
  have hP : va_P G vwCl (xD T bd thr M) s.heap := hP
  have hiX4 : ∀ w ∈ u_ws RX4 TX4 14, w ∈ wsX4_watcherTold := by decide +kernel
  have hl := lv_entry ([.ref (bd 0), .int (nI k), .int (nI q)]) (n := 8) (Nat.le_of_ble_eq_true rfl)
  rw [lg_entry_eq]
  generalize (lg_sl ([.ref (bd 0), .int (nI k), .int (nI q)]) ++ List.replicate (8 - (lg_sl ([.ref (bd 0), .int (nI k), .int (nI q)])).length) Slot.unset).toArray = ls at hl ⊢
  have hl : lv_has ls 8 [(0, .ref (bd 0)), (1, .int (nI k)), (2, .int (nI q))] := hl
  refine lv_iconst (v := nI 0) hx hb dX4_watcherTold_0 (by decide) ?_
  refine lv_istore_n (lv' := [(3, .int (nI 0)), (0, .ref (bd 0)), (1, .int (nI k)), (2, .int (nI q))]) hx hb dX4_watcherTold_1 rfl hl (by decide) rfl (fun ls hl => ?_)
  refine lv_iconst (v := nI 0) hx hb dX4_watcherTold_2 (by decide) ?_
  refine lv_istore (lv' := [(4, .int (nI 0)), (3, .int (nI 0)), (0, .ref (bd 0)), (1, .int (nI k)), (2, .int (nI q))]) hx hb dX4_watcherTold_3 hl (by decide) rfl (fun ls hl => ?_)
  refine lv_iconst (v := nI 0) hx hb dX4_watcherTold_5 (by decide) ?_
  refine lv_istore (lv' := [(5, .int (nI 0)), (4, .int (nI 0)), (3, .int (nI 0)), (0, .ref (bd 0)), (1, .int (nI k)), (2, .int (nI q))]) hx hb dX4_watcherTold_6 hl (by decide) rfl (fun ls hl => ?_)
  refine lv_iconst (v := nI 0) hx hb dX4_watcherTold_8 (by decide) ?_
  refine lv_istore (lv' := [(6, .int (nI 0)), (5, .int (nI 0)), (4, .int (nI 0)), (3, .int (nI 0)), (0, .ref (bd 0)), (1, .int (nI k)), (2, .int (nI q))]) hx hb dX4_watcherTold_9 hl (by decide) rfl (fun ls hl => ?_)
  suffices LP : ∀ (n : Nat) (i : Nat), (i ≤ 16) → (16 < i + n) → ∀ (H : Heap) (locs : List Loc), va_P G vwCl (xD T bd thr M) H → va_D A (xD T bd thr M) → va_S A s.heap H locs → ∀ (ls : Array Slot), lv_has ls 8 [(6, .int (nI i)), (3, .int (nI (xct (fun j => decide (¬ mth M k j &&& xso (mpk M j) = 0)) i))), (4, .int (nI (xct (fun j => xone (mth M k j)) i))), (5, .int (nI (xct (fun j => decide (mth M k j = xso (mpk M j))) i))), (0, .ref (bd 0)), (1, .int (nI k)), (2, .int (nI q))] → W p l e (headSpec wsX4_watcherTold ({ frames := 2, cells := 1, slots := 6, locals := 40 })).room s m ([.ref (bd 0), .int (nI k), .int (nI q)] : List Value).toArray below meth c H locs 0 0 (MQ below (va_Qi (fun (r : Int32) (u : Unit) => r = xtold M k q) (fun u t => va_P G vwCl (xD T bd thr M) t.heap) A) ([.ref (bd 0), .int (nI k), .int (nI q)] : List Value).toArray s 1 6 A) (F0 m 11 ls []) from LP 17 0 (by decide) (by decide) _ _ hP hD hS ls (lv_sub hl [0, 3, 2, 1, 4, 5, 6] rfl)
  clear hP hD hS hl
  intro n
  induction n with
  | zero => intro i hi hn H locs _ _ _ ls _; exfalso; omega
  | succ n ih =>
    intro i hi hn H locs hP hD hS ls hl
    refine lv_iload hx hb dX4_watcherTold_11 (lv_at hl 0 rfl) ?_
    refine lv_bipush (v := nI 16) hx hb dX4_watcherTold_13 (by decide) ?_
    by_cases hc : i < 16
    · refine lv_icmp_ge (tgt := 122) hx hb dX4_watcherTold_15 (by decide) (fun c_ => absurd c_ (nI_ge hc (by decide))) (fun _ => ?_)
      refine lv_aload_n hx hb dX4_watcherTold_18 rfl (lv_at hl 4 rfl) ?_
      refine va_get (D := G) (ci := 4) (v := .ref (bd 3)) (C := RX4) (T := TX4) (N := 14) hx hb hts hiX4 hown hK hP 0 rfl rfl 4 (by decide) (hts (.fieldLink RX4 18 "CardFansModel" "thinks" "[[I") (by decide +kernel)) (fun _ h9 => h9) rfl dX4_watcherTold_19 ?_
      refine lv_iload_n hx hb dX4_watcherTold_22 rfl (lv_at hl 5 rfl) ?_
      refine x_aaldA hx hb hK hP 3 3 rfl rfl hk4 (by decide) dX4_watcherTold_23 (v := .ref (bd (8 + k))) (by show va_rf (if k < 4 then _ else _) = _; rw [if_pos hk4]; rfl) ?_
      refine lv_iload hx hb dX4_watcherTold_24 (lv_at hl 0 rfl) ?_
      refine x_iald hx hb hK hP (8 + k) 0 (f := (mth M k)) (n := 16) (xD_row T bd thr M hk4) rfl hc (by decide) dX4_watcherTold_26 ?_
      refine lv_aload_n hx hb dX4_watcherTold_27 rfl (lv_at hl 4 rfl) ?_
      refine va_get (D := G) (ci := 4) (v := .ref (bd 1)) (C := RX4) (T := TX4) (N := 14) hx hb hts hiX4 hown hK hP 0 rfl rfl 1 (by decide) (hts (.fieldLink RX4 9 "CardFansModel" "pack" "[I") (by decide +kernel)) (fun _ h9 => h9) rfl dX4_watcherTold_28 ?_
      refine lv_iload hx hb dX4_watcherTold_31 (lv_at hl 0 rfl) ?_
      refine x_iald hx hb hK hP 1 0 (f := (mpk M)) (n := 16) rfl rfl hc (by decide) dX4_watcherTold_33 ?_
      refine lv_ishr hx hb dX4_watcherTold_34 ?_
      refine lv_iconst (v := nI 1) hx hb dX4_watcherTold_35 (by decide) ?_
      refine lv_iand hx hb dX4_watcherTold_36 ?_
      refine lv_iconst (v := nI 1) hx hb dX4_watcherTold_37 (by decide) ?_
      have hr9 := xright (hin i hc) (hpk i hc)
      have hb9 := xboth (hin i hc) (hpk i hc)
      by_cases h1 : ¬ mth M k i &&& xso (mpk M i) = 0
      · refine lv_icmp_ne (tgt := 45) hx hb dX4_watcherTold_38 (by decide) (fun c_ => absurd (hr9.mpr h1) c_) (fun _ => ?_)
        refine lv_iconst (v := nI 1) hx hb dX4_watcherTold_41 (by decide) ?_
        refine lv_goto (tgt := 46) hx hb dX4_watcherTold_42 (by decide) ?_
        refine lv_istore (lv' := [(7, .int (nI 1)), (6, .int (nI i)), (3, .int (nI (xct (fun j => decide (¬ mth M k j &&& xso (mpk M j) = 0)) i))), (4, .int (nI (xct (fun j => xone (mth M k j)) i))), (5, .int (nI (xct (fun j => decide (mth M k j = xso (mpk M j))) i))), (0, .ref (bd 0)), (1, .int (nI k)), (2, .int (nI q))]) hx hb dX4_watcherTold_46 hl (by decide) rfl (fun ls hl => ?_)
        refine lv_iload_n hx hb dX4_watcherTold_48 rfl (lv_at hl 2 rfl) ?_
        refine lv_iload hx hb dX4_watcherTold_49 (lv_at hl 0 rfl) ?_
        refine lv_if_eq (tgt := 58) hx hb dX4_watcherTold_51 (by decide) (fun c_ => absurd c_ (by decide)) (fun _ => ?_)
        refine lv_iconst (v := nI 1) hx hb dX4_watcherTold_54 (by decide) ?_
        refine lv_goto (tgt := 59) hx hb dX4_watcherTold_55 (by decide) ?_
        refine lv_iadd hx hb dX4_watcherTold_59 ?_
        refine x_topi (y := nI (xct (fun j => decide (¬ mth M k j &&& xso (mpk M j) = 0)) (i + 1))) (by rw [show xct (fun j => decide (¬ mth M k j &&& xso (mpk M j) = 0)) (i + 1) = xct (fun j => decide (¬ mth M k j &&& xso (mpk M j) = 0)) i + 1 from xct_t (p := (fun j => decide (¬ mth M k j &&& xso (mpk M j) = 0))) (n := i) (decide_eq_true h1)]; exact nI_add _ 1) ?_
        refine lv_istore_n (lv' := [(3, .int (nI (xct (fun j => decide (¬ mth M k j &&& xso (mpk M j) = 0)) (i + 1)))), (7, .int (nI 1)), (6, .int (nI i)), (4, .int (nI (xct (fun j => xone (mth M k j)) i))), (5, .int (nI (xct (fun j => decide (mth M k j = xso (mpk M j))) i))), (0, .ref (bd 0)), (1, .int (nI k)), (2, .int (nI q))]) hx hb dX4_watcherTold_60 rfl hl (by decide) rfl (fun ls hl => ?_)
        refine lv_iload hx hb dX4_watcherTold_61 (lv_at hl 3 rfl) ?_
        refine lv_aload_n hx hb dX4_watcherTold_63 rfl (lv_at hl 5 rfl) ?_
        refine va_get (D := G) (ci := 4) (v := .ref (bd 3)) (C := RX4) (T := TX4) (N := 14) hx hb hts hiX4 hown hK hP 0 rfl rfl 4 (by decide) (hts (.fieldLink RX4 18 "CardFansModel" "thinks" "[[I") (by decide +kernel)) (fun _ h9 => h9) rfl dX4_watcherTold_64 ?_
        refine lv_iload_n hx hb dX4_watcherTold_67 rfl (lv_at hl 6 rfl) ?_
        refine x_aaldA hx hb hK hP 3 3 rfl rfl hk4 (by decide) dX4_watcherTold_68 (v := .ref (bd (8 + k))) (by show va_rf (if k < 4 then _ else _) = _; rw [if_pos hk4]; rfl) ?_
        refine lv_iload hx hb dX4_watcherTold_69 (lv_at hl 2 rfl) ?_
        refine x_iald hx hb hK hP (8 + k) 0 (f := (mth M k)) (n := 16) (xD_row T bd thr M hk4) rfl hc (by decide) dX4_watcherTold_71 ?_
        refine x_calli (va_runS (As := [.int ((mth M k) i)]) (rest := [.int (nI (xct (fun j => xone (mth M k j)) i))]) ⟨hx, hb, hml, hown, hts⟩ (c_X4_isOne l G T _ (mth M k i)) (va_cwS 1 hts gX4_watcherTold_X4_isOne rfl rfl rfl (by decide +kernel) ⟨Nat.le_of_ble_eq_true rfl, Nat.le_of_ble_eq_true rfl⟩) (x_preS (wc := []) hK hP hD hS hA hXB hZ [] rfl rfl _) rfl rfl hl.1 rfl (lv_room (Nat.le_of_ble_eq_true rfl)) dX4_watcherTold_72 ⟨Nat.le_of_ble_eq_true rfl, Nat.le_of_ble_eq_true rfl⟩) hP hD hS hA [] rfl (fun _ _ _ => rfl) (fun r2 u2 H locs hw2 hP hD hS => ?_)
        have hP : va_P G vwCl (xD T bd thr M) H := hP
        have hD : va_D A (xD T bd thr M) := hD
        by_cases h2 : xone (mth M k i) = true
        · refine lv_if_eq (tgt := 82) hx hb dX4_watcherTold_75 (by decide) (fun c_ => absurd c_ (xb_ne hw2 h2)) (fun _ => ?_)
          refine lv_iconst (v := nI 1) hx hb dX4_watcherTold_78 (by decide) ?_
          refine lv_goto (tgt := 83) hx hb dX4_watcherTold_79 (by decide) ?_
          refine lv_iadd hx hb dX4_watcherTold_83 ?_
          refine x_topi (y := nI (xct (fun j => xone (mth M k j)) (i + 1))) (by rw [show xct (fun j => xone (mth M k j)) (i + 1) = xct (fun j => xone (mth M k j)) i + 1 from xct_t (p := (fun j => xone (mth M k j))) (n := i) h2]; exact nI_add _ 1) ?_
          refine lv_istore (lv' := [(4, .int (nI (xct (fun j => xone (mth M k j)) (i + 1)))), (3, .int (nI (xct (fun j => decide (¬ mth M k j &&& xso (mpk M j) = 0)) (i + 1)))), (7, .int (nI 1)), (6, .int (nI i)), (5, .int (nI (xct (fun j => decide (mth M k j = xso (mpk M j))) i))), (0, .ref (bd 0)), (1, .int (nI k)), (2, .int (nI q))]) hx hb dX4_watcherTold_84 hl (by decide) rfl (fun ls hl => ?_)
          refine lv_iload hx hb dX4_watcherTold_86 (lv_at hl 4 rfl) ?_
          refine lv_iload hx hb dX4_watcherTold_88 (lv_at hl 2 rfl) ?_
          refine lv_if_eq (tgt := 112) hx hb dX4_watcherTold_90 (by decide) (fun c_ => absurd c_ (by decide)) (fun _ => ?_)
          refine lv_aload_n hx hb dX4_watcherTold_93 rfl (lv_at hl 5 rfl) ?_
          refine va_get (D := G) (ci := 4) (v := .ref (bd 3)) (C := RX4) (T := TX4) (N := 14) hx hb hts hiX4 hown hK hP 0 rfl rfl 4 (by decide) (hts (.fieldLink RX4 18 "CardFansModel" "thinks" "[[I") (by decide +kernel)) (fun _ h9 => h9) rfl dX4_watcherTold_94 ?_
          refine lv_iload_n hx hb dX4_watcherTold_97 rfl (lv_at hl 6 rfl) ?_
          refine x_aaldA hx hb hK hP 3 3 rfl rfl hk4 (by decide) dX4_watcherTold_98 (v := .ref (bd (8 + k))) (by show va_rf (if k < 4 then _ else _) = _; rw [if_pos hk4]; rfl) ?_
          refine lv_iload hx hb dX4_watcherTold_99 (lv_at hl 3 rfl) ?_
          refine x_iald hx hb hK hP (8 + k) 0 (f := (mth M k)) (n := 16) (xD_row T bd thr M hk4) rfl hc (by decide) dX4_watcherTold_101 ?_
          refine x_calli (va_runS (As := [.int ((mth M k) i)]) (rest := [.int (nI (xct (fun j => decide (mth M k j = xso (mpk M j))) i))]) ⟨hx, hb, hml, hown, hts⟩ (c_X4_isOne l G T _ (mth M k i)) (va_cwS 1 hts gX4_watcherTold_X4_isOne rfl rfl rfl (by decide +kernel) ⟨Nat.le_of_ble_eq_true rfl, Nat.le_of_ble_eq_true rfl⟩) (x_preS (wc := []) hK hP hD hS hA hXB hZ [] rfl rfl _) rfl rfl hl.1 rfl (lv_room (Nat.le_of_ble_eq_true rfl)) dX4_watcherTold_102 ⟨Nat.le_of_ble_eq_true rfl, Nat.le_of_ble_eq_true rfl⟩) hP hD hS hA [] rfl (fun _ _ _ => rfl) (fun r3 u3 H locs hw3 hP hD hS => ?_)
          have hP : va_P G vwCl (xD T bd thr M) H := hP
          have hD : va_D A (xD T bd thr M) := hD
          refine lv_if_eq (tgt := 112) hx hb dX4_watcherTold_105 (by decide) (fun c_ => absurd c_ (xb_ne hw3 h2)) (fun _ => ?_)
          refine lv_iconst (v := nI 1) hx hb dX4_watcherTold_108 (by decide) ?_
          refine lv_goto (tgt := 113) hx hb dX4_watcherTold_109 (by decide) ?_
          refine lv_iadd hx hb dX4_watcherTold_113 ?_
          refine x_topi (y := nI (xct (fun j => decide (mth M k j = xso (mpk M j))) (i + 1))) (by rw [show xct (fun j => decide (mth M k j = xso (mpk M j))) (i + 1) = xct (fun j => decide (mth M k j = xso (mpk M j))) i + 1 from xct_t (p := (fun j => decide (mth M k j = xso (mpk M j)))) (n := i) (decide_eq_true (hb9.mp ⟨h1, h2⟩))]; exact nI_add _ 1) ?_
          refine lv_istore (lv' := [(5, .int (nI (xct (fun j => decide (mth M k j = xso (mpk M j))) (i + 1)))), (4, .int (nI (xct (fun j => xone (mth M k j)) (i + 1)))), (3, .int (nI (xct (fun j => decide (¬ mth M k j &&& xso (mpk M j) = 0)) (i + 1)))), (7, .int (nI 1)), (6, .int (nI i)), (0, .ref (bd 0)), (1, .int (nI k)), (2, .int (nI q))]) hx hb dX4_watcherTold_114 hl (by decide) rfl (fun ls hl => ?_)
          refine lv_iinc (v := nI (i + 1)) (lv' := [(6, .int (nI (i + 1))), (5, .int (nI (xct (fun j => decide (mth M k j = xso (mpk M j))) (i + 1)))), (4, .int (nI (xct (fun j => xone (mth M k j)) (i + 1)))), (3, .int (nI (xct (fun j => decide (¬ mth M k j &&& xso (mpk M j) = 0)) (i + 1)))), (7, .int (nI 1)), (0, .ref (bd 0)), (1, .int (nI k)), (2, .int (nI q))]) hx hb dX4_watcherTold_116 hl (k := 4) rfl (x_inc _) (by decide) rfl (fun ls hl => ?_)
          refine lv_goto (tgt := 11) hx hb dX4_watcherTold_119 (by decide) ?_
          exact ih (i + 1) (by omega) (by omega) _ _ hP hD hS ls (lv_sub hl [0, 3, 2, 1, 5, 6, 7] rfl)
        · refine lv_if_eq (tgt := 82) hx hb dX4_watcherTold_75 (by decide) (fun _ => ?_) (fun c_ => absurd (xb_eq hw2 (by simpa using h2)) c_)
          refine lv_iconst (v := nI 0) hx hb dX4_watcherTold_82 (by decide) ?_
          refine lv_iadd hx hb dX4_watcherTold_83 ?_
          refine x_topi (y := nI (xct (fun j => xone (mth M k j)) (i + 1))) (by rw [show xct (fun j => xone (mth M k j)) (i + 1) = xct (fun j => xone (mth M k j)) i from xct_f (p := (fun j => xone (mth M k j))) (n := i) h2]; exact nI_add _ 0) ?_
          refine lv_istore (lv' := [(4, .int (nI (xct (fun j => xone (mth M k j)) (i + 1)))), (3, .int (nI (xct (fun j => decide (¬ mth M k j &&& xso (mpk M j) = 0)) (i + 1)))), (7, .int (nI 1)), (6, .int (nI i)), (5, .int (nI (xct (fun j => decide (mth M k j = xso (mpk M j))) i))), (0, .ref (bd 0)), (1, .int (nI k)), (2, .int (nI q))]) hx hb dX4_watcherTold_84 hl (by decide) rfl (fun ls hl => ?_)
          refine lv_iload hx hb dX4_watcherTold_86 (lv_at hl 4 rfl) ?_
          refine lv_iload hx hb dX4_watcherTold_88 (lv_at hl 2 rfl) ?_
          refine lv_if_eq (tgt := 112) hx hb dX4_watcherTold_90 (by decide) (fun c_ => absurd c_ (by decide)) (fun _ => ?_)
          refine lv_aload_n hx hb dX4_watcherTold_93 rfl (lv_at hl 5 rfl) ?_
          refine va_get (D := G) (ci := 4) (v := .ref (bd 3)) (C := RX4) (T := TX4) (N := 14) hx hb hts hiX4 hown hK hP 0 rfl rfl 4 (by decide) (hts (.fieldLink RX4 18 "CardFansModel" "thinks" "[[I") (by decide +kernel)) (fun _ h9 => h9) rfl dX4_watcherTold_94 ?_
          refine lv_iload_n hx hb dX4_watcherTold_97 rfl (lv_at hl 6 rfl) ?_
          refine x_aaldA hx hb hK hP 3 3 rfl rfl hk4 (by decide) dX4_watcherTold_98 (v := .ref (bd (8 + k))) (by show va_rf (if k < 4 then _ else _) = _; rw [if_pos hk4]; rfl) ?_
          refine lv_iload hx hb dX4_watcherTold_99 (lv_at hl 3 rfl) ?_
          refine x_iald hx hb hK hP (8 + k) 0 (f := (mth M k)) (n := 16) (xD_row T bd thr M hk4) rfl hc (by decide) dX4_watcherTold_101 ?_
          refine x_calli (va_runS (As := [.int ((mth M k) i)]) (rest := [.int (nI (xct (fun j => decide (mth M k j = xso (mpk M j))) i))]) ⟨hx, hb, hml, hown, hts⟩ (c_X4_isOne l G T _ (mth M k i)) (va_cwS 1 hts gX4_watcherTold_X4_isOne rfl rfl rfl (by decide +kernel) ⟨Nat.le_of_ble_eq_true rfl, Nat.le_of_ble_eq_true rfl⟩) (x_preS (wc := []) hK hP hD hS hA hXB hZ [] rfl rfl _) rfl rfl hl.1 rfl (lv_room (Nat.le_of_ble_eq_true rfl)) dX4_watcherTold_102 ⟨Nat.le_of_ble_eq_true rfl, Nat.le_of_ble_eq_true rfl⟩) hP hD hS hA [] rfl (fun _ _ _ => rfl) (fun r3 u3 H locs hw3 hP hD hS => ?_)
          have hP : va_P G vwCl (xD T bd thr M) H := hP
          have hD : va_D A (xD T bd thr M) := hD
          refine lv_if_eq (tgt := 112) hx hb dX4_watcherTold_105 (by decide) (fun _ => ?_) (fun c_ => absurd (xb_eq hw3 (by simpa using h2)) c_)
          refine lv_iconst (v := nI 0) hx hb dX4_watcherTold_112 (by decide) ?_
          refine lv_iadd hx hb dX4_watcherTold_113 ?_
          refine x_topi (y := nI (xct (fun j => decide (mth M k j = xso (mpk M j))) (i + 1))) (by rw [show xct (fun j => decide (mth M k j = xso (mpk M j))) (i + 1) = xct (fun j => decide (mth M k j = xso (mpk M j))) i from xct_f (p := (fun j => decide (mth M k j = xso (mpk M j)))) (n := i) (fun h => h2 (hb9.mpr (of_decide_eq_true h)).2)]; exact nI_add _ 0) ?_
          refine lv_istore (lv' := [(5, .int (nI (xct (fun j => decide (mth M k j = xso (mpk M j))) (i + 1)))), (4, .int (nI (xct (fun j => xone (mth M k j)) (i + 1)))), (3, .int (nI (xct (fun j => decide (¬ mth M k j &&& xso (mpk M j) = 0)) (i + 1)))), (7, .int (nI 1)), (6, .int (nI i)), (0, .ref (bd 0)), (1, .int (nI k)), (2, .int (nI q))]) hx hb dX4_watcherTold_114 hl (by decide) rfl (fun ls hl => ?_)
          refine lv_iinc (v := nI (i + 1)) (lv' := [(6, .int (nI (i + 1))), (5, .int (nI (xct (fun j => decide (mth M k j = xso (mpk M j))) (i + 1)))), (4, .int (nI (xct (fun j => xone (mth M k j)) (i + 1)))), (3, .int (nI (xct (fun j => decide (¬ mth M k j &&& xso (mpk M j) = 0)) (i + 1)))), (7, .int (nI 1)), (0, .ref (bd 0)), (1, .int (nI k)), (2, .int (nI q))]) hx hb dX4_watcherTold_116 hl (k := 4) rfl (x_inc _) (by decide) rfl (fun ls hl => ?_)
          refine lv_goto (tgt := 11) hx hb dX4_watcherTold_119 (by decide) ?_
          exact ih (i + 1) (by omega) (by omega) _ _ hP hD hS ls (lv_sub hl [0, 3, 2, 1, 5, 6, 7] rfl)
      · refine lv_icmp_ne (tgt := 45) hx hb dX4_watcherTold_38 (by decide) (fun _ => ?_) (fun c_ => absurd c_ (fun h => h1 (hr9.mp h)))
        refine lv_iconst (v := nI 0) hx hb dX4_watcherTold_45 (by decide) ?_
        refine lv_istore (lv' := [(7, .int (nI 0)), (6, .int (nI i)), (3, .int (nI (xct (fun j => decide (¬ mth M k j &&& xso (mpk M j) = 0)) i))), (4, .int (nI (xct (fun j => xone (mth M k j)) i))), (5, .int (nI (xct (fun j => decide (mth M k j = xso (mpk M j))) i))), (0, .ref (bd 0)), (1, .int (nI k)), (2, .int (nI q))]) hx hb dX4_watcherTold_46 hl (by decide) rfl (fun ls hl => ?_)
        refine lv_iload_n hx hb dX4_watcherTold_48 rfl (lv_at hl 2 rfl) ?_
        refine lv_iload hx hb dX4_watcherTold_49 (lv_at hl 0 rfl) ?_
        refine lv_if_eq (tgt := 58) hx hb dX4_watcherTold_51 (by decide) (fun _ => ?_) (fun c_ => absurd (by decide) c_)
        refine lv_iconst (v := nI 0) hx hb dX4_watcherTold_58 (by decide) ?_
        refine lv_iadd hx hb dX4_watcherTold_59 ?_
        refine x_topi (y := nI (xct (fun j => decide (¬ mth M k j &&& xso (mpk M j) = 0)) (i + 1))) (by rw [show xct (fun j => decide (¬ mth M k j &&& xso (mpk M j) = 0)) (i + 1) = xct (fun j => decide (¬ mth M k j &&& xso (mpk M j) = 0)) i from xct_f (p := (fun j => decide (¬ mth M k j &&& xso (mpk M j) = 0))) (n := i) (fun h => h1 (of_decide_eq_true h))]; exact nI_add _ 0) ?_
        refine lv_istore_n (lv' := [(3, .int (nI (xct (fun j => decide (¬ mth M k j &&& xso (mpk M j) = 0)) (i + 1)))), (7, .int (nI 0)), (6, .int (nI i)), (4, .int (nI (xct (fun j => xone (mth M k j)) i))), (5, .int (nI (xct (fun j => decide (mth M k j = xso (mpk M j))) i))), (0, .ref (bd 0)), (1, .int (nI k)), (2, .int (nI q))]) hx hb dX4_watcherTold_60 rfl hl (by decide) rfl (fun ls hl => ?_)
        refine lv_iload hx hb dX4_watcherTold_61 (lv_at hl 3 rfl) ?_
        refine lv_aload_n hx hb dX4_watcherTold_63 rfl (lv_at hl 5 rfl) ?_
        refine va_get (D := G) (ci := 4) (v := .ref (bd 3)) (C := RX4) (T := TX4) (N := 14) hx hb hts hiX4 hown hK hP 0 rfl rfl 4 (by decide) (hts (.fieldLink RX4 18 "CardFansModel" "thinks" "[[I") (by decide +kernel)) (fun _ h9 => h9) rfl dX4_watcherTold_64 ?_
        refine lv_iload_n hx hb dX4_watcherTold_67 rfl (lv_at hl 6 rfl) ?_
        refine x_aaldA hx hb hK hP 3 3 rfl rfl hk4 (by decide) dX4_watcherTold_68 (v := .ref (bd (8 + k))) (by show va_rf (if k < 4 then _ else _) = _; rw [if_pos hk4]; rfl) ?_
        refine lv_iload hx hb dX4_watcherTold_69 (lv_at hl 2 rfl) ?_
        refine x_iald hx hb hK hP (8 + k) 0 (f := (mth M k)) (n := 16) (xD_row T bd thr M hk4) rfl hc (by decide) dX4_watcherTold_71 ?_
        refine x_calli (va_runS (As := [.int ((mth M k) i)]) (rest := [.int (nI (xct (fun j => xone (mth M k j)) i))]) ⟨hx, hb, hml, hown, hts⟩ (c_X4_isOne l G T _ (mth M k i)) (va_cwS 1 hts gX4_watcherTold_X4_isOne rfl rfl rfl (by decide +kernel) ⟨Nat.le_of_ble_eq_true rfl, Nat.le_of_ble_eq_true rfl⟩) (x_preS (wc := []) hK hP hD hS hA hXB hZ [] rfl rfl _) rfl rfl hl.1 rfl (lv_room (Nat.le_of_ble_eq_true rfl)) dX4_watcherTold_72 ⟨Nat.le_of_ble_eq_true rfl, Nat.le_of_ble_eq_true rfl⟩) hP hD hS hA [] rfl (fun _ _ _ => rfl) (fun r2 u2 H locs hw2 hP hD hS => ?_)
        have hP : va_P G vwCl (xD T bd thr M) H := hP
        have hD : va_D A (xD T bd thr M) := hD
        by_cases h2 : xone (mth M k i) = true
        · refine lv_if_eq (tgt := 82) hx hb dX4_watcherTold_75 (by decide) (fun c_ => absurd c_ (xb_ne hw2 h2)) (fun _ => ?_)
          refine lv_iconst (v := nI 1) hx hb dX4_watcherTold_78 (by decide) ?_
          refine lv_goto (tgt := 83) hx hb dX4_watcherTold_79 (by decide) ?_
          refine lv_iadd hx hb dX4_watcherTold_83 ?_
          refine x_topi (y := nI (xct (fun j => xone (mth M k j)) (i + 1))) (by rw [show xct (fun j => xone (mth M k j)) (i + 1) = xct (fun j => xone (mth M k j)) i + 1 from xct_t (p := (fun j => xone (mth M k j))) (n := i) h2]; exact nI_add _ 1) ?_
          refine lv_istore (lv' := [(4, .int (nI (xct (fun j => xone (mth M k j)) (i + 1)))), (3, .int (nI (xct (fun j => decide (¬ mth M k j &&& xso (mpk M j) = 0)) (i + 1)))), (7, .int (nI 0)), (6, .int (nI i)), (5, .int (nI (xct (fun j => decide (mth M k j = xso (mpk M j))) i))), (0, .ref (bd 0)), (1, .int (nI k)), (2, .int (nI q))]) hx hb dX4_watcherTold_84 hl (by decide) rfl (fun ls hl => ?_)
          refine lv_iload hx hb dX4_watcherTold_86 (lv_at hl 4 rfl) ?_
          refine lv_iload hx hb dX4_watcherTold_88 (lv_at hl 2 rfl) ?_
          refine lv_if_eq (tgt := 112) hx hb dX4_watcherTold_90 (by decide) (fun _ => ?_) (fun c_ => absurd (by decide) c_)
          refine lv_iconst (v := nI 0) hx hb dX4_watcherTold_112 (by decide) ?_
          refine lv_iadd hx hb dX4_watcherTold_113 ?_
          refine x_topi (y := nI (xct (fun j => decide (mth M k j = xso (mpk M j))) (i + 1))) (by rw [show xct (fun j => decide (mth M k j = xso (mpk M j))) (i + 1) = xct (fun j => decide (mth M k j = xso (mpk M j))) i from xct_f (p := (fun j => decide (mth M k j = xso (mpk M j)))) (n := i) (fun h => h1 (hb9.mpr (of_decide_eq_true h)).1)]; exact nI_add _ 0) ?_
          refine lv_istore (lv' := [(5, .int (nI (xct (fun j => decide (mth M k j = xso (mpk M j))) (i + 1)))), (4, .int (nI (xct (fun j => xone (mth M k j)) (i + 1)))), (3, .int (nI (xct (fun j => decide (¬ mth M k j &&& xso (mpk M j) = 0)) (i + 1)))), (7, .int (nI 0)), (6, .int (nI i)), (0, .ref (bd 0)), (1, .int (nI k)), (2, .int (nI q))]) hx hb dX4_watcherTold_114 hl (by decide) rfl (fun ls hl => ?_)
          refine lv_iinc (v := nI (i + 1)) (lv' := [(6, .int (nI (i + 1))), (5, .int (nI (xct (fun j => decide (mth M k j = xso (mpk M j))) (i + 1)))), (4, .int (nI (xct (fun j => xone (mth M k j)) (i + 1)))), (3, .int (nI (xct (fun j => decide (¬ mth M k j &&& xso (mpk M j) = 0)) (i + 1)))), (7, .int (nI 0)), (0, .ref (bd 0)), (1, .int (nI k)), (2, .int (nI q))]) hx hb dX4_watcherTold_116 hl (k := 4) rfl (x_inc _) (by decide) rfl (fun ls hl => ?_)
          refine lv_goto (tgt := 11) hx hb dX4_watcherTold_119 (by decide) ?_
          exact ih (i + 1) (by omega) (by omega) _ _ hP hD hS ls (lv_sub hl [0, 3, 2, 1, 5, 6, 7] rfl)
        · refine lv_if_eq (tgt := 82) hx hb dX4_watcherTold_75 (by decide) (fun _ => ?_) (fun c_ => absurd (xb_eq hw2 (by simpa using h2)) c_)
          refine lv_iconst (v := nI 0) hx hb dX4_watcherTold_82 (by decide) ?_
          refine lv_iadd hx hb dX4_watcherTold_83 ?_
          refine x_topi (y := nI (xct (fun j => xone (mth M k j)) (i + 1))) (by rw [show xct (fun j => xone (mth M k j)) (i + 1) = xct (fun j => xone (mth M k j)) i from xct_f (p := (fun j => xone (mth M k j))) (n := i) h2]; exact nI_add _ 0) ?_
          refine lv_istore (lv' := [(4, .int (nI (xct (fun j => xone (mth M k j)) (i + 1)))), (3, .int (nI (xct (fun j => decide (¬ mth M k j &&& xso (mpk M j) = 0)) (i + 1)))), (7, .int (nI 0)), (6, .int (nI i)), (5, .int (nI (xct (fun j => decide (mth M k j = xso (mpk M j))) i))), (0, .ref (bd 0)), (1, .int (nI k)), (2, .int (nI q))]) hx hb dX4_watcherTold_84 hl (by decide) rfl (fun ls hl => ?_)
          refine lv_iload hx hb dX4_watcherTold_86 (lv_at hl 4 rfl) ?_
          refine lv_iload hx hb dX4_watcherTold_88 (lv_at hl 2 rfl) ?_
          refine lv_if_eq (tgt := 112) hx hb dX4_watcherTold_90 (by decide) (fun _ => ?_) (fun c_ => absurd (by decide) c_)
          refine lv_iconst (v := nI 0) hx hb dX4_watcherTold_112 (by decide) ?_
          refine lv_iadd hx hb dX4_watcherTold_113 ?_
          refine x_topi (y := nI (xct (fun j => decide (mth M k j = xso (mpk M j))) (i + 1))) (by rw [show xct (fun j => decide (mth M k j = xso (mpk M j))) (i + 1) = xct (fun j => decide (mth M k j = xso (mpk M j))) i from xct_f (p := (fun j => decide (mth M k j = xso (mpk M j)))) (n := i) (fun h => h1 (hb9.mpr (of_decide_eq_true h)).1)]; exact nI_add _ 0) ?_
          refine lv_istore (lv' := [(5, .int (nI (xct (fun j => decide (mth M k j = xso (mpk M j))) (i + 1)))), (4, .int (nI (xct (fun j => xone (mth M k j)) (i + 1)))), (3, .int (nI (xct (fun j => decide (¬ mth M k j &&& xso (mpk M j) = 0)) (i + 1)))), (7, .int (nI 0)), (6, .int (nI i)), (0, .ref (bd 0)), (1, .int (nI k)), (2, .int (nI q))]) hx hb dX4_watcherTold_114 hl (by decide) rfl (fun ls hl => ?_)
          refine lv_iinc (v := nI (i + 1)) (lv' := [(6, .int (nI (i + 1))), (5, .int (nI (xct (fun j => decide (mth M k j = xso (mpk M j))) (i + 1)))), (4, .int (nI (xct (fun j => xone (mth M k j)) (i + 1)))), (3, .int (nI (xct (fun j => decide (¬ mth M k j &&& xso (mpk M j) = 0)) (i + 1)))), (7, .int (nI 0)), (0, .ref (bd 0)), (1, .int (nI k)), (2, .int (nI q))]) hx hb dX4_watcherTold_116 hl (k := 4) rfl (x_inc _) (by decide) rfl (fun ls hl => ?_)
          refine lv_goto (tgt := 11) hx hb dX4_watcherTold_119 (by decide) ?_
          exact ih (i + 1) (by omega) (by omega) _ _ hP hD hS ls (lv_sub hl [0, 3, 2, 1, 5, 6, 7] rfl)
    · refine lv_icmp_ge (tgt := 122) hx hb dX4_watcherTold_15 (by decide) (fun _ => ?_) (fun c_ => absurd (nI_le (by omega) (by omega)) c_)
      obtain rfl : i = 16 := by omega
      have hP : va_P G vwCl ([(bd 0, .inr (4, [.int thr, .ref (bd 1), .int (nI (mnw M)), .ref (bd 2), .ref (bd 3), .ref (bd 4), .ref (bd 5), .int (nI (mnp M)), .ref (bd 6), .ref (bd 7), .int (mle M), .int (mwy M), .int (mfc M), .int (nI (mta M))])), (bd 1, .inl (T 0, 16, .inl (mpk M))), (bd 2, .inl (T 0, 4, .inl (msh M))), (bd 3, .inl (T 3, 4, .inr (.inr (.inr (.inr (fun j => if j < 4 then some (bd (8 + j)) else none)))))), (bd 4, .inl (T 0, 4, .inl (man M))), (bd 5, .inl (T 0, 4, .inl (mgl M))), (bd 6, .inl (T 0, 4, .inl (mhb M))), (bd 7, .inl (T 0, 4, .inl (mtk M))), (bd 8, .inl (T 0, 16, .inl (mth M 0))), (bd 9, .inl (T 0, 16, .inl (mth M 1))), (bd 10, .inl (T 0, 16, .inl (mth M 2))), (bd 11, .inl (T 0, 16, .inl (mth M 3)))]) H := hP
      have hD : va_D A ([(bd 0, .inr (4, [.int thr, .ref (bd 1), .int (nI (mnw M)), .ref (bd 2), .ref (bd 3), .ref (bd 4), .ref (bd 5), .int (nI (mnp M)), .ref (bd 6), .ref (bd 7), .int (mle M), .int (mwy M), .int (mfc M), .int (nI (mta M))])), (bd 1, .inl (T 0, 16, .inl (mpk M))), (bd 2, .inl (T 0, 4, .inl (msh M))), (bd 3, .inl (T 3, 4, .inr (.inr (.inr (.inr (fun j => if j < 4 then some (bd (8 + j)) else none)))))), (bd 4, .inl (T 0, 4, .inl (man M))), (bd 5, .inl (T 0, 4, .inl (mgl M))), (bd 6, .inl (T 0, 4, .inl (mhb M))), (bd 7, .inl (T 0, 4, .inl (mtk M))), (bd 8, .inl (T 0, 16, .inl (mth M 0))), (bd 9, .inl (T 0, 16, .inl (mth M 1))), (bd 10, .inl (T 0, 16, .inl (mth M 2))), (bd 11, .inl (T 0, 16, .inl (mth M 3)))]) := hD
      refine lv_bipush (v := nI 6) hx hb dX4_watcherTold_122 (by decide) ?_
      refine x_newai (N := 6) hx hb (hts (.arrayClass .int) (by decide +kernel)) hK 0 rfl hP hD hS hA (by decide) (by decide) (Nat.le_of_ble_eq_true rfl) (Nat.le_of_ble_eq_true rfl) dX4_watcherTold_124 (fun b0 H hP hD hS => ?_)
      have hP : va_P G vwCl ([(bd 0, .inr (4, [.int thr, .ref (bd 1), .int (nI (mnw M)), .ref (bd 2), .ref (bd 3), .ref (bd 4), .ref (bd 5), .int (nI (mnp M)), .ref (bd 6), .ref (bd 7), .int (mle M), .int (mwy M), .int (mfc M), .int (nI (mta M))])), (bd 1, .inl (T 0, 16, .inl (mpk M))), (bd 2, .inl (T 0, 4, .inl (msh M))), (bd 3, .inl (T 3, 4, .inr (.inr (.inr (.inr (fun j => if j < 4 then some (bd (8 + j)) else none)))))), (bd 4, .inl (T 0, 4, .inl (man M))), (bd 5, .inl (T 0, 4, .inl (mgl M))), (bd 6, .inl (T 0, 4, .inl (mhb M))), (bd 7, .inl (T 0, 4, .inl (mtk M))), (bd 8, .inl (T 0, 16, .inl (mth M 0))), (bd 9, .inl (T 0, 16, .inl (mth M 1))), (bd 10, .inl (T 0, 16, .inl (mth M 2))), (bd 11, .inl (T 0, 16, .inl (mth M 3))), (b0, .inl (T 0, 6, .inl (fun _ => 0)))]) H := hP
      have hD : va_D A ([(bd 0, .inr (4, [.int thr, .ref (bd 1), .int (nI (mnw M)), .ref (bd 2), .ref (bd 3), .ref (bd 4), .ref (bd 5), .int (nI (mnp M)), .ref (bd 6), .ref (bd 7), .int (mle M), .int (mwy M), .int (mfc M), .int (nI (mta M))])), (bd 1, .inl (T 0, 16, .inl (mpk M))), (bd 2, .inl (T 0, 4, .inl (msh M))), (bd 3, .inl (T 3, 4, .inr (.inr (.inr (.inr (fun j => if j < 4 then some (bd (8 + j)) else none)))))), (bd 4, .inl (T 0, 4, .inl (man M))), (bd 5, .inl (T 0, 4, .inl (mgl M))), (bd 6, .inl (T 0, 4, .inl (mhb M))), (bd 7, .inl (T 0, 4, .inl (mtk M))), (bd 8, .inl (T 0, 16, .inl (mth M 0))), (bd 9, .inl (T 0, 16, .inl (mth M 1))), (bd 10, .inl (T 0, 16, .inl (mth M 2))), (bd 11, .inl (T 0, 16, .inl (mth M 3))), (b0, .inl (T 0, 6, .inl (fun _ => 0)))]) := hD
      refine lv_dup hx hb dX4_watcherTold_126 rfl ?_
      refine lv_iconst (v := nI 0) hx hb dX4_watcherTold_127 (by decide) ?_
      refine lv_aload_n hx hb dX4_watcherTold_128 rfl (lv_at hl 4 rfl) ?_
      refine va_get (D := G) (ci := 4) (v := .ref (bd 2)) (C := RX4) (T := TX4) (N := 14) hx hb hts hiX4 hown hK hP 0 rfl rfl 3 (by decide) (hts (.fieldLink RX4 13 "CardFansModel" "isSharp" "[I") (by decide +kernel)) (fun _ h9 => h9) rfl dX4_watcherTold_129 ?_
      refine lv_iload_n hx hb dX4_watcherTold_132 rfl (lv_at hl 5 rfl) ?_
      refine x_iald hx hb hK hP 2 0 (f := (msh M)) (n := 4) rfl rfl hk4 (by decide) dX4_watcherTold_133 ?_
      refine x_iast hx hb hK hP hD hS 12 0 (f := (fun _ => 0)) (n := 6) rfl rfl (by decide) (by decide) dX4_watcherTold_134 (fun H locs hP hD hS => ?_)
      have hP : va_P G vwCl ([(bd 0, .inr (4, [.int thr, .ref (bd 1), .int (nI (mnw M)), .ref (bd 2), .ref (bd 3), .ref (bd 4), .ref (bd 5), .int (nI (mnp M)), .ref (bd 6), .ref (bd 7), .int (mle M), .int (mwy M), .int (mfc M), .int (nI (mta M))])), (bd 1, .inl (T 0, 16, .inl (mpk M))), (bd 2, .inl (T 0, 4, .inl (msh M))), (bd 3, .inl (T 3, 4, .inr (.inr (.inr (.inr (fun j => if j < 4 then some (bd (8 + j)) else none)))))), (bd 4, .inl (T 0, 4, .inl (man M))), (bd 5, .inl (T 0, 4, .inl (mgl M))), (bd 6, .inl (T 0, 4, .inl (mhb M))), (bd 7, .inl (T 0, 4, .inl (mtk M))), (bd 8, .inl (T 0, 16, .inl (mth M 0))), (bd 9, .inl (T 0, 16, .inl (mth M 1))), (bd 10, .inl (T 0, 16, .inl (mth M 2))), (bd 11, .inl (T 0, 16, .inl (mth M 3))), (b0, .inl (T 0, 6, .inl (upd (fun _ => 0) 0 ((msh M) k))))]) H := hP
      have hD : va_D A ([(bd 0, .inr (4, [.int thr, .ref (bd 1), .int (nI (mnw M)), .ref (bd 2), .ref (bd 3), .ref (bd 4), .ref (bd 5), .int (nI (mnp M)), .ref (bd 6), .ref (bd 7), .int (mle M), .int (mwy M), .int (mfc M), .int (nI (mta M))])), (bd 1, .inl (T 0, 16, .inl (mpk M))), (bd 2, .inl (T 0, 4, .inl (msh M))), (bd 3, .inl (T 3, 4, .inr (.inr (.inr (.inr (fun j => if j < 4 then some (bd (8 + j)) else none)))))), (bd 4, .inl (T 0, 4, .inl (man M))), (bd 5, .inl (T 0, 4, .inl (mgl M))), (bd 6, .inl (T 0, 4, .inl (mhb M))), (bd 7, .inl (T 0, 4, .inl (mtk M))), (bd 8, .inl (T 0, 16, .inl (mth M 0))), (bd 9, .inl (T 0, 16, .inl (mth M 1))), (bd 10, .inl (T 0, 16, .inl (mth M 2))), (bd 11, .inl (T 0, 16, .inl (mth M 3))), (b0, .inl (T 0, 6, .inl (upd (fun _ => 0) 0 ((msh M) k))))]) := hD
      refine lv_dup hx hb dX4_watcherTold_135 rfl ?_
      refine lv_iconst (v := nI 1) hx hb dX4_watcherTold_136 (by decide) ?_
      refine lv_iload_n hx hb dX4_watcherTold_137 rfl (lv_at hl 1 rfl) ?_
      refine x_iast hx hb hK hP hD hS 12 0 (f := (upd (fun _ => 0) 0 ((msh M) k))) (n := 6) rfl rfl (by decide) (by decide) dX4_watcherTold_138 (fun H locs hP hD hS => ?_)
      have hP : va_P G vwCl ([(bd 0, .inr (4, [.int thr, .ref (bd 1), .int (nI (mnw M)), .ref (bd 2), .ref (bd 3), .ref (bd 4), .ref (bd 5), .int (nI (mnp M)), .ref (bd 6), .ref (bd 7), .int (mle M), .int (mwy M), .int (mfc M), .int (nI (mta M))])), (bd 1, .inl (T 0, 16, .inl (mpk M))), (bd 2, .inl (T 0, 4, .inl (msh M))), (bd 3, .inl (T 3, 4, .inr (.inr (.inr (.inr (fun j => if j < 4 then some (bd (8 + j)) else none)))))), (bd 4, .inl (T 0, 4, .inl (man M))), (bd 5, .inl (T 0, 4, .inl (mgl M))), (bd 6, .inl (T 0, 4, .inl (mhb M))), (bd 7, .inl (T 0, 4, .inl (mtk M))), (bd 8, .inl (T 0, 16, .inl (mth M 0))), (bd 9, .inl (T 0, 16, .inl (mth M 1))), (bd 10, .inl (T 0, 16, .inl (mth M 2))), (bd 11, .inl (T 0, 16, .inl (mth M 3))), (b0, .inl (T 0, 6, .inl (upd (upd (fun _ => 0) 0 ((msh M) k)) 1 (nI (xct (fun j => decide (¬ mth M k j &&& xso (mpk M j) = 0)) 16)))))]) H := hP
      have hD : va_D A ([(bd 0, .inr (4, [.int thr, .ref (bd 1), .int (nI (mnw M)), .ref (bd 2), .ref (bd 3), .ref (bd 4), .ref (bd 5), .int (nI (mnp M)), .ref (bd 6), .ref (bd 7), .int (mle M), .int (mwy M), .int (mfc M), .int (nI (mta M))])), (bd 1, .inl (T 0, 16, .inl (mpk M))), (bd 2, .inl (T 0, 4, .inl (msh M))), (bd 3, .inl (T 3, 4, .inr (.inr (.inr (.inr (fun j => if j < 4 then some (bd (8 + j)) else none)))))), (bd 4, .inl (T 0, 4, .inl (man M))), (bd 5, .inl (T 0, 4, .inl (mgl M))), (bd 6, .inl (T 0, 4, .inl (mhb M))), (bd 7, .inl (T 0, 4, .inl (mtk M))), (bd 8, .inl (T 0, 16, .inl (mth M 0))), (bd 9, .inl (T 0, 16, .inl (mth M 1))), (bd 10, .inl (T 0, 16, .inl (mth M 2))), (bd 11, .inl (T 0, 16, .inl (mth M 3))), (b0, .inl (T 0, 6, .inl (upd (upd (fun _ => 0) 0 ((msh M) k)) 1 (nI (xct (fun j => decide (¬ mth M k j &&& xso (mpk M j) = 0)) 16)))))]) := hD
      refine lv_dup hx hb dX4_watcherTold_139 rfl ?_
      refine lv_iconst (v := nI 2) hx hb dX4_watcherTold_140 (by decide) ?_
      refine lv_iload hx hb dX4_watcherTold_141 (lv_at hl 2 rfl) ?_
      refine x_iast hx hb hK hP hD hS 12 0 (f := (upd (upd (fun _ => 0) 0 ((msh M) k)) 1 (nI (xct (fun j => decide (¬ mth M k j &&& xso (mpk M j) = 0)) 16)))) (n := 6) rfl rfl (by decide) (by decide) dX4_watcherTold_143 (fun H locs hP hD hS => ?_)
      have hP : va_P G vwCl ([(bd 0, .inr (4, [.int thr, .ref (bd 1), .int (nI (mnw M)), .ref (bd 2), .ref (bd 3), .ref (bd 4), .ref (bd 5), .int (nI (mnp M)), .ref (bd 6), .ref (bd 7), .int (mle M), .int (mwy M), .int (mfc M), .int (nI (mta M))])), (bd 1, .inl (T 0, 16, .inl (mpk M))), (bd 2, .inl (T 0, 4, .inl (msh M))), (bd 3, .inl (T 3, 4, .inr (.inr (.inr (.inr (fun j => if j < 4 then some (bd (8 + j)) else none)))))), (bd 4, .inl (T 0, 4, .inl (man M))), (bd 5, .inl (T 0, 4, .inl (mgl M))), (bd 6, .inl (T 0, 4, .inl (mhb M))), (bd 7, .inl (T 0, 4, .inl (mtk M))), (bd 8, .inl (T 0, 16, .inl (mth M 0))), (bd 9, .inl (T 0, 16, .inl (mth M 1))), (bd 10, .inl (T 0, 16, .inl (mth M 2))), (bd 11, .inl (T 0, 16, .inl (mth M 3))), (b0, .inl (T 0, 6, .inl (upd (upd (upd (fun _ => 0) 0 ((msh M) k)) 1 (nI (xct (fun j => decide (¬ mth M k j &&& xso (mpk M j) = 0)) 16))) 2 (nI (xct (fun j => xone (mth M k j)) 16)))))]) H := hP
      have hD : va_D A ([(bd 0, .inr (4, [.int thr, .ref (bd 1), .int (nI (mnw M)), .ref (bd 2), .ref (bd 3), .ref (bd 4), .ref (bd 5), .int (nI (mnp M)), .ref (bd 6), .ref (bd 7), .int (mle M), .int (mwy M), .int (mfc M), .int (nI (mta M))])), (bd 1, .inl (T 0, 16, .inl (mpk M))), (bd 2, .inl (T 0, 4, .inl (msh M))), (bd 3, .inl (T 3, 4, .inr (.inr (.inr (.inr (fun j => if j < 4 then some (bd (8 + j)) else none)))))), (bd 4, .inl (T 0, 4, .inl (man M))), (bd 5, .inl (T 0, 4, .inl (mgl M))), (bd 6, .inl (T 0, 4, .inl (mhb M))), (bd 7, .inl (T 0, 4, .inl (mtk M))), (bd 8, .inl (T 0, 16, .inl (mth M 0))), (bd 9, .inl (T 0, 16, .inl (mth M 1))), (bd 10, .inl (T 0, 16, .inl (mth M 2))), (bd 11, .inl (T 0, 16, .inl (mth M 3))), (b0, .inl (T 0, 6, .inl (upd (upd (upd (fun _ => 0) 0 ((msh M) k)) 1 (nI (xct (fun j => decide (¬ mth M k j &&& xso (mpk M j) = 0)) 16))) 2 (nI (xct (fun j => xone (mth M k j)) 16)))))]) := hD
      refine lv_dup hx hb dX4_watcherTold_144 rfl ?_
      refine lv_iconst (v := nI 3) hx hb dX4_watcherTold_145 (by decide) ?_
      refine lv_iload hx hb dX4_watcherTold_146 (lv_at hl 3 rfl) ?_
      refine x_iast hx hb hK hP hD hS 12 0 (f := (upd (upd (upd (fun _ => 0) 0 ((msh M) k)) 1 (nI (xct (fun j => decide (¬ mth M k j &&& xso (mpk M j) = 0)) 16))) 2 (nI (xct (fun j => xone (mth M k j)) 16)))) (n := 6) rfl rfl (by decide) (by decide) dX4_watcherTold_148 (fun H locs hP hD hS => ?_)
      have hP : va_P G vwCl ([(bd 0, .inr (4, [.int thr, .ref (bd 1), .int (nI (mnw M)), .ref (bd 2), .ref (bd 3), .ref (bd 4), .ref (bd 5), .int (nI (mnp M)), .ref (bd 6), .ref (bd 7), .int (mle M), .int (mwy M), .int (mfc M), .int (nI (mta M))])), (bd 1, .inl (T 0, 16, .inl (mpk M))), (bd 2, .inl (T 0, 4, .inl (msh M))), (bd 3, .inl (T 3, 4, .inr (.inr (.inr (.inr (fun j => if j < 4 then some (bd (8 + j)) else none)))))), (bd 4, .inl (T 0, 4, .inl (man M))), (bd 5, .inl (T 0, 4, .inl (mgl M))), (bd 6, .inl (T 0, 4, .inl (mhb M))), (bd 7, .inl (T 0, 4, .inl (mtk M))), (bd 8, .inl (T 0, 16, .inl (mth M 0))), (bd 9, .inl (T 0, 16, .inl (mth M 1))), (bd 10, .inl (T 0, 16, .inl (mth M 2))), (bd 11, .inl (T 0, 16, .inl (mth M 3))), (b0, .inl (T 0, 6, .inl (upd (upd (upd (upd (fun _ => 0) 0 ((msh M) k)) 1 (nI (xct (fun j => decide (¬ mth M k j &&& xso (mpk M j) = 0)) 16))) 2 (nI (xct (fun j => xone (mth M k j)) 16))) 3 (nI (xct (fun j => decide (mth M k j = xso (mpk M j))) 16)))))]) H := hP
      have hD : va_D A ([(bd 0, .inr (4, [.int thr, .ref (bd 1), .int (nI (mnw M)), .ref (bd 2), .ref (bd 3), .ref (bd 4), .ref (bd 5), .int (nI (mnp M)), .ref (bd 6), .ref (bd 7), .int (mle M), .int (mwy M), .int (mfc M), .int (nI (mta M))])), (bd 1, .inl (T 0, 16, .inl (mpk M))), (bd 2, .inl (T 0, 4, .inl (msh M))), (bd 3, .inl (T 3, 4, .inr (.inr (.inr (.inr (fun j => if j < 4 then some (bd (8 + j)) else none)))))), (bd 4, .inl (T 0, 4, .inl (man M))), (bd 5, .inl (T 0, 4, .inl (mgl M))), (bd 6, .inl (T 0, 4, .inl (mhb M))), (bd 7, .inl (T 0, 4, .inl (mtk M))), (bd 8, .inl (T 0, 16, .inl (mth M 0))), (bd 9, .inl (T 0, 16, .inl (mth M 1))), (bd 10, .inl (T 0, 16, .inl (mth M 2))), (bd 11, .inl (T 0, 16, .inl (mth M 3))), (b0, .inl (T 0, 6, .inl (upd (upd (upd (upd (fun _ => 0) 0 ((msh M) k)) 1 (nI (xct (fun j => decide (¬ mth M k j &&& xso (mpk M j) = 0)) 16))) 2 (nI (xct (fun j => xone (mth M k j)) 16))) 3 (nI (xct (fun j => decide (mth M k j = xso (mpk M j))) 16)))))]) := hD
      refine lv_dup hx hb dX4_watcherTold_149 rfl ?_
      refine lv_iconst (v := nI 4) hx hb dX4_watcherTold_150 (by decide) ?_
      refine lv_aload_n hx hb dX4_watcherTold_151 rfl (lv_at hl 4 rfl) ?_
      refine va_get (D := G) (ci := 4) (v := .ref (bd 4)) (C := RX4) (T := TX4) (N := 14) hx hb hts hiX4 hown hK hP 0 rfl rfl 5 (by decide) (hts (.fieldLink RX4 21 "CardFansModel" "anew" "[I") (by decide +kernel)) (fun _ h9 => h9) rfl dX4_watcherTold_152 ?_
      refine lv_iload_n hx hb dX4_watcherTold_155 rfl (lv_at hl 5 rfl) ?_
      refine x_iald hx hb hK hP 4 0 (f := (man M)) (n := 4) rfl rfl hk4 (by decide) dX4_watcherTold_156 ?_
      refine x_iast hx hb hK hP hD hS 12 0 (f := (upd (upd (upd (upd (fun _ => 0) 0 ((msh M) k)) 1 (nI (xct (fun j => decide (¬ mth M k j &&& xso (mpk M j) = 0)) 16))) 2 (nI (xct (fun j => xone (mth M k j)) 16))) 3 (nI (xct (fun j => decide (mth M k j = xso (mpk M j))) 16)))) (n := 6) rfl rfl (by decide) (by decide) dX4_watcherTold_157 (fun H locs hP hD hS => ?_)
      have hP : va_P G vwCl ([(bd 0, .inr (4, [.int thr, .ref (bd 1), .int (nI (mnw M)), .ref (bd 2), .ref (bd 3), .ref (bd 4), .ref (bd 5), .int (nI (mnp M)), .ref (bd 6), .ref (bd 7), .int (mle M), .int (mwy M), .int (mfc M), .int (nI (mta M))])), (bd 1, .inl (T 0, 16, .inl (mpk M))), (bd 2, .inl (T 0, 4, .inl (msh M))), (bd 3, .inl (T 3, 4, .inr (.inr (.inr (.inr (fun j => if j < 4 then some (bd (8 + j)) else none)))))), (bd 4, .inl (T 0, 4, .inl (man M))), (bd 5, .inl (T 0, 4, .inl (mgl M))), (bd 6, .inl (T 0, 4, .inl (mhb M))), (bd 7, .inl (T 0, 4, .inl (mtk M))), (bd 8, .inl (T 0, 16, .inl (mth M 0))), (bd 9, .inl (T 0, 16, .inl (mth M 1))), (bd 10, .inl (T 0, 16, .inl (mth M 2))), (bd 11, .inl (T 0, 16, .inl (mth M 3))), (b0, .inl (T 0, 6, .inl (upd (upd (upd (upd (upd (fun _ => 0) 0 ((msh M) k)) 1 (nI (xct (fun j => decide (¬ mth M k j &&& xso (mpk M j) = 0)) 16))) 2 (nI (xct (fun j => xone (mth M k j)) 16))) 3 (nI (xct (fun j => decide (mth M k j = xso (mpk M j))) 16))) 4 ((man M) k))))]) H := hP
      have hD : va_D A ([(bd 0, .inr (4, [.int thr, .ref (bd 1), .int (nI (mnw M)), .ref (bd 2), .ref (bd 3), .ref (bd 4), .ref (bd 5), .int (nI (mnp M)), .ref (bd 6), .ref (bd 7), .int (mle M), .int (mwy M), .int (mfc M), .int (nI (mta M))])), (bd 1, .inl (T 0, 16, .inl (mpk M))), (bd 2, .inl (T 0, 4, .inl (msh M))), (bd 3, .inl (T 3, 4, .inr (.inr (.inr (.inr (fun j => if j < 4 then some (bd (8 + j)) else none)))))), (bd 4, .inl (T 0, 4, .inl (man M))), (bd 5, .inl (T 0, 4, .inl (mgl M))), (bd 6, .inl (T 0, 4, .inl (mhb M))), (bd 7, .inl (T 0, 4, .inl (mtk M))), (bd 8, .inl (T 0, 16, .inl (mth M 0))), (bd 9, .inl (T 0, 16, .inl (mth M 1))), (bd 10, .inl (T 0, 16, .inl (mth M 2))), (bd 11, .inl (T 0, 16, .inl (mth M 3))), (b0, .inl (T 0, 6, .inl (upd (upd (upd (upd (upd (fun _ => 0) 0 ((msh M) k)) 1 (nI (xct (fun j => decide (¬ mth M k j &&& xso (mpk M j) = 0)) 16))) 2 (nI (xct (fun j => xone (mth M k j)) 16))) 3 (nI (xct (fun j => decide (mth M k j = xso (mpk M j))) 16))) 4 ((man M) k))))]) := hD
      refine lv_dup hx hb dX4_watcherTold_158 rfl ?_
      refine lv_iconst (v := nI 5) hx hb dX4_watcherTold_159 (by decide) ?_
      refine lv_aload_n hx hb dX4_watcherTold_160 rfl (lv_at hl 4 rfl) ?_
      refine va_get (D := G) (ci := 4) (v := .ref (bd 5)) (C := RX4) (T := TX4) (N := 14) hx hb hts hiX4 hown hK hP 0 rfl rfl 6 (by decide) (hts (.fieldLink RX4 24 "CardFansModel" "glimpses" "[I") (by decide +kernel)) (fun _ h9 => h9) rfl dX4_watcherTold_161 ?_
      refine lv_iload_n hx hb dX4_watcherTold_164 rfl (lv_at hl 5 rfl) ?_
      refine x_iald hx hb hK hP 5 0 (f := (mgl M)) (n := 4) rfl rfl hk4 (by decide) dX4_watcherTold_165 ?_
      refine x_iast hx hb hK hP hD hS 12 0 (f := (upd (upd (upd (upd (upd (fun _ => 0) 0 ((msh M) k)) 1 (nI (xct (fun j => decide (¬ mth M k j &&& xso (mpk M j) = 0)) 16))) 2 (nI (xct (fun j => xone (mth M k j)) 16))) 3 (nI (xct (fun j => decide (mth M k j = xso (mpk M j))) 16))) 4 ((man M) k))) (n := 6) rfl rfl (by decide) (by decide) dX4_watcherTold_166 (fun H locs hP hD hS => ?_)
      have hP : va_P G vwCl ([(bd 0, .inr (4, [.int thr, .ref (bd 1), .int (nI (mnw M)), .ref (bd 2), .ref (bd 3), .ref (bd 4), .ref (bd 5), .int (nI (mnp M)), .ref (bd 6), .ref (bd 7), .int (mle M), .int (mwy M), .int (mfc M), .int (nI (mta M))])), (bd 1, .inl (T 0, 16, .inl (mpk M))), (bd 2, .inl (T 0, 4, .inl (msh M))), (bd 3, .inl (T 3, 4, .inr (.inr (.inr (.inr (fun j => if j < 4 then some (bd (8 + j)) else none)))))), (bd 4, .inl (T 0, 4, .inl (man M))), (bd 5, .inl (T 0, 4, .inl (mgl M))), (bd 6, .inl (T 0, 4, .inl (mhb M))), (bd 7, .inl (T 0, 4, .inl (mtk M))), (bd 8, .inl (T 0, 16, .inl (mth M 0))), (bd 9, .inl (T 0, 16, .inl (mth M 1))), (bd 10, .inl (T 0, 16, .inl (mth M 2))), (bd 11, .inl (T 0, 16, .inl (mth M 3))), (b0, .inl (T 0, 6, .inl (upd (upd (upd (upd (upd (upd (fun _ => 0) 0 ((msh M) k)) 1 (nI (xct (fun j => decide (¬ mth M k j &&& xso (mpk M j) = 0)) 16))) 2 (nI (xct (fun j => xone (mth M k j)) 16))) 3 (nI (xct (fun j => decide (mth M k j = xso (mpk M j))) 16))) 4 ((man M) k)) 5 ((mgl M) k))))]) H := hP
      have hD : va_D A ([(bd 0, .inr (4, [.int thr, .ref (bd 1), .int (nI (mnw M)), .ref (bd 2), .ref (bd 3), .ref (bd 4), .ref (bd 5), .int (nI (mnp M)), .ref (bd 6), .ref (bd 7), .int (mle M), .int (mwy M), .int (mfc M), .int (nI (mta M))])), (bd 1, .inl (T 0, 16, .inl (mpk M))), (bd 2, .inl (T 0, 4, .inl (msh M))), (bd 3, .inl (T 3, 4, .inr (.inr (.inr (.inr (fun j => if j < 4 then some (bd (8 + j)) else none)))))), (bd 4, .inl (T 0, 4, .inl (man M))), (bd 5, .inl (T 0, 4, .inl (mgl M))), (bd 6, .inl (T 0, 4, .inl (mhb M))), (bd 7, .inl (T 0, 4, .inl (mtk M))), (bd 8, .inl (T 0, 16, .inl (mth M 0))), (bd 9, .inl (T 0, 16, .inl (mth M 1))), (bd 10, .inl (T 0, 16, .inl (mth M 2))), (bd 11, .inl (T 0, 16, .inl (mth M 3))), (b0, .inl (T 0, 6, .inl (upd (upd (upd (upd (upd (upd (fun _ => 0) 0 ((msh M) k)) 1 (nI (xct (fun j => decide (¬ mth M k j &&& xso (mpk M j) = 0)) 16))) 2 (nI (xct (fun j => xone (mth M k j)) 16))) 3 (nI (xct (fun j => decide (mth M k j = xso (mpk M j))) 16))) 4 ((man M) k)) 5 ((mgl M) k))))]) := hD
      refine lv_astore (lv' := [(6, .ref b0), (3, .int (nI (xct (fun j => decide (¬ mth M k j &&& xso (mpk M j) = 0)) 16))), (4, .int (nI (xct (fun j => xone (mth M k j)) 16))), (5, .int (nI (xct (fun j => decide (mth M k j = xso (mpk M j))) 16))), (0, .ref (bd 0)), (1, .int (nI k)), (2, .int (nI q))]) hx hb dX4_watcherTold_167 hl (by decide) rfl (fun ls hl => ?_)
      refine lv_aload hx hb dX4_watcherTold_169 (lv_at hl 0 rfl) ?_
      refine lv_iload_n hx hb dX4_watcherTold_171 rfl (lv_at hl 6 rfl) ?_
      refine x_iald hx hb hK hP 12 0 (f := (upd (upd (upd (upd (upd (upd (fun _ => 0) 0 ((msh M) k)) 1 (nI (xct (fun j => decide (¬ mth M k j &&& xso (mpk M j) = 0)) 16))) 2 (nI (xct (fun j => xone (mth M k j)) 16))) 3 (nI (xct (fun j => decide (mth M k j = xso (mpk M j))) 16))) 4 ((man M) k)) 5 ((mgl M) k))) (n := 6) rfl rfl hq (by decide) dX4_watcherTold_172 ?_
      exact W.iret (v := (upd (upd (upd (upd (upd (upd (fun _ => 0) 0 ((msh M) k)) 1 (nI (xct (fun j => decide (¬ mth M k j &&& xso (mpk M j) = 0)) 16))) 2 (nI (xct (fun j => xone (mth M k j)) 16))) 3 (nI (xct (fun j => decide (mth M k j = xso (mpk M j))) 16))) 4 ((man M) k)) 5 ((mgl M) k)) q) hx hb hr (fun t9_ ht hW => ⟨⟨(upd (upd (upd (upd (upd (upd (fun _ => 0) 0 ((msh M) k)) 1 (nI (xct (fun j => decide (¬ mth M k j &&& xso (mpk M j) = 0)) 16))) 2 (nI (xct (fun j => xone (mth M k j)) 16))) 3 (nI (xct (fun j => decide (mth M k j = xso (mpk M j))) 16))) 4 ((man M) k)) 5 ((mgl M) k)) q, (), rfl, by rcases (show q = 0 ∨ q = 1 ∨ q = 2 ∨ q = 3 ∨ q = 4 ∨ q = 5 by omega) with rfl | rfl | rfl | rfl | rfl | rfl <;> rfl, x_at ht (hP.sub [0, 1, 2, 3, 4, 5, 6, 7, 8, 9, 10, 11] rfl)⟩, hS.F ht⟩) hS.2.2 dX4_watcherTold_173

set_option maxHeartbeats 4000000 in
set_option maxRecDepth 100000 in
/-- watcher -/
theorem c_X4_watcher (l : Launch) (G : va_G) (T : Nat → ClassId) (sz : Nat) (bd : Nat → Nat) (thr : Int32) (M : XM) (x y : Int32) (hn4 : mnw M ≤ 4) (hin : ∀ w, w < mnw M → ∀ j, j < 16 → (mth M w j).toBitVec.toNat < 65536) (hpk : ∀ j, j < 16 → ∃ c, c < 16 ∧ mpk M j = nI c) : Met l yX4_watcher wsX4_watcher ({ frames := 3, cells := 1, slots := 6, locals := 67 }) (va_Pc [.ref (bd 0), .int x, .int y] (xPre G T (xD T bd thr M) sz)) (va_Qi (fun (r : Int32) (u : Int32) => ((xvb (mnw M) x && xvb 6 y) = true ∧ u = nI 0 ∧ r = xtold M (xka x) (xka y)) ∨ ((xvb (mnw M) x && xvb 6 y) = false ∧ u = nI 1)) (fun u t => va_P G vwCl (xD T bd u M) t.heap) (va_A (xD T bd thr M) sz)) 1 6 (va_A (xD T bd thr M) sz) := by
  refine Met.ofW (cc := cX4_watcher) (maxL := 3) (ret := (some .int)) (by decide +kernel) rfl ?_
  intro p e s m args below meth c s₁ B hml hv
  obtain ⟨rfl, hsz, hP, hK, hD0, hXB, hZ⟩ := hv
  have hx := B.exec
  have hb := B.bytes
  have hr := B.returns
  have hts := atoms_spec (ws := wsX4_watcher) B.pre
  have hown : s.vm.findClass RX4 = some m.cls := findClass_of_methodNamed B.named
  have hlocks := B.notSynchronized
  subst hsz
  have hD := hD0.self (sz := s.heap.size)
  generalize hAe : va_A (xD T bd thr M) s.heap.size = A at hD hZ ⊢
  have hA : ∀ q : Nat, s.heap.size ≤ q → A q := fun q h => by rw [← hAe]; exact Or.inr h
  have hS : va_S A s.heap s.heap [] := va_S.rf
  have hP : va_P G vwCl (xD T bd thr M) s.heap := hP
  have hiX4 : ∀ w ∈ u_ws RX4 TX4 14, w ∈ wsX4_watcher := by decide +kernel
  have hl := lv_entry ([.ref (bd 0), .int x, .int y]) (n := 3) (Nat.le_of_ble_eq_true rfl)
  rw [lg_entry_eq]
  generalize (lg_sl ([.ref (bd 0), .int x, .int y]) ++ List.replicate (3 - (lg_sl ([.ref (bd 0), .int x, .int y])).length) Slot.unset).toArray = ls at hl ⊢
  have hl : lv_has ls 3 [(0, .ref (bd 0)), (1, .int x), (2, .int y)] := hl
  refine lv_aload_n hx hb dX4_watcher_0 rfl (lv_at hl 0 rfl) ?_
  refine lv_iconst (v := nI 0) hx hb dX4_watcher_1 (by decide) ?_
  refine va_put (D := G) (ci := 4) (v := .int (nI 0)) (ty := .int) (C := RX4) (T := TX4) (N := 14) hx hb hts hiX4 tyX4 tyX4_ok nmX4 hown hK hP hD hS 0 rfl rfl 0 (by decide) (hts (.fieldLink RX4 33 "CardFansModel" "thrown" "I") (by decide +kernel)) (fun _ h9 => h9) rfl (by decide +kernel) rfl rfl (Nat.le_of_ble_eq_true rfl) dX4_watcher_2 (fun H locs hP hD hS => ?_)
  have hP : va_P G vwCl (xD T bd (nI 0) M) H := hP
  have hD : va_D A (xD T bd (nI 0) M) := hD
  refine lv_aload_n hx hb dX4_watcher_5 rfl (lv_at hl 0 rfl) ?_
  refine lv_iload_n hx hb dX4_watcher_6 rfl (lv_at hl 1 rfl) ?_
  refine x_calliW (va_runV (As := [.int x]) (rest := []) ⟨hx, hb, hml, hown, hts⟩ (c_X4_isWatcher l G T _ bd (nI 0) M x hn4) (cwV 1 hts gX4_watcher_X4_isWatcher rfl rfl rfl (by decide +kernel) ⟨Nat.le_of_ble_eq_true rfl, Nat.le_of_ble_eq_true rfl⟩) (x_preVW (wc := (xD T bd (nI 0) M)) hK hP hD hS hA hXB hZ _ _ 0 4 rfl rfl) rfl rfl hl.1 rfl (lv_room (Nat.le_of_ble_eq_true rfl)) dX4_watcher_7 ⟨Nat.le_of_ble_eq_true rfl, Nat.le_of_ble_eq_true rfl⟩) hP hD hS hA (fun _ _ _ => xd_self rfl hD) (fun r0 u0 H locs hw0 hP hD hS => ?_)
  have hP : va_P G vwCl (xD T bd (nI 0) M) H := hP
  have hD : va_D A (xD T bd (nI 0) M) := hD
  refine lv_if_eq (tgt := 31) hx hb dX4_watcher_10 (by decide) (fun c0 => ?_) (fun c0 => ?_)
  · refine lv_aload_n hx hb dX4_watcher_31 rfl (lv_at hl 0 rfl) ?_
    refine lv_iconst (v := nI 1) hx hb dX4_watcher_32 (by decide) ?_
    refine x_calliW (va_runV (As := [.int (nI 1)]) (rest := []) ⟨hx, hb, hml, hown, hts⟩ (c_X4_no l G T _ bd (nI 0) M (nI 1)) (cwV 1 hts gX4_watcher_X4_no rfl rfl rfl (by decide +kernel) ⟨Nat.le_of_ble_eq_true rfl, Nat.le_of_ble_eq_true rfl⟩) (x_preVW (wc := (xD T bd (nI 0) M)) hK hP hD hS hA hXB hZ _ _ 0 4 rfl rfl) rfl rfl hl.1 rfl (lv_room (Nat.le_of_ble_eq_true rfl)) dX4_watcher_33 ⟨Nat.le_of_ble_eq_true rfl, Nat.le_of_ble_eq_true rfl⟩) hP hD hS hA (fun _ _ _ => xd_self rfl hD) (fun r8 u8 H locs hw8 hP hD hS => ?_)
    have hP : va_P G vwCl (xD T bd (nI 1) M) H := hP
    have hD : va_D A (xD T bd (nI 1) M) := hD
    refine W.widen (k := 1) (n := 6) (by omega) (by omega) ?_
    exact W.iret (v := r8) hx hb hr (fun t9_ ht hW => ⟨⟨r8, (nI 1), rfl, Or.inr ⟨by rw [xb_of_eq hw0 c0, Bool.false_and], rfl⟩, x_at ht hP⟩, hS.F ht⟩) hS.2.2 dX4_watcher_36
  · have hv0 := xb_of_ne hw0 c0
    refine lv_iload_n hx hb dX4_watcher_13 rfl (lv_at hl 2 rfl) ?_
    refine lv_iconst (v := nI 0) hx hb dX4_watcher_14 (by decide) ?_
    refine lv_iconst (v := nI 5) hx hb dX4_watcher_15 (by decide) ?_
    refine x_calli (va_runS (As := [.int y, .int (nI 0), .int (nI 5)]) (rest := []) ⟨hx, hb, hml, hown, hts⟩ (c_X4_isIn l G T _ y (nI 0) (nI 5)) (va_cwS 3 hts gX4_watcher_X4_isIn rfl rfl rfl (by decide +kernel) ⟨Nat.le_of_ble_eq_true rfl, Nat.le_of_ble_eq_true rfl⟩) (x_preS (wc := []) hK hP hD hS hA hXB hZ [] rfl rfl _) rfl rfl hl.1 rfl (lv_room (Nat.le_of_ble_eq_true rfl)) dX4_watcher_16 ⟨Nat.le_of_ble_eq_true rfl, Nat.le_of_ble_eq_true rfl⟩) hP hD hS hA [] rfl (fun _ _ _ => rfl) (fun r1 u1 H locs hw1 hP hD hS => ?_)
    have hP : va_P G vwCl (xD T bd (nI 0) M) H := hP
    have hD : va_D A (xD T bd (nI 0) M) := hD
    rw [show (decide (nI 0 ≤ y) && decide (y ≤ nI 5)) = xvb 6 y from xin_n (n := 6) (by decide) y] at hw1
    refine lv_if_eq (tgt := 31) hx hb dX4_watcher_19 (by decide) (fun c1 => ?_) (fun c1 => ?_)
    · refine lv_aload_n hx hb dX4_watcher_31 rfl (lv_at hl 0 rfl) ?_
      refine lv_iconst (v := nI 1) hx hb dX4_watcher_32 (by decide) ?_
      refine x_calliW (va_runV (As := [.int (nI 1)]) (rest := []) ⟨hx, hb, hml, hown, hts⟩ (c_X4_no l G T _ bd (nI 0) M (nI 1)) (cwV 1 hts gX4_watcher_X4_no rfl rfl rfl (by decide +kernel) ⟨Nat.le_of_ble_eq_true rfl, Nat.le_of_ble_eq_true rfl⟩) (x_preVW (wc := (xD T bd (nI 0) M)) hK hP hD hS hA hXB hZ _ _ 0 4 rfl rfl) rfl rfl hl.1 rfl (lv_room (Nat.le_of_ble_eq_true rfl)) dX4_watcher_33 ⟨Nat.le_of_ble_eq_true rfl, Nat.le_of_ble_eq_true rfl⟩) hP hD hS hA (fun _ _ _ => xd_self rfl hD) (fun r8 u8 H locs hw8 hP hD hS => ?_)
      have hP : va_P G vwCl (xD T bd (nI 1) M) H := hP
      have hD : va_D A (xD T bd (nI 1) M) := hD
      refine W.widen (k := 1) (n := 6) (by omega) (by omega) ?_
      exact W.iret (v := r8) hx hb hr (fun t9_ ht hW => ⟨⟨r8, (nI 1), rfl, Or.inr ⟨by rw [hv0, xb_of_eq hw1 c1]; rfl, rfl⟩, x_at ht hP⟩, hS.F ht⟩) hS.2.2 dX4_watcher_36
    · have hv1 := xb_of_ne hw1 c1
      have hv : (xvb (mnw M) x && xvb 6 y) = true := by rw [hv0, hv1]; rfl
      obtain ⟨k, hk, rfl⟩ := (xvb_iff (n := mnw M) (by omega)).mp (hv0)
      obtain ⟨j, hj, rfl⟩ := (xvb_iff (n := 6) (by decide)).mp (hv1)
      have hk4 : k < 4 := Nat.lt_of_lt_of_le hk hn4
      refine lv_aload_n hx hb dX4_watcher_22 rfl (lv_at hl 0 rfl) ?_
      refine lv_iload_n hx hb dX4_watcher_23 rfl (lv_at hl 1 rfl) ?_
      refine lv_iload_n hx hb dX4_watcher_24 rfl (lv_at hl 2 rfl) ?_
      refine x_calliW (va_runV (As := [.int (nI k), .int (nI j)]) (rest := []) ⟨hx, hb, hml, hown, hts⟩ (c_X4_watcherTold l G T _ bd (nI 0) M k j hk4 hj (hin k hk) hpk) (cwV 2 hts gX4_watcher_X4_watcherTold rfl rfl rfl (by decide +kernel) ⟨Nat.le_of_ble_eq_true rfl, Nat.le_of_ble_eq_true rfl⟩) (x_preVW (wc := (xD T bd (nI 0) M)) hK hP hD hS hA hXB hZ _ _ 0 4 rfl rfl) rfl rfl hl.1 rfl (lv_room (Nat.le_of_ble_eq_true rfl)) dX4_watcher_25 ⟨Nat.le_of_ble_eq_true rfl, Nat.le_of_ble_eq_true rfl⟩) hP hD hS hA (fun _ _ _ => xd_self rfl hD) (fun r2 u2 H locs hw2 hP hD hS => ?_)
      have hP : va_P G vwCl (xD T bd (nI 0) M) H := hP
      have hD : va_D A (xD T bd (nI 0) M) := hD
      refine lv_goto (tgt := 36) hx hb dX4_watcher_28 (by decide) ?_
      exact W.iret (v := r2) hx hb hr (fun t9_ ht hW => ⟨⟨r2, (nI 0), rfl, Or.inl ⟨hv, rfl, by rw [xka_n (by omega), xka_n (by omega)]; exact hw2⟩, x_at ht hP⟩, hS.F ht⟩) hS.2.2 dX4_watcher_36
end XR4
