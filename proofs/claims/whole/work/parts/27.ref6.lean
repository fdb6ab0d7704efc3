section XR6
theorem xD_risr (T : Nat → ClassId) (bd : Nat → Nat) (thr : Int32) (M : XM) {k : Nat} (hk : k < 4) (g : Nat → Int32) : [8 + k].map (fun i => (xD T bd thr (xMr M k g))[i]?) = ([(bd (8 + k), .inl (T 0, 16, .inl g))] : va_W).map some := by
  simp only [List.map_cons, List.map_nil, xD_rowr T bd thr M hk g]

set_option maxHeartbeats 4000000 in
set_option maxRecDepth 100000 in
/-- glimpse -/
theorem c_X4_glimpse (l : Launch) (G : va_G) (T : Nat → ClassId) (sz : Nat) (N : Nat) (hN : N = 257) (bd : Nat → Nat) (thr : Int32) (M : XM) (x y : Int32) (hn4 : mnw M ≤ 4) (hth : ∀ w, w < mnw M → ∀ j, j < 16 → (mth M w j).toBitVec.toNat < 65536 ∧ ¬ mth M w j = 0) (hpk : ∀ j, j < 16 → ∃ c, c < 16 ∧ mpk M j = nI c) : Met l yX4_glimpse wsX4_glimpse ({ frames := 3, cells := 0, slots := 0, locals := 63 }) (va_Pc [.ref (bd 0), .int x, .int y] (xPre G T (xD T bd thr M) sz)) (va_Qi (fun (r : Int32) (u : Int32) => ((xvb (mnw M) x && xvb 16 y) = true ∧ u = nI 0 ∧ r = mpk M (xka y)) ∨ ((xvb (mnw M) x && xvb 16 y) = false ∧ u = nI 1)) (fun u t => va_P G vwCl (xD T bd u (if (xvb (mnw M) x && xvb 16 y) then xMg N M (xka x) (xka y) else M)) t.heap) (va_A (xD T bd thr M) sz)) 0 0 (va_A (xD T bd thr M) sz) := by
  refine Met.ofW (cc := cX4_glimpse) (maxL := 6) (ret := (some .int)) (by decide +kernel) rfl ?_
  intro p e s m args below meth c s₁ B hml hv
  obtain ⟨rfl, hsz, hP, hK, hD0, hXB, hZ⟩ := hv
  have hx := B.exec
  have hb := B.bytes
  have hr := B.returns
  have hts := atoms_spec (ws := wsX4_glimpse) B.pre
  have hown : s.vm.findClass RX4 = some m.cls := findClass_of_methodNamed B.named
  have hlocks := B.notSynchronized
  subst hsz
  have hD := hD0.self (sz := s.heap.size)
  generalize hAe : va_A (xD T bd thr M) s.heap.size = A at hD hZ ⊢
  have hA : ∀ q : Nat, s.heap.size ≤ q → A q := fun q h => by rw [← hAe]; exact Or.inr h
  have hS : va_S A s.heap s.heap [] := va_S.rf
  have hP : va_P G vwCl (xD T bd thr M) s.heap := hP
  have hiX4 : ∀ w ∈ u_ws RX4 TX4 14, w ∈ wsX4_glimpse := by decide +kernel
  have hl := lv_entry ([.ref (bd 0), .int x, .int y]) (n := 6) (Nat.le_of_ble_eq_true rfl)
  rw [lg_entry_eq]
  generalize (lg_sl ([.ref (bd 0), .int x, .int y]) ++ List.replicate (6 - (lg_sl ([.ref (bd 0), .int x, .int y])).length) Slot.unset).toArray = ls at hl ⊢
  have hl : lv_has ls 6 [(0, .ref (bd 0)), (1, .int x), (2, .int y)] := hl
  refine lv_aload_n hx hb dX4_glimpse_0 rfl (lv_at hl 0 rfl) ?_
  refine lv_iconst (v := nI 0) hx hb dX4_glimpse_1 (by decide) ?_
  refine va_put (D := G) (ci := 4) (v := .int (nI 0)) (ty := .int) (C := RX4) (T := TX4) (N := 14) hx hb hts hiX4 tyX4 tyX4_ok nmX4 hown hK hP hD hS 0 rfl rfl 0 (by decide) (hts (.fieldLink RX4 33 "CardFansModel" "thrown" "I") (by decide +kernel)) (fun _ h9 => h9) rfl (by decide +kernel) rfl rfl (Nat.le_of_ble_eq_true rfl) dX4_glimpse_2 (fun H locs hP hD hS => ?_)
  have hP : va_P G vwCl (xD T bd (nI 0) M) H := hP
  have hD : va_D A (xD T bd (nI 0) M) := hD
  refine lv_aload_n hx hb dX4_glimpse_5 rfl (lv_at hl 0 rfl) ?_
  refine lv_iload_n hx hb dX4_glimpse_6 rfl (lv_at hl 1 rfl) ?_
  refine x_calliW (va_runV (As := [.int x]) (rest := []) ⟨hx, hb, hml, hown, hts⟩ (c_X4_isWatcher l G T _ bd (nI 0) M x hn4) (cwV 1 hts gX4_glimpse_X4_isWatcher rfl rfl rfl (by decide +kernel) ⟨Nat.le_of_ble_eq_true rfl, Nat.le_of_ble_eq_true rfl⟩) (x_preVW (wc := (xD T bd (nI 0) M)) hK hP hD hS hA hXB hZ _ _ 0 4 rfl rfl) rfl rfl hl.1 rfl (lv_room (Nat.le_of_ble_eq_true rfl)) dX4_glimpse_7 ⟨Nat.le_of_ble_eq_true rfl, Nat.le_of_ble_eq_true rfl⟩) hP hD hS hA (fun _ _ _ => xd_self rfl hD) (fun r0 u0 H locs hw0 hP hD hS => ?_)
  have hP : va_P G vwCl (xD T bd (nI 0) M) H := hP
  have hD : va_D A (xD T bd (nI 0) M) := hD
  refine lv_if_eq (tgt := 20) hx hb dX4_glimpse_10 (by decide) (fun c0 => ?_) (fun c0 => ?_)
  · refine lv_aload_n hx hb dX4_glimpse_20 rfl (lv_at hl 0 rfl) ?_
    refine lv_iconst (v := nI 1) hx hb dX4_glimpse_21 (by decide) ?_
    refine x_calliW (va_runV (As := [.int (nI 1)]) (rest := []) ⟨hx, hb, hml, hown, hts⟩ (c_X4_no l G T _ bd (nI 0) M (nI 1)) (cwV 1 hts gX4_glimpse_X4_no rfl rfl rfl (by decide +kernel) ⟨Nat.le_of_ble_eq_true rfl, Nat.le_of_ble_eq_true rfl⟩) (x_preVW (wc := (xD T bd (nI 0) M)) hK hP hD hS hA hXB hZ _ _ 0 4 rfl rfl) rfl rfl hl.1 rfl (lv_room (Nat.le_of_ble_eq_true rfl)) dX4_glimpse_22 ⟨Nat.le_of_ble_eq_true rfl, Nat.le_of_ble_eq_true rfl⟩) hP hD hS hA (fun _ _ _ => xd_self rfl hD) (fun r8 u8 H locs hw8 hP hD hS => ?_)
    have hP : va_P G vwCl (xD T bd (nI 1) M) H := hP
    have hD : va_D A (xD T bd (nI 1) M) := hD
    exact W.iret (v := r8) hx hb hr (fun t9_ ht hW => ⟨⟨r8, (nI 1), rfl, Or.inr ⟨by rw [xb_of_eq hw0 c0, Bool.false_and], rfl⟩, x_at ht (by rw [if_neg (by rw [show (xvb (mnw M) x && xvb 16 y) = false from by rw [xb_of_eq hw0 c0, Bool.false_and]]; exact Bool.false_ne_true)]; exact hP)⟩, hS.F ht⟩) hS.2.2 dX4_glimpse_25
  · have hv0 := xb_of_ne hw0 c0
    refine lv_iload_n hx hb dX4_glimpse_13 rfl (lv_at hl 2 rfl) ?_
    refine x_calli (va_runS (As := [.int y]) (rest := []) ⟨hx, hb, hml, hown, hts⟩ (c_X4_isPlace l G T _ y) (va_cwS 1 hts gX4_glimpse_X4_isPlace rfl rfl rfl (by decide +kernel) ⟨Nat.le_of_ble_eq_true rfl, Nat.le_of_ble_eq_true rfl⟩) (x_preS (wc := []) hK hP hD hS hA hXB hZ [] rfl rfl _) rfl rfl hl.1 rfl (lv_room (Nat.le_of_ble_eq_true rfl)) dX4_glimpse_14 ⟨Nat.le_of_ble_eq_true rfl, Nat.le_of_ble_eq_true rfl⟩) hP hD hS hA [] rfl (fun _ _ _ => rfl) (fun r1 u1 H locs hw1 hP hD hS => ?_)
    have hP : va_P G vwCl (xD T bd (nI 0) M) H := hP
    have hD : va_D A (xD T bd (nI 0) M) := hD
    refine lv_if_ne (tgt := 26) hx hb dX4_glimpse_17 (by decide) (fun c1 => ?_) (fun c1 => ?_)
    · have hv1 := xb_of_ne hw1 c1
      have hv : (xvb (mnw M) x && xvb 16 y) = true := by rw [hv0, hv1]; rfl
      rw [if_pos hv]
      obtain ⟨k, hk, rfl⟩ := (xvb_iff (n := mnw M) (by omega)).mp (hv0)
      obtain ⟨j, hj, rfl⟩ := (xvb_iff (n := 16) (by decide)).mp (hv1)
      rw [xka_n (show k < 2 ^ 31 by omega), xka_n (show j < 2 ^ 31 by omega)]
      have hk4 : k < 4 := Nat.lt_of_lt_of_le hk hn4
      refine lv_aload_n hx hb dX4_glimpse_26 rfl (lv_at hl 0 rfl) ?_
      refine va_get (D := G) (ci := 4) (v := .ref (bd 3)) (C := RX4) (T := TX4) (N := 14) hx hb hts hiX4 hown hK hP 0 rfl rfl 4 (by decide) (hts (.fieldLink RX4 18 "CardFansModel" "thinks" "[[I") (by decide +kernel)) (fun _ h9 => h9) rfl dX4_glimpse_27 ?_
      refine lv_iload_n hx hb dX4_glimpse_30 rfl (lv_at hl 1 rfl) ?_
      refine x_aaldA hx hb hK hP 3 3 rfl rfl hk4 (by decide) dX4_glimpse_31 (v := .ref (bd (8 + k))) (by show va_rf (if k < 4 then _ else _) = _; rw [if_pos hk4]; rfl) ?_
      refine lv_astore_n (lv' := [(3, .ref (bd (8 + k))), (0, .ref (bd 0)), (1, .int (nI k)), (2, .int (nI j))]) hx hb dX4_glimpse_32 rfl hl (by decide) rfl (fun ls hl => ?_)
      refine lv_iconst (v := nI 1) hx hb dX4_glimpse_33 (by decide) ?_
      refine lv_aload_n hx hb dX4_glimpse_34 rfl (lv_at hl 1 rfl) ?_
      refine va_get (D := G) (ci := 4) (v := .ref (bd 1)) (C := RX4) (T := TX4) (N := 14) hx hb hts hiX4 hown hK hP 0 rfl rfl 1 (by decide) (hts (.fieldLink RX4 9 "CardFansModel" "pack" "[I") (by decide +kernel)) (fun _ h9 => h9) rfl dX4_glimpse_35 ?_
      refine lv_iload_n hx hb dX4_glimpse_38 rfl (lv_at hl 3 rfl) ?_
      refine x_iald hx hb hK hP 1 0 (f := (mpk M)) (n := 16) rfl rfl hj (by decide) dX4_glimpse_39 ?_
      refine lv_ishl hx hb dX4_glimpse_40 ?_
      refine x_topi (y := (xso (mpk M j))) (rfl) ?_
      refine lv_istore (lv' := [(4, .int (xso (mpk M j))), (3, .ref (bd (8 + k))), (0, .ref (bd 0)), (1, .int (nI k)), (2, .int (nI j))]) hx hb dX4_glimpse_41 hl (by decide) rfl (fun ls hl => ?_)
      refine lv_aload_n hx hb dX4_glimpse_43 rfl (lv_at hl 2 rfl) ?_
      refine va_get (D := G) (ci := 4) (v := .ref (bd 5)) (C := RX4) (T := TX4) (N := 14) hx hb hts hiX4 hown hK hP 0 rfl rfl 6 (by decide) (hts (.fieldLink RX4 24 "CardFansModel" "glimpses" "[I") (by decide +kernel)) (fun _ h9 => h9) rfl dX4_glimpse_44 ?_
      refine lv_iload_n hx hb dX4_glimpse_47 rfl (lv_at hl 3 rfl) ?_
      refine lv_dup2_11 hx hb dX4_glimpse_48 rfl rfl ?_
      refine x_iald hx hb hK hP 5 0 (f := (mgl M)) (n := 4) rfl rfl hk4 (by decide) dX4_glimpse_49 ?_
      refine lv_iconst (v := nI 1) hx hb dX4_glimpse_50 (by decide) ?_
      refine lv_iadd hx hb dX4_glimpse_51 ?_
      refine x_iast hx hb hK hP hD hS 5 0 (f := (mgl M)) (n := 4) rfl rfl hk4 (by decide) dX4_glimpse_52 (fun H locs hP hD hS => ?_)
      have hP : va_P G vwCl (xD T bd (nI 0) (xmk (mpk M) (mth M) (msh M) (man M) (upd (mgl M) k (mgl M k + nI 1)) (mhb M) (mtk M) (mnw M) (mnp M) (mle M) (mwy M) (mfc M) (mta M))) H := hP
      have hD : va_D A (xD T bd (nI 0) (xmk (mpk M) (mth M) (msh M) (man M) (upd (mgl M) k (mgl M k + nI 1)) (mhb M) (mtk M) (mnw M) (mnp M) (mle M) (mwy M) (mfc M) (mta M))) := hD
      have eM : xMr (xmk (mpk M) (mth M) (msh M) (man M) (upd (mgl M) k (mgl M k + nI 1)) (mhb M) (mtk M) (mnw M) (mnp M) (mle M) (mwy M) (mfc M) (mta M)) k (mth M k) = (xmk (mpk M) (mth M) (msh M) (man M) (upd (mgl M) k (mgl M k + nI 1)) (mhb M) (mtk M) (mnw M) (mnp M) (mle M) (mwy M) (mfc M) (mta M)) := xMr_self (xmk (mpk M) (mth M) (msh M) (man M) (upd (mgl M) k (mgl M k + nI 1)) (mhb M) (mtk M) (mnw M) (mnp M) (mle M) (mwy M) (mfc M) (mta M)) k
      have hP : va_P G vwCl (xD T bd (nI 0) (xMr (xmk (mpk M) (mth M) (msh M) (man M) (upd (mgl M) k (mgl M k + nI 1)) (mhb M) (mtk M) (mnw M) (mnp M) (mle M) (mwy M) (mfc M) (mta M)) k (mth M k))) H := by rw [eM]; exact hP
      have hD : va_D A (xD T bd (nI 0) (xMr (xmk (mpk M) (mth M) (msh M) (man M) (upd (mgl M) k (mgl M k + nI 1)) (mhb M) (mtk M) (mnw M) (mnp M) (mle M) (mwy M) (mfc M) (mta M)) k (mth M k))) := by rw [eM]; exact hD
      refine lv_aload_n hx hb dX4_glimpse_53 rfl (lv_at hl 1 rfl) ?_
      refine lv_iload_n hx hb dX4_glimpse_54 rfl (lv_at hl 4 rfl) ?_
      refine lv_iload hx hb dX4_glimpse_55 (lv_at hl 0 rfl) ?_
      refine x_iast hx hb hK hP hD hS (8 + k) 0 (f := (mth M k)) (n := 16) (xD_rowr T bd (nI 0) (xmk (mpk M) (mth M) (msh M) (man M) (upd (mgl M) k (mgl M k + nI 1)) (mhb M) (mtk M) (mnw M) (mnp M) (mle M) (mwy M) (mfc M) (mta M)) hk4 _) rfl hj (by decide) dX4_glimpse_57 (fun H locs hP hD hS => ?_)
      rw [xD_setr T bd (nI 0) (xmk (mpk M) (mth M) (msh M) (man M) (upd (mgl M) k (mgl M k + nI 1)) (mhb M) (mtk M) (mnw M) (mnp M) (mle M) (mwy M) (mfc M) (mta M)) hk4] at hP hD
      have hP : va_P G vwCl (xD T bd (nI 0) (xMr (xmk (mpk M) (mth M) (msh M) (man M) (upd (mgl M) k (mgl M k + nI 1)) (mhb M) (mtk M) (mnw M) (mnp M) (mle M) (mwy M) (mfc M) (mta M)) k (upd (mth M k) j (xso (mpk M j))))) H := hP
      have hD : va_D A (xD T bd (nI 0) (xMr (xmk (mpk M) (mth M) (msh M) (man M) (upd (mgl M) k (mgl M k + nI 1)) (mhb M) (mtk M) (mnw M) (mnp M) (mle M) (mwy M) (mfc M) (mta M)) k (upd (mth M k) j (xso (mpk M j))))) := hD
      refine lv_aload_n hx hb dX4_glimpse_58 rfl (lv_at hl 1 rfl) ?_
      obtain ⟨c9, hc9, ec9⟩ := hpk j hj
      have es9 : (xso (mpk M j)) = nI (2 ^ c9) := by rw [ec9]; exact xso_n (by omega)
      have hp9 : 2 ^ c9 < 65536 := Nat.pow_lt_pow_right (n := 16) (by decide) hc9
      have hp8 : 0 < 2 ^ c9 := Nat.pow_pos (by decide)
      have hR9 : xrg (upd (mth M k) j (xso (mpk M j))) := fun a ha => by by_cases e : a = j; rw [e, pk_us, es9]; show (BitVec.ofNat 32 (2 ^ c9)).toNat < 65536; rw [BitVec.toNat_ofNat]; exact Nat.lt_of_le_of_lt (Nat.mod_le _ _) hp9; rw [pk_un e]; exact (hth k hk a ha).1
      have hz9 : ∀ a, a < 16 → ¬ (upd (mth M k) j (xso (mpk M j))) a = 0 := fun a ha => by by_cases e : a = j; rw [e, pk_us, es9]; exact nI_ne0 hp8 (by omega); rw [pk_un e]; exact (hth k hk a ha).2
      refine x_calli (va_runS (As := [.ref (bd (8 + k))]) (rest := []) ⟨hx, hb, hml, hown, hts⟩ (c_X4_isLeft l G T _ N hN (bd (8 + k)) (upd (mth M k) j (xso (mpk M j))) hR9 hz9) (va_cwS 1 hts gX4_glimpse_X4_isLeft rfl rfl rfl (by decide +kernel) ⟨Nat.le_of_ble_eq_true rfl, Nat.le_of_ble_eq_true rfl⟩) (x_preS (wc := [(bd (8 + k), .inl (T 0, 16, .inl (upd (mth M k) j (xso (mpk M j)))))]) hK hP hD hS hA hXB hZ [8 + k] (xD_risr T bd (nI 0) (xmk (mpk M) (mth M) (msh M) (man M) (upd (mgl M) k (mgl M k + nI 1)) (mhb M) (mtk M) (mnw M) (mnp M) (mle M) (mwy M) (mfc M) (mta M)) hk4 (upd (mth M k) j (xso (mpk M j)))) rfl _) rfl rfl hl.1 rfl (lv_room (Nat.le_of_ble_eq_true rfl)) dX4_glimpse_59 ⟨Nat.le_of_ble_eq_true rfl, Nat.le_of_ble_eq_true rfl⟩) hP hD hS hA [8 + k] (xD_risr T bd (nI 0) (xmk (mpk M) (mth M) (msh M) (man M) (upd (mgl M) k (mgl M k + nI 1)) (mhb M) (mtk M) (mnw M) (mnp M) (mle M) (mwy M) (mfc M) (mta M)) hk4 (upd (mth M k) j (xso (mpk M j)))) (fun _ _ _ => rfl) (fun r2 u2 H locs hw2 hP hD hS => ?_)
      rw [show xrep (xD T bd (nI 0) (xMr (xmk (mpk M) (mth M) (msh M) (man M) (upd (mgl M) k (mgl M k + nI 1)) (mhb M) (mtk M) (mnw M) (mnp M) (mle M) (mwy M) (mfc M) (mta M)) k (upd (mth M k) j (xso (mpk M j))))) [8 + k] [(bd (8 + k), .inl (T 0, 16, .inl u2))] = xD T bd (nI 0) (xMr (xmk (mpk M) (mth M) (msh M) (man M) (upd (mgl M) k (mgl M k + nI 1)) (mhb M) (mtk M) (mnw M) (mnp M) (mle M) (mwy M) (mfc M) (mta M)) k u2) from xD_setr T bd (nI 0) (xmk (mpk M) (mth M) (msh M) (man M) (upd (mgl M) k (mgl M k + nI 1)) (mhb M) (mtk M) (mnw M) (mnp M) (mle M) (mwy M) (mfc M) (mta M)) hk4 _ _] at hP hD
      have hP : va_P G vwCl (xD T bd (nI 0) (xMr (xmk (mpk M) (mth M) (msh M) (man M) (upd (mgl M) k (mgl M k + nI 1)) (mhb M) (mtk M) (mnw M) (mnp M) (mle M) (mwy M) (mfc M) (mta M)) k u2)) H := hP
      have hD : va_D A (xD T bd (nI 0) (xMr (xmk (mpk M) (mth M) (msh M) (man M) (upd (mgl M) k (mgl M k + nI 1)) (mhb M) (mtk M) (mnw M) (mnp M) (mle M) (mwy M) (mfc M) (mta M)) k u2)) := hD
      refine lv_if_eq (tgt := 72) hx hb dX4_glimpse_62 (by decide) (fun c2 => ?_) (fun c2 => ?_)
      · have h1 := xb_of_eq hw2.1 c2
        refine lv_aload_n hx hb dX4_glimpse_72 rfl (lv_at hl 2 rfl) ?_
        refine va_get (D := G) (ci := 4) (v := .ref (bd 4)) (C := RX4) (T := TX4) (N := 14) hx hb hts hiX4 hown hK hP 0 rfl rfl 5 (by decide) (hts (.fieldLink RX4 21 "CardFansModel" "anew" "[I") (by decide +kernel)) (fun _ h9 => h9) rfl dX4_glimpse_73 ?_
        refine lv_iload_n hx hb dX4_glimpse_76 rfl (lv_at hl 3 rfl) ?_
        refine lv_dup2_11 hx hb dX4_glimpse_77 rfl rfl ?_
        refine x_iald hx hb hK hP 4 0 (f := (man (xMr (xmk (mpk M) (mth M) (msh M) (man M) (upd (mgl M) k (mgl M k + nI 1)) (mhb M) (mtk M) (mnw M) (mnp M) (mle M) (mwy M) (mfc M) (mta M)) k u2))) (n := 4) rfl rfl hk4 (by decide) dX4_glimpse_78 ?_
        refine lv_iconst (v := nI 1) hx hb dX4_glimpse_79 (by decide) ?_
        refine lv_iadd hx hb dX4_glimpse_80 ?_
        refine x_iast hx hb hK hP hD hS 4 0 (f := (man (xMr (xmk (mpk M) (mth M) (msh M) (man M) (upd (mgl M) k (mgl M k + nI 1)) (mhb M) (mtk M) (mnw M) (mnp M) (mle M) (mwy M) (mfc M) (mta M)) k u2))) (n := 4) rfl rfl hk4 (by decide) dX4_glimpse_81 (fun H locs hP hD hS => ?_)
        have hP : va_P G vwCl (xD T bd (nI 0) (xMr (xmk (mpk M) (mth M) (msh M) (upd (man M) k (man M k + nI 1)) (upd (mgl M) k (mgl M k + nI 1)) (mhb M) (mtk M) (mnw M) (mnp M) (mle M) (mwy M) (mfc M) (mta M)) k u2)) H := hP
        have hD : va_D A (xD T bd (nI 0) (xMr (xmk (mpk M) (mth M) (msh M) (upd (man M) k (man M k + nI 1)) (upd (mgl M) k (mgl M k + nI 1)) (mhb M) (mtk M) (mnw M) (mnp M) (mle M) (mwy M) (mfc M) (mta M)) k u2)) := hD
        refine lv_iconst (v := nI 0) hx hb dX4_glimpse_82 (by decide) ?_
        refine lv_istore (lv' := [(5, .int (nI 0)), (4, .int (xso (mpk M j))), (3, .ref (bd (8 + k))), (0, .ref (bd 0)), (1, .int (nI k)), (2, .int (nI j))]) hx hb dX4_glimpse_83 hl (by decide) rfl (fun ls hl => ?_)
        suffices LP1 : ∀ (n1 : Nat) (i : Nat) (g : Nat → Int32), (i ≤ 16) → (16 < i + n1) → (∀ a, a < i → g a = (upd (fun _ => nI 65535 &&& ((xso (mpk M j)) ^^^ (-1))) j (xso (mpk M j))) a) → ∀ (H : Heap) (locs : List Loc), va_P G vwCl (xD T bd (nI 0) (xMr (xmk (mpk M) (mth M) (msh M) (upd (man M) k (man M k + nI 1)) (upd (mgl M) k (mgl M k + nI 1)) (mhb M) (mtk M) (mnw M) (mnp M) (mle M) (mwy M) (mfc M) (mta M)) k g)) H → va_D A (xD T bd (nI 0) (xMr (xmk (mpk M) (mth M) (msh M) (upd (man M) k (man M k + nI 1)) (upd (mgl M) k (mgl M k + nI 1)) (mhb M) (mtk M) (mnw M) (mnp M) (mle M) (mwy M) (mfc M) (mta M)) k g)) → va_S A s.heap H locs → ∀ (ls : Array Slot), lv_has ls 6 [(5, .int (nI i)), (4, .int (xso (mpk M j))), (3, .ref (bd (8 + k))), (0, .ref (bd 0)), (1, .int (nI k)), (2, .int (nI j))] → W p l e (headSpec wsX4_glimpse ({ frames := 3, cells := 0, slots := 0, locals := 63 })).room s m ([.ref (bd 0), .int (nI k), .int (nI j)] : List Value).toArray below meth c H locs 0 0 (MQ below (va_Qi (fun (r : Int32) (u : Int32) => ((xvb (mnw M) (nI k) && xvb 16 (nI j)) = true ∧ u = nI 0 ∧ r = mpk M j) ∨ ((xvb (mnw M) (nI k) && xvb 16 (nI j)) = false ∧ u = nI 1)) (fun u t => va_P G vwCl (xD T bd u (xMg N M k j)) t.heap) A) ([.ref (bd 0), .int (nI k), .int (nI j)] : List Value).toArray s 0 0 A) (F0 m 85 ls []) from LP1 17 0 _ (by decide) (by decide) (fun a ha => absurd ha (Nat.not_lt_zero a)) _ _ hP hD hS ls (lv_sub hl [0, 1, 2, 3, 4, 5] rfl)
        clear hP hD hS hl
        intro n1
        induction n1 with
        | zero => intro i g hi hn hf H locs _ _ _ ls _; exfalso; omega
        | succ n1 ih1 =>
          intro i g hi hn hf H locs hP hD hS ls hl
          refine lv_iload hx hb dX4_glimpse_85 (lv_at hl 0 rfl) ?_
          refine lv_bipush (v := nI 16) hx hb dX4_glimpse_87 (by decide) ?_
          by_cases hc : i < 16
          · refine lv_icmp_ge (tgt := 120) hx hb dX4_glimpse_89 (by decide) (fun c_ => absurd c_ (nI_ge hc (by decide))) (fun _ => ?_)
            refine lv_aload_n hx hb dX4_glimpse_92 rfl (lv_at hl 2 rfl) ?_
            refine lv_iload hx hb dX4_glimpse_93 (lv_at hl 0 rfl) ?_
            refine lv_iload hx hb dX4_glimpse_95 (lv_at hl 0 rfl) ?_
            refine lv_iload_n hx hb dX4_glimpse_97 rfl (lv_at hl 5 rfl) ?_
            by_cases he : i = j
            · refine lv_icmp_ne (tgt := 106) hx hb dX4_glimpse_98 (by decide) (fun c_ => absurd (congrArg nI he) c_) (fun _ => ?_)
              refine lv_iload hx hb dX4_glimpse_101 (lv_at hl 1 rfl) ?_
              refine lv_goto (tgt := 113) hx hb dX4_glimpse_103 (by decide) ?_
              refine x_iast hx hb hK hP hD hS (8 + k) 0 (f := g) (n := 16) (xD_rowr T bd (nI 0) (xmk (mpk M) (mth M) (msh M) (upd (man M) k (man M k + nI 1)) (upd (mgl M) k (mgl M k + nI 1)) (mhb M) (mtk M) (mnw M) (mnp M) (mle M) (mwy M) (mfc M) (mta M)) hk4 _) rfl hc (by decide) dX4_glimpse_113 (fun H locs hP hD hS => ?_)
              rw [xD_setr T bd (nI 0) (xmk (mpk M) (mth M) (msh M) (upd (man M) k (man M k + nI 1)) (upd (mgl M) k (mgl M k + nI 1)) (mhb M) (mtk M) (mnw M) (mnp M) (mle M) (mwy M) (mfc M) (mta M)) hk4] at hP hD
              have hP : va_P G vwCl (xD T bd (nI 0) (xMr (xmk (mpk M) (mth M) (msh M) (upd (man M) k (man M k + nI 1)) (upd (mgl M) k (mgl M k + nI 1)) (mhb M) (mtk M) (mnw M) (mnp M) (mle M) (mwy M) (mfc M) (mta M)) k (upd g i (xso (mpk M j))))) H := hP
              have hD : va_D A (xD T bd (nI 0) (xMr (xmk (mpk M) (mth M) (msh M) (upd (man M) k (man M k + nI 1)) (upd (mgl M) k (mgl M k + nI 1)) (mhb M) (mtk M) (mnw M) (mnp M) (mle M) (mwy M) (mfc M) (mta M)) k (upd g i (xso (mpk M j))))) := hD
              refine lv_iinc (v := nI (i + 1)) (lv' := [(5, .int (nI (i + 1))), (4, .int (xso (mpk M j))), (3, .ref (bd (8 + k))), (0, .ref (bd 0)), (1, .int (nI k)), (2, .int (nI j))]) hx hb dX4_glimpse_114 hl (k := 0) rfl (x_inc _) (by decide) rfl (fun ls hl => ?_)
              refine lv_goto (tgt := 85) hx hb dX4_glimpse_117 (by decide) ?_
              exact ih1 (i + 1) _ (by omega) (by omega) (xlt_s (fun a ha => by rw [pk_un (by omega)]; exact hf a ha) (by rw [pk_us]; rw [he, pk_us])) _ _ hP hD hS ls (lv_sub hl [0, 1, 2, 3, 4, 5] rfl)
            · refine lv_icmp_ne (tgt := 106) hx hb dX4_glimpse_98 (by decide) (fun _ => ?_) (fun c_ => absurd c_ (fun h => he ((nI_eq (by omega) (by omega)).mp h)))
              refine lv_ldc (v := nI 65535) hx hb hown (hts (.constant RX4 84 (65535)) (by decide +kernel)) dX4_glimpse_106 ?_
              refine lv_iload hx hb dX4_glimpse_108 (lv_at hl 1 rfl) ?_
              refine lv_iconst (v := (-1)) hx hb dX4_glimpse_110 (by decide) ?_
              refine lv_ixor hx hb dX4_glimpse_111 ?_
              refine lv_iand hx hb dX4_glimpse_112 ?_
              refine x_iast hx hb hK hP hD hS (8 + k) 0 (f := g) (n := 16) (xD_rowr T bd (nI 0) (xmk (mpk M) (mth M) (msh M) (upd (man M) k (man M k + nI 1)) (upd (mgl M) k (mgl M k + nI 1)) (mhb M) (mtk M) (mnw M) (mnp M) (mle M) (mwy M) (mfc M) (mta M)) hk4 _) rfl hc (by decide) dX4_glimpse_113 (fun H locs hP hD hS => ?_)
              rw [xD_setr T bd (nI 0) (xmk (mpk M) (mth M) (msh M) (upd (man M) k (man M k + nI 1)) (upd (mgl M) k (mgl M k + nI 1)) (mhb M) (mtk M) (mnw M) (mnp M) (mle M) (mwy M) (mfc M) (mta M)) hk4] at hP hD
              have hP : va_P G vwCl (xD T bd (nI 0) (xMr (xmk (mpk M) (mth M) (msh M) (upd (man M) k (man M k + nI 1)) (upd (mgl M) k (mgl M k + nI 1)) (mhb M) (mtk M) (mnw M) (mnp M) (mle M) (mwy M) (mfc M) (mta M)) k (upd g i (nI 65535 &&& ((xso (mpk M j)) ^^^ (-1)))))) H := hP
              have hD : va_D A (xD T bd (nI 0) (xMr (xmk (mpk M) (mth M) (msh M) (upd (man M) k (man M k + nI 1)) (upd (mgl M) k (mgl M k + nI 1)) (mhb M) (mtk M) (mnw M) (mnp M) (mle M) (mwy M) (mfc M) (mta M)) k (upd g i (nI 65535 &&& ((xso (mpk M j)) ^^^ (-1)))))) := hD
              refine lv_iinc (v := nI (i + 1)) (lv' := [(5, .int (nI (i + 1))), (4, .int (xso (mpk M j))), (3, .ref (bd (8 + k))), (0, .ref (bd 0)), (1, .int (nI k)), (2, .int (nI j))]) hx hb dX4_glimpse_114 hl (k := 0) rfl (x_inc _) (by decide) rfl (fun ls hl => ?_)
              refine lv_goto (tgt := 85) hx hb dX4_glimpse_117 (by decide) ?_
              exact ih1 (i + 1) _ (by omega) (by omega) (xlt_s (fun a ha => by rw [pk_un (by omega)]; exact hf a ha) (by rw [pk_us]; exact (pk_un (f := fun _ => nI 65535 &&& ((xso (mpk M j)) ^^^ (-1))) he).symm)) _ _ hP hD hS ls (lv_sub hl [0, 1, 2, 3, 4, 5] rfl)
          · refine lv_icmp_ge (tgt := 120) hx hb dX4_glimpse_89 (by decide) (fun _ => ?_) (fun c_ => absurd (nI_le (by omega) (by omega)) c_)
            have hP := x_can hP (8 + k) (g := (upd (fun _ => nI 65535 &&& ((xso (mpk M j)) ^^^ (-1))) j (xso (mpk M j)))) (xD_rowr T bd (nI 0) (xmk (mpk M) (mth M) (msh M) (upd (man M) k (man M k + nI 1)) (upd (mgl M) k (mgl M k + nI 1)) (mhb M) (mtk M) (mnw M) (mnp M) (mle M) (mwy M) (mfc M) (mta M)) hk4 _) (fun a ha => hf a (by omega))
            have hD := xd_set hD (8 + k) (e := .inl (T 0, 16, .inl (upd (fun _ => nI 65535 &&& ((xso (mpk M j)) ^^^ (-1))) j (xso (mpk M j))))) (xD_rowr T bd (nI 0) (xmk (mpk M) (mth M) (msh M) (upd (man M) k (man M k + nI 1)) (upd (mgl M) k (mgl M k + nI 1)) (mhb M) (mtk M) (mnw M) (mnp M) (mle M) (mwy M) (mfc M) (mta M)) hk4 _)
            rw [xD_setr T bd (nI 0) (xmk (mpk M) (mth M) (msh M) (upd (man M) k (man M k + nI 1)) (upd (mgl M) k (mgl M k + nI 1)) (mhb M) (mtk M) (mnw M) (mnp M) (mle M) (mwy M) (mfc M) (mta M)) hk4] at hP hD
            have hP : va_P G vwCl (xD T bd (nI 0) (xMr (xmk (mpk M) (mth M) (msh M) (upd (man M) k (man M k + nI 1)) (upd (mgl M) k (mgl M k + nI 1)) (mhb M) (mtk M) (mnw M) (mnp M) (mle M) (mwy M) (mfc M) (mta M)) k (upd (fun _ => nI 65535 &&& ((xso (mpk M j)) ^^^ (-1))) j (xso (mpk M j))))) _ := hP
            have hD : va_D A (xD T bd (nI 0) (xMr (xmk (mpk M) (mth M) (msh M) (upd (man M) k (man M k + nI 1)) (upd (mgl M) k (mgl M k + nI 1)) (mhb M) (mtk M) (mnw M) (mnp M) (mle M) (mwy M) (mfc M) (mta M)) k (upd (fun _ => nI 65535 &&& ((xso (mpk M j)) ^^^ (-1))) j (xso (mpk M j))))) := hD
            refine lv_aload_n hx hb dX4_glimpse_120 rfl (lv_at hl 3 rfl) ?_
            refine va_get (D := G) (ci := 4) (v := .ref (bd 1)) (C := RX4) (T := TX4) (N := 14) hx hb hts hiX4 hown hK hP 0 rfl rfl 1 (by decide) (hts (.fieldLink RX4 9 "CardFansModel" "pack" "[I") (by decide +kernel)) (fun _ h9 => h9) rfl dX4_glimpse_121 ?_
            refine lv_iload_n hx hb dX4_glimpse_124 rfl (lv_at hl 5 rfl) ?_
            refine x_iald hx hb hK hP 1 0 (f := (mpk (xMr (xmk (mpk M) (mth M) (msh M) (upd (man M) k (man M k + nI 1)) (upd (mgl M) k (mgl M k + nI 1)) (mhb M) (mtk M) (mnw M) (mnp M) (mle M) (mwy M) (mfc M) (mta M)) k (upd (fun _ => nI 65535 &&& ((xso (mpk M j)) ^^^ (-1))) j (xso (mpk M j)))))) (n := 16) rfl rfl hj (by decide) dX4_glimpse_125 ?_
            have h2 : ¬ (xcl N (upd (mth M k) j (xso (mpk M j)))).1 = true := by rw [h1]; exact Bool.false_ne_true
            have hP : va_P G vwCl (xD T bd (nI 0) (xMg N M k j)) H := by unfold xMg xgl; rw [if_neg h2, if_neg h2]; exact hP
            exact W.iret (v := (mpk (xMr (xmk (mpk M) (mth M) (msh M) (upd (man M) k (man M k + nI 1)) (upd (mgl M) k (mgl M k + nI 1)) (mhb M) (mtk M) (mnw M) (mnp M) (mle M) (mwy M) (mfc M) (mta M)) k (upd (fun _ => nI 65535 &&& ((xso (mpk M j)) ^^^ (-1))) j (xso (mpk M j))))) j) hx hb hr (fun t9_ ht hW => ⟨⟨(mpk (xMr (xmk (mpk M) (mth M) (msh M) (upd (man M) k (man M k + nI 1)) (upd (mgl M) k (mgl M k + nI 1)) (mhb M) (mtk M) (mnw M) (mnp M) (mle M) (mwy M) (mfc M) (mta M)) k (upd (fun _ => nI 65535 &&& ((xso (mpk M j)) ^^^ (-1))) j (xso (mpk M j))))) j, (nI 0), rfl, Or.inl ⟨hv, rfl, rfl⟩, x_at ht hP⟩, hS.F ht⟩) hS.2.2 dX4_glimpse_126
      · have h1 := xb_of_ne hw2.1 c2
        refine lv_aload_n hx hb dX4_glimpse_65 rfl (lv_at hl 2 rfl) ?_
        refine va_get (D := G) (ci := 4) (v := .ref (bd 1)) (C := RX4) (T := TX4) (N := 14) hx hb hts hiX4 hown hK hP 0 rfl rfl 1 (by decide) (hts (.fieldLink RX4 9 "CardFansModel" "pack" "[I") (by decide +kernel)) (fun _ h9 => h9) rfl dX4_glimpse_66 ?_
        refine lv_iload_n hx hb dX4_glimpse_69 rfl (lv_at hl 4 rfl) ?_
        refine x_iald hx hb hK hP 1 0 (f := (mpk (xMr (xmk (mpk M) (mth M) (msh M) (man M) (upd (mgl M) k (mgl M k + nI 1)) (mhb M) (mtk M) (mnw M) (mnp M) (mle M) (mwy M) (mfc M) (mta M)) k u2))) (n := 16) rfl rfl hj (by decide) dX4_glimpse_70 ?_
        have hP : va_P G vwCl (xD T bd (nI 0) (xMg N M k j)) H := by unfold xMg xgl; rw [if_pos h1, if_pos h1, ← hw2.2 h1]; unfold xMw; rw [xup_self]; exact hP
        exact W.iret (v := (mpk (xMr (xmk (mpk M) (mth M) (msh M) (man M) (upd (mgl M) k (mgl M k + nI 1)) (mhb M) (mtk M) (mnw M) (mnp M) (mle M) (mwy M) (mfc M) (mta M)) k u2)) j) hx hb hr (fun t9_ ht hW => ⟨⟨(mpk (xMr (xmk (mpk M) (mth M) (msh M) (man M) (upd (mgl M) k (mgl M k + nI 1)) (mhb M) (mtk M) (mnw M) (mnp M) (mle M) (mwy M) (mfc M) (mta M)) k u2)) j, (nI 0), rfl, Or.inl ⟨hv, rfl, rfl⟩, x_at ht hP⟩, hS.F ht⟩) hS.2.2 dX4_glimpse_71
    · refine lv_aload_n hx hb dX4_glimpse_20 rfl (lv_at hl 0 rfl) ?_
      refine lv_iconst (v := nI 1) hx hb dX4_glimpse_21 (by decide) ?_
      refine x_calliW (va_runV (As := [.int (nI 1)]) (rest := []) ⟨hx, hb, hml, hown, hts⟩ (c_X4_no l G T _ bd (nI 0) M (nI 1)) (cwV 1 hts gX4_glimpse_X4_no rfl rfl rfl (by decide +kernel) ⟨Nat.le_of_ble_eq_true rfl, Nat.le_of_ble_eq_true rfl⟩) (x_preVW (wc := (xD T bd (nI 0) M)) hK hP hD hS hA hXB hZ _ _ 0 4 rfl rfl) rfl rfl hl.1 rfl (lv_room (Nat.le_of_ble_eq_true rfl)) dX4_glimpse_22 ⟨Nat.le_of_ble_eq_true rfl, Nat.le_of_ble_eq_true rfl⟩) hP hD hS hA (fun _ _ _ => xd_self rfl hD) (fun r8 u8 H locs hw8 hP hD hS => ?_)
      have hP : va_P G vwCl (xD T bd (nI 1) M) H := hP
      have hD : va_D A (xD T bd (nI 1) M) := hD
      exact W.iret (v := r8) hx hb hr (fun t9_ ht hW => ⟨⟨r8, (nI 1), rfl, Or.inr ⟨by rw [hv0, xb_of_eq hw1 c1]; rfl, rfl⟩, x_at ht (by rw [if_neg (by rw [show (xvb (mnw M) x && xvb 16 y) = false from by rw [hv0, xb_of_eq hw1 c1]; rfl]; exact Bool.false_ne_true)]; exact hP)⟩, hS.F ht⟩) hS.2.2 dX4_glimpse_25

theorem xsu_end (M : XM) : ∀ {n : Nat}, mnw M ≤ n → xsu M n = xsu M (mnw M)
  | 0, h => by rw [show mnw M = 0 by omega]
  | n + 1, h => by
    rcases Nat.lt_or_ge n (mnw M) with q | q
    · rw [show mnw M = n + 1 by omega]
    · show (if n < mnw M then _ else _) = _
      rw [if_neg (by omega)]
      exact xsu_end M q

set_option maxHeartbeats 4000000 in
set_option maxRecDepth 100000 in
/-- mean -/
theorem c_X4_mean (l : Launch) (G : va_G) (T : Nat → ClassId) (sz : Nat) (bd : Nat → Nat) (thr : Int32) (M : XM) (hn4 : mnw M ≤ 4) (hth : ∀ w, w < mnw M → ∀ j, j < 16 → (mth M w j).toBitVec.toNat < 65536) : Met l yX4_mean wsX4_mean ({ frames := 1, cells := 0, slots := 0, locals := 20 }) (va_Pc [.ref (bd 0)] (xPre G T (xD T bd thr M) sz)) (va_Qd (fun (r : UInt64) (u : Int32) => r = xmean M ∧ u = nI 0) (fun u t => va_P G vwCl (xD T bd u M) t.heap) (va_A (xD T bd thr M) sz)) 0 0 (va_A (xD T bd thr M) sz) := by
  refine Met.ofW (cc := cX4_mean) (maxL := 4) (ret := (some .double)) (by decide +kernel) rfl ?_
  intro p e s m args below meth c s₁ B hml hv
  obtain ⟨rfl, hsz, hP, hK, hD0, hXB, hZ⟩ := hv
  have hx := B.exec
  have hb := B.bytes
  have hr := B.returns
  have hts := atoms_spec (ws := wsX4_mean) B.pre
  have hown : s.vm.findClass RX4 = some m.cls := findClass_of_methodNamed B.named
  have hlocks := B.notSynchronized
  subst hsz
  have hD := hD0.self (sz := s.heap.size)
  generalize hAe : va_A (xD T bd thr M) s.heap.size = A at hD hZ ⊢
  have hA : ∀ q : Nat, s.heap.size ≤ q → A q := fun q h => by rw [← hAe]; exact Or.inr h
  have hS : va_S A s.heap s.heap [] := va_S.rf
  have hP : va_P G vwCl (xD T bd thr M) s.heap := hP
  have hiX4 : ∀ w ∈ u_ws RX4 TX4 14, w ∈ wsX4_mean := by decide +kernel
  have hl := lv_entry ([.ref (bd 0)]) (n := 4) (Nat.le_of_ble_eq_true rfl)
  rw [lg_entry_eq]
  generalize (lg_sl ([.ref (bd 0)]) ++ List.replicate (4 - (lg_sl ([.ref (bd 0)])).length) Slot.unset).toArray = ls at hl ⊢
  have hl : lv_has ls 4 [(0, .ref (bd 0))] := hl
  refine lv_aload_n hx hb dX4_mean_0 rfl (lv_at hl 0 rfl) ?_
  refine lv_iconst (v := nI 0) hx hb dX4_mean_1 (by decide) ?_
  refine va_put (D := G) (ci := 4) (v := .int (nI 0)) (ty := .int) (C := RX4) (T := TX4) (N := 14) hx hb hts hiX4 tyX4 tyX4_ok nmX4 hown hK hP hD hS 0 rfl rfl 0 (by decide) (hts (.fieldLink RX4 33 "CardFansModel" "thrown" "I") (by decide +kernel)) (fun _ h9 => h9) rfl (by decide +kernel) rfl rfl (Nat.le_of_ble_eq_true rfl) dX4_mean_2 (fun H locs hP hD hS => ?_)
  have hP : va_P G vwCl (xD T bd (nI 0) M) H := hP
  have hD : va_D A (xD T bd (nI 0) M) := hD
  refine lv_iconst (v := nI 0) hx hb dX4_mean_5 (by decide) ?_
  refine lv_istore_n (lv' := [(1, .int (nI 0)), (0, .ref (bd 0))]) hx hb dX4_mean_6 rfl hl (by decide) rfl (fun ls hl => ?_)
  refine lv_iconst (v := nI 0) hx hb dX4_mean_7 (by decide) ?_
  refine lv_istore_n (lv' := [(2, .int (nI 0)), (1, .int (nI 0)), (0, .ref (bd 0))]) hx hb dX4_mean_8 rfl hl (by decide) rfl (fun ls hl => ?_)
  suffices LP1 : ∀ (n1 : Nat) (i : Nat), (i ≤ mnw M) → (4 < i + n1) → ∀ (H : Heap) (locs : List Loc), va_P G vwCl (xD T bd (nI 0) M) H → va_D A (xD T bd (nI 0) M) → va_S A s.heap H locs → ∀ (ls : Array Slot), lv_has ls 4 [(2, .int (nI i)), (1, .int (xsu M i)), (0, .ref (bd 0))] → W p l e (headSpec wsX4_mean ({ frames := 1, cells := 0, slots := 0, locals := 20 })).room s m ([.ref (bd 0)] : List Value).toArray below meth c H locs 0 0 (MQ below (va_Qd (fun (r : UInt64) (u : Int32) => r = xmean M ∧ u = nI 0) (fun u t => va_P G vwCl (xD T bd u M) t.heap) A) ([.ref (bd 0)] : List Value).toArray s 0 0 A) (F0 m 9 ls []) from LP1 5 0 (Nat.zero_le _) (by decide) _ _ hP hD hS ls (lv_sub hl [0, 1, 2] rfl)
  clear hP hD hS hl
  intro n1
  induction n1 with
  | zero => intro i hi hn H locs _ _ _ ls _; exfalso; omega
  | succ n1 ih1 =>
    intro i hi hn H locs hP hD hS ls hl
    refine lv_iload_n hx hb dX4_mean_9 rfl (lv_at hl 0 rfl) ?_
    refine lv_aload_n hx hb dX4_mean_10 rfl (lv_at hl 2 rfl) ?_
    refine va_get (D := G) (ci := 4) (v := .int (nI (mnw M))) (C := RX4) (T := TX4) (N := 14) hx hb hts hiX4 hown hK hP 0 rfl rfl 2 (by decide) (hts (.fieldLink RX4 41 "CardFansModel" "watchers" "I") (by decide +kernel)) (fun _ h9 => h9) rfl dX4_mean_11 ?_
    by_cases hc : i < mnw M
    · have hi4 : i < 4 := by omega
      refine lv_icmp_ge (tgt := 51) hx hb dX4_mean_14 (by decide) (fun c_ => absurd c_ (nI_ge hc (by omega))) (fun _ => ?_)
      refine lv_iconst (v := nI 0) hx hb dX4_mean_17 (by decide) ?_
      refine lv_istore_n (lv' := [(3, .int (nI 0)), (2, .int (nI i)), (1, .int (xsu M i)), (0, .ref (bd 0))]) hx hb dX4_mean_18 rfl hl (by decide) rfl (fun ls hl => ?_)
      have e0 : xsu M i = xsu M i + xsm (mth M i) 0 := by show _ = xsu M i + nI 0; rw [show nI 0 = (0 : Int32) from rfl, Int32.add_zero]
      rw [e0] at hl
      suffices LP2 : ∀ (n2 : Nat) (q : Nat), (q ≤ 16) → (16 < q + n2) → ∀ (H : Heap) (locs : List Loc), va_P G vwCl (xD T bd (nI 0) M) H → va_D A (xD T bd (nI 0) M) → va_S A s.heap H locs → ∀ (ls : Array Slot), lv_has ls 4 [(3, .int (nI q)), (2, .int (nI i)), (1, .int (xsu M i + xsm (mth M i) q)), (0, .ref (bd 0))] → W p l e (headSpec wsX4_mean ({ frames := 1, cells := 0, slots := 0, locals := 20 })).room s m ([.ref (bd 0)] : List Value).toArray below meth c H locs 0 0 (MQ below (va_Qd (fun (r : UInt64) (u : Int32) => r = xmean M ∧ u = nI 0) (fun u t => va_P G vwCl (xD T bd u M) t.heap) A) ([.ref (bd 0)] : List Value).toArray s 0 0 A) (F0 m 19 ls []) from LP2 17 0 (by decide) (by decide) _ _ hP hD hS ls (lv_sub hl [0, 1, 2, 3] rfl)
      clear hP hD hS hl
      intro n2
      induction n2 with
      | zero => intro q hq hn2 H locs _ _ _ ls _; exfalso; omega
      | succ n2 ih2 =>
        intro q hq hn2 H locs hP hD hS ls hl
        refine lv_iload_n hx hb dX4_mean_19 rfl (lv_at hl 0 rfl) ?_
        refine lv_bipush (v := nI 16) hx hb dX4_mean_20 (by decide) ?_
        by_cases hc2 : q < 16
        · refine lv_icmp_ge (tgt := 45) hx hb dX4_mean_22 (by decide) (fun c_ => absurd c_ (nI_ge hc2 (by decide))) (fun _ => ?_)
          refine lv_iload_n hx hb dX4_mean_25 rfl (lv_at hl 2 rfl) ?_
          refine lv_aload_n hx hb dX4_mean_26 rfl (lv_at hl 3 rfl) ?_
          refine va_get (D := G) (ci := 4) (v := .ref (bd 3)) (C := RX4) (T := TX4) (N := 14) hx hb hts hiX4 hown hK hP 0 rfl rfl 4 (by decide) (hts (.fieldLink RX4 18 "CardFansModel" "thinks" "[[I") (by decide +kernel)) (fun _ h9 => h9) rfl dX4_mean_27 ?_
          refine lv_iload_n hx hb dX4_mean_30 rfl (lv_at hl 1 rfl) ?_
          refine x_aaldA hx hb hK hP 3 3 rfl rfl hi4 (by decide) dX4_mean_31 (v := .ref (bd (8 + i))) (by show va_rf (if i < 4 then _ else _) = _; rw [if_pos hi4]; rfl) ?_
          refine lv_iload_n hx hb dX4_mean_32 rfl (lv_at hl 0 rfl) ?_
          refine x_iald hx hb hK hP (8 + i) 0 (f := (mth M i)) (n := 16) (xD_row T bd (nI 0) M hi4) rfl hc2 (by decide) dX4_mean_33 ?_
          refine x_calli (va_runS (As := [.int ((mth M i) q)]) (rest := [.int (xsu M i + xsm (mth M i) q)]) ⟨hx, hb, hml, hown, hts⟩ (c_J6_bitCount_0f7a4 l G T _ (mth M i q)) (va_cwS 1 hts gX4_mean_J6_bitCount_0f7a4 rfl rfl rfl (by decide +kernel) ⟨Nat.le_of_ble_eq_true rfl, Nat.le_of_ble_eq_true rfl⟩) (x_preS (wc := []) hK hP hD hS hA hXB hZ [] rfl rfl _) rfl rfl hl.1 rfl (lv_room (Nat.le_of_ble_eq_true rfl)) dX4_mean_34 ⟨Nat.le_of_ble_eq_true rfl, Nat.le_of_ble_eq_true rfl⟩) hP hD hS hA [] rfl (fun _ _ _ => rfl) (fun r2 u2 H locs hw2 hP hD hS => ?_)
          have hP : va_P G vwCl (xD T bd (nI 0) M) H := hP
          have hD : va_D A (xD T bd (nI 0) M) := hD
          subst hw2
          refine lv_iadd hx hb dX4_mean_37 ?_
          refine x_topi (y := (xsu M i + xsm (mth M i) (q + 1))) (Int32.add_assoc _ _ _) ?_
          refine lv_istore_n (lv' := [(1, .int (xsu M i + xsm (mth M i) (q + 1))), (3, .int (nI q)), (2, .int (nI i)), (0, .ref (bd 0))]) hx hb dX4_mean_38 rfl hl (by decide) rfl (fun ls hl => ?_)
          refine lv_iinc (v := nI (q + 1)) (lv' := [(3, .int (nI (q + 1))), (1, .int (xsu M i + xsm (mth M i) (q + 1))), (2, .int (nI i)), (0, .ref (bd 0))]) hx hb dX4_mean_39 hl (k := 1) rfl (x_inc _) (by decide) rfl (fun ls hl => ?_)
          refine lv_goto (tgt := 19) hx hb dX4_mean_42 (by decide) ?_
          exact ih2 (q + 1) (by omega) (by omega) _ _ hP hD hS ls (lv_sub hl [0, 2, 1, 3] rfl)
        · obtain rfl : q = 16 := by omega
          refine lv_icmp_ge (tgt := 45) hx hb dX4_mean_22 (by decide) (fun _ => ?_) (fun c_ => absurd (nI_le (by omega) (by omega)) c_)
          have e1 : xsu M (i + 1) = xsu M i + xsm (mth M i) 16 := if_pos hc
          rw [← e1] at hl
          refine lv_iinc (v := nI (i + 1)) (lv' := [(2, .int (nI (i + 1))), (3, .int (nI 16)), (1, .int (xsu M (i + 1))), (0, .ref (bd 0))]) hx hb dX4_mean_45 hl (k := 1) rfl (x_inc _) (by decide) rfl (fun ls hl => ?_)
          refine lv_goto (tgt := 9) hx hb dX4_mean_48 (by decide) ?_
          exact ih1 (i + 1) (by omega) (by omega) _ _ hP hD hS ls (lv_sub hl [0, 2, 3] rfl)
    · obtain rfl : i = mnw M := by omega
      refine lv_icmp_ge (tgt := 51) hx hb dX4_mean_14 (by decide) (fun _ => ?_) (fun c_ => absurd (nI_le (by omega) (by omega)) c_)
      refine lv_aload_n hx hb dX4_mean_51 rfl (lv_at hl 2 rfl) ?_
      refine va_get (D := G) (ci := 4) (v := .int (nI (mnw M))) (C := RX4) (T := TX4) (N := 14) hx hb hts hiX4 hown hK hP 0 rfl rfl 2 (by decide) (hts (.fieldLink RX4 41 "CardFansModel" "watchers" "I") (by decide +kernel)) (fun _ h9 => h9) rfl dX4_mean_52 ?_
      refine lv_if_ne (tgt := 62) hx hb dX4_mean_55 (by decide) (fun c1 => ?_) (fun c1 => ?_)
      · have h0 : ¬ mnw M = 0 := fun h => c1 (by rw [h]; rfl)
        have es : xsu M 4 = xsu M (mnw M) := xsu_end M hn4
        refine lv_iload_n hx hb dX4_mean_62 rfl (lv_at hl 1 rfl) ?_
        refine lv_i2d hx hb dX4_mean_63 ?_
        refine lv_bipush (v := nI 16) hx hb dX4_mean_64 (by decide) ?_
        refine lv_aload_n hx hb dX4_mean_66 rfl (lv_at hl 2 rfl) ?_
        refine va_get (D := G) (ci := 4) (v := .int (nI (mnw M))) (C := RX4) (T := TX4) (N := 14) hx hb hts hiX4 hown hK hP 0 rfl rfl 2 (by decide) (hts (.fieldLink RX4 41 "CardFansModel" "watchers" "I") (by decide +kernel)) (fun _ h9 => h9) rfl dX4_mean_67 ?_
        refine lv_imul hx hb dX4_mean_70 ?_
        refine x_topi (y := nI (mnw M * 16)) (by rw [show nI 16 * nI (mnw M) = nI (16 * mnw M) from pk_mul _ _, Nat.mul_comm]) ?_
        refine lv_i2d hx hb dX4_mean_71 ?_
        obtain ⟨b9, hb9, eb9⟩ := xsu_le hth (mnw M)
        have hN64 := xfp_n64 (t := b9) (n := mnw M) (by omega) (by omega) hn4
        rw [eb9]
        refine lv_ddiv hx hb dX4_mean_72 hN64 ?_
        exact W.dret (v := (FP.ddiv (FP.i2d (nI b9)) (FP.i2d (nI (mnw M * 16))))) hx hb hr (fun t9_ ht hW => ⟨⟨(FP.ddiv (FP.i2d (nI b9)) (FP.i2d (nI (mnw M * 16)))), (nI 0), rfl, ⟨by unfold xmean; rw [if_neg h0, es, eb9], rfl⟩, x_at ht hP⟩, hS.F ht⟩) hS.2.2 dX4_mean_73
      · have h0 : mnw M = 0 := (nI_eq (by omega) (by decide)).mp c1
        refine lv_dconst0 hx hb dX4_mean_58 ?_
        refine lv_goto (tgt := 73) hx hb dX4_mean_59 (by decide) ?_
        exact W.dret (v := FP.dconst0) hx hb hr (fun t9_ ht hW => ⟨⟨FP.dconst0, (nI 0), rfl, ⟨by unfold xmean; rw [if_pos h0], rfl⟩, x_at ht hP⟩, hS.F ht⟩) hS.2.2 dX4_mean_73

set_option maxHeartbeats 4000000 in
set_option maxRecDepth 100000 in
/-- digest -/
theorem c_X4_digest (l : Launch) (G : va_G) (T : Nat → ClassId) (sz : Nat) (bd : Nat → Nat) (thr : Int32) (M : XM) (hn4 : mnw M ≤ 4) (hm4 : mnp M ≤ 4) (hth : ∀ w, w < mnw M → ∀ j, j < 16 → (mth M w j).toBitVec.toNat < 65536) (hpk : ∀ j, j < 16 → ∃ c, c < 16 ∧ mpk M j = nI c) : Met l yX4_digest wsX4_digest ({ frames := 3, cells := 31, slots := 193, locals := 67 }) (va_Pc [.ref (bd 0)] (xPre G T (xD T bd thr M) sz)) (va_Ql (fun (r : Int64) (u : Int32) => r = xdP M (mnp M) ∧ u = nI 0) (fun u t => va_P G vwCl (xD T bd u M) t.heap) (va_A (xD T bd thr M) sz)) 31 193 (va_A (xD T bd thr M) sz) := by
  refine Met.ofW (cc := cX4_digest) (maxL := 5) (ret := (some .long)) (by decide +kernel) rfl ?_
  intro p e s m args below meth c s₁ B hml hv
  obtain ⟨rfl, hsz, hP, hK, hD0, hXB, hZ⟩ := hv
  have hx := B.exec
  have hb := B.bytes
  have hr := B.returns
  have hts := atoms_spec (ws := wsX4_digest) B.pre
  have hown : s.vm.findClass RX4 = some m.cls := findClass_of_methodNamed B.named
  have hlocks := B.notSynchronized
  subst hsz
  have hD := hD0.self (sz := s.heap.size)
  generalize hAe : va_A (xD T bd thr M) s.heap.size = A at hD hZ ⊢
  have hA : ∀ q : Nat, s.heap.size ≤ q → A q := fun q h => by rw [← hAe]; exact Or.inr h
  have hS : va_S A s.heap s.heap [] := va_S.rf
  have hP : va_P G vwCl (xD T bd thr M) s.heap := hP
  have hiX4 : ∀ w ∈ u_ws RX4 TX4 14, w ∈ wsX4_digest := by decide +kernel
  have hl := lv_entry ([.ref (bd 0)]) (n := 5) (Nat.le_of_ble_eq_true rfl)
  rw [lg_entry_eq]
  generalize (lg_sl ([.ref (bd 0)]) ++ List.replicate (5 - (lg_sl ([.ref (bd 0)])).length) Slot.unset).toArray = ls at hl ⊢
  have hl : lv_has ls 5 [(0, .ref (bd 0))] := hl
  refine lv_aload_n hx hb dX4_digest_0 rfl (lv_at hl 0 rfl) ?_
  refine lv_iconst (v := nI 0) hx hb dX4_digest_1 (by decide) ?_
  refine va_put (D := G) (ci := 4) (v := .int (nI 0)) (ty := .int) (C := RX4) (T := TX4) (N := 14) hx hb hts hiX4 tyX4 tyX4_ok nmX4 hown hK hP hD hS 0 rfl rfl 0 (by decide) (hts (.fieldLink RX4 33 "CardFansModel" "thrown" "I") (by decide +kernel)) (fun _ h9 => h9) rfl (by decide +kernel) rfl rfl (Nat.le_of_ble_eq_true rfl) dX4_digest_2 (fun H locs hP hD hS => ?_)
  have hP : va_P G vwCl (xD T bd (nI 0) M) H := hP
  have hD : va_D A (xD T bd (nI 0) M) := hD
  refine lv_ldc2 (v := (929)) hx hb hown (hts (.constantLong RX4 121 (929)) (by decide +kernel)) dX4_digest_5 ?_
  refine lv_lstore_n (lv' := [(1, .long (929)), (0, .ref (bd 0))]) hx hb dX4_digest_8 rfl hl (by decide) rfl (fun ls hl => ?_)
  refine lv_iconst (v := nI 0) hx hb dX4_digest_9 (by decide) ?_
  refine lv_istore_n (lv' := [(3, .int (nI 0)), (1, .long (929)), (0, .ref (bd 0))]) hx hb dX4_digest_10 rfl hl (by decide) rfl (fun ls hl => ?_)
  suffices LP1 : ∀ (n1 : Nat) (i : Nat), (i ≤ 7) → (7 < i + n1) → ∀ (H : Heap) (locs : List Loc), va_P G vwCl (xD T bd (nI 0) M) H → va_D A (xD T bd (nI 0) M) → va_S A s.heap H locs → ∀ (ls : Array Slot), lv_has ls 5 [(3, .int (nI i)), (1, .long (xdc M i)), (0, .ref (bd 0))] → W p l e (headSpec wsX4_digest ({ frames := 3, cells := 31, slots := 193, locals := 67 })).room s m ([.ref (bd 0)] : List Value).toArray below meth c H locs (0 + i) (7 * i) (MQ below (va_Ql (fun (r : Int64) (u : Int32) => r = xdP M (mnp M) ∧ u = nI 0) (fun u t => va_P G vwCl (xD T bd u M) t.heap) A) ([.ref (bd 0)] : List Value).toArray s 31 193 A) (F0 m 11 ls []) from LP1 8 0 (by decide) (by decide) _ _ hP hD hS ls (lv_sub hl [0, 1, 2] rfl)
  clear hP hD hS hl
  intro n1
  induction n1 with
  | zero => intro i hi hn H locs _ _ _ ls _; exfalso; omega
  | succ n1 ih1 =>
    intro i hi hn H locs hP hD hS ls hl
    refine lv_iload_n hx hb dX4_digest_11 rfl (lv_at hl 0 rfl) ?_
    refine lv_bipush (v := nI 7) hx hb dX4_digest_12 (by decide) ?_
    by_cases hc : i < 7
    · refine lv_icmp_ge (tgt := 36) hx hb dX4_digest_14 (by decide) (fun c_ => absurd c_ (nI_ge hc (by decide))) (fun _ => ?_)
      refine lv_lload_n hx hb dX4_digest_17 rfl (lv_at hl 1 rfl) ?_
      refine lv_ldc2 (v := (31)) hx hb hown (hts (.constantLong RX4 123 (31)) (by decide +kernel)) dX4_digest_18 ?_
      refine lv_lmul hx hb dX4_digest_21 ?_
      refine lv_aload_n hx hb dX4_digest_22 rfl (lv_at hl 2 rfl) ?_
      refine lv_iload_n hx hb dX4_digest_23 rfl (lv_at hl 0 rfl) ?_
      refine x_calliW (va_runV (As := [.int (nI i)]) (rest := [.long (xdc M i * (31))]) ⟨hx, hb, hml, hown, hts⟩ (c_X4_counted l G T _ bd (nI 0) M i hc) (cwV 1 hts gX4_digest_X4_counted rfl rfl rfl (by decide +kernel) ⟨Nat.le_of_ble_eq_true rfl, Nat.le_of_ble_eq_true rfl⟩) (x_preVW (wc := (xD T bd (nI 0) M)) hK hP hD hS hA hXB hZ _ _ 0 4 rfl rfl) rfl rfl hl.1 rfl (lv_room (Nat.le_of_ble_eq_true rfl)) dX4_digest_24 ⟨show 0 + i + 1 ≤ 31 by omega, show 7 * i + 7 ≤ 193 by omega⟩) hP hD hS hA (fun _ _ _ => xd_self rfl hD) (fun r2 u2 H locs hw2 hP hD hS => ?_)
      have hP : va_P G vwCl (xD T bd (nI 0) M) H := hP
      have hD : va_D A (xD T bd (nI 0) M) := hD
      subst hw2
      refine lv_i2l hx hb dX4_digest_27 rfl ?_
      refine lv_ladd hx hb dX4_digest_28 ?_
      refine x_topl (y := (xdc M (i + 1))) (rfl) ?_
      refine lv_lstore_n (lv' := [(1, .long (xdc M (i + 1))), (3, .int (nI i)), (0, .ref (bd 0))]) hx hb dX4_digest_29 rfl hl (by decide) rfl (fun ls hl => ?_)
      refine lv_iinc (v := nI (i + 1)) (lv' := [(3, .int (nI (i + 1))), (1, .long (xdc M (i + 1))), (0, .ref (bd 0))]) hx hb dX4_digest_30 hl (k := 1) rfl (x_inc _) (by decide) rfl (fun ls hl => ?_)
      refine lv_goto (tgt := 11) hx hb dX4_digest_33 (by decide) ?_
      exact ih1 (i + 1) (by omega) (by omega) _ _ hP hD hS ls (lv_sub hl [0, 1, 2] rfl)
    · obtain rfl : i = 7 := by omega
      refine lv_icmp_ge (tgt := 36) hx hb dX4_digest_14 (by decide) (fun _ => ?_) (fun c_ => absurd (nI_le (by omega) (by omega)) c_)
      refine lv_iconst (v := nI 0) hx hb dX4_digest_36 (by decide) ?_
      refine lv_istore_n (lv' := [(3, .int (nI 0)), (1, .long (xdc M 7)), (0, .ref (bd 0))]) hx hb dX4_digest_37 rfl hl (by decide) rfl (fun ls hl => ?_)
      suffices LP2 : ∀ (n2 : Nat) (i : Nat), (i ≤ 16) → (16 < i + n2) → ∀ (H : Heap) (locs : List Loc), va_P G vwCl (xD T bd (nI 0) M) H → va_D A (xD T bd (nI 0) M) → va_S A s.heap H locs → ∀ (ls : Array Slot), lv_has ls 5 [(3, .int (nI i)), (1, .long (xmx (mpk M) (xdc M 7) i)), (0, .ref (bd 0))] → W p l e (headSpec wsX4_digest ({ frames := 3, cells := 31, slots := 193, locals := 67 })).room s m ([.ref (bd 0)] : List Value).toArray below meth c H locs (0 + 7) (7 * 7) (MQ below (va_Ql (fun (r : Int64) (u : Int32) => r = xdP M (mnp M) ∧ u = nI 0) (fun u t => va_P G vwCl (xD T bd u M) t.heap) A) ([.ref (bd 0)] : List Value).toArray s 31 193 A) (F0 m 38 ls []) from LP2 17 0 (by decide) (by decide) _ _ hP hD hS ls (lv_sub hl [0, 1, 2] rfl)
      clear hP hD hS hl
      intro n2
      induction n2 with
      | zero => intro i hi hn H locs _ _ _ ls _; exfalso; omega
      | succ n2 ih2 =>
        intro i hi hn H locs hP hD hS ls hl
        refine lv_iload_n hx hb dX4_digest_38 rfl (lv_at hl 0 rfl) ?_
        refine lv_bipush (v := nI 16) hx hb dX4_digest_39 (by decide) ?_
        by_cases hc : i < 16
        · refine lv_icmp_ge (tgt := 64) hx hb dX4_digest_41 (by decide) (fun c_ => absurd c_ (nI_ge hc (by decide))) (fun _ => ?_)
          refine lv_lload_n hx hb dX4_digest_44 rfl (lv_at hl 1 rfl) ?_
          refine lv_ldc2 (v := (31)) hx hb hown (hts (.constantLong RX4 123 (31)) (by decide +kernel)) dX4_digest_45 ?_
          refine lv_lmul hx hb dX4_digest_48 ?_
          refine lv_aload_n hx hb dX4_digest_49 rfl (lv_at hl 2 rfl) ?_
          refine va_get (D := G) (ci := 4) (v := .ref (bd 1)) (C := RX4) (T := TX4) (N := 14) hx hb hts hiX4 hown hK hP 0 rfl rfl 1 (by decide) (hts (.fieldLink RX4 9 "CardFansModel" "pack" "[I") (by decide +kernel)) (fun _ h9 => h9) rfl dX4_digest_50 ?_
          refine lv_iload_n hx hb dX4_digest_53 rfl (lv_at hl 0 rfl) ?_
          refine x_iald hx hb hK hP 1 0 (f := (mpk M)) (n := 16) rfl rfl hc (by decide) dX4_digest_54 ?_
          refine lv_i2l hx hb dX4_digest_55 rfl ?_
          refine lv_ladd hx hb dX4_digest_56 ?_
          refine x_topl (y := (xmx (mpk M) (xdc M 7) (i + 1))) (rfl) ?_
          refine lv_lstore_n (lv' := [(1, .long (xmx (mpk M) (xdc M 7) (i + 1))), (3, .int (nI i)), (0, .ref (bd 0))]) hx hb dX4_digest_57 rfl hl (by decide) rfl (fun ls hl => ?_)
          refine lv_iinc (v := nI (i + 1)) (lv' := [(3, .int (nI (i + 1))), (1, .long (xmx (mpk M) (xdc M 7) (i + 1))), (0, .ref (bd 0))]) hx hb dX4_digest_58 hl (k := 1) rfl (x_inc _) (by decide) rfl (fun ls hl => ?_)
          refine lv_goto (tgt := 38) hx hb dX4_digest_61 (by decide) ?_
          exact ih2 (i + 1) (by omega) (by omega) _ _ hP hD hS ls (lv_sub hl [0, 1, 2] rfl)
        · obtain rfl : i = 16 := by omega
          refine lv_icmp_ge (tgt := 64) hx hb dX4_digest_41 (by decide) (fun _ => ?_) (fun c_ => absurd (nI_le (by omega) (by omega)) c_)
          refine lv_iconst (v := nI 0) hx hb dX4_digest_64 (by decide) ?_
          refine lv_istore_n (lv' := [(3, .int (nI 0)), (1, .long (xmx (mpk M) (xdc M 7) 16)), (0, .ref (bd 0))]) hx hb dX4_digest_65 rfl hl (by decide) rfl (fun ls hl => ?_)
          refine W.widen (k := 7 + 6 * 0) (n := 49 + 36 * 0) (by omega) (by omega) ?_
          suffices LP3 : ∀ (n3 : Nat) (i : Nat), (i ≤ mnw M) → (4 < i + n3) → ∀ (H : Heap) (locs : List Loc), va_P G vwCl (xD T bd (nI 0) M) H → va_D A (xD T bd (nI 0) M) → va_S A s.heap H locs → ∀ (ls : Array Slot), lv_has ls 5 [(3, .int (nI i)), (1, .long (xdW M i)), (0, .ref (bd 0))] → W p l e (headSpec wsX4_digest ({ frames := 3, cells := 31, slots := 193, locals := 67 })).room s m ([.ref (bd 0)] : List Value).toArray below meth c H locs (7 + 6 * i) (49 + 36 * i) (MQ below (va_Ql (fun (r : Int64) (u : Int32) => r = xdP M (mnp M) ∧ u = nI 0) (fun u t => va_P G vwCl (xD T bd u M) t.heap) A) ([.ref (bd 0)] : List Value).toArray s 31 193 A) (F0 m 66 ls []) from LP3 5 0 (Nat.zero_le _) (by decide) _ _ hP hD hS ls (lv_sub hl [0, 1, 2] rfl)
          clear hP hD hS hl
          intro n3
          induction n3 with
          | zero => intro i hi hn H locs _ _ _ ls _; exfalso; omega
          | succ n3 ih3 =>
            intro i hi hn H locs hP hD hS ls hl
            refine lv_iload_n hx hb dX4_digest_66 rfl (lv_at hl 0 rfl) ?_
            refine lv_aload_n hx hb dX4_digest_67 rfl (lv_at hl 2 rfl) ?_
            refine va_get (D := G) (ci := 4) (v := .int (nI (mnw M))) (C := RX4) (T := TX4) (N := 14) hx hb hts hiX4 hown hK hP 0 rfl rfl 2 (by decide) (hts (.fieldLink RX4 41 "CardFansModel" "watchers" "I") (by decide +kernel)) (fun _ h9 => h9) rfl dX4_digest_68 ?_
            by_cases hc : i < mnw M
            · have hi4 : i < 4 := by omega
              refine lv_icmp_ge (tgt := 144) hx hb dX4_digest_71 (by decide) (fun c_ => absurd c_ (nI_ge hc (by omega))) (fun _ => ?_)
              refine lv_iconst (v := nI 0) hx hb dX4_digest_74 (by decide) ?_
              refine lv_istore (lv' := [(4, .int (nI 0)), (3, .int (nI i)), (1, .long (xdW M i)), (0, .ref (bd 0))]) hx hb dX4_digest_75 hl (by decide) rfl (fun ls hl => ?_)
              refine W.widen (k := 7 + 6 * i + 0) (n := 49 + 36 * i + 6 * 0) (by omega) (by omega) ?_
              suffices LP4 : ∀ (n4 : Nat) (q : Nat), (q ≤ 6) → (6 < q + n4) → ∀ (H : Heap) (locs : List Loc), va_P G vwCl (xD T bd (nI 0) M) H → va_D A (xD T bd (nI 0) M) → va_S A s.heap H locs → ∀ (ls : Array Slot), lv_has ls 5 [(4, .int (nI q)), (3, .int (nI i)), (1, .long (xd6 M i (xdW M i) q)), (0, .ref (bd 0))] → W p l e (headSpec wsX4_digest ({ frames := 3, cells := 31, slots := 193, locals := 67 })).room s m ([.ref (bd 0)] : List Value).toArray below meth c H locs (7 + 6 * i + q) (49 + 36 * i + 6 * q) (MQ below (va_Ql (fun (r : Int64) (u : Int32) => r = xdP M (mnp M) ∧ u = nI 0) (fun u t => va_P G vwCl (xD T bd u M) t.heap) A) ([.ref (bd 0)] : List Value).toArray s 31 193 A) (F0 m 77 ls []) from LP4 7 0 (by decide) (by decide) _ _ hP hD hS ls (lv_sub hl [0, 1, 2, 3] rfl)
              clear hP hD hS hl
              intro n4
              induction n4 with
              | zero => intro q hq hn4 H locs _ _ _ ls _; exfalso; omega
              | succ n4 ih4 =>
                intro q hq hn4 H locs hP hD hS ls hl
                refine lv_iload hx hb dX4_digest_77 (lv_at hl 0 rfl) ?_
                refine lv_bipush (v := nI 6) hx hb dX4_digest_79 (by decide) ?_
                by_cases hc4 : q < 6
                · refine lv_icmp_ge (tgt := 105) hx hb dX4_digest_81 (by decide) (fun c_ => absurd c_ (nI_ge hc4 (by decide))) (fun _ => ?_)
                  refine lv_lload_n hx hb dX4_digest_84 rfl (lv_at hl 2 rfl) ?_
                  refine lv_ldc2 (v := (31)) hx hb hown (hts (.constantLong RX4 123 (31)) (by decide +kernel)) dX4_digest_85 ?_
                  refine lv_lmul hx hb dX4_digest_88 ?_
                  refine lv_aload_n hx hb dX4_digest_89 rfl (lv_at hl 3 rfl) ?_
                  refine lv_iload_n hx hb dX4_digest_90 rfl (lv_at hl 1 rfl) ?_
                  refine lv_iload hx hb dX4_digest_91 (lv_at hl 0 rfl) ?_
                  refine x_calliW (va_runV (As := [.int (nI i), .int (nI q)]) (rest := [.long (xd6 M i (xdW M i) q * (31))]) ⟨hx, hb, hml, hown, hts⟩ (c_X4_watcherTold l G T _ bd (nI 0) M i q hi4 hc4 (hth i hc) hpk) (cwV 2 hts gX4_digest_X4_watcherTold rfl rfl rfl (by decide +kernel) ⟨Nat.le_of_ble_eq_true rfl, Nat.le_of_ble_eq_true rfl⟩) (x_preVW (wc := (xD T bd (nI 0) M)) hK hP hD hS hA hXB hZ _ _ 0 4 rfl rfl) rfl rfl hl.1 rfl (lv_room (Nat.le_of_ble_eq_true rfl)) dX4_digest_93 ⟨show 7 + 6 * i + q + 1 ≤ 31 by omega, show 49 + 36 * i + 6 * q + 6 ≤ 193 by omega⟩) hP hD hS hA (fun _ _ _ => xd_self rfl hD) (fun r2 u2 H locs hw2 hP hD hS => ?_)
                  have hP : va_P G vwCl (xD T bd (nI 0) M) H := hP
                  have hD : va_D A (xD T bd (nI 0) M) := hD
                  subst hw2
                  refine lv_i2l hx hb dX4_digest_96 rfl ?_
                  refine lv_ladd hx hb dX4_digest_97 ?_
                  refine x_topl (y := (xd6 M i (xdW M i) (q + 1))) (rfl) ?_
                  refine lv_lstore_n (lv' := [(1, .long (xd6 M i (xdW M i) (q + 1))), (4, .int (nI q)), (3, .int (nI i)), (0, .ref (bd 0))]) hx hb dX4_digest_98 rfl hl (by decide) rfl (fun ls hl => ?_)
                  refine lv_iinc (v := nI (q + 1)) (lv' := [(4, .int (nI (q + 1))), (1, .long (xd6 M i (xdW M i) (q + 1))), (3, .int (nI i)), (0, .ref (bd 0))]) hx hb dX4_digest_99 hl (k := 1) rfl (x_inc _) (by decide) rfl (fun ls hl => ?_)
                  refine lv_goto (tgt := 77) hx hb dX4_digest_102 (by decide) ?_
                  exact ih4 (q + 1) (by omega) (by omega) _ _ hP hD hS ls (lv_sub hl [0, 2, 1, 3] rfl)
                · obtain rfl : q = 6 := by omega
                  refine lv_icmp_ge (tgt := 105) hx hb dX4_digest_81 (by decide) (fun _ => ?_) (fun c_ => absurd (nI_le (by omega) (by omega)) c_)
                  refine lv_iconst (v := nI 0) hx hb dX4_digest_105 (by decide) ?_
                  refine lv_istore (lv' := [(4, .int (nI 0)), (3, .int (nI i)), (1, .long (xd6 M i (xdW M i) 6)), (0, .ref (bd 0))]) hx hb dX4_digest_106 hl (by decide) rfl (fun ls hl => ?_)
                  suffices LP5 : ∀ (n5 : Nat) (q : Nat), (q ≤ 16) → (16 < q + n5) → ∀ (H : Heap) (locs : List Loc), va_P G vwCl (xD T bd (nI 0) M) H → va_D A (xD T bd (nI 0) M) → va_S A s.heap H locs → ∀ (ls : Array Slot), lv_has ls 5 [(4, .int (nI q)), (3, .int (nI i)), (1, .long (xmx (mth M i) (xd6 M i (xdW M i) 6) q)), (0, .ref (bd 0))] → W p l e (headSpec wsX4_digest ({ frames := 3, cells := 31, slots := 193, locals := 67 })).room s m ([.ref (bd 0)] : List Value).toArray below meth c H locs (7 + 6 * i + 6) (49 + 36 * i + 6 * 6) (MQ below (va_Ql (fun (r : Int64) (u : Int32) => r = xdP M (mnp M) ∧ u = nI 0) (fun u t => va_P G vwCl (xD T bd u M) t.heap) A) ([.ref (bd 0)] : List Value).toArray s 31 193 A) (F0 m 108 ls []) from LP5 17 0 (by decide) (by decide) _ _ hP hD hS ls (lv_sub hl [0, 1, 2, 3] rfl)
                  clear hP hD hS hl
                  intro n5
                  induction n5 with
                  | zero => intro q hq hn5 H locs _ _ _ ls _; exfalso; omega
                  | succ n5 ih5 =>
                    intro q hq hn5 H locs hP hD hS ls hl
                    refine lv_iload hx hb dX4_digest_108 (lv_at hl 0 rfl) ?_
                    refine lv_bipush (v := nI 16) hx hb dX4_digest_110 (by decide) ?_
                    by_cases hc5 : q < 16
                    · refine lv_icmp_ge (tgt := 138) hx hb dX4_digest_112 (by decide) (fun c_ => absurd c_ (nI_ge hc5 (by decide))) (fun _ => ?_)
                      refine lv_lload_n hx hb dX4_digest_115 rfl (lv_at hl 2 rfl) ?_
                      refine lv_ldc2 (v := (31)) hx hb hown (hts (.constantLong RX4 123 (31)) (by decide +kernel)) dX4_digest_116 ?_
                      refine lv_lmul hx hb dX4_digest_119 ?_
                      refine lv_aload_n hx hb dX4_digest_120 rfl (lv_at hl 3 rfl) ?_
                      refine va_get (D := G) (ci := 4) (v := .ref (bd 3)) (C := RX4) (T := TX4) (N := 14) hx hb hts hiX4 hown hK hP 0 rfl rfl 4 (by decide) (hts (.fieldLink RX4 18 "CardFansModel" "thinks" "[[I") (by decide +kernel)) (fun _ h9 => h9) rfl dX4_digest_121 ?_
                      refine lv_iload_n hx hb dX4_digest_124 rfl (lv_at hl 1 rfl) ?_
                      refine x_aaldA hx hb hK hP 3 3 rfl rfl hi4 (by decide) dX4_digest_125 (v := .ref (bd (8 + i))) (by show va_rf (if i < 4 then _ else _) = _; rw [if_pos hi4]; rfl) ?_
                      refine lv_iload hx hb dX4_digest_126 (lv_at hl 0 rfl) ?_
                      refine x_iald hx hb hK hP (8 + i) 0 (f := (mth M i)) (n := 16) (xD_row T bd (nI 0) M hi4) rfl hc5 (by decide) dX4_digest_128 ?_
                      refine lv_i2l hx hb dX4_digest_129 rfl ?_
                      refine lv_ladd hx hb dX4_digest_130 ?_
                      refine x_topl (y := (xmx (mth M i) (xd6 M i (xdW M i) 6) (q + 1))) (rfl) ?_
                      refine lv_lstore_n (lv' := [(1, .long (xmx (mth M i) (xd6 M i (xdW M i) 6) (q + 1))), (4, .int (nI q)), (3, .int (nI i)), (0, .ref (bd 0))]) hx hb dX4_digest_131 rfl hl (by decide) rfl (fun ls hl => ?_)
                      refine lv_iinc (v := nI (q + 1)) (lv' := [(4, .int (nI (q + 1))), (1, .long (xmx (mth M i) (xd6 M i (xdW M i) 6) (q + 1))), (3, .int (nI i)), (0, .ref (bd 0))]) hx hb dX4_digest_132 hl (k := 1) rfl (x_inc _) (by decide) rfl (fun ls hl => ?_)
                      refine lv_goto (tgt := 108) hx hb dX4_digest_135 (by decide) ?_
                      exact ih5 (q + 1) (by omega) (by omega) _ _ hP hD hS ls (lv_sub hl [0, 2, 1, 3] rfl)
                    · obtain rfl : q = 16 := by omega
                      refine lv_icmp_ge (tgt := 138) hx hb dX4_digest_112 (by decide) (fun _ => ?_) (fun c_ => absurd (nI_le (by omega) (by omega)) c_)
                      refine lv_iinc (v := nI (i + 1)) (lv' := [(3, .int (nI (i + 1))), (4, .int (nI 16)), (1, .long (xmx (mth M i) (xd6 M i (xdW M i) 6) 16)), (0, .ref (bd 0))]) hx hb dX4_digest_138 hl (k := 1) rfl (x_inc _) (by decide) rfl (fun ls hl => ?_)
                      refine lv_goto (tgt := 66) hx hb dX4_digest_141 (by decide) ?_
                      refine W.widen (k := 7 + 6 * (i + 1)) (n := 49 + 36 * (i + 1)) (by omega) (by omega) ?_
                      exact ih3 (i + 1) (by omega) (by omega) _ _ hP hD hS ls (lv_sub hl [0, 2, 3] rfl)
            · obtain rfl : i = mnw M := by omega
              refine lv_icmp_ge (tgt := 144) hx hb dX4_digest_71 (by decide) (fun _ => ?_) (fun c_ => absurd (nI_le (by omega) (by omega)) c_)
              refine lv_iconst (v := nI 0) hx hb dX4_digest_144 (by decide) ?_
              refine lv_istore_n (lv' := [(3, .int (nI 0)), (1, .long (xdW M (mnw M))), (0, .ref (bd 0))]) hx hb dX4_digest_145 rfl hl (by decide) rfl (fun ls hl => ?_)
              refine W.widen (k := 31) (n := 193) (by omega) (by omega) ?_
              suffices LP6 : ∀ (n6 : Nat) (i : Nat), (i ≤ mnp M) → (4 < i + n6) → ∀ (H : Heap) (locs : List Loc), va_P G vwCl (xD T bd (nI 0) M) H → va_D A (xD T bd (nI 0) M) → va_S A s.heap H locs → ∀ (ls : Array Slot), lv_has ls 5 [(3, .int (nI i)), (1, .long (xdP M i)), (0, .ref (bd 0))] → W p l e (headSpec wsX4_digest ({ frames := 3, cells := 31, slots := 193, locals := 67 })).room s m ([.ref (bd 0)] : List Value).toArray below meth c H locs 31 193 (MQ below (va_Ql (fun (r : Int64) (u : Int32) => r = xdP M (mnp M) ∧ u = nI 0) (fun u t => va_P G vwCl (xD T bd u M) t.heap) A) ([.ref (bd 0)] : List Value).toArray s 31 193 A) (F0 m 146 ls []) from LP6 5 0 (Nat.zero_le _) (by decide) _ _ hP hD hS ls (lv_sub hl [0, 1, 2] rfl)
              clear hP hD hS hl
              intro n6
              induction n6 with
              | zero => intro i hi hn H locs _ _ _ ls _; exfalso; omega
              | succ n6 ih6 =>
                intro i hi hn H locs hP hD hS ls hl
                refine lv_iload_n hx hb dX4_digest_146 rfl (lv_at hl 0 rfl) ?_
                refine lv_aload_n hx hb dX4_digest_147 rfl (lv_at hl 2 rfl) ?_
                refine va_get (D := G) (ci := 4) (v := .int (nI (mnp M))) (C := RX4) (T := TX4) (N := 14) hx hb hts hiX4 hown hK hP 0 rfl rfl 7 (by decide) (hts (.fieldLink RX4 44 "CardFansModel" "players" "I") (by decide +kernel)) (fun _ h9 => h9) rfl dX4_digest_148 ?_
                by_cases hc : i < mnp M
                · have hi4 : i < 4 := by omega
                  refine lv_icmp_ge (tgt := 186) hx hb dX4_digest_151 (by decide) (fun c_ => absurd c_ (nI_ge hc (by omega))) (fun _ => ?_)
                  refine lv_lload_n hx hb dX4_digest_154 rfl (lv_at hl 1 rfl) ?_
                  refine lv_ldc2 (v := (31)) hx hb hown (hts (.constantLong RX4 123 (31)) (by decide +kernel)) dX4_digest_155 ?_
                  refine lv_lmul hx hb dX4_digest_158 ?_
                  refine lv_aload_n hx hb dX4_digest_159 rfl (lv_at hl 2 rfl) ?_
                  refine va_get (D := G) (ci := 4) (v := .ref (bd 6)) (C := RX4) (T := TX4) (N := 14) hx hb hts hiX4 hown hK hP 0 rfl rfl 8 (by decide) (hts (.fieldLink RX4 27 "CardFansModel" "habit" "[I") (by decide +kernel)) (fun _ h9 => h9) rfl dX4_digest_160 ?_
                  refine lv_iload_n hx hb dX4_digest_163 rfl (lv_at hl 0 rfl) ?_
                  refine x_iald hx hb hK hP 6 0 (f := (mhb M)) (n := 4) rfl rfl hi4 (by decide) dX4_digest_164 ?_
                  refine lv_i2l hx hb dX4_digest_165 rfl ?_
                  refine lv_ladd hx hb dX4_digest_166 ?_
                  refine lv_ldc2 (v := (31)) hx hb hown (hts (.constantLong RX4 123 (31)) (by decide +kernel)) dX4_digest_167 ?_
                  refine lv_lmul hx hb dX4_digest_170 ?_
                  refine lv_aload_n hx hb dX4_digest_171 rfl (lv_at hl 2 rfl) ?_
                  refine va_get (D := G) (ci := 4) (v := .ref (bd 7)) (C := RX4) (T := TX4) (N := 14) hx hb hts hiX4 hown hK hP 0 rfl rfl 9 (by decide) (hts (.fieldLink RX4 30 "CardFansModel" "took" "[I") (by decide +kernel)) (fun _ h9 => h9) rfl dX4_digest_172 ?_
                  refine lv_iload_n hx hb dX4_digest_175 rfl (lv_at hl 0 rfl) ?_
                  refine x_iald hx hb hK hP 7 0 (f := (mtk M)) (n := 4) rfl rfl hi4 (by decide) dX4_digest_176 ?_
                  refine lv_i2l hx hb dX4_digest_177 rfl ?_
                  refine lv_ladd hx hb dX4_digest_178 ?_
                  refine x_topl (y := (xdP M (i + 1))) (rfl) ?_
                  refine lv_lstore_n (lv' := [(1, .long (xdP M (i + 1))), (3, .int (nI i)), (0, .ref (bd 0))]) hx hb dX4_digest_179 rfl hl (by decide) rfl (fun ls hl => ?_)
                  refine lv_iinc (v := nI (i + 1)) (lv' := [(3, .int (nI (i + 1))), (1, .long (xdP M (i + 1))), (0, .ref (bd 0))]) hx hb dX4_digest_180 hl (k := 1) rfl (x_inc _) (by decide) rfl (fun ls hl => ?_)
                  refine lv_goto (tgt := 146) hx hb dX4_digest_183 (by decide) ?_
                  exact ih6 (i + 1) (by omega) (by omega) _ _ hP hD hS ls (lv_sub hl [0, 1, 2] rfl)
                · obtain rfl : i = mnp M := by omega
                  refine lv_icmp_ge (tgt := 186) hx hb dX4_digest_151 (by decide) (fun _ => ?_) (fun c_ => absurd (nI_le (by omega) (by omega)) c_)
                  refine lv_lload_n hx hb dX4_digest_186 rfl (lv_at hl 1 rfl) ?_
                  exact W.lret (v := xdP M (mnp M)) hx hb hr (fun t9_ ht hW => ⟨⟨xdP M (mnp M), (nI 0), rfl, ⟨rfl, rfl⟩, x_at ht hP⟩, hS.F ht⟩) hS.2.2 dX4_digest_187
end XR6
