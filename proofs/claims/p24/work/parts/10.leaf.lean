section XL1
set_option maxHeartbeats 4000000 in
set_option maxRecDepth 100000 in
/-- Integer.bitCount -/
theorem c_J6_bitCount_0f7a4 (l : Launch) (G : va_G) (T : Nat → ClassId) (sz : Nat) (x : Int32) : Met l yJ6_bitCount_0f7a4 wsJ6_bitCount_0f7a4 ({ frames := 0, cells := 0, slots := 0, locals := 0 }) (va_Pc [.int x] (xPre G T ([]) sz)) (va_Qi (fun (r : Int32) (u : Unit) => r = xbc x) (fun u t => va_P G vwCl ([]) t.heap) (va_A ([]) sz)) 0 0 (va_A ([]) sz) := by
  refine Met.ofW (cc := cJ6_bitCount_0f7a4) (maxL := 1) (ret := (some .int)) (by decide +kernel) rfl ?_
  intro p e s m args below meth c s₁ B hml hv
  obtain ⟨rfl, hsz, hP, hK, hD0, hXB, hZ⟩ := hv
  have hx := B.exec
  have hb := B.bytes
  have hr := B.returns
  have hts := atoms_spec (ws := wsJ6_bitCount_0f7a4) B.pre
  have hown : s.vm.findClass RJ6 = some m.cls := findClass_of_methodNamed B.named
  have hlocks := B.notSynchronized
  subst hsz
  have hD := hD0.self (sz := s.heap.size)
  generalize hAe : va_A ([]) s.heap.size = A at hD hZ ⊢
  have hA : ∀ q : Nat, s.heap.size ≤ q → A q := fun q h => by rw [← hAe]; exact Or.inr h
  have hS : va_S A s.heap s.heap [] := va_S.rf
  have hP : va_P G vwCl ([]) s.heap := hP
  have hl := lv_entry ([.int x]) (n := 1) (Nat.le_of_ble_eq_true rfl)
  rw [lg_entry_eq]
  generalize (lg_sl ([.int x]) ++ List.replicate (1 - (lg_sl ([.int x])).length) Slot.unset).toArray = ls at hl ⊢
  have hl : lv_has ls 1 [(0, .int x)] := hl
  refine lv_iload_n hx hb dJ6_bitCount_0f7a4_0 rfl (lv_at hl 0 rfl) ?_
  refine lv_iload_n hx hb dJ6_bitCount_0f7a4_1 rfl (lv_at hl 0 rfl) ?_
  refine lv_iconst (v := nI 1) hx hb dJ6_bitCount_0f7a4_2 (by decide) ?_
  refine lv_iushr hx hb dJ6_bitCount_0f7a4_3 rfl ?_
  refine lv_ldcw (v := nI 1431655765) hx hb hown (hts (.constant RJ6 265 (1431655765)) (by decide +kernel)) dJ6_bitCount_0f7a4_4 ?_
  refine lv_iand hx hb dJ6_bitCount_0f7a4_7 ?_
  refine lv_isub hx hb dJ6_bitCount_0f7a4_8 ?_
  refine x_topi (y := (xbc1 x)) (rfl) ?_
  refine lv_istore_n (lv' := [(0, .int (xbc1 x))]) hx hb dJ6_bitCount_0f7a4_9 rfl hl (by decide) rfl (fun ls hl => ?_)
  refine lv_iload_n hx hb dJ6_bitCount_0f7a4_10 rfl (lv_at hl 0 rfl) ?_
  refine lv_ldcw (v := nI 858993459) hx hb hown (hts (.constant RJ6 266 (858993459)) (by decide +kernel)) dJ6_bitCount_0f7a4_11 ?_
  refine lv_iand hx hb dJ6_bitCount_0f7a4_14 ?_
  refine lv_iload_n hx hb dJ6_bitCount_0f7a4_15 rfl (lv_at hl 0 rfl) ?_
  refine lv_iconst (v := nI 2) hx hb dJ6_bitCount_0f7a4_16 (by decide) ?_
  refine lv_iushr hx hb dJ6_bitCount_0f7a4_17 rfl ?_
  refine lv_ldcw (v := nI 858993459) hx hb hown (hts (.constant RJ6 266 (858993459)) (by decide +kernel)) dJ6_bitCount_0f7a4_18 ?_
  refine lv_iand hx hb dJ6_bitCount_0f7a4_21 ?_
  refine lv_iadd hx hb dJ6_bitCount_0f7a4_22 ?_
  refine x_topi (y := (xbc2 (xbc1 x))) (rfl) ?_
  refine lv_istore_n (lv' := [(0, .int (xbc2 (xbc1 x)))]) hx hb dJ6_bitCount_0f7a4_23 rfl hl (by decide) rfl (fun ls hl => ?_)
  refine lv_iload_n hx hb dJ6_bitCount_0f7a4_24 rfl (lv_at hl 0 rfl) ?_
  refine lv_iload_n hx hb dJ6_bitCount_0f7a4_25 rfl (lv_at hl 0 rfl) ?_
  refine lv_iconst (v := nI 4) hx hb dJ6_bitCount_0f7a4_26 (by decide) ?_
  refine lv_iushr hx hb dJ6_bitCount_0f7a4_27 rfl ?_
  refine lv_iadd hx hb dJ6_bitCount_0f7a4_28 ?_
  refine lv_ldcw (v := nI 252645135) hx hb hown (hts (.constant RJ6 267 (252645135)) (by decide +kernel)) dJ6_bitCount_0f7a4_29 ?_
  refine lv_iand hx hb dJ6_bitCount_0f7a4_32 ?_
  refine x_topi (y := (xbc3 (xbc2 (xbc1 x)))) (rfl) ?_
  refine lv_istore_n (lv' := [(0, .int (xbc3 (xbc2 (xbc1 x))))]) hx hb dJ6_bitCount_0f7a4_33 rfl hl (by decide) rfl (fun ls hl => ?_)
  refine lv_iload_n hx hb dJ6_bitCount_0f7a4_34 rfl (lv_at hl 0 rfl) ?_
  refine lv_iload_n hx hb dJ6_bitCount_0f7a4_35 rfl (lv_at hl 0 rfl) ?_
  refine lv_bipush (v := nI 8) hx hb dJ6_bitCount_0f7a4_36 (by decide) ?_
  refine lv_iushr hx hb dJ6_bitCount_0f7a4_38 rfl ?_
  refine lv_iadd hx hb dJ6_bitCount_0f7a4_39 ?_
  refine x_topi (y := (xbc4 (xbc3 (xbc2 (xbc1 x))))) (rfl) ?_
  refine lv_istore_n (lv' := [(0, .int (xbc4 (xbc3 (xbc2 (xbc1 x)))))]) hx hb dJ6_bitCount_0f7a4_40 rfl hl (by decide) rfl (fun ls hl => ?_)
  refine lv_iload_n hx hb dJ6_bitCount_0f7a4_41 rfl (lv_at hl 0 rfl) ?_
  refine lv_iload_n hx hb dJ6_bitCount_0f7a4_42 rfl (lv_at hl 0 rfl) ?_
  refine lv_bipush (v := nI 16) hx hb dJ6_bitCount_0f7a4_43 (by decide) ?_
  refine lv_iushr hx hb dJ6_bitCount_0f7a4_45 rfl ?_
  refine lv_iadd hx hb dJ6_bitCount_0f7a4_46 ?_
  refine x_topi (y := (xbc5 (xbc4 (xbc3 (xbc2 (xbc1 x)))))) (rfl) ?_
  refine lv_istore_n (lv' := [(0, .int (xbc5 (xbc4 (xbc3 (xbc2 (xbc1 x))))))]) hx hb dJ6_bitCount_0f7a4_47 rfl hl (by decide) rfl (fun ls hl => ?_)
  refine lv_iload_n hx hb dJ6_bitCount_0f7a4_48 rfl (lv_at hl 0 rfl) ?_
  refine lv_bipush (v := nI 63) hx hb dJ6_bitCount_0f7a4_49 (by decide) ?_
  refine lv_iand hx hb dJ6_bitCount_0f7a4_51 ?_
  exact W.iret (v := xbc x) hx hb hr (fun t9_ ht hW => ⟨⟨xbc x, (), rfl, rfl, x_at ht hP⟩, hS.F ht⟩) hS.2.2 dJ6_bitCount_0f7a4_52

set_option maxHeartbeats 4000000 in
set_option maxRecDepth 100000 in
/-- Math.floorMod by 16 -/
theorem c_J9_floorMod_7cf53 (l : Launch) (G : va_G) (T : Nat → ClassId) (sz : Nat) (x : Int32) : Met l yJ9_floorMod_7cf53 wsJ9_floorMod_7cf53 ({ frames := 0, cells := 0, slots := 0, locals := 0 }) (va_Pc [.int x, .int (nI 16)] (xPre G T ([]) sz)) (va_Qi (fun (r : Int32) (u : Unit) => r = xfm x) (fun u t => va_P G vwCl ([]) t.heap) (va_A ([]) sz)) 0 0 (va_A ([]) sz) := by
  refine x_ofWF (cc := cJ9_floorMod_7cf53) (maxL := 3) (ret := (some .int)) (by decide +kernel) rfl ?_
  intro p e s m args below meth c s₁ B hml hv
  obtain ⟨rfl, hsz, hP, hK, hD0, hXB, hZ⟩ := hv
  have hx := B.exec
  have hb := B.bytes
  have hr := B.returns
  have hts := atoms_spec (ws := wsJ9_floorMod_7cf53) B.pre
  have hown : s.vm.findClass RJ9 = some m.cls := findClass_of_methodNamed B.named
  have hlocks := B.notSynchronized
  subst hsz
  have hD := hD0.self (sz := s.heap.size)
  generalize hAe : va_A ([]) s.heap.size = A at hD hZ ⊢
  have hA : ∀ q : Nat, s.heap.size ≤ q → A q := fun q h => by rw [← hAe]; exact Or.inr h
  have hS : va_S A s.heap s.heap [] := va_S.rf
  have hP : va_P G vwCl ([]) s.heap := hP
  have hl := lv_entry ([.int x, .int (nI 16)]) (n := 3) (Nat.le_of_ble_eq_true rfl)
  rw [lg_entry_eq]
  generalize (lg_sl ([.int x, .int (nI 16)]) ++ List.replicate (3 - (lg_sl ([.int x, .int (nI 16)])).length) Slot.unset).toArray = ls at hl ⊢
  have hl : lv_has ls 3 [(0, .int x), (1, .int (nI 16))] := hl
  refine lv_iload_n hx hb dJ9_floorMod_7cf53_0 rfl (lv_at hl 0 rfl) ?_
  refine lv_iload_n hx hb dJ9_floorMod_7cf53_1 rfl (lv_at hl 1 rfl) ?_
  refine lv_irem hx hb dJ9_floorMod_7cf53_2 (by decide) ?_
  generalize hq : x - x / nI 16 * nI 16 = q
  refine lv_istore_n (lv' := [(2, .int q), (0, .int x), (1, .int (nI 16))]) hx hb dJ9_floorMod_7cf53_3 rfl hl (by decide) rfl (fun ls hl => ?_)
  refine lv_iload_n hx hb dJ9_floorMod_7cf53_4 rfl (lv_at hl 1 rfl) ?_
  refine lv_iload_n hx hb dJ9_floorMod_7cf53_5 rfl (lv_at hl 2 rfl) ?_
  refine lv_ixor hx hb dJ9_floorMod_7cf53_6 ?_
  refine lv_topi (fun z hz => ?_)
  refine lv_if_ge (tgt := 18) hx hb dJ9_floorMod_7cf53_7 (by decide) (fun c => ?_) (fun c => ?_)
  · refine lv_iload_n hx hb dJ9_floorMod_7cf53_18 rfl (lv_at hl 0 rfl) ?_
    exact W.iret (v := q) hx hb hr (fun t9_ ht hW => ⟨⟨q, (), rfl, by unfold xfm; rw [hq, if_pos (hz ▸ c)], x_at ht hP⟩, hS.F ht⟩) hS.2.2 dJ9_floorMod_7cf53_19
  · refine lv_iload_n hx hb dJ9_floorMod_7cf53_10 rfl (lv_at hl 0 rfl) ?_
    refine lv_if_eq (tgt := 18) hx hb dJ9_floorMod_7cf53_11 (by decide) (fun c2 => ?_) (fun c2 => ?_)
    · refine lv_iload_n hx hb dJ9_floorMod_7cf53_18 rfl (lv_at hl 0 rfl) ?_
      exact W.iret (v := q) hx hb hr (fun t9_ ht hW => ⟨⟨q, (), rfl, by unfold xfm; rw [hq, if_neg (hz ▸ c), if_pos c2], x_at ht hP⟩, hS.F ht⟩) hS.2.2 dJ9_floorMod_7cf53_19
    · refine lv_iload_n hx hb dJ9_floorMod_7cf53_14 rfl (lv_at hl 0 rfl) ?_
      refine lv_iload_n hx hb dJ9_floorMod_7cf53_15 rfl (lv_at hl 2 rfl) ?_
      refine lv_iadd hx hb dJ9_floorMod_7cf53_16 ?_
      exact W.iret (v := (q + nI 16)) hx hb hr (fun t9_ ht hW => ⟨⟨(q + nI 16), (), rfl, by unfold xfm; rw [hq, if_neg (hz ▸ c), if_neg c2], x_at ht hP⟩, hS.F ht⟩) hS.2.2 dJ9_floorMod_7cf53_17

set_option maxHeartbeats 4000000 in
set_option maxRecDepth 100000 in
/-- isSixteenth -/
theorem c_X3_isSixteenth (l : Launch) (G : va_G) (T : Nat → ClassId) (sz : Nat) (x : Int32) : Met l yX3_isSixteenth wsX3_isSixteenth ({ frames := 0, cells := 0, slots := 0, locals := 0 }) (va_Pc [.int x] (xPre G T ([]) sz)) (va_Qi (fun (r : Int32) (u : Unit) => r = xb (xvb 16 x)) (fun u t => va_P G vwCl ([]) t.heap) (va_A ([]) sz)) 0 0 (va_A ([]) sz) := by
  refine Met.ofW (cc := cX3_isSixteenth) (maxL := 1) (ret := (some .boolean)) (by decide +kernel) rfl ?_
  intro p e s m args below meth c s₁ B hml hv
  obtain ⟨rfl, hsz, hP, hK, hD0, hXB, hZ⟩ := hv
  have hx := B.exec
  have hb := B.bytes
  have hr := B.returns
  have hts := atoms_spec (ws := wsX3_isSixteenth) B.pre
  have hown : s.vm.findClass RX3 = some m.cls := findClass_of_methodNamed B.named
  have hlocks := B.notSynchronized
  subst hsz
  have hD := hD0.self (sz := s.heap.size)
  generalize hAe : va_A ([]) s.heap.size = A at hD hZ ⊢
  have hA : ∀ q : Nat, s.heap.size ≤ q → A q := fun q h => by rw [← hAe]; exact Or.inr h
  have hS : va_S A s.heap s.heap [] := va_S.rf
  have hP : va_P G vwCl ([]) s.heap := hP
  have hl := lv_entry ([.int x]) (n := 1) (Nat.le_of_ble_eq_true rfl)
  rw [lg_entry_eq]
  generalize (lg_sl ([.int x]) ++ List.replicate (1 - (lg_sl ([.int x])).length) Slot.unset).toArray = ls at hl ⊢
  have hl : lv_has ls 1 [(0, .int x)] := hl
  refine lv_iload_n hx hb dX3_isSixteenth_0 rfl (lv_at hl 0 rfl) ?_
  refine lv_if_lt (tgt := 14) hx hb dX3_isSixteenth_1 (by decide) (fun c1 => ?_) (fun c1 => ?_)
  · refine lv_iconst (v := nI 0) hx hb dX3_isSixteenth_14 (by decide) ?_
    exact W.zret (v := nI 0) hx hb hr rfl (fun t9_ ht hW => ⟨⟨nI 0, (), rfl, by rw [xb_f (xvb_lt c1)], x_at ht hP⟩, hS.F ht⟩) hS.2.2 dX3_isSixteenth_15
  · refine lv_iload_n hx hb dX3_isSixteenth_4 rfl (lv_at hl 0 rfl) ?_
    refine lv_bipush (v := nI 16) hx hb dX3_isSixteenth_5 (by decide) ?_
    refine lv_icmp_ge (tgt := 14) hx hb dX3_isSixteenth_7 (by decide) (fun c2 => ?_) (fun c2 => ?_)
    · refine lv_iconst (v := nI 0) hx hb dX3_isSixteenth_14 (by decide) ?_
      exact W.zret (v := nI 0) hx hb hr rfl (fun t9_ ht hW => ⟨⟨nI 0, (), rfl, by rw [xb_f (xvb_ge c2)], x_at ht hP⟩, hS.F ht⟩) hS.2.2 dX3_isSixteenth_15
    · refine lv_iconst (v := nI 1) hx hb dX3_isSixteenth_10 (by decide) ?_
      refine lv_goto (tgt := 15) hx hb dX3_isSixteenth_11 (by decide) ?_
      exact W.zret (v := nI 1) hx hb hr rfl (fun t9_ ht hW => ⟨⟨nI 1, (), rfl, by rw [xb_t (xvb_in c1 c2)], x_at ht hP⟩, hS.F ht⟩) hS.2.2 dX3_isSixteenth_15

set_option maxHeartbeats 4000000 in
set_option maxRecDepth 100000 in
/-- setOf -/
theorem c_X3_setOf (l : Launch) (G : va_G) (T : Nat → ClassId) (sz : Nat) (x : Int32) : Met l yX3_setOf wsX3_setOf ({ frames := 0, cells := 0, slots := 0, locals := 0 }) (va_Pc [.int x] (xPre G T ([]) sz)) (va_Qi (fun (r : Int32) (u : Unit) => r = xso x) (fun u t => va_P G vwCl ([]) t.heap) (va_A ([]) sz)) 0 0 (va_A ([]) sz) := by
  refine Met.ofW (cc := cX3_setOf) (maxL := 1) (ret := (some .int)) (by decide +kernel) rfl ?_
  intro p e s m args below meth c s₁ B hml hv
  obtain ⟨rfl, hsz, hP, hK, hD0, hXB, hZ⟩ := hv
  have hx := B.exec
  have hb := B.bytes
  have hr := B.returns
  have hts := atoms_spec (ws := wsX3_setOf) B.pre
  have hown : s.vm.findClass RX3 = some m.cls := findClass_of_methodNamed B.named
  have hlocks := B.notSynchronized
  subst hsz
  have hD := hD0.self (sz := s.heap.size)
  generalize hAe : va_A ([]) s.heap.size = A at hD hZ ⊢
  have hA : ∀ q : Nat, s.heap.size ≤ q → A q := fun q h => by rw [← hAe]; exact Or.inr h
  have hS : va_S A s.heap s.heap [] := va_S.rf
  have hP : va_P G vwCl ([]) s.heap := hP
  have hl := lv_entry ([.int x]) (n := 1) (Nat.le_of_ble_eq_true rfl)
  rw [lg_entry_eq]
  generalize (lg_sl ([.int x]) ++ List.replicate (1 - (lg_sl ([.int x])).length) Slot.unset).toArray = ls at hl ⊢
  have hl : lv_has ls 1 [(0, .int x)] := hl
  refine lv_iconst (v := nI 1) hx hb dX3_setOf_0 (by decide) ?_
  refine lv_iload_n hx hb dX3_setOf_1 rfl (lv_at hl 0 rfl) ?_
  refine lv_ishl hx hb dX3_setOf_2 ?_
  exact W.iret (v := (xso x)) hx hb hr (fun t9_ ht hW => ⟨⟨(xso x), (), rfl, rfl, x_at ht hP⟩, hS.F ht⟩) hS.2.2 dX3_setOf_3

set_option maxHeartbeats 4000000 in
set_option maxRecDepth 100000 in
/-- mixed -/
theorem c_X3_mixed (l : Launch) (G : va_G) (T : Nat → ClassId) (sz : Nat) (d : Int64) (x : Int32) : Met l yX3_mixed wsX3_mixed ({ frames := 0, cells := 0, slots := 0, locals := 0 }) (va_Pc [.long d, .int x] (xPre G T ([]) sz)) (va_Ql (fun (r : Int64) (u : Unit) => r = d * 31 + x.toInt64) (fun u t => va_P G vwCl ([]) t.heap) (va_A ([]) sz)) 0 0 (va_A ([]) sz) := by
  refine Met.ofW (cc := cX3_mixed) (maxL := 3) (ret := (some .long)) (by decide +kernel) rfl ?_
  intro p e s m args below meth c s₁ B hml hv
  obtain ⟨rfl, hsz, hP, hK, hD0, hXB, hZ⟩ := hv
  have hx := B.exec
  have hb := B.bytes
  have hr := B.returns
  have hts := atoms_spec (ws := wsX3_mixed) B.pre
  have hown : s.vm.findClass RX3 = some m.cls := findClass_of_methodNamed B.named
  have hlocks := B.notSynchronized
  subst hsz
  have hD := hD0.self (sz := s.heap.size)
  generalize hAe : va_A ([]) s.heap.size = A at hD hZ ⊢
  have hA : ∀ q : Nat, s.heap.size ≤ q → A q := fun q h => by rw [← hAe]; exact Or.inr h
  have hS : va_S A s.heap s.heap [] := va_S.rf
  have hP : va_P G vwCl ([]) s.heap := hP
  have hl := lv_entry ([.long d, .int x]) (n := 3) (Nat.le_of_ble_eq_true rfl)
  rw [lg_entry_eq]
  generalize (lg_sl ([.long d, .int x]) ++ List.replicate (3 - (lg_sl ([.long d, .int x])).length) Slot.unset).toArray = ls at hl ⊢
  have hl : lv_has ls 3 [(0, .long d), (2, .int x)] := hl
  refine lv_lload_n hx hb dX3_mixed_0 rfl (lv_at hl 0 rfl) ?_
  refine lv_ldc2 (v := (31)) hx hb hown (hts (.constantLong RX3 186 (31)) (by decide +kernel)) dX3_mixed_1 ?_
  refine lv_lmul hx hb dX3_mixed_4 ?_
  refine lv_iload_n hx hb dX3_mixed_5 rfl (lv_at hl 1 rfl) ?_
  refine lv_i2l hx hb dX3_mixed_6 rfl ?_
  refine lv_ladd hx hb dX3_mixed_7 ?_
  exact W.lret (v := (d * 31 + x.toInt64)) hx hb hr (fun t9_ ht hW => ⟨⟨(d * 31 + x.toInt64), (), rfl, rfl, x_at ht hP⟩, hS.F ht⟩) hS.2.2 dX3_mixed_8

set_option maxHeartbeats 4000000 in
set_option maxRecDepth 100000 in
/-- isOneAlone -/
theorem c_X3_isOneAlone (l : Launch) (G : va_G) (T : Nat → ClassId) (sz : Nat) (x : Int32) : Met l yX3_isOneAlone wsX3_isOneAlone ({ frames := 1, cells := 0, slots := 0, locals := 20 }) (va_Pc [.int x] (xPre G T ([]) sz)) (va_Qi (fun (r : Int32) (u : Unit) => r = xb (xone x)) (fun u t => va_P G vwCl ([]) t.heap) (va_A ([]) sz)) 0 0 (va_A ([]) sz) := by
  refine Met.ofW (cc := cX3_isOneAlone) (maxL := 1) (ret := (some .boolean)) (by decide +kernel) rfl ?_
  intro p e s m args below meth c s₁ B hml hv
  obtain ⟨rfl, hsz, hP, hK, hD0, hXB, hZ⟩ := hv
  have hx := B.exec
  have hb := B.bytes
  have hr := B.returns
  have hts := atoms_spec (ws := wsX3_isOneAlone) B.pre
  have hown : s.vm.findClass RX3 = some m.cls := findClass_of_methodNamed B.named
  have hlocks := B.notSynchronized
  subst hsz
  have hD := hD0.self (sz := s.heap.size)
  generalize hAe : va_A ([]) s.heap.size = A at hD hZ ⊢
  have hA : ∀ q : Nat, s.heap.size ≤ q → A q := fun q h => by rw [← hAe]; exact Or.inr h
  have hS : va_S A s.heap s.heap [] := va_S.rf
  have hP : va_P G vwCl ([]) s.heap := hP
  have hl := lv_entry ([.int x]) (n := 1) (Nat.le_of_ble_eq_true rfl)
  rw [lg_entry_eq]
  generalize (lg_sl ([.int x]) ++ List.replicate (1 - (lg_sl ([.int x])).length) Slot.unset).toArray = ls at hl ⊢
  have hl : lv_has ls 1 [(0, .int x)] := hl
  refine lv_iload_n hx hb dX3_isOneAlone_0 rfl (lv_at hl 0 rfl) ?_
  refine x_calli (va_runS (As := [.int x]) (rest := []) ⟨hx, hb, hml, hown, hts⟩ (c_J6_bitCount_0f7a4 l G T s.heap.size x) (va_cwS 1 hts gX3_isOneAlone_J6_bitCount_0f7a4 rfl rfl rfl (by decide +kernel) ⟨Nat.le_of_ble_eq_true rfl, Nat.le_of_ble_eq_true rfl⟩) (x_preS (wc := []) hK hP hD hS hA hXB hZ [] rfl rfl _) rfl rfl hl.1 rfl (lv_room (Nat.le_of_ble_eq_true rfl)) dX3_isOneAlone_1 ⟨Nat.le_of_ble_eq_true rfl, Nat.le_of_ble_eq_true rfl⟩) hP hD hS hA [] rfl (fun _ _ _ => rfl) (fun r1 u H locs hw hP hD hS => ?_)
  have hP : va_P G vwCl ([]) H := hP
  have hD : va_D A ([]) := hD
  refine lv_iconst (v := nI 1) hx hb dX3_isOneAlone_4 (by decide) ?_
  refine lv_icmp_ne (tgt := 12) hx hb dX3_isOneAlone_5 (by decide) (fun c => ?_) (fun c => ?_)
  · refine lv_iconst (v := nI 0) hx hb dX3_isOneAlone_12 (by decide) ?_
    exact W.zret (v := nI 0) hx hb hr rfl (fun t9_ ht hW => ⟨⟨nI 0, (), rfl, by rw [xb_f]; exact decide_eq_false (by rw [← hw]; exact c), x_at ht hP⟩, hS.F ht⟩) hS.2.2 dX3_isOneAlone_13
  · refine lv_iconst (v := nI 1) hx hb dX3_isOneAlone_8 (by decide) ?_
    refine lv_goto (tgt := 13) hx hb dX3_isOneAlone_9 (by decide) ?_
    exact W.zret (v := nI 1) hx hb hr rfl (fun t9_ ht hW => ⟨⟨nI 1, (), rfl, by rw [xb_t]; exact decide_eq_true (by rw [← hw]; exact c), x_at ht hP⟩, hS.F ht⟩) hS.2.2 dX3_isOneAlone_13
end XL1
