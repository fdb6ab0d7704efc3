section XL2
theorem xwb_0 (y : Int32) : xwb (nI 0) y = (decide (nI 1 ≤ y) && decide (y < nI 16)) := by
  unfold xwb
  rw [show decide (nI 0 = (0 : Int32)) = true from rfl, show decide (nI 0 = (3 : Int32)) = false from rfl, show decide (nI 0 = (1 : Int32)) = false from rfl, show decide (nI 0 = (2 : Int32)) = false from rfl, show decide (nI 0 = (4 : Int32)) = false from rfl]
  simp only [Bool.true_and, Bool.false_and, Bool.or_false, Bool.false_or]
  rfl
theorem xwb_3 (y : Int32) : xwb (nI 3) y = (decide (nI 2 ≤ y) && decide (y ≤ nI 16)) := by
  unfold xwb
  rw [show decide (nI 3 = (0 : Int32)) = false from rfl, show decide (nI 3 = (3 : Int32)) = true from rfl, show decide (nI 3 = (1 : Int32)) = false from rfl, show decide (nI 3 = (2 : Int32)) = false from rfl, show decide (nI 3 = (4 : Int32)) = false from rfl]
  simp only [Bool.true_and, Bool.false_and, Bool.or_false, Bool.false_or]
  rfl
theorem xwb_1 (y : Int32) : xwb (nI 1) y = decide (y = 0) ∧ xwb (nI 2) y = decide (y = 0) ∧ xwb (nI 4) y = decide (y = 0) := by
  unfold xwb
  refine ⟨?_, ?_, ?_⟩
  · rw [show decide (nI 1 = (0 : Int32)) = false from rfl, show decide (nI 1 = (3 : Int32)) = false from rfl, show decide (nI 1 = (1 : Int32)) = true from rfl]
    simp
  · rw [show decide (nI 2 = (0 : Int32)) = false from rfl, show decide (nI 2 = (3 : Int32)) = false from rfl, show decide (nI 2 = (2 : Int32)) = true from rfl]
    simp
  · rw [show decide (nI 4 = (0 : Int32)) = false from rfl, show decide (nI 4 = (3 : Int32)) = false from rfl, show decide (nI 4 = (4 : Int32)) = true from rfl]
    simp
theorem xwb_o {x y : Int32} (h : x.toInt < 0 ∨ 4 < x.toInt) : xwb x y = false := by
  have key : ∀ z : Int32, 0 ≤ z.toInt → z.toInt ≤ 4 → decide (x = z) = false := fun z h0 h1 => decide_eq_false (fun e => by subst e; omega)
  unfold xwb
  rw [key 0 (by decide) (by decide), key 3 (by decide) (by decide), key 1 (by decide) (by decide), key 2 (by decide) (by decide), key 4 (by decide) (by decide)]
  rfl
theorem xcase5 {x : Int32} (h : ¬ (x.toInt < 0 ∨ 4 < x.toInt)) : x = nI 0 ∨ x = nI 1 ∨ x = nI 2 ∨ x = nI 3 ∨ x = nI 4 := by
  obtain ⟨j, hj, rfl⟩ := nI_of (x := x) (by rw [xI0]; omega)
  rw [nI_toInt hj] at h
  rcases (show j = 0 ∨ j = 1 ∨ j = 2 ∨ j = 3 ∨ j = 4 by omega) with rfl | rfl | rfl | rfl | rfl <;> simp

set_option maxHeartbeats 4000000 in
set_option maxRecDepth 100000 in
/-- isWay -/
theorem c_X3_isWay (l : Launch) (G : va_G) (T : Nat → ClassId) (sz : Nat) (x y : Int32) : Met l yX3_isWay wsX3_isWay ({ frames := 0, cells := 0, slots := 0, locals := 0 }) (va_Pc [.int x, .int y] (xPre G T ([]) sz)) (va_Qi (fun (r : Int32) (u : Unit) => r = xb (xwb x y)) (fun u t => va_P G vwCl ([]) t.heap) (va_A ([]) sz)) 0 0 (va_A ([]) sz) := by
  refine Met.ofW (cc := cX3_isWay) (maxL := 2) (ret := (some .boolean)) (by decide +kernel) rfl ?_
  intro p e s m args below meth c s₁ B hml hv
  obtain ⟨rfl, hsz, hP, hK, hD0, hXB, hZ⟩ := hv
  have hx := B.exec
  have hb := B.bytes
  have hr := B.returns
  have hts := atoms_spec (ws := wsX3_isWay) B.pre
  have hown : s.vm.findClass RX3 = some m.cls := findClass_of_methodNamed B.named
  have hlocks := B.notSynchronized
  subst hsz
  have hD := hD0.self (sz := s.heap.size)
  generalize hAe : va_A ([]) s.heap.size = A at hD hZ ⊢
  have hA : ∀ q : Nat, s.heap.size ≤ q → A q := fun q h => by rw [← hAe]; exact Or.inr h
  have hS : va_S A s.heap s.heap [] := va_S.rf
  have hP : va_P G vwCl ([]) s.heap := hP
  have hl := lv_entry ([.int x, .int y]) (n := 2) (Nat.le_of_ble_eq_true rfl)
  rw [lg_entry_eq]
  generalize (lg_sl ([.int x, .int y]) ++ List.replicate (2 - (lg_sl ([.int x, .int y])).length) Slot.unset).toArray = ls at hl ⊢
  have hl : lv_has ls 2 [(0, .int x), (1, .int y)] := hl
  refine lv_iload_n hx hb dX3_isWay_0 rfl (lv_at hl 0 rfl) ?_
  by_cases h : x.toInt < 0 ∨ 4 < x.toInt
  · refine lv_tableOut (tgt := 80) hx hb dX3_isWay_1 (h) (by decide) ?_
    refine lv_iconst (v := nI 0) hx hb dX3_isWay_80 (by decide) ?_
    exact W.zret (v := nI 0) hx hb hr rfl (fun t9_ ht hW => ⟨⟨nI 0, (), rfl, by rw [xb_f (xwb_o h)], x_at ht hP⟩, hS.F ht⟩) hS.2.2 dX3_isWay_81
  · rcases xcase5 h with rfl | rfl | rfl | rfl | rfl
    · refine lv_tableIn (off := 35) (tgt := 36) hx hb dX3_isWay_1 (by decide) (by decide) (by decide) (by decide) ?_
      refine lv_iload_n hx hb dX3_isWay_36 rfl (lv_at hl 1 rfl) ?_
      refine lv_iconst (v := nI 1) hx hb dX3_isWay_37 (by decide) ?_
      refine lv_icmp_lt (tgt := 51) hx hb dX3_isWay_38 (by decide) (fun c1 => ?_) (fun c1 => ?_)
      · refine lv_iconst (v := nI 0) hx hb dX3_isWay_51 (by decide) ?_
        exact W.zret (v := nI 0) hx hb hr rfl (fun t9_ ht hW => ⟨⟨nI 0, (), rfl, by rw [xwb_0, decide_eq_false (p := nI 1 ≤ y) (by rw [xIle]; rw [xIlt] at c1; omega), Bool.false_and]; rfl, x_at ht hP⟩, hS.F ht⟩) hS.2.2 dX3_isWay_52
      · refine lv_iload_n hx hb dX3_isWay_41 rfl (lv_at hl 1 rfl) ?_
        refine lv_bipush (v := nI 16) hx hb dX3_isWay_42 (by decide) ?_
        refine lv_icmp_ge (tgt := 51) hx hb dX3_isWay_44 (by decide) (fun c2 => ?_) (fun c2 => ?_)
        · refine lv_iconst (v := nI 0) hx hb dX3_isWay_51 (by decide) ?_
          exact W.zret (v := nI 0) hx hb hr rfl (fun t9_ ht hW => ⟨⟨nI 0, (), rfl, by rw [xwb_0, decide_eq_false (p := y < nI 16) (by rw [xIlt]; rw [xIle] at c2; omega), Bool.and_false]; rfl, x_at ht hP⟩, hS.F ht⟩) hS.2.2 dX3_isWay_52
        · refine lv_iconst (v := nI 1) hx hb dX3_isWay_47 (by decide) ?_
          refine lv_goto (tgt := 52) hx hb dX3_isWay_48 (by decide) ?_
          exact W.zret (v := nI 1) hx hb hr rfl (fun t9_ ht hW => ⟨⟨nI 1, (), rfl, by rw [xwb_0, decide_eq_true (p := nI 1 ≤ y) (by rw [xIle]; rw [xIlt] at c1; omega), decide_eq_true (p := y < nI 16) (by rw [xIlt]; rw [xIle] at c2; omega)]; rfl, x_at ht hP⟩, hS.F ht⟩) hS.2.2 dX3_isWay_52
    · refine lv_tableIn (off := 69) (tgt := 70) hx hb dX3_isWay_1 (by decide) (by decide) (by decide) (by decide) ?_
      refine lv_iload_n hx hb dX3_isWay_70 rfl (lv_at hl 1 rfl) ?_
      refine lv_if_ne (tgt := 78) hx hb dX3_isWay_71 (by decide) (fun c1 => ?_) (fun c1 => ?_)
      · refine lv_iconst (v := nI 0) hx hb dX3_isWay_78 (by decide) ?_
        exact W.zret (v := nI 0) hx hb hr rfl (fun t9_ ht hW => ⟨⟨nI 0, (), rfl, by rw [(xwb_1 y).1, decide_eq_false c1]; rfl, x_at ht hP⟩, hS.F ht⟩) hS.2.2 dX3_isWay_79
      · refine lv_iconst (v := nI 1) hx hb dX3_isWay_74 (by decide) ?_
        refine lv_goto (tgt := 79) hx hb dX3_isWay_75 (by decide) ?_
        exact W.zret (v := nI 1) hx hb hr rfl (fun t9_ ht hW => ⟨⟨nI 1, (), rfl, by rw [(xwb_1 y).1, decide_eq_true c1]; rfl, x_at ht hP⟩, hS.F ht⟩) hS.2.2 dX3_isWay_79
    · refine lv_tableIn (off := 69) (tgt := 70) hx hb dX3_isWay_1 (by decide) (by decide) (by decide) (by decide) ?_
      refine lv_iload_n hx hb dX3_isWay_70 rfl (lv_at hl 1 rfl) ?_
      refine lv_if_ne (tgt := 78) hx hb dX3_isWay_71 (by decide) (fun c1 => ?_) (fun c1 => ?_)
      · refine lv_iconst (v := nI 0) hx hb dX3_isWay_78 (by decide) ?_
        exact W.zret (v := nI 0) hx hb hr rfl (fun t9_ ht hW => ⟨⟨nI 0, (), rfl, by rw [(xwb_1 y).2.1, decide_eq_false c1]; rfl, x_at ht hP⟩, hS.F ht⟩) hS.2.2 dX3_isWay_79
      · refine lv_iconst (v := nI 1) hx hb dX3_isWay_74 (by decide) ?_
        refine lv_goto (tgt := 79) hx hb dX3_isWay_75 (by decide) ?_
        exact W.zret (v := nI 1) hx hb hr rfl (fun t9_ ht hW => ⟨⟨nI 1, (), rfl, by rw [(xwb_1 y).2.1, decide_eq_true c1]; rfl, x_at ht hP⟩, hS.F ht⟩) hS.2.2 dX3_isWay_79
    · refine lv_tableIn (off := 52) (tgt := 53) hx hb dX3_isWay_1 (by decide) (by decide) (by decide) (by decide) ?_
      refine lv_iload_n hx hb dX3_isWay_53 rfl (lv_at hl 1 rfl) ?_
      refine lv_iconst (v := nI 2) hx hb dX3_isWay_54 (by decide) ?_
      refine lv_icmp_lt (tgt := 68) hx hb dX3_isWay_55 (by decide) (fun c1 => ?_) (fun c1 => ?_)
      · refine lv_iconst (v := nI 0) hx hb dX3_isWay_68 (by decide) ?_
        exact W.zret (v := nI 0) hx hb hr rfl (fun t9_ ht hW => ⟨⟨nI 0, (), rfl, by rw [xwb_3, decide_eq_false (p := nI 2 ≤ y) (by rw [xIle]; rw [xIlt] at c1; omega), Bool.false_and]; rfl, x_at ht hP⟩, hS.F ht⟩) hS.2.2 dX3_isWay_69
      · refine lv_iload_n hx hb dX3_isWay_58 rfl (lv_at hl 1 rfl) ?_
        refine lv_bipush (v := nI 16) hx hb dX3_isWay_59 (by decide) ?_
        refine lv_icmp_gt (tgt := 68) hx hb dX3_isWay_61 (by decide) (fun c2 => ?_) (fun c2 => ?_)
        · refine lv_iconst (v := nI 0) hx hb dX3_isWay_68 (by decide) ?_
          exact W.zret (v := nI 0) hx hb hr rfl (fun t9_ ht hW => ⟨⟨nI 0, (), rfl, by rw [xwb_3, decide_eq_false (p := y ≤ nI 16) (by rw [xIle]; rw [xIlt] at c2; omega), Bool.and_false]; rfl, x_at ht hP⟩, hS.F ht⟩) hS.2.2 dX3_isWay_69
        · refine lv_iconst (v := nI 1) hx hb dX3_isWay_64 (by decide) ?_
          refine lv_goto (tgt := 69) hx hb dX3_isWay_65 (by decide) ?_
          exact W.zret (v := nI 1) hx hb hr rfl (fun t9_ ht hW => ⟨⟨nI 1, (), rfl, by rw [xwb_3, decide_eq_true (p := nI 2 ≤ y) (by rw [xIle]; rw [xIlt] at c1; omega), decide_eq_true (p := y ≤ nI 16) (by rw [xIle]; rw [xIlt] at c2; omega)]; rfl, x_at ht hP⟩, hS.F ht⟩) hS.2.2 dX3_isWay_69
    · refine lv_tableIn (off := 69) (tgt := 70) hx hb dX3_isWay_1 (by decide) (by decide) (by decide) (by decide) ?_
      refine lv_iload_n hx hb dX3_isWay_70 rfl (lv_at hl 1 rfl) ?_
      refine lv_if_ne (tgt := 78) hx hb dX3_isWay_71 (by decide) (fun c1 => ?_) (fun c1 => ?_)
      · refine lv_iconst (v := nI 0) hx hb dX3_isWay_78 (by decide) ?_
        exact W.zret (v := nI 0) hx hb hr rfl (fun t9_ ht hW => ⟨⟨nI 0, (), rfl, by rw [(xwb_1 y).2.2, decide_eq_false c1]; rfl, x_at ht hP⟩, hS.F ht⟩) hS.2.2 dX3_isWay_79
      · refine lv_iconst (v := nI 1) hx hb dX3_isWay_74 (by decide) ?_
        refine lv_goto (tgt := 79) hx hb dX3_isWay_75 (by decide) ?_
        exact W.zret (v := nI 1) hx hb hr rfl (fun t9_ ht hW => ⟨⟨nI 1, (), rfl, by rw [(xwb_1 y).2.2, decide_eq_true c1]; rfl, x_at ht hP⟩, hS.F ht⟩) hS.2.2 dX3_isWay_79

theorem xdl_p : ∀ e, e < 5 → (2 ^ e % 2 = 0 ∨ e = 0) := by decide

theorem xdl_stop {f a d y : Nat} (h : ¬ (1 < y ∧ a % 2 = 0)) : xdl f a d y = 15 - d - a / 2 := by
  cases f with
  | zero => rfl
  | succ f => unfold xdl; rw [if_neg h]
theorem xdl_go {f a d y : Nat} (h : 1 < y) (h2 : a % 2 = 0) : xdl (f + 1) a d y = xdl f (a / 2) (d + y / 2) (y / 2) := by
  show (if 1 < y ∧ a % 2 = 0 then _ else _) = _
  rw [if_pos ⟨h, h2⟩]
theorem nI_nle1 {a b : Nat} (h : a < b) (hb : b < 2 ^ 31) : ¬ nI b ≤ nI a := nI_ge h hb

set_option maxHeartbeats 4000000 in
set_option maxRecDepth 100000 in
/-- placeAfterDeal -/
theorem c_X3_placeAfterDeal (l : Launch) (G : va_G) (T : Nat → ClassId) (sz : Nat) (q : Nat) (hq : q < 16) : Met l yX3_placeAfterDeal wsX3_placeAfterDeal ({ frames := 0, cells := 0, slots := 0, locals := 0 }) (va_Pc [.int (nI q)] (xPre G T ([]) sz)) (va_Qi (fun (r : Int32) (u : Unit) => r = nI (xDt q)) (fun u t => va_P G vwCl ([]) t.heap) (va_A ([]) sz)) 0 0 (va_A ([]) sz) := by
  refine Met.ofW (cc := cX3_placeAfterDeal) (maxL := 4) (ret := (some .int)) (by decide +kernel) rfl ?_
  intro p e s m args below meth c s₁ B hml hv
  obtain ⟨rfl, hsz, hP, hK, hD0, hXB, hZ⟩ := hv
  have hx := B.exec
  have hb := B.bytes
  have hr := B.returns
  have hts := atoms_spec (ws := wsX3_placeAfterDeal) B.pre
  have hown : s.vm.findClass RX3 = some m.cls := findClass_of_methodNamed B.named
  have hlocks := B.notSynchronized
  subst hsz
  have hD := hD0.self (sz := s.heap.size)
  generalize hAe : va_A ([]) s.heap.size = A at hD hZ ⊢
  have hA : ∀ q : Nat, s.heap.size ≤ q → A q := fun q h => by rw [← hAe]; exact Or.inr h
  have hS : va_S A s.heap s.heap [] := va_S.rf
  have hP : va_P G vwCl ([]) s.heap := hP
  have hl := lv_entry ([.int (nI q)]) (n := 4) (Nat.le_of_ble_eq_true rfl)
  rw [lg_entry_eq]
  generalize (lg_sl ([.int (nI q)]) ++ List.replicate (4 - (lg_sl ([.int (nI q)])).length) Slot.unset).toArray = ls at hl ⊢
  have hl : lv_has ls 4 [(0, .int (nI q))] := hl
  refine lv_iload_n hx hb dX3_placeAfterDeal_0 rfl (lv_at hl 0 rfl) ?_
  refine lv_istore_n (lv' := [(1, .int (nI q)), (0, .int (nI q))]) hx hb dX3_placeAfterDeal_1 rfl hl (by decide) rfl (fun ls hl => ?_)
  refine lv_iconst (v := nI 0) hx hb dX3_placeAfterDeal_2 (by decide) ?_
  refine lv_istore_n (lv' := [(2, .int (nI 0)), (1, .int (nI q)), (0, .int (nI q))]) hx hb dX3_placeAfterDeal_3 rfl hl (by decide) rfl (fun ls hl => ?_)
  refine lv_bipush (v := nI 16) hx hb dX3_placeAfterDeal_4 (by decide) ?_
  refine lv_istore_n (lv' := [(3, .int (nI 16)), (2, .int (nI 0)), (1, .int (nI q)), (0, .int (nI q))]) hx hb dX3_placeAfterDeal_6 rfl hl (by decide) rfl (fun ls hl => ?_)
  suffices LP : ∀ (n : Nat) (a : Nat) (d : Nat) (y : Nat) (z : Nat), (y = 2 ^ z) → (a < y) → (d + y ≤ 16) → (z < 5) → (z < n) → (xdl z a d y = xDt q) → ∀ (H : Heap) (locs : List Loc), va_P G vwCl ([]) H → va_D A ([]) → va_S A s.heap H locs → ∀ (ls : Array Slot), lv_has ls 4 [(1, .int (nI a)), (2, .int (nI d)), (3, .int (nI y)), (0, .int (nI q))] → W p l e (headSpec wsX3_placeAfterDeal ({ frames := 0, cells := 0, slots := 0, locals := 0 })).room s m ([.int (nI q)] : List Value).toArray below meth c H locs 0 0 (MQ below (va_Qi (fun (r : Int32) (u : Unit) => r = nI (xDt q)) (fun u t => va_P G vwCl ([]) t.heap) A) ([.int (nI q)] : List Value).toArray s 0 0 A) (F0 m 7 ls []) from LP 5 q 0 16 4 rfl hq (by omega) (by decide) (by decide) (xdl_ok q hq) _ _ hP hD hS ls (lv_sub hl [2, 1, 0, 3] rfl)
  clear hP hD hS hl
  intro n
  induction n with
  | zero => intro a d y z hy ha hd hz4 hn hv H locs _ _ _ ls _; exfalso; omega
  | succ n ih =>
    intro a d y z hy ha hd hz4 hn hv H locs hP hD hS ls hl
    refine lv_iload_n hx hb dX3_placeAfterDeal_7 rfl (lv_at hl 2 rfl) ?_
    refine lv_iconst (v := nI 1) hx hb dX3_placeAfterDeal_8 (by decide) ?_
    have hy16 : y ≤ 16 := by omega
    by_cases hz : z = 0
    · have hy1 : y = 1 := by rw [hy, hz]
      refine lv_icmp_le (tgt := 35) hx hb dX3_placeAfterDeal_9 (by decide) (fun _ => ?_) (fun c_ => absurd (nI_le (by omega) (by omega)) c_)
      refine lv_bipush (v := nI 15) hx hb dX3_placeAfterDeal_35 (by decide) ?_
      refine lv_iload_n hx hb dX3_placeAfterDeal_37 rfl (lv_at hl 1 rfl) ?_
      refine lv_isub hx hb dX3_placeAfterDeal_38 ?_
      refine x_topi (y := nI (15 - d)) (pk_sub (by omega)) ?_
      refine lv_iload_n hx hb dX3_placeAfterDeal_39 rfl (lv_at hl 0 rfl) ?_
      refine lv_iconst (v := nI 2) hx hb dX3_placeAfterDeal_40 (by decide) ?_
      refine lv_idiv hx hb dX3_placeAfterDeal_41 (by decide) ?_
      refine x_topi (y := nI (a / 2)) (pk_div (by omega) (by decide) (by decide)) ?_
      refine lv_isub hx hb dX3_placeAfterDeal_42 ?_
      refine x_topi (y := nI (15 - d - a / 2)) (pk_sub (by omega)) ?_
      exact W.iret (v := nI (15 - d - a / 2)) hx hb hr (fun t9_ ht hW => ⟨⟨nI (15 - d - a / 2), (), rfl, by rw [← hv, xdl_stop (by omega)], x_at ht hP⟩, hS.F ht⟩) hS.2.2 dX3_placeAfterDeal_43
    · obtain ⟨zz, rfl⟩ : ∃ zz, z = zz + 1 := ⟨z - 1, by omega⟩
      have hp2 := Nat.two_pow_pos zz
      have hy2 : y = 2 ^ zz * 2 := by rw [hy, Nat.pow_succ]
      refine lv_icmp_le (tgt := 35) hx hb dX3_placeAfterDeal_9 (by decide) (fun c_ => absurd c_ (nI_nle1 (by omega) (by omega))) (fun _ => ?_)
      refine lv_iload_n hx hb dX3_placeAfterDeal_12 rfl (lv_at hl 0 rfl) ?_
      refine lv_iconst (v := nI 2) hx hb dX3_placeAfterDeal_13 (by decide) ?_
      refine lv_irem hx hb dX3_placeAfterDeal_14 (by decide) ?_
      refine x_topi (y := nI (a % 2)) (pk_rem (by omega) (by decide) (by decide)) ?_
      by_cases hev : a % 2 = 1
      · refine lv_if_ne (tgt := 35) hx hb dX3_placeAfterDeal_15 (by decide) (fun _ => ?_) (fun c_ => absurd c_ (nI_ne0 (by omega) (by omega)))
        refine lv_bipush (v := nI 15) hx hb dX3_placeAfterDeal_35 (by decide) ?_
        refine lv_iload_n hx hb dX3_placeAfterDeal_37 rfl (lv_at hl 1 rfl) ?_
        refine lv_isub hx hb dX3_placeAfterDeal_38 ?_
        refine x_topi (y := nI (15 - d)) (pk_sub (by omega)) ?_
        refine lv_iload_n hx hb dX3_placeAfterDeal_39 rfl (lv_at hl 0 rfl) ?_
        refine lv_iconst (v := nI 2) hx hb dX3_placeAfterDeal_40 (by decide) ?_
        refine lv_idiv hx hb dX3_placeAfterDeal_41 (by decide) ?_
        refine x_topi (y := nI (a / 2)) (pk_div (by omega) (by decide) (by decide)) ?_
        refine lv_isub hx hb dX3_placeAfterDeal_42 ?_
        refine x_topi (y := nI (15 - d - a / 2)) (pk_sub (by omega)) ?_
        exact W.iret (v := nI (15 - d - a / 2)) hx hb hr (fun t9_ ht hW => ⟨⟨nI (15 - d - a / 2), (), rfl, by rw [← hv, xdl_stop (by omega)], x_at ht hP⟩, hS.F ht⟩) hS.2.2 dX3_placeAfterDeal_43
      · have ha0 : nI (a % 2) = nI 0 := by rw [show a % 2 = 0 by omega]
        refine lv_if_ne (tgt := 35) hx hb dX3_placeAfterDeal_15 (by decide) (fun c_ => absurd (ha0) c_) (fun _ => ?_)
        refine lv_iload_n hx hb dX3_placeAfterDeal_18 rfl (lv_at hl 1 rfl) ?_
        refine lv_iload_n hx hb dX3_placeAfterDeal_19 rfl (lv_at hl 2 rfl) ?_
        refine lv_iconst (v := nI 2) hx hb dX3_placeAfterDeal_20 (by decide) ?_
        refine lv_idiv hx hb dX3_placeAfterDeal_21 (by decide) ?_
        refine x_topi (y := nI (y / 2)) (pk_div (by omega) (by decide) (by decide)) ?_
        refine lv_iadd hx hb dX3_placeAfterDeal_22 ?_
        refine x_topi (y := nI (d + y / 2)) (nI_add _ _) ?_
        refine lv_istore_n (lv' := [(2, .int (nI (d + y / 2))), (1, .int (nI a)), (3, .int (nI y)), (0, .int (nI q))]) hx hb dX3_placeAfterDeal_23 rfl hl (by decide) rfl (fun ls hl => ?_)
        refine lv_iload_n hx hb dX3_placeAfterDeal_24 rfl (lv_at hl 1 rfl) ?_
        refine lv_iconst (v := nI 2) hx hb dX3_placeAfterDeal_25 (by decide) ?_
        refine lv_idiv hx hb dX3_placeAfterDeal_26 (by decide) ?_
        refine x_topi (y := nI (a / 2)) (pk_div (by omega) (by decide) (by decide)) ?_
        refine lv_istore_n (lv' := [(1, .int (nI (a / 2))), (2, .int (nI (d + y / 2))), (3, .int (nI y)), (0, .int (nI q))]) hx hb dX3_placeAfterDeal_27 rfl hl (by decide) rfl (fun ls hl => ?_)
        refine lv_iload_n hx hb dX3_placeAfterDeal_28 rfl (lv_at hl 2 rfl) ?_
        refine lv_iconst (v := nI 2) hx hb dX3_placeAfterDeal_29 (by decide) ?_
        refine lv_idiv hx hb dX3_placeAfterDeal_30 (by decide) ?_
        refine x_topi (y := nI (y / 2)) (pk_div (by omega) (by decide) (by decide)) ?_
        refine lv_istore_n (lv' := [(3, .int (nI (y / 2))), (1, .int (nI (a / 2))), (2, .int (nI (d + y / 2))), (0, .int (nI q))]) hx hb dX3_placeAfterDeal_31 rfl hl (by decide) rfl (fun ls hl => ?_)
        refine lv_goto (tgt := 7) hx hb dX3_placeAfterDeal_32 (by decide) ?_
        exact ih (a / 2) (d + y / 2) (y / 2) zz (by omega) (by omega) (by omega) (by omega) (by omega) (by rw [← hv, xdl_go (by omega) (by omega)]) _ _ hP hD hS ls (lv_sub hl [1, 2, 0, 3] rfl)

set_option maxHeartbeats 4000000 in
set_option maxRecDepth 100000 in
/-- placeAfter -/
theorem c_X3_placeAfter (l : Launch) (G : va_G) (T : Nat → ClassId) (sz : Nat) (k n q : Nat) (hw : xwn k n = true) (hq : q < 16) : Met l yX3_placeAfter wsX3_placeAfter ({ frames := 1, cells := 0, slots := 0, locals := 23 }) (va_Pc [.int (nI k), .int (nI n), .int (nI q)] (xPre G T ([]) sz)) (va_Qi (fun (r : Int32) (u : Unit) => r = nI (xpa k n q)) (fun u t => va_P G vwCl ([]) t.heap) (va_A ([]) sz)) 0 0 (va_A ([]) sz) := by
  refine Met.ofW (cc := cX3_placeAfter) (maxL := 3) (ret := (some .int)) (by decide +kernel) rfl ?_
  intro p e s m args below meth c s₁ B hml hv
  obtain ⟨rfl, hsz, hP, hK, hD0, hXB, hZ⟩ := hv
  have hx := B.exec
  have hb := B.bytes
  have hr := B.returns
  have hts := atoms_spec (ws := wsX3_placeAfter) B.pre
  have hown : s.vm.findClass RX3 = some m.cls := findClass_of_methodNamed B.named
  have hlocks := B.notSynchronized
  subst hsz
  have hD := hD0.self (sz := s.heap.size)
  generalize hAe : va_A ([]) s.heap.size = A at hD hZ ⊢
  have hA : ∀ q : Nat, s.heap.size ≤ q → A q := fun q h => by rw [← hAe]; exact Or.inr h
  have hS : va_S A s.heap s.heap [] := va_S.rf
  have hP : va_P G vwCl ([]) s.heap := hP
  have hl := lv_entry ([.int (nI k), .int (nI n), .int (nI q)]) (n := 3) (Nat.le_of_ble_eq_true rfl)
  rw [lg_entry_eq]
  generalize (lg_sl ([.int (nI k), .int (nI n), .int (nI q)]) ++ List.replicate (3 - (lg_sl ([.int (nI k), .int (nI n), .int (nI q)])).length) Slot.unset).toArray = ls at hl ⊢
  have hl : lv_has ls 3 [(0, .int (nI k)), (1, .int (nI n)), (2, .int (nI q))] := hl
  refine lv_iload_n hx hb dX3_placeAfter_0 rfl (lv_at hl 0 rfl) ?_
  rcases (show k = 0 ∨ k = 1 ∨ k = 2 ∨ k = 3 ∨ k = 4 by have := (xwn_lt hw).1; omega) with rfl | rfl | rfl | rfl | rfl
  · refine lv_tableIn (off := 31) (tgt := 32) hx hb dX3_placeAfter_1 (by decide) (by decide) (by decide) (by decide) ?_
    refine lv_iload_n hx hb dX3_placeAfter_32 rfl (lv_at hl 2 rfl) ?_
    refine lv_iload_n hx hb dX3_placeAfter_33 rfl (lv_at hl 1 rfl) ?_
    have hn : 1 ≤ n ∧ n ≤ 15 := by simpa [xwn] using hw
    by_cases hc : q < n
    · refine lv_icmp_ge (tgt := 46) hx hb dX3_placeAfter_34 (by decide) (fun c_ => absurd c_ (nI_ge hc (by omega))) (fun _ => ?_)
      refine lv_iload_n hx hb dX3_placeAfter_37 rfl (lv_at hl 2 rfl) ?_
      refine lv_bipush (v := nI 16) hx hb dX3_placeAfter_38 (by decide) ?_
      refine lv_iadd hx hb dX3_placeAfter_40 ?_
      refine lv_iload_n hx hb dX3_placeAfter_41 rfl (lv_at hl 1 rfl) ?_
      refine lv_isub hx hb dX3_placeAfter_42 ?_
      refine x_topi (y := nI (q + 16 - n)) (by rw [nI_add, pk_sub (by omega)]) ?_
      refine lv_goto (tgt := 49) hx hb dX3_placeAfter_43 (by decide) ?_
      exact W.iret (v := nI (q + 16 - n)) hx hb hr (fun t9_ ht hW => ⟨⟨nI (q + 16 - n), (), rfl, congrArg nI (show _ = (q + 16 - n) % 16 from (Nat.mod_eq_of_lt (by omega)).symm), x_at ht hP⟩, hS.F ht⟩) hS.2.2 dX3_placeAfter_49
    · refine lv_icmp_ge (tgt := 46) hx hb dX3_placeAfter_34 (by decide) (fun _ => ?_) (fun c_ => absurd (nI_le (by omega) (by omega)) c_)
      refine lv_iload_n hx hb dX3_placeAfter_46 rfl (lv_at hl 2 rfl) ?_
      refine lv_iload_n hx hb dX3_placeAfter_47 rfl (lv_at hl 1 rfl) ?_
      refine lv_isub hx hb dX3_placeAfter_48 ?_
      refine x_topi (y := nI (q - n)) (pk_sub (by omega)) ?_
      exact W.iret (v := nI (q - n)) hx hb hr (fun t9_ ht hW => ⟨⟨nI (q - n), (), rfl, congrArg nI (show _ = (q + 16 - n) % 16 by rw [show q + 16 - n = (q - n) + 16 by omega, Nat.add_mod_right, Nat.mod_eq_of_lt (by omega)]), x_at ht hP⟩, hS.F ht⟩) hS.2.2 dX3_placeAfter_49
  · refine lv_tableIn (off := 49) (tgt := 50) hx hb dX3_placeAfter_1 (by decide) (by decide) (by decide) (by decide) ?_
    refine lv_iload_n hx hb dX3_placeAfter_50 rfl (lv_at hl 2 rfl) ?_
    refine lv_bipush (v := nI 8) hx hb dX3_placeAfter_51 (by decide) ?_
    by_cases hc : q < 8
    · refine lv_icmp_ge (tgt := 62) hx hb dX3_placeAfter_53 (by decide) (fun c_ => absurd c_ (nI_ge hc (by decide))) (fun _ => ?_)
      refine lv_iconst (v := nI 2) hx hb dX3_placeAfter_56 (by decide) ?_
      refine lv_iload_n hx hb dX3_placeAfter_57 rfl (lv_at hl 2 rfl) ?_
      refine lv_imul hx hb dX3_placeAfter_58 ?_
      refine x_topi (y := nI (2 * q)) (pk_mul _ _) ?_
      refine lv_goto (tgt := 70) hx hb dX3_placeAfter_59 (by decide) ?_
      exact W.iret (v := nI (2 * q)) hx hb hr (fun t9_ ht hW => ⟨⟨nI (2 * q), (), rfl, congrArg nI (show _ = if q < 8 then 2 * q else 2 * q - 15 by rw [if_pos hc]), x_at ht hP⟩, hS.F ht⟩) hS.2.2 dX3_placeAfter_70
    · refine lv_icmp_ge (tgt := 62) hx hb dX3_placeAfter_53 (by decide) (fun _ => ?_) (fun c_ => absurd (nI_le (by omega) (by omega)) c_)
      refine lv_iconst (v := nI 2) hx hb dX3_placeAfter_62 (by decide) ?_
      refine lv_iload_n hx hb dX3_placeAfter_63 rfl (lv_at hl 2 rfl) ?_
      refine lv_bipush (v := nI 8) hx hb dX3_placeAfter_64 (by decide) ?_
      refine lv_isub hx hb dX3_placeAfter_66 ?_
      refine x_topi (y := nI (q - 8)) (pk_sub (by omega)) ?_
      refine lv_imul hx hb dX3_placeAfter_67 ?_
      refine x_topi (y := nI (2 * (q - 8))) (pk_mul _ _) ?_
      refine lv_iconst (v := nI 1) hx hb dX3_placeAfter_68 (by decide) ?_
      refine lv_iadd hx hb dX3_placeAfter_69 ?_
      refine x_topi (y := nI (2 * (q - 8) + 1)) (nI_add _ _) ?_
      exact W.iret (v := nI (2 * (q - 8) + 1)) hx hb hr (fun t9_ ht hW => ⟨⟨nI (2 * (q - 8) + 1), (), rfl, congrArg nI (show _ = if q < 8 then 2 * q else 2 * q - 15 by rw [if_neg hc]; omega), x_at ht hP⟩, hS.F ht⟩) hS.2.2 dX3_placeAfter_70
  · refine lv_tableIn (off := 70) (tgt := 71) hx hb dX3_placeAfter_1 (by decide) (by decide) (by decide) (by decide) ?_
    refine lv_iload_n hx hb dX3_placeAfter_71 rfl (lv_at hl 2 rfl) ?_
    refine lv_bipush (v := nI 8) hx hb dX3_placeAfter_72 (by decide) ?_
    by_cases hc : q < 8
    · refine lv_icmp_ge (tgt := 85) hx hb dX3_placeAfter_74 (by decide) (fun c_ => absurd c_ (nI_ge hc (by decide))) (fun _ => ?_)
      refine lv_iconst (v := nI 2) hx hb dX3_placeAfter_77 (by decide) ?_
      refine lv_iload_n hx hb dX3_placeAfter_78 rfl (lv_at hl 2 rfl) ?_
      refine lv_imul hx hb dX3_placeAfter_79 ?_
      refine x_topi (y := nI (2 * q)) (pk_mul _ _) ?_
      refine lv_iconst (v := nI 1) hx hb dX3_placeAfter_80 (by decide) ?_
      refine lv_iadd hx hb dX3_placeAfter_81 ?_
      refine x_topi (y := nI (2 * q + 1)) (nI_add _ _) ?_
      refine lv_goto (tgt := 91) hx hb dX3_placeAfter_82 (by decide) ?_
      exact W.iret (v := nI (2 * q + 1)) hx hb hr (fun t9_ ht hW => ⟨⟨nI (2 * q + 1), (), rfl, congrArg nI (show _ = if q < 8 then 2 * q + 1 else 2 * q - 16 by rw [if_pos hc]), x_at ht hP⟩, hS.F ht⟩) hS.2.2 dX3_placeAfter_91
    · refine lv_icmp_ge (tgt := 85) hx hb dX3_placeAfter_74 (by decide) (fun _ => ?_) (fun c_ => absurd (nI_le (by omega) (by omega)) c_)
      refine lv_iconst (v := nI 2) hx hb dX3_placeAfter_85 (by decide) ?_
      refine lv_iload_n hx hb dX3_placeAfter_86 rfl (lv_at hl 2 rfl) ?_
      refine lv_bipush (v := nI 8) hx hb dX3_placeAfter_87 (by decide) ?_
      refine lv_isub hx hb dX3_placeAfter_89 ?_
      refine x_topi (y := nI (q - 8)) (pk_sub (by omega)) ?_
      refine lv_imul hx hb dX3_placeAfter_90 ?_
      refine x_topi (y := nI (2 * (q - 8))) (pk_mul _ _) ?_
      exact W.iret (v := nI (2 * (q - 8))) hx hb hr (fun t9_ ht hW => ⟨⟨nI (2 * (q - 8)), (), rfl, congrArg nI (show _ = if q < 8 then 2 * q + 1 else 2 * q - 16 by rw [if_neg hc]; omega), x_at ht hP⟩, hS.F ht⟩) hS.2.2 dX3_placeAfter_91
  · refine lv_tableIn (off := 91) (tgt := 92) hx hb dX3_placeAfter_1 (by decide) (by decide) (by decide) (by decide) ?_
    refine lv_iload_n hx hb dX3_placeAfter_92 rfl (lv_at hl 2 rfl) ?_
    refine lv_iload_n hx hb dX3_placeAfter_93 rfl (lv_at hl 1 rfl) ?_
    have hn : 2 ≤ n ∧ n ≤ 16 := by simpa [xwn] using hw
    by_cases hc : q < n
    · refine lv_icmp_ge (tgt := 105) hx hb dX3_placeAfter_94 (by decide) (fun c_ => absurd c_ (nI_ge hc (by omega))) (fun _ => ?_)
      refine lv_iload_n hx hb dX3_placeAfter_97 rfl (lv_at hl 1 rfl) ?_
      refine lv_iconst (v := nI 1) hx hb dX3_placeAfter_98 (by decide) ?_
      refine lv_isub hx hb dX3_placeAfter_99 ?_
      refine x_topi (y := nI (n - 1)) (pk_sub (by omega)) ?_
      refine lv_iload_n hx hb dX3_placeAfter_100 rfl (lv_at hl 2 rfl) ?_
      refine lv_isub hx hb dX3_placeAfter_101 ?_
      refine x_topi (y := nI (n - 1 - q)) (pk_sub (by omega)) ?_
      refine lv_goto (tgt := 106) hx hb dX3_placeAfter_102 (by decide) ?_
      exact W.iret (v := nI (n - 1 - q)) hx hb hr (fun t9_ ht hW => ⟨⟨nI (n - 1 - q), (), rfl, congrArg nI (show _ = if q < n then n - 1 - q else q by rw [if_pos hc]), x_at ht hP⟩, hS.F ht⟩) hS.2.2 dX3_placeAfter_106
    · refine lv_icmp_ge (tgt := 105) hx hb dX3_placeAfter_94 (by decide) (fun _ => ?_) (fun c_ => absurd (nI_le (by omega) (by omega)) c_)
      refine lv_iload_n hx hb dX3_placeAfter_105 rfl (lv_at hl 2 rfl) ?_
      exact W.iret (v := nI q) hx hb hr (fun t9_ ht hW => ⟨⟨nI q, (), rfl, congrArg nI (show _ = if q < n then n - 1 - q else q by rw [if_neg hc]), x_at ht hP⟩, hS.F ht⟩) hS.2.2 dX3_placeAfter_106
  · refine lv_tableOut (tgt := 107) hx hb dX3_placeAfter_1 (by decide) (by decide) ?_
    refine lv_iload_n hx hb dX3_placeAfter_107 rfl (lv_at hl 2 rfl) ?_
    refine x_calli (va_runS (As := [.int (nI q)]) (rest := []) ⟨hx, hb, hml, hown, hts⟩ (c_X3_placeAfterDeal l G T s.heap.size q hq) (va_cwS 1 hts gX3_placeAfter_X3_placeAfterDeal rfl rfl rfl (by decide +kernel) ⟨Nat.le_of_ble_eq_true rfl, Nat.le_of_ble_eq_true rfl⟩) (x_preS (wc := []) hK hP hD hS hA hXB hZ [] rfl rfl _) rfl rfl hl.1 rfl (lv_room (Nat.le_of_ble_eq_true rfl)) dX3_placeAfter_108 ⟨Nat.le_of_ble_eq_true rfl, Nat.le_of_ble_eq_true rfl⟩) hP hD hS hA [] rfl (fun _ _ _ => rfl) (fun r1 u H locs hw1 hP hD hS => ?_)
    have hP : va_P G vwCl ([]) H := hP
    have hD : va_D A ([]) := hD
    exact W.iret (v := r1) hx hb hr (fun t9_ ht hW => ⟨⟨r1, (), rfl, hw1, x_at ht hP⟩, hS.F ht⟩) hS.2.2 dX3_placeAfter_111
end XL2
