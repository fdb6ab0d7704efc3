theorem x_arrc {ty : FieldType} {s : State} {args : Array Value} (h : (Cond.arrayClass ty).before args s = true) : ∃ cA : ClassId, ArrOfT s cA ty ∧ s.vm.findClass ("[" ++ ty.toString) = some cA := by
  obtain ⟨c, k, comp, h1, h2, h3⟩ := Cond.arrayClass_spec h
  exact ⟨c, fun n z => ⟨fun k h => (by cases h), k, h2, comp, h3⟩, h1⟩
theorem x_arro {C : String} {s : State} (h : va_AO C s) : ∃ cA : ClassId, ArrOfT s cA (.object C) ∧ va_RA s cA (.object C) := by
  obtain ⟨comp, c, k, h1, h2, h3, h4, h5⟩ := Cond.arrayOver_spec h
  exact ⟨c, fun n z => ⟨fun k h => (by cases h), k, h3, comp, h4⟩, k, comp, h3, h4, h1, h5⟩
theorem x_arra {ty : FieldType} {s : State} (h : va_AOA ty s) : ∃ cA : ClassId, ArrOfT s cA (.array ty) ∧ va_RA s cA (.array ty) := by
  obtain ⟨comp, c, k, h1, h2, h3, h4, h5⟩ := xao_spec h
  exact ⟨c, fun n z => ⟨fun k h => (by cases h), k, h3, comp, h4⟩, h5⟩
set_option maxHeartbeats 4000000 in
set_option maxRecDepth 100000 in
/-- what is known at the law's entry: the classes -/
theorem x_knownK {s : State} {args : Array Value} (hts : ∀ w ∈ lw_tbl, w.before args s = true) : ∃ (G : va_G) (T : Nat → ClassId), va_K G vwCl (xT T) s ∧ va_AO RX0 s ∧ va_AO RX2 s ∧ va_AOA .int s := by
  have o0 : va_AO RX0 s := va_AO.of (hts (.arrayOver (.object RX0)) (by decide +kernel))
  have o2 : va_AO RX2 s := va_AO.of (hts (.arrayOver (.object RX2)) (by decide +kernel))
  have oa : va_AOA .int s := hts (.arrayOver (.array .int)) (by decide +kernel)
  obtain ⟨c0, i0, k0⟩ := u_known (C := RX0) (T := TX0) (N := 2) (n := 2) hts (fun w hw => inX0 w ((by decide +kernel : ∀ w ∈ u_ws RX0 TX0 2, w ∈ wsX00) w hw)) (hts (.instantiable RX0 2) (by decide +kernel))
  obtain ⟨c1, i1, k1⟩ := u_known (C := RX1) (T := TX1) (N := 2) (n := 2) hts (fun w hw => inX1 w ((by decide +kernel : ∀ w ∈ u_ws RX1 TX1 2, w ∈ wsX10) w hw)) (hts (.instantiable RX1 2) (by decide +kernel))
  obtain ⟨c2, i2, k2⟩ := u_known (C := RX2) (T := TX2) (N := 4) (n := 4) hts (fun w hw => inX2 w ((by decide +kernel : ∀ w ∈ u_ws RX2 TX2 4, w ∈ wsX20) w hw)) (hts (.instantiable RX2 4) (by decide +kernel))
  obtain ⟨c3, i3, k3⟩ := u_known (C := RX3) (T := TX3) (N := 10) (n := 10) hts (fun w hw => inX3 w ((by decide +kernel : ∀ w ∈ u_ws RX3 TX3 10, w ∈ wsX30) w hw)) (hts (.instantiable RX3 10) (by decide +kernel))
  obtain ⟨c4, i4, k4⟩ := u_known (C := RX4) (T := TX4) (N := 14) (n := 14) hts (fun w hw => inX4 w ((by decide +kernel : ∀ w ∈ u_ws RX4 TX4 14, w ∈ wsX40) w hw)) (hts (.instantiable RX4 14) (by decide +kernel))
  obtain ⟨a0, f0, n0⟩ := x_arrc (hts (.arrayClass .int) (by decide +kernel))
  obtain ⟨a1, f1, n1⟩ := x_arro o0
  obtain ⟨a2, f2, n2⟩ := x_arro o2
  obtain ⟨a3, f3, n3⟩ := x_arra oa
  obtain ⟨a4, f4, n4⟩ := x_arrc (hts (.arrayClass .long) (by decide +kernel))
  refine ⟨(fun k => match k with | 0 => c0 | 1 => c1 | 2 => c2 | 3 => c3 | _ => c4, fun k => match k with | 0 => i0 | 1 => i1 | 2 => i2 | 3 => i3 | _ => i4), fun k => match k with | 0 => a0 | 1 => a1 | 2 => a2 | 3 => a3 | _ => a4, ⟨fun k q hq => ?_, fun k q hq => ?_⟩, o0, o2, oa⟩
  · match k, hq with
    | 0, hq => cases hq; exact k0
    | 1, hq => cases hq; exact k1
    | 2, hq => cases hq; exact k2
    | 3, hq => cases hq; exact k3
    | 4, hq => cases hq; exact k4
    | k + 5, hq => simp [vwCl] at hq
  · match k, hq with
    | 0, hq => cases hq; exact ⟨f0, n0⟩
    | 1, hq => cases hq; exact ⟨f1, n1⟩
    | 2, hq => cases hq; exact ⟨f2, n2⟩
    | 3, hq => cases hq; exact ⟨f3, n3⟩
    | 4, hq => cases hq; exact ⟨f4, n4⟩
    | k + 5, hq => simp at hq
set_option maxHeartbeats 4000000 in
theorem x_knownB {s : State} {args : Array Value} {G : va_G} {T : Nat → ClassId} (hts : ∀ w ∈ lw_tbl, w.before args s = true) (hgv : (Jvm.Cond.and given_1 narrow_1).before args s = true) (hK : va_K G vwCl (xT T) s) (o0 : va_AO RX0 s) (o2 : va_AO RX2 s) : xB s := by
  have hs := flat_of_before _ hgv
  have hcur : s.vm.findClass RX3 = some (G.1 3) := (hK.1 3 _ rfl).2.1
  refine ⟨fun w hw => va_Nw.of (xNW_ot w hw) (hts w ((by decide +kernel : ∀ w ∈ xNW, w ∈ lw_tbl) w hw)), fun q hq => ?_, fun q hq => ?_, o0, o2⟩
  · have h1 := hts (.stringRef RX3 q.1 q.2) ((by decide +kernel : ∀ q ∈ xStr, Cond.stringRef RX3 q.1 q.2 ∈ lw_tbl) q hq)
    obtain ⟨_, _, _, a, _, _, _, _, _, he⟩ := Cond.stringRef_spec hcur h1
    exact ⟨a, vk_R.of h1 he⟩
  · rcases (by simpa [xNc] using hq : q = _ ∨ q = _) with rfl | rfl
    · exact va_Nc.of (hs (.not (.castable "java/lang/IndexOutOfBoundsException" "java/lang/IllegalArgumentException")) (by decide +kernel))
    · exact va_Nc.of (hs (.not (.castable "java/lang/IllegalStateException" "java/lang/IllegalArgumentException")) (by decide +kernel))
set_option maxHeartbeats 4000000 in
theorem x_knownS {s : State} {args : Array Value} (hts : ∀ w ∈ lw_tbl, w.before args s = true) (hgv : (Jvm.Cond.and given_1 narrow_1).before args s = true) : xS (fun q : Nat => s.heap.size ≤ q) s s.heap := by
  have hs := flat_of_before _ hgv
  have hA : ∀ a : Nat, a < s.heap.size → ¬ (fun q : Nat => s.heap.size ≤ q) a := fun a h => Nat.not_le.mpr h
  refine ⟨vx_Zqof (hts (.laysStatic Bundle.tN "UNASSIGNED_STACK" Bundle.steD) (by decide +kernel)) (hts (.initialized Bundle.tN) (by decide +kernel)) (hs (.isRef (.static Bundle.tN "UNASSIGNED_STACK" Bundle.steD)) (by decide +kernel)) hA, vx_Zqof (hts (.laysStatic Bundle.tN "SUPPRESSED_SENTINEL" Bundle.listD) (by decide +kernel)) (hts (.initialized Bundle.tN) (by decide +kernel)) (hs (.isRef (.static Bundle.tN "SUPPRESSED_SENTINEL" Bundle.listD)) (by decide +kernel)) hA, ?_⟩
  obtain ⟨t, ht, hT⟩ := va_Tof (args := args) (s := s) (tm := .static "CardFansModel" "DEALT" "[I") (ty := .int) (N := 16) (f := fun j => .int (nI (xDt j))) (A := fun q : Nat => s.heap.size ≤ q) (by decide) (hs (.arrayOf (.static "CardFansModel" "DEALT" "[I") .int) (by decide +kernel)) (va_eqt (hs (.eq (.length (.static "CardFansModel" "DEALT" "[I")) (.int (Int32.ofNat 16))) (by decide +kernel))) (fun j hj => by
    rcases (show j = 0 ∨ j = 1 ∨ j = 2 ∨ j = 3 ∨ j = 4 ∨ j = 5 ∨ j = 6 ∨ j = 7 ∨ j = 8 ∨ j = 9 ∨ j = 10 ∨ j = 11 ∨ j = 12 ∨ j = 13 ∨ j = 14 ∨ j = 15 by omega) with rfl | rfl | rfl | rfl | rfl | rfl | rfl | rfl | rfl | rfl | rfl | rfl | rfl | rfl | rfl | rfl
    · exact va_eqt (z := nI (xDt 0)) (hs (.eq (.elem (.static "CardFansModel" "DEALT" "[I") (.int (Int32.ofNat 0))) (.int (nI (xDt 0)))) (by decide +kernel))
    · exact va_eqt (z := nI (xDt 1)) (hs (.eq (.elem (.static "CardFansModel" "DEALT" "[I") (.int (Int32.ofNat 1))) (.int (nI (xDt 1)))) (by decide +kernel))
    · exact va_eqt (z := nI (xDt 2)) (hs (.eq (.elem (.static "CardFansModel" "DEALT" "[I") (.int (Int32.ofNat 2))) (.int (nI (xDt 2)))) (by decide +kernel))
    · exact va_eqt (z := nI (xDt 3)) (hs (.eq (.elem (.static "CardFansModel" "DEALT" "[I") (.int (Int32.ofNat 3))) (.int (nI (xDt 3)))) (by decide +kernel))
    · exact va_eqt (z := nI (xDt 4)) (hs (.eq (.elem (.static "CardFansModel" "DEALT" "[I") (.int (Int32.ofNat 4))) (.int (nI (xDt 4)))) (by decide +kernel))
    · exact va_eqt (z := nI (xDt 5)) (hs (.eq (.elem (.static "CardFansModel" "DEALT" "[I") (.int (Int32.ofNat 5))) (.int (nI (xDt 5)))) (by decide +kernel))
    · exact va_eqt (z := nI (xDt 6)) (hs (.eq (.elem (.static "CardFansModel" "DEALT" "[I") (.int (Int32.ofNat 6))) (.int (nI (xDt 6)))) (by decide +kernel))
    · exact va_eqt (z := nI (xDt 7)) (hs (.eq (.elem (.static "CardFansModel" "DEALT" "[I") (.int (Int32.ofNat 7))) (.int (nI (xDt 7)))) (by decide +kernel))
    · exact va_eqt (z := nI (xDt 8)) (hs (.eq (.elem (.static "CardFansModel" "DEALT" "[I") (.int (Int32.ofNat 8))) (.int (nI (xDt 8)))) (by decide +kernel))
    · exact va_eqt (z := nI (xDt 9)) (hs (.eq (.elem (.static "CardFansModel" "DEALT" "[I") (.int (Int32.ofNat 9))) (.int (nI (xDt 9)))) (by decide +kernel))
    · exact va_eqt (z := nI (xDt 10)) (hs (.eq (.elem (.static "CardFansModel" "DEALT" "[I") (.int (Int32.ofNat 10))) (.int (nI (xDt 10)))) (by decide +kernel))
    · exact va_eqt (z := nI (xDt 11)) (hs (.eq (.elem (.static "CardFansModel" "DEALT" "[I") (.int (Int32.ofNat 11))) (.int (nI (xDt 11)))) (by decide +kernel))
    · exact va_eqt (z := nI (xDt 12)) (hs (.eq (.elem (.static "CardFansModel" "DEALT" "[I") (.int (Int32.ofNat 12))) (.int (nI (xDt 12)))) (by decide +kernel))
    · exact va_eqt (z := nI (xDt 13)) (hs (.eq (.elem (.static "CardFansModel" "DEALT" "[I") (.int (Int32.ofNat 13))) (.int (nI (xDt 13)))) (by decide +kernel))
    · exact va_eqt (z := nI (xDt 14)) (hs (.eq (.elem (.static "CardFansModel" "DEALT" "[I") (.int (Int32.ofNat 14))) (.int (nI (xDt 14)))) (by decide +kernel))
    · exact va_eqt (z := nI (xDt 15)) (hs (.eq (.elem (.static "CardFansModel" "DEALT" "[I") (.int (Int32.ofNat 15))) (.int (nI (xDt 15)))) (by decide +kernel))) hA
  exact ⟨t, va_Zof (hts (.laysStatic RX4 "DEALT" "[I") (by decide +kernel)) (hts (.initialized RX4) (by decide +kernel)) ht hA, hT⟩
theorem x_noTrace {l : Launch} (h : l.flags = flags0) : l.stackTraces = false := by
  unfold Launch.stackTraces
  rw [h]
  decide +kernel
