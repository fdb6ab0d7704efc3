theorem x_arrc {ty : FieldType} {s : State} {args : Array Value} (h : (Cond.arrayClass ty).before args s = true) : ∃ cA : ClassId, ArrOfT s cA ty ∧ s.vm.findClass ("[" ++ ty.toString) = some cA := by
  obtain ⟨c, k, comp, h1, h2, h3⟩ := Cond.arrayClass_spec h
  exact ⟨c, fun n z => ⟨fun k h => (by cases h), k, h2, comp, h3⟩, h1⟩
theorem x_arro {C : String} {s : State} (h : va_AO C s) : ∃ cA : ClassId, ArrOfT s cA (.object C) ∧ va_RA s cA (.object C) := by
  obtain ⟨comp, c, k, h1, h2, h3, h4, h5⟩ := Cond.arrayOver_spec h
  exact ⟨c, fun n z => ⟨fun k h => (by cases h), k, h3, comp, h4⟩, k, comp, h3, h4, h1, h5⟩
theorem x_arra {ty : FieldType} {s : State} (h : va_AOA ty s) : ∃ cA : ClassId, ArrOfT s cA (.array ty) ∧ va_RA s cA (.array ty) := by
  obtain ⟨comp, c, k, h1, h2, h3, h4, h5⟩ := xao_spec h
  exact ⟨c, fun n z => ⟨fun k h => (by cases h), k, h3, comp, h4⟩, h5⟩
set_option maxHeartbeats 4000000 in
set_option maxRecDepth 100000 in
/-- what is known at the law's entry: the classes -/
theorem x_knownK {s : State} {args : Array Value} (hts : ∀ w ∈ lw_tbl, w.before args s = true) : ∃ (G : va_G) (T : Nat → ClassId), va_K G vwCl (xT T) s ∧ va_AO RX0 s ∧ va_AO RX2 s ∧ va_AOA .int s := by
  have o0 : va_AO RX0 s := va_AO.of (hts (.arrayOver (.object RX0)) (by decide +kernel))
  have o2 : va_AO RX2 s := va_AO.of (hts (.arrayOver (.object RX2)) (by decide +kernel))
  have oa : va_AOA .int s := hts (.arrayOver (.array .int)) (by decide +kernel)
  obtain ⟨c0, i0, k0⟩ := u_known (C := RX0) (T := TX0) (N := 2) (n := 2) hts (fun w hw => inX0 w ((by decide +kernel : ∀ w ∈ u_ws RX0 TX0 2, w ∈ wsX00) w hw)) (hts (.instantiable RX0 2) (by decide +kernel))
  obtain ⟨c1, i1, k1⟩ := u_known (C := RX1) (T := TX1) (N := 2) (n := 2) hts (fun w hw => inX1 w ((by decide +kernel : ∀ w ∈ u_ws RX1 TX1 2, w ∈ wsX10) w hw)) (hts (.instantiable RX1 2) (by decide +kernel))
  obtain ⟨c2, i2, k2⟩ := u_known (C := RX2) (T := TX2) (N := 4) (n := 4) hts (fun w hw => inX2 w ((by decide +kernel : ∀ w ∈ u_ws RX2 TX2 4, w ∈ wsX20) w hw)) (hts (.instantiable RX2 4) (by decide +kernel))
  obtain ⟨c3, i3, k3⟩ := u_known (C := RX3) (T := TX3) (N := 10) (n := 10) hts (fun w hw => inX3 w ((by decide +kernel : ∀ w ∈ u_ws RX3 TX3 10, w ∈ wsX30) w hw)) (hts (.instantiable RX3 10) (by decide +kernel))
  obtain ⟨a0, f0, n0⟩ := x_arrc (hts (.arrayClass .int) (by decide +kernel))
  obtain ⟨a1, f1, n1⟩ := x_arro o0
  obtain ⟨a2, f2, n2⟩ := x_arro o2
  obtain ⟨a3, f3, n3⟩ := x_arra oa
  refine ⟨(fun k => match k with | 0 => c0 | 1 => c1 | 2 => c2 | _ => c3, fun k => match k with | 0 => i0 | 1 => i1 | 2 => i2 | _ => i3), fun k => match k with | 0 => a0 | 1 => a1 | 2 => a2 | _ => a3, ⟨fun k q hq => ?_, fun k q hq => ?_⟩, o0, o2, oa⟩
  · match k, hq with
    | 0, hq => cases hq; exact k0
    | 1, hq => cases hq; exact k1
    | 2, hq => cases hq; exact k2
    | 3, hq => cases hq; exact k3
    | k + 4, hq => simp [vwCl] at hq
  · match k, hq with
    | 0, hq => cases hq; exact ⟨f0, n0⟩
    | 1, hq => cases hq; exact ⟨f1, n1⟩
    | 2, hq => cases hq; exact ⟨f2, n2⟩
    | 3, hq => cases hq; exact ⟨f3, n3⟩
    | k + 4, hq => simp at hq
set_option maxHeartbeats 4000000 in
theorem x_knownB {s : State} {args : Array Value} {G : va_G} {T : Nat → ClassId} (hts : ∀ w ∈ lw_tbl, w.before args s = true) (hgv : (Jvm.Cond.and given_1 narrow_1).before args s = true) (hK : va_K G vwCl (xT T) s) (o0 : va_AO RX0 s) (o2 : va_AO RX2 s) : xB s := by
  have hs := flat_of_before _ hgv
  have hcur : s.vm.findClass RX3 = some (G.1 3) := (hK.1 3 _ rfl).2.1
  refine ⟨fun w hw => va_Nw.of (xNW_ot w hw) (hts w ((by decide +kernel : ∀ w ∈ xNW, w ∈ lw_tbl) w hw)), fun q hq => ?_, fun q hq => ?_, o0, o2⟩
  · have h1 := hts (.stringRef RX3 q.1 q.2) ((by decide +kernel : ∀ q ∈ xStr, Cond.stringRef RX3 q.1 q.2 ∈ lw_tbl) q hq)
    obtain ⟨_, _, _, a, _, _, _, _, _, he⟩ := Cond.stringRef_spec hcur h1
    exact ⟨a, vk_R.of h1 he⟩
  · exact absurd hq List.not_mem_nil
set_option maxHeartbeats 4000000 in
theorem x_knownS {s : State} {args : Array Value} (hts : ∀ w ∈ lw_tbl, w.before args s = true) (hgv : (Jvm.Cond.and given_1 narrow_1).before args s = true) : xS (fun q : Nat => s.heap.size ≤ q) s s.heap := by
  have hs := flat_of_before _ hgv
  have hA : ∀ a : Nat, a < s.heap.size → ¬ (fun q : Nat => s.heap.size ≤ q) a := fun a h => Nat.not_le.mpr h
  refine ⟨vx_Zqof (hts (.laysStatic Bundle.tN "UNASSIGNED_STACK" Bundle.steD) (by decide +kernel)) (hts (.initialized Bundle.tN) (by decide +kernel)) (hs (.isRef (.static Bundle.tN "UNASSIGNED_STACK" Bundle.steD)) (by decide +kernel)) hA, vx_Zqof (hts (.laysStatic Bundle.tN "SUPPRESSED_SENTINEL" Bundle.listD) (by decide +kernel)) (hts (.initialized Bundle.tN) (by decide +kernel)) (hs (.isRef (.static Bundle.tN "SUPPRESSED_SENTINEL" Bundle.listD)) (by decide +kernel)) hA, ?_⟩
  exact trivial
theorem x_noTrace {l : Launch} (h : l.flags = flags0) : l.stackTraces = false := by
  unfold Launch.stackTraces
  rw [h]
  decide +kernel
