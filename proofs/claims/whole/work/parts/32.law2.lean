section XLW
/-! THE CLAIM OUT OF ONE WALK OF THE LAW'S BODY. Your part is whole_start (and what it stands on); all else here is the same for every law, but numbers. -/
def R_law : String := "CardFansLaw"
def lw_P (b : Addr) (xs : List Int32) (args : Array Value) (s : State) : Prop := args = #[.ref b] ∧ s.IntsAt b xs ∧ xs.length ≤ 2048 ∧ (Jvm.Cond.and given_1 narrow_1).before args s = true
/-- what a walk over the start with the record d0 says of its end, said of the start itself -/
theorem lw_closed {s t : State} {o : Outcome} {d0 : Drawn} {L : List Loc} {k n : Nat} (hd0 : s.drawn.sameBut d0 lw_cs) (hv : ∃ v, o = .returned v) (hW : (s.setDrawn d0).WarmedH t.vm) (hs : (s.setDrawn d0).sameButNew ({ t with vm := s.vm } : State) L k n) : State.butDraws s t lw_cs (fun t1 => Framed s o t1 L k n) := by
  have h2 : t.drawn = d0 := congrArg State.drawn hs.1
  refine ⟨⟨hv, hW, State.sameButNew.setDrawn hs s.drawn⟩, ?_, by decide⟩
  rw [h2]
  exact hd0
def lw_Q (_ : Array Value) (s : State) (o : Outcome) (t : State) : Prop := o = .returned (some (.int 1)) ∧ State.butDraws s t lw_cs (fun t1 => Framed s o t1 [] 651071 7142890)
def lw_Z (below : List Frame) (a : Array Value) (s : State) : State → Prop := fun t => ∃ o, t.status = .running ∧ Ended t below o ∧ lw_Q a s o t
/-- the law's own end, with 1 on the stack, nothing written that was there before, its room as the claim has it; d0: the record of draws at this point (at the entry s.drawn: begin with 'refine W.base ?_' and 'have hd0 := Drawn.sameBut.refl s.drawn lw_cs') -/
theorem lw_ret {p : Program} {l : Launch} {e : Env} {s : State} {m : MethodId} {below : List Frame} {meth : Method} {c : Code} {b : Nat} {d0 : Drawn} (hd0 : s.drawn.sameBut d0 lw_cs) (hx : p.tables.exec = Jvm.exec) (hb : c.code = code) (hr : meth.sig.returnType = ret) (hlocks : meth.locks = false) {pc : Nat} {H : Heap} {ls : Array Slot} (hdg : decode code pc = .ok (.ireturn, 1)) : W p l e room_1 (s.setDrawn d0) m #[Value.ref b] below meth c H [] 651071 7142890 (lw_Z below #[Value.ref b] s) (F0 m pc ls [.int 1]) := by
  intro T hT X
  obtain ⟨fs, hret, hrun, hended, hW, hframe⟩ := X.leave (v := some (.int 1)) (hlocks := hlocks) (fun h => by rw [hr] at h; cases h)
  have hmeth' : T.vm.method? m = some meth := X.method'
  refine ⟨T.setFrames fs, ?_, .returned (some (.int 1)), hrun, hended, rfl, lw_closed hd0 ⟨_, rfl⟩ hW hframe⟩
  jvm_step X.here [X.here.top, hx, hb, hdg, hmeth', hr, ret, narrow_b1]
  (try refine ⟨rfl, ?_⟩); (try refine ⟨rfl, ?_⟩)
  first | (intro acts; rw [hret _ acts rfl rfl rfl]) | rw [hret _ _ rfl rfl rfl]
  exact Steps.refl _
/-- what holds at the law's entry: the machine, the code, the tables' words (any of lw_tbl by 'hts w (by decide +kernel)'), the script of L ints xs at the cell b, what the Statement gives of the start (any of its parts by flat_of_before) -/
def lw_At (p : Program) (s : State) (m : MethodId) (meth : Method) (c : Code) (b L : Nat) (xs : Nat → Int32) : Prop :=
  p.tables.exec = Jvm.exec ∧ c.code = code ∧ meth.sig.returnType = ret ∧ c.maxLocals = 9 ∧ s.vm.findClass R_law = some m.cls ∧ (∀ w ∈ lw_tbl, w.before #[Value.ref b] s = true) ∧ va_X b L xs s s.heap ∧ b < s.heap.size ∧ meth.locks = false ∧ (Jvm.Cond.and given_1 narrow_1).before #[Value.ref b] s = true
theorem x_lget2 {w1 w2 : va_W} {q : Nat × va_E} : ((w1 ++ [q]) ++ w2)[w1.length]? = some q := by
  rw [List.append_assoc, List.getElem?_append_right (Nat.le_refl _), Nat.sub_self]
  rfl
section
variable {p : Program} {l : Launch} {e : Env} {R : Room} {s : State} {m : MethodId} {args : Array Value} {below : List Frame} {meth : Method} {c : Code} {H : Heap} {locs : List Loc} {cells slots : Nat} {Q : State → Prop} {pc : Nat} {ls : Array Slot} {rest : List Value}
/-- two equal longs -/
theorem x_lcmp0 {cc : ByteArray} (hexec : p.tables.exec = Jvm.exec) (hb : c.code = cc) {x : Int64} (hdg : decode cc pc = .ok (.lcmp, 1))
    (k : W p l e R s m args below meth c H locs cells slots Q (F0 m (pc + 1) ls (.int 0 :: rest))) : W p l e R s m args below meth c H locs cells slots Q (F0 m pc ls (.long x :: .long x :: rest)) := by
  intro T hT X
  obtain ⟨t, a, b⟩ := k T hT X
  refine ⟨t, ?_, b⟩
  jvm_step X.here [X.here.top, hexec, hb, hdg]
  exact a
end
/-- one code of throwing -/
theorem xmeet1 {C : Bool} {r1 u2 r2 v : Int32} {h : Nat → Int64} (h1 : (C = true ∧ r1 = nI 0 ∧ h 0 = v.toInt64) ∨ (C = false ∧ r1 = nI 1)) (h2 : (C = true ∧ u2 = nI 0 ∧ r2 = v) ∨ (C = false ∧ u2 = nI 1)) : (r1 = nI 0 ∧ u2 = nI 0 ∧ h (nI 0).toNatClampNeg = r2.toInt64) ∨ (r1 = nI 1 ∧ u2 = nI 1) := by
  rcases h1 with ⟨a, b, d⟩ | ⟨a, b⟩ <;> rcases h2 with ⟨a2, b2, d2⟩ | ⟨a2, b2⟩
  · exact Or.inl ⟨b, b2, by rw [d2]; exact d⟩
  · rw [a] at a2; exact absurd a2 Bool.noConfusion
  · rw [a] at a2; exact absurd a2 Bool.noConfusion
  · exact Or.inr ⟨b, b2⟩
/-- what stands round the law -/
def xLC (p : Program) (l : Launch) (s : State) (m : MethodId) (meth : Method) (c : Code) (b L : Nat) (xs : Nat → Int32) (G : va_G) (T : Nat → ClassId) : Prop :=
  p.tables.exec = Jvm.exec ∧ c.code = cL_law ∧ meth.sig.returnType = ret ∧ c.maxLocals = 9 ∧ s.vm.findClass RL = some m.cls ∧ (∀ w ∈ wsL_law, w.before #[Value.ref b] s = true) ∧ va_X b L xs s s.heap ∧ b < s.heap.size ∧ meth.locks = false ∧ va_K G vwCl (xT T) s ∧ xB s ∧ xS (fun q : Nat => s.heap.size ≤ q) s s.heap ∧ L ≤ 2048 ∧ l.stackTraces = false
set_option maxHeartbeats 4000000 in
set_option maxRecDepth 100000 in
/-- the law: card -/
theorem lc_card {p : Program} {l : Launch} {e : Env} {s : State} {m : MethodId} {below : List Frame} {meth : Method} {c : Code} {G : va_G} {T : Nat → ClassId} {b L : Nat} {xs : Nat → Int32} (C0 : xLC p l s m meth c b L xs G T) (i j : Nat) (hi : i + 4 ≤ L) (hj : j < 512) (ad : Nat → Nat) (sc : Nat → Nat → Int32) (M : XM) (bd : Nat → Nat) (thr : Int32) (o0 : Nat) (h : Nat → Int64) (hI : xI M j) (ce sl : Nat) (hce : ce + 90 ≤ 651071) (hsl9 : sl + 547 ≤ 7142890) (H : Heap) (locs : List Loc) (hP : va_P G vwCl ((xC T ad sc M ++ [(o0, .inl (T 4, 1, .inr (.inl h)))]) ++ (xD T bd thr M)) H) (hD : va_D (fun q : Nat => s.heap.size ≤ q) ((xC T ad sc M ++ [(o0, .inl (T 4, 1, .inr (.inl h)))]) ++ (xD T bd thr M))) (hS : va_S (fun q : Nat => s.heap.size ≤ q) s.heap H locs) (ls : Array Slot) (hl : lv_has ls 9 [(0, .ref b), (1, .ref (ad 0)), (2, .ref (bd 0)), (3, .ref o0), (4, .int (nI i))]) (kk : ∀ (ad1 : Nat → Nat) (sc1 : Nat → Nat → Int32) (M1 : XM) (thr1 : Int32) (h1 : Nat → Int64) (H1 : Heap) (locs1 : List Loc), ad1 0 = ad 0 → xI M1 (j + 1) → va_P G vwCl ((xC T ad1 sc1 M1 ++ [(o0, .inl (T 4, 1, .inr (.inl h1)))]) ++ (xD T bd thr1 M1)) H1 → va_D (fun q : Nat => s.heap.size ≤ q) ((xC T ad1 sc1 M1 ++ [(o0, .inl (T 4, 1, .inr (.inl h1)))]) ++ (xD T bd thr1 M1)) → va_S (fun q : Nat => s.heap.size ≤ q) s.heap H1 locs1 → ∀ ls1 : Array Slot, lv_has ls1 9 [(0, .ref b), (1, .ref (ad 0)), (2, .ref (bd 0)), (3, .ref o0), (4, .int (nI i))] → W p l e room_1 s m #[Value.ref b] below meth c H1 locs1 (ce + 90) (sl + 547) (lw_Z below #[Value.ref b] s) (F0 m 1431 ls1 [])) : W p l e room_1 s m #[Value.ref b] below meth c H locs ce sl (lw_Z below #[Value.ref b] s) (F0 m 368 ls []) := by
  obtain ⟨hx, hb, hr, hml, hown, hts, hX, hbl, hlocks, hK, hXB, hZ, hL9, hsl⟩ := C0
  have hA : ∀ q : Nat, s.heap.size ≤ q → (fun q : Nat => s.heap.size ≤ q) q := fun _ h => h
  have hbA : ¬ (fun q : Nat => s.heap.size ≤ q) b := Nat.not_le.mpr hbl
  obtain ⟨hn4, hm4, hpk, hsur, hsh, hth, hz0, hhb, hle, hta, hj5⟩ := id hI
  generalize hAe : (fun q : Nat => s.heap.size ≤ q) = A at hA hbA hZ hD hS kk
  refine lv_aload_n hx hb dL_law_368 rfl (lv_at hl 1 rfl) ?_
  refine lv_aload_n hx hb dL_law_369 rfl (lv_at hl 0 rfl) ?_
  refine lv_iload hx hb dL_law_370 (lv_at hl 4 rfl) ?_
  refine lv_iconst (v := nI 1) hx hb dL_law_372 (by decide) ?_
  refine lv_iadd hx hb dL_law_373 ?_
  refine x_topi (y := nI (i + 1)) (nI_add _ _) ?_
  refine va_sld hx hb hX hbl hbA hS (vp_in_nI (n := i + 1) (N := L) (by omega) (by omega)) dL_law_374 ?_
  refine x_topi (y := (xs (i + 1))) (by rw [nI_clamp (by omega)]) ?_
  refine lv_aload_n hx hb dL_law_375 rfl (lv_at hl 3 rfl) ?_
  refine x_calliA (vx_runSW (As := [.ref (ad 0), .int (xs (i + 1)), .ref o0]) (rest := []) ⟨hx, hb, hml, hown, hts⟩ (c_L_card l hsl G T _ ad sc M o0 h (xs (i + 1)) ) (vx_cwSW 3 hts gL_law_L_card rfl rfl rfl (by decide +kernel) ⟨Nat.le_of_ble_eq_true rfl, Nat.le_of_ble_eq_true rfl⟩) (x_preSA (wc := (xC T ad sc M ++ [(o0, .inl (T 4, 1, .inr (.inl h)))])) (wr := (xD T bd thr M)) hK hP hD hS hA hXB hZ _) rfl rfl hl.1 rfl (lv_room (Nat.le_of_ble_eq_true rfl)) dL_law_376 ⟨show ce + 1 ≤ 651071 by omega, show sl + 6 ≤ 7142890 by omega⟩) hP hD hS hA (fun _ _ hw => hw.2.2) (fun r1 u1 H locs hw1 hP hD hS => ?_)
  have hP : va_P G vwCl ((xC T u1.1 u1.2.1 M ++ [(o0, .inl (T 4, 1, .inr (.inl u1.2.2)))]) ++ (xD T bd thr M)) H := hP
  have hD : va_D A ((xC T u1.1 u1.2.1 M ++ [(o0, .inl (T 4, 1, .inr (.inl u1.2.2)))]) ++ (xD T bd thr M)) := hD
  refine lv_istore (lv' := [(5, .int r1), (0, .ref b), (1, .ref (ad 0)), (2, .ref (bd 0)), (3, .ref o0), (4, .int (nI i))]) hx hb dL_law_379 hl (by decide) rfl (fun ls hl => ?_)
  refine lv_aload_n hx hb dL_law_381 rfl (lv_at hl 3 rfl) ?_
  refine lv_aload_n hx hb dL_law_382 rfl (lv_at hl 1 rfl) ?_
  refine lv_iload hx hb dL_law_383 (lv_at hl 5 rfl) ?_
  refine lv_iconst (v := nI 1) hx hb dL_law_385 (by decide) ?_
  refine lv_iadd hx hb dL_law_386 ?_
  refine x_topi (y := nI (i + 1)) (nI_add _ _) ?_
  refine va_sld hx hb hX hbl hbA hS (vp_in_nI (n := i + 1) (N := L) (by omega) (by omega)) dL_law_387 ?_
  refine x_topi (y := (xs (i + 1))) (by rw [nI_clamp (by omega)]) ?_
  have hP := xp_perm (List.perm_append_comm (l₁ := (xC T u1.1 u1.2.1 M ++ [(o0, .inl (T 4, 1, .inr (.inl u1.2.2)))])) (l₂ := (xD T bd thr M))) hP
  have hD := xd_perm (List.perm_append_comm (l₁ := (xC T u1.1 u1.2.1 M ++ [(o0, .inl (T 4, 1, .inr (.inl u1.2.2)))])) (l₂ := (xD T bd thr M))) hD
  refine x_calliA (va_runV (As := [.int (xs (i + 1))]) (rest := []) ⟨hx, hb, hml, hown, hts⟩ (c_X4_card l G T _ bd thr M (xs (i + 1)) ) (cwV 1 hts gL_law_X4_card rfl rfl rfl (by decide +kernel) ⟨Nat.le_of_ble_eq_true rfl, Nat.le_of_ble_eq_true rfl⟩) (x_preVA (wc := (xD T bd thr M)) (wr := (xC T u1.1 u1.2.1 M ++ [(o0, .inl (T 4, 1, .inr (.inl u1.2.2)))])) hK hP hD hS hA hXB hZ _ _ 0 4 rfl rfl) rfl rfl hl.1 rfl (lv_room (Nat.le_of_ble_eq_true rfl)) dL_law_388 ⟨show (ce + 1) + 0 ≤ 651071 by omega, show (sl + 6) + 0 ≤ 7142890 by omega⟩) hP hD hS hA (fun _ _ _ => xd_self rfl (xd_l hD)) (fun r2 u2 H locs hw2 hP hD hS => ?_)
  have hP : va_P G vwCl ((xD T bd u2 M) ++ (xC T u1.1 u1.2.1 M ++ [(o0, .inl (T 4, 1, .inr (.inl u1.2.2)))])) H := hP
  have hD : va_D A ((xD T bd u2 M) ++ (xC T u1.1 u1.2.1 M ++ [(o0, .inl (T 4, 1, .inr (.inl u1.2.2)))])) := hD
  refine lv_istore (lv' := [(6, .int r2), (5, .int r1), (0, .ref b), (1, .ref (ad 0)), (2, .ref (bd 0)), (3, .ref o0), (4, .int (nI i))]) hx hb dL_law_391 hl (by decide) rfl (fun ls hl => ?_)
  refine lv_aload_n hx hb dL_law_393 rfl (lv_at hl 4 rfl) ?_
  refine x_calliA (va_runV (As := []) (rest := []) ⟨hx, hb, hml, hown, hts⟩ (c_X4_thrown l G T _ bd u2 M) (cwV 0 hts gL_law_X4_thrown rfl rfl rfl (by decide +kernel) ⟨Nat.le_of_ble_eq_true rfl, Nat.le_of_ble_eq_true rfl⟩) (x_preVA (wc := (xD T bd u2 M)) (wr := (xC T u1.1 u1.2.1 M ++ [(o0, .inl (T 4, 1, .inr (.inl u1.2.2)))])) hK hP hD hS hA hXB hZ _ _ 0 4 rfl rfl) rfl rfl hl.1 rfl (lv_room (Nat.le_of_ble_eq_true rfl)) dL_law_394 ⟨show ((ce + 1) + 0) + 0 ≤ 651071 by omega, show ((sl + 6) + 0) + 0 ≤ 7142890 by omega⟩) hP hD hS hA (fun _ _ _ => xd_self rfl (xd_l hD)) (fun r3 u3 H locs hw3 hP hD hS => ?_)
  have hP : va_P G vwCl ((xD T bd u2 M) ++ (xC T u1.1 u1.2.1 M ++ [(o0, .inl (T 4, 1, .inr (.inl u1.2.2)))])) H := hP
  have hD : va_D A ((xD T bd u2 M) ++ (xC T u1.1 u1.2.1 M ++ [(o0, .inl (T 4, 1, .inr (.inl u1.2.2)))])) := hD
  refine x_topi (y := u2) (hw3) ?_
  have hP := xp_perm (List.perm_append_comm (l₁ := (xD T bd u2 M)) (l₂ := (xC T u1.1 u1.2.1 M ++ [(o0, .inl (T 4, 1, .inr (.inl u1.2.2)))]))) hP
  have hD := xd_perm (List.perm_append_comm (l₁ := (xD T bd u2 M)) (l₂ := (xC T u1.1 u1.2.1 M ++ [(o0, .inl (T 4, 1, .inr (.inl u1.2.2)))]))) hD
  obtain ⟨hw1, hx1, hy1⟩ := hw1
  refine lv_iload hx hb dL_law_397 (lv_at hl 1 rfl) ?_
  rcases (show (r1 = nI 0 ∧ u2 = nI 0 ∧ u1.2.2 (nI 0).toNatClampNeg = r2.toInt64) ∨ (r1 = nI 1 ∧ u2 = nI 1) from xmeet1 hw1 hw2) with ⟨rfl, rfl, hk3⟩ | ⟨rfl, rfl⟩
  · refine lv_icmp_eq (tgt := 404) hx hb dL_law_399 (by decide) (fun _ => ?_) (fun c_ => absurd (rfl) c_)
    refine lv_iload hx hb dL_law_404 (lv_at hl 1 rfl) ?_
    refine lv_if_ne (tgt := 421) hx hb dL_law_406 (by decide) (fun c_ => absurd (rfl) c_) (fun _ => ?_)
    refine lv_aload_n hx hb dL_law_409 rfl (lv_at hl 5 rfl) ?_
    refine lv_iconst (v := nI 0) hx hb dL_law_410 (by decide) ?_
    refine va_lald hx hb hK hP (xC T u1.1 u1.2.1 M).length 4 x_lget2 rfl (vp_in_nI (n := 0) (N := 1) (by decide) (by decide)) dL_law_411 ?_
    refine x_topl (y := r2.toInt64) (hk3) ?_
    refine lv_iload hx hb dL_law_412 (lv_at hl 0 rfl) ?_
    refine lv_i2l hx hb dL_law_414 rfl ?_
    refine x_lcmp0 hx hb dL_law_415 ?_
    refine lv_if_eq (tgt := 421) hx hb dL_law_416 (by decide) (fun _ => ?_) (fun c_ => absurd (rfl) c_)
    refine lv_goto (tgt := 1431) hx hb dL_law_421 (by decide) ?_
    refine W.widen (k := ce + 90) (n := sl + 547) (by omega) (by omega) ?_
    exact kk _ _ _ _ _ _ _ hx1 (xI_s hI hj) hP hD hS ls (lv_sub hl [2, 3, 4, 5, 6] rfl)
  · refine lv_icmp_eq (tgt := 404) hx hb dL_law_399 (by decide) (fun _ => ?_) (fun c_ => absurd (rfl) c_)
    refine lv_iload hx hb dL_law_404 (lv_at hl 1 rfl) ?_
    refine lv_if_ne (tgt := 421) hx hb dL_law_406 (by decide) (fun _ => ?_) (fun c_ => absurd c_ (by decide))
    refine lv_goto (tgt := 1431) hx hb dL_law_421 (by decide) ?_
    refine W.widen (k := ce + 90) (n := sl + 547) (by omega) (by omega) ?_
    exact kk _ _ _ _ _ _ _ hx1 (xI_s hI hj) hP hD hS ls (lv_sub hl [2, 3, 4, 5, 6] rfl)
end XLW
