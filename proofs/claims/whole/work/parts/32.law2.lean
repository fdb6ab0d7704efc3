section XLW
/-! THE CLAIM OUT OF ONE WALK OF THE LAW'S BODY. Your part is whole_start (and what it stands on); all else here is the same for every law, but numbers. -/
def R_law : String := "CardFansLaw"
def lw_P (b : Addr) (xs : List Int32) (args : Array Value) (s : State) : Prop := args = #[.ref b] ∧ s.IntsAt b xs ∧ xs.length ≤ 2048 ∧ (Jvm.Cond.and given_1 narrow_1).before args s = true
/-- what a walk over the start with the record d0 says of its end, said of the start itself -/
theorem lw_closed {s t : State} {o : Outcome} {d0 : Drawn} {L : List Loc} {k n : Nat} (hd0 : s.drawn.sameBut d0 lw_cs) (hv : ∃ v, o = .returned v) (hW : (s.setDrawn d0).WarmedH t.vm) (hs : (s.setDrawn d0).sameButNew ({ t with vm := s.vm } : State) L k n) : State.butDraws s t lw_cs (fun t1 => Framed s o t1 L k n) := by
  have h2 : t.drawn = d0 := congrArg State.drawn hs.1
  refine ⟨⟨hv, hW, State.sameButNew.setDrawn hs s.drawn⟩, ?_, by decide⟩
  rw [h2]
  exact hd0
def lw_Q (_ : Array Value) (s : State) (o : Outcome) (t : State) : Prop := o = .returned (some (.int 1)) ∧ State.butDraws s t lw_cs (fun t1 => Framed s o t1 [] 651071 7142890)
def lw_Z (below : List Frame) (a : Array Value) (s : State) : State → Prop := fun t => ∃ o, t.status = .running ∧ Ended t below o ∧ lw_Q a s o t
/-- the law's own end, with 1 on the stack, nothing written that was there before, its room as the claim has it; d0: the record of draws at this point (at the entry s.drawn: begin with 'refine W.base ?_' and 'have hd0 := Drawn.sameBut.refl s.drawn lw_cs') -/
theorem lw_ret {p : Program} {l : Launch} {e : Env} {s : State} {m : MethodId} {below : List Frame} {meth : Method} {c : Code} {b : Nat} {d0 : Drawn} (hd0 : s.drawn.sameBut d0 lw_cs) (hx : p.tables.exec = Jvm.exec) (hb : c.code = code) (hr : meth.sig.returnType = ret) (hlocks : meth.locks = false) {pc : Nat} {H : Heap} {ls : Array Slot} (hdg : decode code pc = .ok (.ireturn, 1)) : W p l e room_1 (s.setDrawn d0) m #[Value.ref b] below meth c H [] 651071 7142890 (lw_Z below #[Value.ref b] s) (F0 m pc ls [.int 1]) := by
  intro T hT X
  obtain ⟨fs, hret, hrun, hended, hW, hframe⟩ := X.leave (v := some (.int 1)) (hlocks := hlocks) (fun h => by rw [hr] at h; cases h)
  have hmeth' : T.vm.method? m = some meth := X.method'
  refine ⟨T.setFrames fs, ?_, .returned (some (.int 1)), hrun, hended, rfl, lw_closed hd0 ⟨_, rfl⟩ hW hframe⟩
  jvm_step X.here [X.here.top, hx, hb, hdg, hmeth', hr, ret, narrow_b1]
  (try refine ⟨rfl, ?_⟩); (try refine ⟨rfl, ?_⟩)
  first | (intro acts; rw [hret _ acts rfl rfl rfl]) | rw [hret _ _ rfl rfl rfl]
  exact Steps.refl _
/-- what holds at the law's entry: the machine, the code, the tables' words (any of lw_tbl by 'hts w (by decide +kernel)'), the script of L ints xs at the cell b, what the Statement gives of the start (any of its parts by flat_of_before) -/
def lw_At (p : Program) (s : State) (m : MethodId) (meth : Method) (c : Code) (b L : Nat) (xs : Nat → Int32) : Prop :=
  p.tables.exec = Jvm.exec ∧ c.code = code ∧ meth.sig.returnType = ret ∧ c.maxLocals = 9 ∧ s.vm.findClass R_law = some m.cls ∧ (∀ w ∈ lw_tbl, w.before #[Value.ref b] s = true) ∧ va_X b L xs s s.heap ∧ b < s.heap.size ∧ meth.locks = false ∧ (Jvm.Cond.and given_1 narrow_1).before #[Value.ref b] s = true
theorem x_lget2 {w1 w2 : va_W} {q : Nat × va_E} : ((w1 ++ [q]) ++ w2)[w1.length]? = some q := by
  rw [List.append_assoc, List.getElem?_append_right (Nat.le_refl _), Nat.sub_self]
  rfl
section
variable {p : Program} {l : Launch} {e : Env} {R : Room} {s : State} {m : MethodId} {args : Array Value} {below : List Frame} {meth : Method} {c : Code} {H : Heap} {locs : List Loc} {cells slots : Nat} {Q : State → Prop} {pc : Nat} {ls : Array Slot} {rest : List Value}
/-- two equal longs -/
theorem x_lcmp0 {cc : ByteArray} (hexec : p.tables.exec = Jvm.exec) (hb : c.code = cc) {x : Int64} (hdg : decode cc pc = .ok (.lcmp, 1))
    (k : W p l e R s m args below meth c H locs cells slots Q (F0 m (pc + 1) ls (.int 0 :: rest))) : W p l e R s m args below meth c H locs cells slots Q (F0 m pc ls (.long x :: .long x :: rest)) := by
  intro T hT X
  obtain ⟨t, a, b⟩ := k T hT X
  refine ⟨t, ?_, b⟩
  jvm_step X.here [X.here.top, hexec, hb, hdg]
  exact a
end
/-- one code of throwing -/
theorem xmeetP {P N : Prop} (hPN : P → ¬ N) {r1 u2 r2 v : Int32} {h : Nat → Int64} (h1 : (P ∧ r1 = nI 0 ∧ h 0 = v.toInt64) ∨ (N ∧ r1 = nI 1)) (h2 : (P ∧ u2 = nI 0 ∧ r2 = v) ∨ (N ∧ u2 = nI 1)) : (r1 = nI 0 ∧ u2 = nI 0 ∧ h (nI 0).toNatClampNeg = r2.toInt64) ∨ (r1 = nI 1 ∧ u2 = nI 1) := by
  rcases h1 with ⟨a, b, d⟩ | ⟨a, b⟩ <;> rcases h2 with ⟨a2, b2, d2⟩ | ⟨a2, b2⟩
  · exact Or.inl ⟨b, b2, by rw [d2]; exact d⟩
  · exact absurd a2 (hPN a)
  · exact absurd a (hPN a2)
  · exact Or.inr ⟨b, b2⟩
theorem xmeet1 {C : Bool} {r1 u2 r2 v : Int32} {h : Nat → Int64} (h1 : (C = true ∧ r1 = nI 0 ∧ h 0 = v.toInt64) ∨ (C = false ∧ r1 = nI 1)) (h2 : (C = true ∧ u2 = nI 0 ∧ r2 = v) ∨ (C = false ∧ u2 = nI 1)) : (r1 = nI 0 ∧ u2 = nI 0 ∧ h (nI 0).toNatClampNeg = r2.toInt64) ∨ (r1 = nI 1 ∧ u2 = nI 1) :=
  xmeetP (fun e => by rw [e]; exact Bool.noConfusion) h1 h2
/-- two codes -/
theorem xmeet2 {C : Bool} {P N : Prop} (hPN : P → ¬ N) {r1 u2 r2 v : Int32} {h : Nat → Int64} (h1 : ((C = true ∧ P) ∧ r1 = nI 0 ∧ h 0 = v.toInt64) ∨ (C = false ∧ r1 = nI 1) ∨ ((C = true ∧ N) ∧ r1 = nI 2)) (h2 : (C = true ∧ P ∧ u2 = nI 0 ∧ r2 = v) ∨ (C = false ∧ u2 = nI 1) ∨ (C = true ∧ N ∧ u2 = nI 2)) : (r1 = nI 0 ∧ u2 = nI 0 ∧ h (nI 0).toNatClampNeg = r2.toInt64) ∨ (r1 = nI 1 ∧ u2 = nI 1) ∨ (r1 = nI 2 ∧ u2 = nI 2) := by
  have hb : ∀ {D : Prop}, C = true → C = false → D := fun a b => by rw [a] at b; exact Bool.noConfusion b
  rcases h1 with ⟨⟨a, a'⟩, b, d⟩ | ⟨a, b⟩ | ⟨⟨a, a'⟩, b⟩ <;> rcases h2 with ⟨a2, a2', b2, d2⟩ | ⟨a2, b2⟩ | ⟨a2, a2', b2⟩
  · exact Or.inl ⟨b, b2, by rw [d2]; exact d⟩
  · exact hb a a2
  · exact absurd a2' (hPN a')
  · exact hb a2 a
  · exact Or.inr (Or.inl ⟨b, b2⟩)
  · exact hb a2 a
  · exact absurd a' (hPN a2')
  · exact hb a a2
  · exact Or.inr (Or.inr ⟨b, b2⟩)
/-- what stands round the law -/
def xLC (p : Program) (l : Launch) (s : State) (m : MethodId) (meth : Method) (c : Code) (b L : Nat) (xs : Nat → Int32) (G : va_G) (T : Nat → ClassId) : Prop :=
  p.tables.exec = Jvm.exec ∧ c.code = cL_law ∧ meth.sig.returnType = ret ∧ c.maxLocals = 9 ∧ s.vm.findClass RL = some m.cls ∧ (∀ w ∈ wsL_law, w.before #[Value.ref b] s = true) ∧ va_X b L xs s s.heap ∧ b < s.heap.size ∧ meth.locks = false ∧ va_K G vwCl (xT T) s ∧ xB s ∧ xS (fun q : Nat => s.heap.size ≤ q) s s.heap ∧ L ≤ 2048 ∧ l.stackTraces = false
set_option maxHeartbeats 4000000 in
set_option maxRecDepth 100000 in
/-- the law: go -/
theorem lc_go {p : Program} {l : Launch} {e : Env} {s : State} {m : MethodId} {below : List Frame} {meth : Method} {c : Code} {G : va_G} {T : Nat → ClassId} {b L : Nat} {xs : Nat → Int32} (C0 : xLC p l s m meth c b L xs G T) (i j : Nat) (hi : i + 4 ≤ L) (hj : j < 512) (ad : Nat → Nat) (sc : Nat → Nat → Int32) (M : XM) (bd : Nat → Nat) (thr : Int32) (o0 : Nat) (h : Nat → Int64) (hI : xI M j) (ce sl : Nat) (hce : ce + 90 ≤ 651071) (hsl9 : sl + 547 ≤ 7142890) (H : Heap) (locs : List Loc) (hP : va_P G vwCl ((xC T ad sc M ++ [(o0, .inl (T 4, 1, .inr (.inl h)))]) ++ (xD T bd thr M)) H) (hD : va_D (fun q : Nat => s.heap.size ≤ q) ((xC T ad sc M ++ [(o0, .inl (T 4, 1, .inr (.inl h)))]) ++ (xD T bd thr M))) (hS : va_S (fun q : Nat => s.heap.size ≤ q) s.heap H locs) (ls : Array Slot) (hl : lv_has ls 9 [(0, .ref b), (1, .ref (ad 0)), (2, .ref (bd 0)), (3, .ref o0), (4, .int (nI i))]) (kk : ∀ (ad1 : Nat → Nat) (sc1 : Nat → Nat → Int32) (M1 : XM) (thr1 : Int32) (h1 : Nat → Int64) (H1 : Heap) (locs1 : List Loc), ad1 0 = ad 0 → xI M1 (j + 1) → va_P G vwCl ((xC T ad1 sc1 M1 ++ [(o0, .inl (T 4, 1, .inr (.inl h1)))]) ++ (xD T bd thr1 M1)) H1 → va_D (fun q : Nat => s.heap.size ≤ q) ((xC T ad1 sc1 M1 ++ [(o0, .inl (T 4, 1, .inr (.inl h1)))]) ++ (xD T bd thr1 M1)) → va_S (fun q : Nat => s.heap.size ≤ q) s.heap H1 locs1 → ∀ ls1 : Array Slot, lv_has ls1 9 [(0, .ref b), (1, .ref (ad 0)), (2, .ref (bd 0)), (3, .ref o0), (4, .int (nI i))] → W p l e room_1 s m #[Value.ref b] below meth c H1 locs1 (ce + 90) (sl + 547) (lw_Z below #[Value.ref b] s) (F0 m 1431 ls1 [])) : W p l e room_1 s m #[Value.ref b] below meth c H locs ce sl (lw_Z below #[Value.ref b] s) (F0 m 136 ls []) := by
  obtain ⟨hx, hb, hr, hml, hown, hts, hX, hbl, hlocks, hK, hXB, hZ, hL9, hsl⟩ := C0
  have hA : ∀ q : Nat, s.heap.size ≤ q → (fun q : Nat => s.heap.size ≤ q) q := fun _ h => h
  have hbA : ¬ (fun q : Nat => s.heap.size ≤ q) b := Nat.not_le.mpr hbl
  obtain ⟨hn4, hm4, hpk, hsur, hsh, hth, hz0, hhb, hle, hta, hj5⟩ := id hI
  generalize hAe : (fun q : Nat => s.heap.size ≤ q) = A at hA hbA hZ hD hS kk
  refine lv_aload_n hx hb dL_law_136 rfl (lv_at hl 1 rfl) ?_
  refine lv_aload_n hx hb dL_law_137 rfl (lv_at hl 0 rfl) ?_
  refine lv_iload hx hb dL_law_138 (lv_at hl 4 rfl) ?_
  refine lv_iconst (v := nI 1) hx hb dL_law_140 (by decide) ?_
  refine lv_iadd hx hb dL_law_141 ?_
  refine x_topi (y := nI (i + 1)) (nI_add _ _) ?_
  refine va_sld hx hb hX hbl hbA hS (vp_in_nI (n := i + 1) (N := L) (by omega) (by omega)) dL_law_142 ?_
  refine x_topi (y := (xs (i + 1))) (by rw [nI_clamp (by omega)]) ?_
  refine lv_aload_n hx hb dL_law_143 rfl (lv_at hl 0 rfl) ?_
  refine lv_iload hx hb dL_law_144 (lv_at hl 4 rfl) ?_
  refine lv_iconst (v := nI 2) hx hb dL_law_146 (by decide) ?_
  refine lv_iadd hx hb dL_law_147 ?_
  refine x_topi (y := nI (i + 2)) (nI_add _ _) ?_
  refine va_sld hx hb hX hbl hbA hS (vp_in_nI (n := i + 2) (N := L) (by omega) (by omega)) dL_law_148 ?_
  refine x_topi (y := (xs (i + 2))) (by rw [nI_clamp (by omega)]) ?_
  refine lv_aload_n hx hb dL_law_149 rfl (lv_at hl 0 rfl) ?_
  refine lv_iload hx hb dL_law_150 (lv_at hl 4 rfl) ?_
  refine lv_iconst (v := nI 3) hx hb dL_law_152 (by decide) ?_
  refine lv_iadd hx hb dL_law_153 ?_
  refine x_topi (y := nI (i + 3)) (nI_add _ _) ?_
  refine va_sld hx hb hX hbl hbA hS (vp_in_nI (n := i + 3) (N := L) (by omega) (by omega)) dL_law_154 ?_
  refine x_topi (y := (xs (i + 3))) (by rw [nI_clamp (by omega)]) ?_
  refine lv_if_eq (tgt := 162) hx hb dL_law_155 (by decide) (fun c0 => ?_) (fun c0 => ?_)
  · refine lv_iconst (v := nI 0) hx hb dL_law_162 (by decide) ?_
    refine lv_aload_n hx hb dL_law_163 rfl (lv_at hl 3 rfl) ?_
    refine x_calliA (vx_runSW (As := [.ref (ad 0), .int (xs (i + 1)), .int (xs (i + 2)), .int (nI 0), .ref o0]) (rest := []) ⟨hx, hb, hml, hown, hts⟩ (c_L_go l hsl G T _ ad sc M o0 h (xs (i + 1)) (xs (i + 2)) (nI 0) hn4) (vx_cwSW 5 hts gL_law_L_go rfl rfl rfl (by decide +kernel) ⟨Nat.le_of_ble_eq_true rfl, Nat.le_of_ble_eq_true rfl⟩) (x_preSA (wc := (xC T ad sc M ++ [(o0, .inl (T 4, 1, .inr (.inl h)))])) (wr := (xD T bd thr M)) hK hP hD hS hA hXB hZ _) rfl rfl hl.1 rfl (lv_room (Nat.le_of_ble_eq_true rfl)) dL_law_164 ⟨show ce + 1 ≤ 651071 by omega, show sl + 6 ≤ 7142890 by omega⟩) hP hD hS hA (fun _ _ hw => hw.2.2) (fun r1 u1 H locs hw1 hP hD hS => ?_)
    have hP : va_P G vwCl ((xC T u1.1 u1.2.1 (if xwb (xs (i + 1)) (xs (i + 2)) then (xMgo M (xka (xs (i + 1))) (xka (xs (i + 2))) (nI 0)) else M) ++ [(o0, .inl (T 4, 1, .inr (.inl u1.2.2)))]) ++ (xD T bd thr M)) H := hP
    have hD : va_D A ((xC T u1.1 u1.2.1 (if xwb (xs (i + 1)) (xs (i + 2)) then (xMgo M (xka (xs (i + 1))) (xka (xs (i + 2))) (nI 0)) else M) ++ [(o0, .inl (T 4, 1, .inr (.inl u1.2.2)))]) ++ (xD T bd thr M)) := hD
    refine lv_istore (lv' := [(5, .int r1), (0, .ref b), (1, .ref (ad 0)), (2, .ref (bd 0)), (3, .ref o0), (4, .int (nI i))]) hx hb dL_law_167 hl (by decide) rfl (fun ls hl => ?_)
    refine lv_aload_n hx hb dL_law_169 rfl (lv_at hl 3 rfl) ?_
    refine lv_aload_n hx hb dL_law_170 rfl (lv_at hl 1 rfl) ?_
    refine lv_iload hx hb dL_law_171 (lv_at hl 5 rfl) ?_
    refine lv_iconst (v := nI 1) hx hb dL_law_173 (by decide) ?_
    refine lv_iadd hx hb dL_law_174 ?_
    refine x_topi (y := nI (i + 1)) (nI_add _ _) ?_
    refine va_sld hx hb hX hbl hbA hS (vp_in_nI (n := i + 1) (N := L) (by omega) (by omega)) dL_law_175 ?_
    refine x_topi (y := (xs (i + 1))) (by rw [nI_clamp (by omega)]) ?_
    refine lv_aload_n hx hb dL_law_176 rfl (lv_at hl 1 rfl) ?_
    refine lv_iload hx hb dL_law_177 (lv_at hl 5 rfl) ?_
    refine lv_iconst (v := nI 2) hx hb dL_law_179 (by decide) ?_
    refine lv_iadd hx hb dL_law_180 ?_
    refine x_topi (y := nI (i + 2)) (nI_add _ _) ?_
    refine va_sld hx hb hX hbl hbA hS (vp_in_nI (n := i + 2) (N := L) (by omega) (by omega)) dL_law_181 ?_
    refine x_topi (y := (xs (i + 2))) (by rw [nI_clamp (by omega)]) ?_
    refine lv_aload_n hx hb dL_law_182 rfl (lv_at hl 1 rfl) ?_
    refine lv_iload hx hb dL_law_183 (lv_at hl 5 rfl) ?_
    refine lv_iconst (v := nI 3) hx hb dL_law_185 (by decide) ?_
    refine lv_iadd hx hb dL_law_186 ?_
    refine x_topi (y := nI (i + 3)) (nI_add _ _) ?_
    refine va_sld hx hb hX hbl hbA hS (vp_in_nI (n := i + 3) (N := L) (by omega) (by omega)) dL_law_187 ?_
    refine x_topi (y := (xs (i + 3))) (by rw [nI_clamp (by omega)]) ?_
    refine lv_if_eq (tgt := 195) hx hb dL_law_188 (by decide) (fun _ => ?_) (fun c_ => absurd (c0) c_)
    refine lv_iconst (v := nI 0) hx hb dL_law_195 (by decide) ?_
    have hP := xp_perm (List.perm_append_comm (l₁ := (xC T u1.1 u1.2.1 (if xwb (xs (i + 1)) (xs (i + 2)) then (xMgo M (xka (xs (i + 1))) (xka (xs (i + 2))) (nI 0)) else M) ++ [(o0, .inl (T 4, 1, .inr (.inl u1.2.2)))])) (l₂ := (xD T bd thr M))) hP
    have hD := xd_perm (List.perm_append_comm (l₁ := (xC T u1.1 u1.2.1 (if xwb (xs (i + 1)) (xs (i + 2)) then (xMgo M (xka (xs (i + 1))) (xka (xs (i + 2))) (nI 0)) else M) ++ [(o0, .inl (T 4, 1, .inr (.inl u1.2.2)))])) (l₂ := (xD T bd thr M))) hD
    refine x_calliA (va_runV (As := [.int (xs (i + 1)), .int (xs (i + 2)), .int (nI 0)]) (rest := []) ⟨hx, hb, hml, hown, hts⟩ (c_X4_go l G T _ bd thr M (xs (i + 1)) (xs (i + 2)) (nI 0) hn4) (cwV 3 hts gL_law_X4_go rfl rfl rfl (by decide +kernel) ⟨Nat.le_of_ble_eq_true rfl, Nat.le_of_ble_eq_true rfl⟩) (x_preVA (wc := (xD T bd thr M)) (wr := (xC T u1.1 u1.2.1 (if xwb (xs (i + 1)) (xs (i + 2)) then (xMgo M (xka (xs (i + 1))) (xka (xs (i + 2))) (nI 0)) else M) ++ [(o0, .inl (T 4, 1, .inr (.inl u1.2.2)))])) hK hP hD hS hA hXB hZ _ _ 0 4 rfl rfl) rfl rfl hl.1 rfl (lv_room (Nat.le_of_ble_eq_true rfl)) dL_law_196 ⟨show (ce + 1) + 5 ≤ 651071 by omega, show (sl + 6) + 80 ≤ 7142890 by omega⟩) hP hD hS hA (fun _ _ _ => xd_self rfl (xd_l hD)) (fun r2 u2 H locs hw2 hP hD hS => ?_)
    have hP : va_P G vwCl ((xD T bd u2 (if xwb (xs (i + 1)) (xs (i + 2)) then (xMgo M (xka (xs (i + 1))) (xka (xs (i + 2))) (nI 0)) else M)) ++ (xC T u1.1 u1.2.1 (if xwb (xs (i + 1)) (xs (i + 2)) then (xMgo M (xka (xs (i + 1))) (xka (xs (i + 2))) (nI 0)) else M) ++ [(o0, .inl (T 4, 1, .inr (.inl u1.2.2)))])) H := hP
    have hD : va_D A ((xD T bd u2 (if xwb (xs (i + 1)) (xs (i + 2)) then (xMgo M (xka (xs (i + 1))) (xka (xs (i + 2))) (nI 0)) else M)) ++ (xC T u1.1 u1.2.1 (if xwb (xs (i + 1)) (xs (i + 2)) then (xMgo M (xka (xs (i + 1))) (xka (xs (i + 2))) (nI 0)) else M) ++ [(o0, .inl (T 4, 1, .inr (.inl u1.2.2)))])) := hD
    refine lv_istore (lv' := [(6, .int r2), (5, .int r1), (0, .ref b), (1, .ref (ad 0)), (2, .ref (bd 0)), (3, .ref o0), (4, .int (nI i))]) hx hb dL_law_199 hl (by decide) rfl (fun ls hl => ?_)
    refine lv_aload_n hx hb dL_law_201 rfl (lv_at hl 4 rfl) ?_
    refine x_calliA (va_runV (As := []) (rest := []) ⟨hx, hb, hml, hown, hts⟩ (c_X4_thrown l G T _ bd u2 (if xwb (xs (i + 1)) (xs (i + 2)) then (xMgo M (xka (xs (i + 1))) (xka (xs (i + 2))) (nI 0)) else M)) (cwV 0 hts gL_law_X4_thrown rfl rfl rfl (by decide +kernel) ⟨Nat.le_of_ble_eq_true rfl, Nat.le_of_ble_eq_true rfl⟩) (x_preVA (wc := (xD T bd u2 (if xwb (xs (i + 1)) (xs (i + 2)) then (xMgo M (xka (xs (i + 1))) (xka (xs (i + 2))) (nI 0)) else M))) (wr := (xC T u1.1 u1.2.1 (if xwb (xs (i + 1)) (xs (i + 2)) then (xMgo M (xka (xs (i + 1))) (xka (xs (i + 2))) (nI 0)) else M) ++ [(o0, .inl (T 4, 1, .inr (.inl u1.2.2)))])) hK hP hD hS hA hXB hZ _ _ 0 4 rfl rfl) rfl rfl hl.1 rfl (lv_room (Nat.le_of_ble_eq_true rfl)) dL_law_202 ⟨show ((ce + 1) + 5) + 0 ≤ 651071 by omega, show ((sl + 6) + 80) + 0 ≤ 7142890 by omega⟩) hP hD hS hA (fun _ _ _ => xd_self rfl (xd_l hD)) (fun r3 u3 H locs hw3 hP hD hS => ?_)
    have hP : va_P G vwCl ((xD T bd u2 (if xwb (xs (i + 1)) (xs (i + 2)) then (xMgo M (xka (xs (i + 1))) (xka (xs (i + 2))) (nI 0)) else M)) ++ (xC T u1.1 u1.2.1 (if xwb (xs (i + 1)) (xs (i + 2)) then (xMgo M (xka (xs (i + 1))) (xka (xs (i + 2))) (nI 0)) else M) ++ [(o0, .inl (T 4, 1, .inr (.inl u1.2.2)))])) H := hP
    have hD : va_D A ((xD T bd u2 (if xwb (xs (i + 1)) (xs (i + 2)) then (xMgo M (xka (xs (i + 1))) (xka (xs (i + 2))) (nI 0)) else M)) ++ (xC T u1.1 u1.2.1 (if xwb (xs (i + 1)) (xs (i + 2)) then (xMgo M (xka (xs (i + 1))) (xka (xs (i + 2))) (nI 0)) else M) ++ [(o0, .inl (T 4, 1, .inr (.inl u1.2.2)))])) := hD
    refine x_topi (y := u2) (hw3) ?_
    have hP := xp_perm (List.perm_append_comm (l₁ := (xD T bd u2 (if xwb (xs (i + 1)) (xs (i + 2)) then (xMgo M (xka (xs (i + 1))) (xka (xs (i + 2))) (nI 0)) else M))) (l₂ := (xC T u1.1 u1.2.1 (if xwb (xs (i + 1)) (xs (i + 2)) then (xMgo M (xka (xs (i + 1))) (xka (xs (i + 2))) (nI 0)) else M) ++ [(o0, .inl (T 4, 1, .inr (.inl u1.2.2)))]))) hP
    have hD := xd_perm (List.perm_append_comm (l₁ := (xD T bd u2 (if xwb (xs (i + 1)) (xs (i + 2)) then (xMgo M (xka (xs (i + 1))) (xka (xs (i + 2))) (nI 0)) else M))) (l₂ := (xC T u1.1 u1.2.1 (if xwb (xs (i + 1)) (xs (i + 2)) then (xMgo M (xka (xs (i + 1))) (xka (xs (i + 2))) (nI 0)) else M) ++ [(o0, .inl (T 4, 1, .inr (.inl u1.2.2)))]))) hD
    obtain ⟨hw1, hx1, hy1⟩ := hw1
    refine lv_iload hx hb dL_law_205 (lv_at hl 1 rfl) ?_
    rcases (show (r1 = nI 0 ∧ u2 = nI 0 ∧ u1.2.2 (nI 0).toNatClampNeg = r2.toInt64) ∨ (r1 = nI 1 ∧ u2 = nI 1) from xmeet1 hw1 hw2) with ⟨rfl, rfl, hk3⟩ | ⟨rfl, rfl⟩
    · refine lv_icmp_eq (tgt := 212) hx hb dL_law_207 (by decide) (fun _ => ?_) (fun c_ => absurd (rfl) c_)
      refine lv_iload hx hb dL_law_212 (lv_at hl 1 rfl) ?_
      refine lv_if_ne (tgt := 229) hx hb dL_law_214 (by decide) (fun c_ => absurd (rfl) c_) (fun _ => ?_)
      refine lv_aload_n hx hb dL_law_217 rfl (lv_at hl 5 rfl) ?_
      refine lv_iconst (v := nI 0) hx hb dL_law_218 (by decide) ?_
      refine va_lald hx hb hK hP (xC T u1.1 u1.2.1 (if xwb (xs (i + 1)) (xs (i + 2)) then (xMgo M (xka (xs (i + 1))) (xka (xs (i + 2))) (nI 0)) else M)).length 4 x_lget2 rfl (vp_in_nI (n := 0) (N := 1) (by decide) (by decide)) dL_law_219 ?_
      refine x_topl (y := r2.toInt64) (hk3) ?_
      refine lv_iload hx hb dL_law_220 (lv_at hl 0 rfl) ?_
      refine lv_i2l hx hb dL_law_222 rfl ?_
      refine x_lcmp0 hx hb dL_law_223 ?_
      refine lv_if_eq (tgt := 229) hx hb dL_law_224 (by decide) (fun _ => ?_) (fun c_ => absurd (rfl) c_)
      refine lv_goto (tgt := 1431) hx hb dL_law_229 (by decide) ?_
      refine W.widen (k := ce + 90) (n := sl + 547) (by omega) (by omega) ?_
      exact kk _ _ _ _ _ _ _ hx1 (by split; rename_i hC; exact xI_go hI hj hC _; exact xI_s hI hj) hP hD hS ls (lv_sub hl [2, 3, 4, 5, 6] rfl)
    · refine lv_icmp_eq (tgt := 212) hx hb dL_law_207 (by decide) (fun _ => ?_) (fun c_ => absurd (rfl) c_)
      refine lv_iload hx hb dL_law_212 (lv_at hl 1 rfl) ?_
      refine lv_if_ne (tgt := 229) hx hb dL_law_214 (by decide) (fun _ => ?_) (fun c_ => absurd c_ (by decide))
      refine lv_goto (tgt := 1431) hx hb dL_law_229 (by decide) ?_
      refine W.widen (k := ce + 90) (n := sl + 547) (by omega) (by omega) ?_
      exact kk _ _ _ _ _ _ _ hx1 (by split; rename_i hC; exact xI_go hI hj hC _; exact xI_s hI hj) hP hD hS ls (lv_sub hl [2, 3, 4, 5, 6] rfl)
  · refine lv_iconst (v := nI 1) hx hb dL_law_158 (by decide) ?_
    refine lv_goto (tgt := 163) hx hb dL_law_159 (by decide) ?_
    refine lv_aload_n hx hb dL_law_163 rfl (lv_at hl 3 rfl) ?_
    refine x_calliA (vx_runSW (As := [.ref (ad 0), .int (xs (i + 1)), .int (xs (i + 2)), .int (nI 1), .ref o0]) (rest := []) ⟨hx, hb, hml, hown, hts⟩ (c_L_go l hsl G T _ ad sc M o0 h (xs (i + 1)) (xs (i + 2)) (nI 1) hn4) (vx_cwSW 5 hts gL_law_L_go rfl rfl rfl (by decide +kernel) ⟨Nat.le_of_ble_eq_true rfl, Nat.le_of_ble_eq_true rfl⟩) (x_preSA (wc := (xC T ad sc M ++ [(o0, .inl (T 4, 1, .inr (.inl h)))])) (wr := (xD T bd thr M)) hK hP hD hS hA hXB hZ _) rfl rfl hl.1 rfl (lv_room (Nat.le_of_ble_eq_true rfl)) dL_law_164 ⟨show ce + 1 ≤ 651071 by omega, show sl + 6 ≤ 7142890 by omega⟩) hP hD hS hA (fun _ _ hw => hw.2.2) (fun r1 u1 H locs hw1 hP hD hS => ?_)
    have hP : va_P G vwCl ((xC T u1.1 u1.2.1 (if xwb (xs (i + 1)) (xs (i + 2)) then (xMgo M (xka (xs (i + 1))) (xka (xs (i + 2))) (nI 1)) else M) ++ [(o0, .inl (T 4, 1, .inr (.inl u1.2.2)))]) ++ (xD T bd thr M)) H := hP
    have hD : va_D A ((xC T u1.1 u1.2.1 (if xwb (xs (i + 1)) (xs (i + 2)) then (xMgo M (xka (xs (i + 1))) (xka (xs (i + 2))) (nI 1)) else M) ++ [(o0, .inl (T 4, 1, .inr (.inl u1.2.2)))]) ++ (xD T bd thr M)) := hD
    refine lv_istore (lv' := [(5, .int r1), (0, .ref b), (1, .ref (ad 0)), (2, .ref (bd 0)), (3, .ref o0), (4, .int (nI i))]) hx hb dL_law_167 hl (by decide) rfl (fun ls hl => ?_)
    refine lv_aload_n hx hb dL_law_169 rfl (lv_at hl 3 rfl) ?_
    refine lv_aload_n hx hb dL_law_170 rfl (lv_at hl 1 rfl) ?_
    refine lv_iload hx hb dL_law_171 (lv_at hl 5 rfl) ?_
    refine lv_iconst (v := nI 1) hx hb dL_law_173 (by decide) ?_
    refine lv_iadd hx hb dL_law_174 ?_
    refine x_topi (y := nI (i + 1)) (nI_add _ _) ?_
    refine va_sld hx hb hX hbl hbA hS (vp_in_nI (n := i + 1) (N := L) (by omega) (by omega)) dL_law_175 ?_
    refine x_topi (y := (xs (i + 1))) (by rw [nI_clamp (by omega)]) ?_
    refine lv_aload_n hx hb dL_law_176 rfl (lv_at hl 1 rfl) ?_
    refine lv_iload hx hb dL_law_177 (lv_at hl 5 rfl) ?_
    refine lv_iconst (v := nI 2) hx hb dL_law_179 (by decide) ?_
    refine lv_iadd hx hb dL_law_180 ?_
    refine x_topi (y := nI (i + 2)) (nI_add _ _) ?_
    refine va_sld hx hb hX hbl hbA hS (vp_in_nI (n := i + 2) (N := L) (by omega) (by omega)) dL_law_181 ?_
    refine x_topi (y := (xs (i + 2))) (by rw [nI_clamp (by omega)]) ?_
    refine lv_aload_n hx hb dL_law_182 rfl (lv_at hl 1 rfl) ?_
    refine lv_iload hx hb dL_law_183 (lv_at hl 5 rfl) ?_
    refine lv_iconst (v := nI 3) hx hb dL_law_185 (by decide) ?_
    refine lv_iadd hx hb dL_law_186 ?_
    refine x_topi (y := nI (i + 3)) (nI_add _ _) ?_
    refine va_sld hx hb hX hbl hbA hS (vp_in_nI (n := i + 3) (N := L) (by omega) (by omega)) dL_law_187 ?_
    refine x_topi (y := (xs (i + 3))) (by rw [nI_clamp (by omega)]) ?_
    refine lv_if_eq (tgt := 195) hx hb dL_law_188 (by decide) (fun c_ => absurd c_ (c0)) (fun _ => ?_)
    refine lv_iconst (v := nI 1) hx hb dL_law_191 (by decide) ?_
    refine lv_goto (tgt := 196) hx hb dL_law_192 (by decide) ?_
    have hP := xp_perm (List.perm_append_comm (l₁ := (xC T u1.1 u1.2.1 (if xwb (xs (i + 1)) (xs (i + 2)) then (xMgo M (xka (xs (i + 1))) (xka (xs (i + 2))) (nI 1)) else M) ++ [(o0, .inl (T 4, 1, .inr (.inl u1.2.2)))])) (l₂ := (xD T bd thr M))) hP
    have hD := xd_perm (List.perm_append_comm (l₁ := (xC T u1.1 u1.2.1 (if xwb (xs (i + 1)) (xs (i + 2)) then (xMgo M (xka (xs (i + 1))) (xka (xs (i + 2))) (nI 1)) else M) ++ [(o0, .inl (T 4, 1, .inr (.inl u1.2.2)))])) (l₂ := (xD T bd thr M))) hD
    refine x_calliA (va_runV (As := [.int (xs (i + 1)), .int (xs (i + 2)), .int (nI 1)]) (rest := []) ⟨hx, hb, hml, hown, hts⟩ (c_X4_go l G T _ bd thr M (xs (i + 1)) (xs (i + 2)) (nI 1) hn4) (cwV 3 hts gL_law_X4_go rfl rfl rfl (by decide +kernel) ⟨Nat.le_of_ble_eq_true rfl, Nat.le_of_ble_eq_true rfl⟩) (x_preVA (wc := (xD T bd thr M)) (wr := (xC T u1.1 u1.2.1 (if xwb (xs (i + 1)) (xs (i + 2)) then (xMgo M (xka (xs (i + 1))) (xka (xs (i + 2))) (nI 1)) else M) ++ [(o0, .inl (T 4, 1, .inr (.inl u1.2.2)))])) hK hP hD hS hA hXB hZ _ _ 0 4 rfl rfl) rfl rfl hl.1 rfl (lv_room (Nat.le_of_ble_eq_true rfl)) dL_law_196 ⟨show (ce + 1) + 5 ≤ 651071 by omega, show (sl + 6) + 80 ≤ 7142890 by omega⟩) hP hD hS hA (fun _ _ _ => xd_self rfl (xd_l hD)) (fun r2 u2 H locs hw2 hP hD hS => ?_)
    have hP : va_P G vwCl ((xD T bd u2 (if xwb (xs (i + 1)) (xs (i + 2)) then (xMgo M (xka (xs (i + 1))) (xka (xs (i + 2))) (nI 1)) else M)) ++ (xC T u1.1 u1.2.1 (if xwb (xs (i + 1)) (xs (i + 2)) then (xMgo M (xka (xs (i + 1))) (xka (xs (i + 2))) (nI 1)) else M) ++ [(o0, .inl (T 4, 1, .inr (.inl u1.2.2)))])) H := hP
    have hD : va_D A ((xD T bd u2 (if xwb (xs (i + 1)) (xs (i + 2)) then (xMgo M (xka (xs (i + 1))) (xka (xs (i + 2))) (nI 1)) else M)) ++ (xC T u1.1 u1.2.1 (if xwb (xs (i + 1)) (xs (i + 2)) then (xMgo M (xka (xs (i + 1))) (xka (xs (i + 2))) (nI 1)) else M) ++ [(o0, .inl (T 4, 1, .inr (.inl u1.2.2)))])) := hD
    refine lv_istore (lv' := [(6, .int r2), (5, .int r1), (0, .ref b), (1, .ref (ad 0)), (2, .ref (bd 0)), (3, .ref o0), (4, .int (nI i))]) hx hb dL_law_199 hl (by decide) rfl (fun ls hl => ?_)
    refine lv_aload_n hx hb dL_law_201 rfl (lv_at hl 4 rfl) ?_
    refine x_calliA (va_runV (As := []) (rest := []) ⟨hx, hb, hml, hown, hts⟩ (c_X4_thrown l G T _ bd u2 (if xwb (xs (i + 1)) (xs (i + 2)) then (xMgo M (xka (xs (i + 1))) (xka (xs (i + 2))) (nI 1)) else M)) (cwV 0 hts gL_law_X4_thrown rfl rfl rfl (by decide +kernel) ⟨Nat.le_of_ble_eq_true rfl, Nat.le_of_ble_eq_true rfl⟩) (x_preVA (wc := (xD T bd u2 (if xwb (xs (i + 1)) (xs (i + 2)) then (xMgo M (xka (xs (i + 1))) (xka (xs (i + 2))) (nI 1)) else M))) (wr := (xC T u1.1 u1.2.1 (if xwb (xs (i + 1)) (xs (i + 2)) then (xMgo M (xka (xs (i + 1))) (xka (xs (i + 2))) (nI 1)) else M) ++ [(o0, .inl (T 4, 1, .inr (.inl u1.2.2)))])) hK hP hD hS hA hXB hZ _ _ 0 4 rfl rfl) rfl rfl hl.1 rfl (lv_room (Nat.le_of_ble_eq_true rfl)) dL_law_202 ⟨show ((ce + 1) + 5) + 0 ≤ 651071 by omega, show ((sl + 6) + 80) + 0 ≤ 7142890 by omega⟩) hP hD hS hA (fun _ _ _ => xd_self rfl (xd_l hD)) (fun r3 u3 H locs hw3 hP hD hS => ?_)
    have hP : va_P G vwCl ((xD T bd u2 (if xwb (xs (i + 1)) (xs (i + 2)) then (xMgo M (xka (xs (i + 1))) (xka (xs (i + 2))) (nI 1)) else M)) ++ (xC T u1.1 u1.2.1 (if xwb (xs (i + 1)) (xs (i + 2)) then (xMgo M (xka (xs (i + 1))) (xka (xs (i + 2))) (nI 1)) else M) ++ [(o0, .inl (T 4, 1, .inr (.inl u1.2.2)))])) H := hP
    have hD : va_D A ((xD T bd u2 (if xwb (xs (i + 1)) (xs (i + 2)) then (xMgo M (xka (xs (i + 1))) (xka (xs (i + 2))) (nI 1)) else M)) ++ (xC T u1.1 u1.2.1 (if xwb (xs (i + 1)) (xs (i + 2)) then (xMgo M (xka (xs (i + 1))) (xka (xs (i + 2))) (nI 1)) else M) ++ [(o0, .inl (T 4, 1, .inr (.inl u1.2.2)))])) := hD
    refine x_topi (y := u2) (hw3) ?_
    have hP := xp_perm (List.perm_append_comm (l₁ := (xD T bd u2 (if xwb (xs (i + 1)) (xs (i + 2)) then (xMgo M (xka (xs (i + 1))) (xka (xs (i + 2))) (nI 1)) else M))) (l₂ := (xC T u1.1 u1.2.1 (if xwb (xs (i + 1)) (xs (i + 2)) then (xMgo M (xka (xs (i + 1))) (xka (xs (i + 2))) (nI 1)) else M) ++ [(o0, .inl (T 4, 1, .inr (.inl u1.2.2)))]))) hP
    have hD := xd_perm (List.perm_append_comm (l₁ := (xD T bd u2 (if xwb (xs (i + 1)) (xs (i + 2)) then (xMgo M (xka (xs (i + 1))) (xka (xs (i + 2))) (nI 1)) else M))) (l₂ := (xC T u1.1 u1.2.1 (if xwb (xs (i + 1)) (xs (i + 2)) then (xMgo M (xka (xs (i + 1))) (xka (xs (i + 2))) (nI 1)) else M) ++ [(o0, .inl (T 4, 1, .inr (.inl u1.2.2)))]))) hD
    obtain ⟨hw1, hx1, hy1⟩ := hw1
    refine lv_iload hx hb dL_law_205 (lv_at hl 1 rfl) ?_
    rcases (show (r1 = nI 0 ∧ u2 = nI 0 ∧ u1.2.2 (nI 0).toNatClampNeg = r2.toInt64) ∨ (r1 = nI 1 ∧ u2 = nI 1) from xmeet1 hw1 hw2) with ⟨rfl, rfl, hk3⟩ | ⟨rfl, rfl⟩
    · refine lv_icmp_eq (tgt := 212) hx hb dL_law_207 (by decide) (fun _ => ?_) (fun c_ => absurd (rfl) c_)
      refine lv_iload hx hb dL_law_212 (lv_at hl 1 rfl) ?_
      refine lv_if_ne (tgt := 229) hx hb dL_law_214 (by decide) (fun c_ => absurd (rfl) c_) (fun _ => ?_)
      refine lv_aload_n hx hb dL_law_217 rfl (lv_at hl 5 rfl) ?_
      refine lv_iconst (v := nI 0) hx hb dL_law_218 (by decide) ?_
      refine va_lald hx hb hK hP (xC T u1.1 u1.2.1 (if xwb (xs (i + 1)) (xs (i + 2)) then (xMgo M (xka (xs (i + 1))) (xka (xs (i + 2))) (nI 1)) else M)).length 4 x_lget2 rfl (vp_in_nI (n := 0) (N := 1) (by decide) (by decide)) dL_law_219 ?_
      refine x_topl (y := r2.toInt64) (hk3) ?_
      refine lv_iload hx hb dL_law_220 (lv_at hl 0 rfl) ?_
      refine lv_i2l hx hb dL_law_222 rfl ?_
      refine x_lcmp0 hx hb dL_law_223 ?_
      refine lv_if_eq (tgt := 229) hx hb dL_law_224 (by decide) (fun _ => ?_) (fun c_ => absurd (rfl) c_)
      refine lv_goto (tgt := 1431) hx hb dL_law_229 (by decide) ?_
      refine W.widen (k := ce + 90) (n := sl + 547) (by omega) (by omega) ?_
      exact kk _ _ _ _ _ _ _ hx1 (by split; rename_i hC; exact xI_go hI hj hC _; exact xI_s hI hj) hP hD hS ls (lv_sub hl [2, 3, 4, 5, 6] rfl)
    · refine lv_icmp_eq (tgt := 212) hx hb dL_law_207 (by decide) (fun _ => ?_) (fun c_ => absurd (rfl) c_)
      refine lv_iload hx hb dL_law_212 (lv_at hl 1 rfl) ?_
      refine lv_if_ne (tgt := 229) hx hb dL_law_214 (by decide) (fun _ => ?_) (fun c_ => absurd c_ (by decide))
      refine lv_goto (tgt := 1431) hx hb dL_law_229 (by decide) ?_
      refine W.widen (k := ce + 90) (n := sl + 547) (by omega) (by omega) ?_
      exact kk _ _ _ _ _ _ _ hx1 (by split; rename_i hC; exact xI_go hI hj hC _; exact xI_s hI hj) hP hD hS ls (lv_sub hl [2, 3, 4, 5, 6] rfl)

set_option maxHeartbeats 4000000 in
set_option maxRecDepth 100000 in
/-- the law: falseCut -/
theorem lc_falseCut {p : Program} {l : Launch} {e : Env} {s : State} {m : MethodId} {below : List Frame} {meth : Method} {c : Code} {G : va_G} {T : Nat → ClassId} {b L : Nat} {xs : Nat → Int32} (C0 : xLC p l s m meth c b L xs G T) (i j : Nat) (hi : i + 4 ≤ L) (hj : j < 512) (ad : Nat → Nat) (sc : Nat → Nat → Int32) (M : XM) (bd : Nat → Nat) (thr : Int32) (o0 : Nat) (h : Nat → Int64) (hI : xI M j) (ce sl : Nat) (hce : ce + 90 ≤ 651071) (hsl9 : sl + 547 ≤ 7142890) (H : Heap) (locs : List Loc) (hP : va_P G vwCl ((xC T ad sc M ++ [(o0, .inl (T 4, 1, .inr (.inl h)))]) ++ (xD T bd thr M)) H) (hD : va_D (fun q : Nat => s.heap.size ≤ q) ((xC T ad sc M ++ [(o0, .inl (T 4, 1, .inr (.inl h)))]) ++ (xD T bd thr M))) (hS : va_S (fun q : Nat => s.heap.size ≤ q) s.heap H locs) (ls : Array Slot) (hl : lv_has ls 9 [(0, .ref b), (1, .ref (ad 0)), (2, .ref (bd 0)), (3, .ref o0), (4, .int (nI i))]) (kk : ∀ (ad1 : Nat → Nat) (sc1 : Nat → Nat → Int32) (M1 : XM) (thr1 : Int32) (h1 : Nat → Int64) (H1 : Heap) (locs1 : List Loc), ad1 0 = ad 0 → xI M1 (j + 1) → va_P G vwCl ((xC T ad1 sc1 M1 ++ [(o0, .inl (T 4, 1, .inr (.inl h1)))]) ++ (xD T bd thr1 M1)) H1 → va_D (fun q : Nat => s.heap.size ≤ q) ((xC T ad1 sc1 M1 ++ [(o0, .inl (T 4, 1, .inr (.inl h1)))]) ++ (xD T bd thr1 M1)) → va_S (fun q : Nat => s.heap.size ≤ q) s.heap H1 locs1 → ∀ ls1 : Array Slot, lv_has ls1 9 [(0, .ref b), (1, .ref (ad 0)), (2, .ref (bd 0)), (3, .ref o0), (4, .int (nI i))] → W p l e room_1 s m #[Value.ref b] below meth c H1 locs1 (ce + 90) (sl + 547) (lw_Z below #[Value.ref b] s) (F0 m 1431 ls1 [])) : W p l e room_1 s m #[Value.ref b] below meth c H locs ce sl (lw_Z below #[Value.ref b] s) (F0 m 232 ls []) := by
  obtain ⟨hx, hb, hr, hml, hown, hts, hX, hbl, hlocks, hK, hXB, hZ, hL9, hsl⟩ := C0
  have hA : ∀ q : Nat, s.heap.size ≤ q → (fun q : Nat => s.heap.size ≤ q) q := fun _ h => h
  have hbA : ¬ (fun q : Nat => s.heap.size ≤ q) b := Nat.not_le.mpr hbl
  obtain ⟨hn4, hm4, hpk, hsur, hsh, hth, hz0, hhb, hle, hta, hj5⟩ := id hI
  generalize hAe : (fun q : Nat => s.heap.size ≤ q) = A at hA hbA hZ hD hS kk
  refine lv_aload_n hx hb dL_law_232 rfl (lv_at hl 1 rfl) ?_
  refine lv_aload_n hx hb dL_law_233 rfl (lv_at hl 0 rfl) ?_
  refine lv_iload hx hb dL_law_234 (lv_at hl 4 rfl) ?_
  refine lv_iconst (v := nI 1) hx hb dL_law_236 (by decide) ?_
  refine lv_iadd hx hb dL_law_237 ?_
  refine x_topi (y := nI (i + 1)) (nI_add _ _) ?_
  refine va_sld hx hb hX hbl hbA hS (vp_in_nI (n := i + 1) (N := L) (by omega) (by omega)) dL_law_238 ?_
  refine x_topi (y := (xs (i + 1))) (by rw [nI_clamp (by omega)]) ?_
  refine lv_aload_n hx hb dL_law_239 rfl (lv_at hl 3 rfl) ?_
  refine x_calliA (vx_runSW (As := [.ref (ad 0), .int (xs (i + 1)), .ref o0]) (rest := []) ⟨hx, hb, hml, hown, hts⟩ (c_L_falseCut l hsl G T _ ad sc M o0 h (xs (i + 1)) hn4) (vx_cwSW 3 hts gL_law_L_falseCut rfl rfl rfl (by decide +kernel) ⟨Nat.le_of_ble_eq_true rfl, Nat.le_of_ble_eq_true rfl⟩) (x_preSA (wc := (xC T ad sc M ++ [(o0, .inl (T 4, 1, .inr (.inl h)))])) (wr := (xD T bd thr M)) hK hP hD hS hA hXB hZ _) rfl rfl hl.1 rfl (lv_room (Nat.le_of_ble_eq_true rfl)) dL_law_240 ⟨show ce + 1 ≤ 651071 by omega, show sl + 6 ≤ 7142890 by omega⟩) hP hD hS hA (fun _ _ hw => hw.2.2) (fun r1 u1 H locs hw1 hP hD hS => ?_)
  have hP : va_P G vwCl ((xC T u1.1 u1.2.1 (if xwb (nI 0) (xs (i + 1)) then (xMfc M (xka (xs (i + 1)))) else M) ++ [(o0, .inl (T 4, 1, .inr (.inl u1.2.2)))]) ++ (xD T bd thr M)) H := hP
  have hD : va_D A ((xC T u1.1 u1.2.1 (if xwb (nI 0) (xs (i + 1)) then (xMfc M (xka (xs (i + 1)))) else M) ++ [(o0, .inl (T 4, 1, .inr (.inl u1.2.2)))]) ++ (xD T bd thr M)) := hD
  refine lv_istore (lv' := [(5, .int r1), (0, .ref b), (1, .ref (ad 0)), (2, .ref (bd 0)), (3, .ref o0), (4, .int (nI i))]) hx hb dL_law_243 hl (by decide) rfl (fun ls hl => ?_)
  refine lv_aload_n hx hb dL_law_245 rfl (lv_at hl 3 rfl) ?_
  refine lv_aload_n hx hb dL_law_246 rfl (lv_at hl 1 rfl) ?_
  refine lv_iload hx hb dL_law_247 (lv_at hl 5 rfl) ?_
  refine lv_iconst (v := nI 1) hx hb dL_law_249 (by decide) ?_
  refine lv_iadd hx hb dL_law_250 ?_
  refine x_topi (y := nI (i + 1)) (nI_add _ _) ?_
  refine va_sld hx hb hX hbl hbA hS (vp_in_nI (n := i + 1) (N := L) (by omega) (by omega)) dL_law_251 ?_
  refine x_topi (y := (xs (i + 1))) (by rw [nI_clamp (by omega)]) ?_
  have hP := xp_perm (List.perm_append_comm (l₁ := (xC T u1.1 u1.2.1 (if xwb (nI 0) (xs (i + 1)) then (xMfc M (xka (xs (i + 1)))) else M) ++ [(o0, .inl (T 4, 1, .inr (.inl u1.2.2)))])) (l₂ := (xD T bd thr M))) hP
  have hD := xd_perm (List.perm_append_comm (l₁ := (xC T u1.1 u1.2.1 (if xwb (nI 0) (xs (i + 1)) then (xMfc M (xka (xs (i + 1)))) else M) ++ [(o0, .inl (T 4, 1, .inr (.inl u1.2.2)))])) (l₂ := (xD T bd thr M))) hD
  refine x_calliA (va_runV (As := [.int (xs (i + 1))]) (rest := []) ⟨hx, hb, hml, hown, hts⟩ (c_X4_falseCut l G T _ bd thr M (xs (i + 1)) hn4 hsh) (cwV 1 hts gL_law_X4_falseCut rfl rfl rfl (by decide +kernel) ⟨Nat.le_of_ble_eq_true rfl, Nat.le_of_ble_eq_true rfl⟩) (x_preVA (wc := (xD T bd thr M)) (wr := (xC T u1.1 u1.2.1 (if xwb (nI 0) (xs (i + 1)) then (xMfc M (xka (xs (i + 1)))) else M) ++ [(o0, .inl (T 4, 1, .inr (.inl u1.2.2)))])) hK hP hD hS hA hXB hZ _ _ 0 4 rfl rfl) rfl rfl hl.1 rfl (lv_room (Nat.le_of_ble_eq_true rfl)) dL_law_252 ⟨show (ce + 1) + 4 ≤ 651071 by omega, show (sl + 6) + 64 ≤ 7142890 by omega⟩) hP hD hS hA (fun _ _ _ => xd_self rfl (xd_l hD)) (fun r2 u2 H locs hw2 hP hD hS => ?_)
  have hP : va_P G vwCl ((xD T bd u2 (if xwb (nI 0) (xs (i + 1)) then (xMfc M (xka (xs (i + 1)))) else M)) ++ (xC T u1.1 u1.2.1 (if xwb (nI 0) (xs (i + 1)) then (xMfc M (xka (xs (i + 1)))) else M) ++ [(o0, .inl (T 4, 1, .inr (.inl u1.2.2)))])) H := hP
  have hD : va_D A ((xD T bd u2 (if xwb (nI 0) (xs (i + 1)) then (xMfc M (xka (xs (i + 1)))) else M)) ++ (xC T u1.1 u1.2.1 (if xwb (nI 0) (xs (i + 1)) then (xMfc M (xka (xs (i + 1)))) else M) ++ [(o0, .inl (T 4, 1, .inr (.inl u1.2.2)))])) := hD
  refine lv_istore (lv' := [(6, .int r2), (5, .int r1), (0, .ref b), (1, .ref (ad 0)), (2, .ref (bd 0)), (3, .ref o0), (4, .int (nI i))]) hx hb dL_law_255 hl (by decide) rfl (fun ls hl => ?_)
  refine lv_aload_n hx hb dL_law_257 rfl (lv_at hl 4 rfl) ?_
  refine x_calliA (va_runV (As := []) (rest := []) ⟨hx, hb, hml, hown, hts⟩ (c_X4_thrown l G T _ bd u2 (if xwb (nI 0) (xs (i + 1)) then (xMfc M (xka (xs (i + 1)))) else M)) (cwV 0 hts gL_law_X4_thrown rfl rfl rfl (by decide +kernel) ⟨Nat.le_of_ble_eq_true rfl, Nat.le_of_ble_eq_true rfl⟩) (x_preVA (wc := (xD T bd u2 (if xwb (nI 0) (xs (i + 1)) then (xMfc M (xka (xs (i + 1)))) else M))) (wr := (xC T u1.1 u1.2.1 (if xwb (nI 0) (xs (i + 1)) then (xMfc M (xka (xs (i + 1)))) else M) ++ [(o0, .inl (T 4, 1, .inr (.inl u1.2.2)))])) hK hP hD hS hA hXB hZ _ _ 0 4 rfl rfl) rfl rfl hl.1 rfl (lv_room (Nat.le_of_ble_eq_true rfl)) dL_law_258 ⟨show ((ce + 1) + 4) + 0 ≤ 651071 by omega, show ((sl + 6) + 64) + 0 ≤ 7142890 by omega⟩) hP hD hS hA (fun _ _ _ => xd_self rfl (xd_l hD)) (fun r3 u3 H locs hw3 hP hD hS => ?_)
  have hP : va_P G vwCl ((xD T bd u2 (if xwb (nI 0) (xs (i + 1)) then (xMfc M (xka (xs (i + 1)))) else M)) ++ (xC T u1.1 u1.2.1 (if xwb (nI 0) (xs (i + 1)) then (xMfc M (xka (xs (i + 1)))) else M) ++ [(o0, .inl (T 4, 1, .inr (.inl u1.2.2)))])) H := hP
  have hD : va_D A ((xD T bd u2 (if xwb (nI 0) (xs (i + 1)) then (xMfc M (xka (xs (i + 1)))) else M)) ++ (xC T u1.1 u1.2.1 (if xwb (nI 0) (xs (i + 1)) then (xMfc M (xka (xs (i + 1)))) else M) ++ [(o0, .inl (T 4, 1, .inr (.inl u1.2.2)))])) := hD
  refine x_topi (y := u2) (hw3) ?_
  have hP := xp_perm (List.perm_append_comm (l₁ := (xD T bd u2 (if xwb (nI 0) (xs (i + 1)) then (xMfc M (xka (xs (i + 1)))) else M))) (l₂ := (xC T u1.1 u1.2.1 (if xwb (nI 0) (xs (i + 1)) then (xMfc M (xka (xs (i + 1)))) else M) ++ [(o0, .inl (T 4, 1, .inr (.inl u1.2.2)))]))) hP
  have hD := xd_perm (List.perm_append_comm (l₁ := (xD T bd u2 (if xwb (nI 0) (xs (i + 1)) then (xMfc M (xka (xs (i + 1)))) else M))) (l₂ := (xC T u1.1 u1.2.1 (if xwb (nI 0) (xs (i + 1)) then (xMfc M (xka (xs (i + 1)))) else M) ++ [(o0, .inl (T 4, 1, .inr (.inl u1.2.2)))]))) hD
  obtain ⟨hw1, hx1, hy1⟩ := hw1
  refine lv_iload hx hb dL_law_261 (lv_at hl 1 rfl) ?_
  rcases (show (r1 = nI 0 ∧ u2 = nI 0 ∧ u1.2.2 (nI 0).toNatClampNeg = r2.toInt64) ∨ (r1 = nI 1 ∧ u2 = nI 1) from xmeet1 hw1 hw2) with ⟨rfl, rfl, hk3⟩ | ⟨rfl, rfl⟩
  · refine lv_icmp_eq (tgt := 268) hx hb dL_law_263 (by decide) (fun _ => ?_) (fun c_ => absurd (rfl) c_)
    refine lv_iload hx hb dL_law_268 (lv_at hl 1 rfl) ?_
    refine lv_if_ne (tgt := 285) hx hb dL_law_270 (by decide) (fun c_ => absurd (rfl) c_) (fun _ => ?_)
    refine lv_aload_n hx hb dL_law_273 rfl (lv_at hl 5 rfl) ?_
    refine lv_iconst (v := nI 0) hx hb dL_law_274 (by decide) ?_
    refine va_lald hx hb hK hP (xC T u1.1 u1.2.1 (if xwb (nI 0) (xs (i + 1)) then (xMfc M (xka (xs (i + 1)))) else M)).length 4 x_lget2 rfl (vp_in_nI (n := 0) (N := 1) (by decide) (by decide)) dL_law_275 ?_
    refine x_topl (y := r2.toInt64) (hk3) ?_
    refine lv_iload hx hb dL_law_276 (lv_at hl 0 rfl) ?_
    refine lv_i2l hx hb dL_law_278 rfl ?_
    refine x_lcmp0 hx hb dL_law_279 ?_
    refine lv_if_eq (tgt := 285) hx hb dL_law_280 (by decide) (fun _ => ?_) (fun c_ => absurd (rfl) c_)
    refine lv_goto (tgt := 1431) hx hb dL_law_285 (by decide) ?_
    refine W.widen (k := ce + 90) (n := sl + 547) (by omega) (by omega) ?_
    exact kk _ _ _ _ _ _ _ hx1 (by split; rename_i hC; exact xI_fc hI hj hC; exact xI_s hI hj) hP hD hS ls (lv_sub hl [2, 3, 4, 5, 6] rfl)
  · refine lv_icmp_eq (tgt := 268) hx hb dL_law_263 (by decide) (fun _ => ?_) (fun c_ => absurd (rfl) c_)
    refine lv_iload hx hb dL_law_268 (lv_at hl 1 rfl) ?_
    refine lv_if_ne (tgt := 285) hx hb dL_law_270 (by decide) (fun _ => ?_) (fun c_ => absurd c_ (by decide))
    refine lv_goto (tgt := 1431) hx hb dL_law_285 (by decide) ?_
    refine W.widen (k := ce + 90) (n := sl + 547) (by omega) (by omega) ?_
    exact kk _ _ _ _ _ _ _ hx1 (by split; rename_i hC; exact xI_fc hI hj hC; exact xI_s hI hj) hP hD hS ls (lv_sub hl [2, 3, 4, 5, 6] rfl)

set_option maxHeartbeats 4000000 in
set_option maxRecDepth 100000 in
/-- the law: comes -/
theorem lc_comes {p : Program} {l : Launch} {e : Env} {s : State} {m : MethodId} {below : List Frame} {meth : Method} {c : Code} {G : va_G} {T : Nat → ClassId} {b L : Nat} {xs : Nat → Int32} (C0 : xLC p l s m meth c b L xs G T) (i j : Nat) (hi : i + 4 ≤ L) (hj : j < 512) (ad : Nat → Nat) (sc : Nat → Nat → Int32) (M : XM) (bd : Nat → Nat) (thr : Int32) (o0 : Nat) (h : Nat → Int64) (hI : xI M j) (ce sl : Nat) (hce : ce + 90 ≤ 651071) (hsl9 : sl + 547 ≤ 7142890) (H : Heap) (locs : List Loc) (hP : va_P G vwCl ((xC T ad sc M ++ [(o0, .inl (T 4, 1, .inr (.inl h)))]) ++ (xD T bd thr M)) H) (hD : va_D (fun q : Nat => s.heap.size ≤ q) ((xC T ad sc M ++ [(o0, .inl (T 4, 1, .inr (.inl h)))]) ++ (xD T bd thr M))) (hS : va_S (fun q : Nat => s.heap.size ≤ q) s.heap H locs) (ls : Array Slot) (hl : lv_has ls 9 [(0, .ref b), (1, .ref (ad 0)), (2, .ref (bd 0)), (3, .ref o0), (4, .int (nI i))]) (kk : ∀ (ad1 : Nat → Nat) (sc1 : Nat → Nat → Int32) (M1 : XM) (thr1 : Int32) (h1 : Nat → Int64) (H1 : Heap) (locs1 : List Loc), ad1 0 = ad 0 → xI M1 (j + 1) → va_P G vwCl ((xC T ad1 sc1 M1 ++ [(o0, .inl (T 4, 1, .inr (.inl h1)))]) ++ (xD T bd thr1 M1)) H1 → va_D (fun q : Nat => s.heap.size ≤ q) ((xC T ad1 sc1 M1 ++ [(o0, .inl (T 4, 1, .inr (.inl h1)))]) ++ (xD T bd thr1 M1)) → va_S (fun q : Nat => s.heap.size ≤ q) s.heap H1 locs1 → ∀ ls1 : Array Slot, lv_has ls1 9 [(0, .ref b), (1, .ref (ad 0)), (2, .ref (bd 0)), (3, .ref o0), (4, .int (nI i))] → W p l e room_1 s m #[Value.ref b] below meth c H1 locs1 (ce + 90) (sl + 547) (lw_Z below #[Value.ref b] s) (F0 m 1431 ls1 [])) : W p l e room_1 s m #[Value.ref b] below meth c H locs ce sl (lw_Z below #[Value.ref b] s) (F0 m 288 ls []) := by
  obtain ⟨hx, hb, hr, hml, hown, hts, hX, hbl, hlocks, hK, hXB, hZ, hL9, hsl⟩ := C0
  have hA : ∀ q : Nat, s.heap.size ≤ q → (fun q : Nat => s.heap.size ≤ q) q := fun _ h => h
  have hbA : ¬ (fun q : Nat => s.heap.size ≤ q) b := Nat.not_le.mpr hbl
  obtain ⟨hn4, hm4, hpk, hsur, hsh, hth, hz0, hhb, hle, hta, hj5⟩ := id hI
  generalize hAe : (fun q : Nat => s.heap.size ≤ q) = A at hA hbA hZ hD hS kk
  refine lv_aload_n hx hb dL_law_288 rfl (lv_at hl 1 rfl) ?_
  refine lv_aload_n hx hb dL_law_289 rfl (lv_at hl 0 rfl) ?_
  refine lv_iload hx hb dL_law_290 (lv_at hl 4 rfl) ?_
  refine lv_iconst (v := nI 1) hx hb dL_law_292 (by decide) ?_
  refine lv_iadd hx hb dL_law_293 ?_
  refine x_topi (y := nI (i + 1)) (nI_add _ _) ?_
  refine va_sld hx hb hX hbl hbA hS (vp_in_nI (n := i + 1) (N := L) (by omega) (by omega)) dL_law_294 ?_
  refine x_topi (y := (xs (i + 1))) (by rw [nI_clamp (by omega)]) ?_
  refine lv_aload_n hx hb dL_law_295 rfl (lv_at hl 0 rfl) ?_
  refine lv_iload hx hb dL_law_296 (lv_at hl 4 rfl) ?_
  refine lv_iconst (v := nI 2) hx hb dL_law_298 (by decide) ?_
  refine lv_iadd hx hb dL_law_299 ?_
  refine x_topi (y := nI (i + 2)) (nI_add _ _) ?_
  refine va_sld hx hb hX hbl hbA hS (vp_in_nI (n := i + 2) (N := L) (by omega) (by omega)) dL_law_300 ?_
  refine x_topi (y := (xs (i + 2))) (by rw [nI_clamp (by omega)]) ?_
  refine lv_aload_n hx hb dL_law_301 rfl (lv_at hl 0 rfl) ?_
  refine lv_iload hx hb dL_law_302 (lv_at hl 4 rfl) ?_
  refine lv_iconst (v := nI 3) hx hb dL_law_304 (by decide) ?_
  refine lv_iadd hx hb dL_law_305 ?_
  refine x_topi (y := nI (i + 3)) (nI_add _ _) ?_
  refine va_sld hx hb hX hbl hbA hS (vp_in_nI (n := i + 3) (N := L) (by omega) (by omega)) dL_law_306 ?_
  refine x_topi (y := (xs (i + 3))) (by rw [nI_clamp (by omega)]) ?_
  refine lv_aload_n hx hb dL_law_307 rfl (lv_at hl 3 rfl) ?_
  refine x_calliA (vx_runSW (As := [.ref (ad 0), .int (xs (i + 1)), .int (xs (i + 2)), .int (xs (i + 3)), .ref o0]) (rest := []) ⟨hx, hb, hml, hown, hts⟩ (c_L_comes l hsl G T _ ad sc M o0 h (xs (i + 1)) (xs (i + 2)) (xs (i + 3)) ) (vx_cwSW 5 hts gL_law_L_comes rfl rfl rfl (by decide +kernel) ⟨Nat.le_of_ble_eq_true rfl, Nat.le_of_ble_eq_true rfl⟩) (x_preSA (wc := (xC T ad sc M ++ [(o0, .inl (T 4, 1, .inr (.inl h)))])) (wr := (xD T bd thr M)) hK hP hD hS hA hXB hZ _) rfl rfl hl.1 rfl (lv_room (Nat.le_of_ble_eq_true rfl)) dL_law_308 ⟨show ce + 2 ≤ 651071 by omega, show sl + 12 ≤ 7142890 by omega⟩) hP hD hS hA (fun _ _ hw => hw.2.2) (fun r1 u1 H locs hw1 hP hD hS => ?_)
  have hP : va_P G vwCl ((xC T u1.1 u1.2.1 M ++ [(o0, .inl (T 4, 1, .inr (.inl u1.2.2)))]) ++ (xD T bd thr M)) H := hP
  have hD : va_D A ((xC T u1.1 u1.2.1 M ++ [(o0, .inl (T 4, 1, .inr (.inl u1.2.2)))]) ++ (xD T bd thr M)) := hD
  refine lv_istore (lv' := [(5, .int r1), (0, .ref b), (1, .ref (ad 0)), (2, .ref (bd 0)), (3, .ref o0), (4, .int (nI i))]) hx hb dL_law_311 hl (by decide) rfl (fun ls hl => ?_)
  refine lv_aload_n hx hb dL_law_313 rfl (lv_at hl 3 rfl) ?_
  refine lv_aload_n hx hb dL_law_314 rfl (lv_at hl 1 rfl) ?_
  refine lv_iload hx hb dL_law_315 (lv_at hl 5 rfl) ?_
  refine lv_iconst (v := nI 1) hx hb dL_law_317 (by decide) ?_
  refine lv_iadd hx hb dL_law_318 ?_
  refine x_topi (y := nI (i + 1)) (nI_add _ _) ?_
  refine va_sld hx hb hX hbl hbA hS (vp_in_nI (n := i + 1) (N := L) (by omega) (by omega)) dL_law_319 ?_
  refine x_topi (y := (xs (i + 1))) (by rw [nI_clamp (by omega)]) ?_
  refine lv_aload_n hx hb dL_law_320 rfl (lv_at hl 1 rfl) ?_
  refine lv_iload hx hb dL_law_321 (lv_at hl 5 rfl) ?_
  refine lv_iconst (v := nI 2) hx hb dL_law_323 (by decide) ?_
  refine lv_iadd hx hb dL_law_324 ?_
  refine x_topi (y := nI (i + 2)) (nI_add _ _) ?_
  refine va_sld hx hb hX hbl hbA hS (vp_in_nI (n := i + 2) (N := L) (by omega) (by omega)) dL_law_325 ?_
  refine x_topi (y := (xs (i + 2))) (by rw [nI_clamp (by omega)]) ?_
  refine lv_aload_n hx hb dL_law_326 rfl (lv_at hl 1 rfl) ?_
  refine lv_iload hx hb dL_law_327 (lv_at hl 5 rfl) ?_
  refine lv_iconst (v := nI 3) hx hb dL_law_329 (by decide) ?_
  refine lv_iadd hx hb dL_law_330 ?_
  refine x_topi (y := nI (i + 3)) (nI_add _ _) ?_
  refine va_sld hx hb hX hbl hbA hS (vp_in_nI (n := i + 3) (N := L) (by omega) (by omega)) dL_law_331 ?_
  refine x_topi (y := (xs (i + 3))) (by rw [nI_clamp (by omega)]) ?_
  have hP := xp_perm (List.perm_append_comm (l₁ := (xC T u1.1 u1.2.1 M ++ [(o0, .inl (T 4, 1, .inr (.inl u1.2.2)))])) (l₂ := (xD T bd thr M))) hP
  have hD := xd_perm (List.perm_append_comm (l₁ := (xC T u1.1 u1.2.1 M ++ [(o0, .inl (T 4, 1, .inr (.inl u1.2.2)))])) (l₂ := (xD T bd thr M))) hD
  refine x_calliA (va_runV (As := [.int (xs (i + 1)), .int (xs (i + 2)), .int (xs (i + 3))]) (rest := []) ⟨hx, hb, hml, hown, hts⟩ (c_X4_comes l G T _ bd thr M (xs (i + 1)) (xs (i + 2)) (xs (i + 3)) ) (cwV 3 hts gL_law_X4_comes rfl rfl rfl (by decide +kernel) ⟨Nat.le_of_ble_eq_true rfl, Nat.le_of_ble_eq_true rfl⟩) (x_preVA (wc := (xD T bd thr M)) (wr := (xC T u1.1 u1.2.1 M ++ [(o0, .inl (T 4, 1, .inr (.inl u1.2.2)))])) hK hP hD hS hA hXB hZ _ _ 0 4 rfl rfl) rfl rfl hl.1 rfl (lv_room (Nat.le_of_ble_eq_true rfl)) dL_law_332 ⟨show (ce + 2) + 0 ≤ 651071 by omega, show (sl + 12) + 0 ≤ 7142890 by omega⟩) hP hD hS hA (fun _ _ _ => xd_self rfl (xd_l hD)) (fun r2 u2 H locs hw2 hP hD hS => ?_)
  have hP : va_P G vwCl ((xD T bd u2 M) ++ (xC T u1.1 u1.2.1 M ++ [(o0, .inl (T 4, 1, .inr (.inl u1.2.2)))])) H := hP
  have hD : va_D A ((xD T bd u2 M) ++ (xC T u1.1 u1.2.1 M ++ [(o0, .inl (T 4, 1, .inr (.inl u1.2.2)))])) := hD
  refine lv_istore (lv' := [(6, .int r2), (5, .int r1), (0, .ref b), (1, .ref (ad 0)), (2, .ref (bd 0)), (3, .ref o0), (4, .int (nI i))]) hx hb dL_law_335 hl (by decide) rfl (fun ls hl => ?_)
  refine lv_aload_n hx hb dL_law_337 rfl (lv_at hl 4 rfl) ?_
  refine x_calliA (va_runV (As := []) (rest := []) ⟨hx, hb, hml, hown, hts⟩ (c_X4_thrown l G T _ bd u2 M) (cwV 0 hts gL_law_X4_thrown rfl rfl rfl (by decide +kernel) ⟨Nat.le_of_ble_eq_true rfl, Nat.le_of_ble_eq_true rfl⟩) (x_preVA (wc := (xD T bd u2 M)) (wr := (xC T u1.1 u1.2.1 M ++ [(o0, .inl (T 4, 1, .inr (.inl u1.2.2)))])) hK hP hD hS hA hXB hZ _ _ 0 4 rfl rfl) rfl rfl hl.1 rfl (lv_room (Nat.le_of_ble_eq_true rfl)) dL_law_338 ⟨show ((ce + 2) + 0) + 0 ≤ 651071 by omega, show ((sl + 12) + 0) + 0 ≤ 7142890 by omega⟩) hP hD hS hA (fun _ _ _ => xd_self rfl (xd_l hD)) (fun r3 u3 H locs hw3 hP hD hS => ?_)
  have hP : va_P G vwCl ((xD T bd u2 M) ++ (xC T u1.1 u1.2.1 M ++ [(o0, .inl (T 4, 1, .inr (.inl u1.2.2)))])) H := hP
  have hD : va_D A ((xD T bd u2 M) ++ (xC T u1.1 u1.2.1 M ++ [(o0, .inl (T 4, 1, .inr (.inl u1.2.2)))])) := hD
  refine x_topi (y := u2) (hw3) ?_
  have hP := xp_perm (List.perm_append_comm (l₁ := (xD T bd u2 M)) (l₂ := (xC T u1.1 u1.2.1 M ++ [(o0, .inl (T 4, 1, .inr (.inl u1.2.2)))]))) hP
  have hD := xd_perm (List.perm_append_comm (l₁ := (xD T bd u2 M)) (l₂ := (xC T u1.1 u1.2.1 M ++ [(o0, .inl (T 4, 1, .inr (.inl u1.2.2)))]))) hD
  obtain ⟨hw1, hx1, hy1⟩ := hw1
  refine lv_iload hx hb dL_law_341 (lv_at hl 1 rfl) ?_
  rcases (show (r1 = nI 0 ∧ u2 = nI 0 ∧ u1.2.2 (nI 0).toNatClampNeg = r2.toInt64) ∨ (r1 = nI 1 ∧ u2 = nI 1) ∨ (r1 = nI 2 ∧ u2 = nI 2) from xmeet2 (fun e => by rw [e]; exact Bool.noConfusion) hw1 hw2) with ⟨rfl, rfl, hk3⟩ | ⟨rfl, rfl⟩ | ⟨rfl, rfl⟩
  · refine lv_icmp_eq (tgt := 348) hx hb dL_law_343 (by decide) (fun _ => ?_) (fun c_ => absurd (rfl) c_)
    refine lv_iload hx hb dL_law_348 (lv_at hl 1 rfl) ?_
    refine lv_if_ne (tgt := 365) hx hb dL_law_350 (by decide) (fun c_ => absurd (rfl) c_) (fun _ => ?_)
    refine lv_aload_n hx hb dL_law_353 rfl (lv_at hl 5 rfl) ?_
    refine lv_iconst (v := nI 0) hx hb dL_law_354 (by decide) ?_
    refine va_lald hx hb hK hP (xC T u1.1 u1.2.1 M).length 4 x_lget2 rfl (vp_in_nI (n := 0) (N := 1) (by decide) (by decide)) dL_law_355 ?_
    refine x_topl (y := r2.toInt64) (hk3) ?_
    refine lv_iload hx hb dL_law_356 (lv_at hl 0 rfl) ?_
    refine lv_i2l hx hb dL_law_358 rfl ?_
    refine x_lcmp0 hx hb dL_law_359 ?_
    refine lv_if_eq (tgt := 365) hx hb dL_law_360 (by decide) (fun _ => ?_) (fun c_ => absurd (rfl) c_)
    refine lv_goto (tgt := 1431) hx hb dL_law_365 (by decide) ?_
    refine W.widen (k := ce + 90) (n := sl + 547) (by omega) (by omega) ?_
    exact kk _ _ _ _ _ _ _ hx1 (xI_s hI hj) hP hD hS ls (lv_sub hl [2, 3, 4, 5, 6] rfl)
  · refine lv_icmp_eq (tgt := 348) hx hb dL_law_343 (by decide) (fun _ => ?_) (fun c_ => absurd (rfl) c_)
    refine lv_iload hx hb dL_law_348 (lv_at hl 1 rfl) ?_
    refine lv_if_ne (tgt := 365) hx hb dL_law_350 (by decide) (fun _ => ?_) (fun c_ => absurd c_ (by decide))
    refine lv_goto (tgt := 1431) hx hb dL_law_365 (by decide) ?_
    refine W.widen (k := ce + 90) (n := sl + 547) (by omega) (by omega) ?_
    exact kk _ _ _ _ _ _ _ hx1 (xI_s hI hj) hP hD hS ls (lv_sub hl [2, 3, 4, 5, 6] rfl)
  · refine lv_icmp_eq (tgt := 348) hx hb dL_law_343 (by decide) (fun _ => ?_) (fun c_ => absurd (rfl) c_)
    refine lv_iload hx hb dL_law_348 (lv_at hl 1 rfl) ?_
    refine lv_if_ne (tgt := 365) hx hb dL_law_350 (by decide) (fun _ => ?_) (fun c_ => absurd c_ (by decide))
    refine lv_goto (tgt := 1431) hx hb dL_law_365 (by decide) ?_
    refine W.widen (k := ce + 90) (n := sl + 547) (by omega) (by omega) ?_
    exact kk _ _ _ _ _ _ _ hx1 (xI_s hI hj) hP hD hS ls (lv_sub hl [2, 3, 4, 5, 6] rfl)

set_option maxHeartbeats 4000000 in
set_option maxRecDepth 100000 in
/-- the law: card -/
theorem lc_card {p : Program} {l : Launch} {e : Env} {s : State} {m : MethodId} {below : List Frame} {meth : Method} {c : Code} {G : va_G} {T : Nat → ClassId} {b L : Nat} {xs : Nat → Int32} (C0 : xLC p l s m meth c b L xs G T) (i j : Nat) (hi : i + 4 ≤ L) (hj : j < 512) (ad : Nat → Nat) (sc : Nat → Nat → Int32) (M : XM) (bd : Nat → Nat) (thr : Int32) (o0 : Nat) (h : Nat → Int64) (hI : xI M j) (ce sl : Nat) (hce : ce + 90 ≤ 651071) (hsl9 : sl + 547 ≤ 7142890) (H : Heap) (locs : List Loc) (hP : va_P G vwCl ((xC T ad sc M ++ [(o0, .inl (T 4, 1, .inr (.inl h)))]) ++ (xD T bd thr M)) H) (hD : va_D (fun q : Nat => s.heap.size ≤ q) ((xC T ad sc M ++ [(o0, .inl (T 4, 1, .inr (.inl h)))]) ++ (xD T bd thr M))) (hS : va_S (fun q : Nat => s.heap.size ≤ q) s.heap H locs) (ls : Array Slot) (hl : lv_has ls 9 [(0, .ref b), (1, .ref (ad 0)), (2, .ref (bd 0)), (3, .ref o0), (4, .int (nI i))]) (kk : ∀ (ad1 : Nat → Nat) (sc1 : Nat → Nat → Int32) (M1 : XM) (thr1 : Int32) (h1 : Nat → Int64) (H1 : Heap) (locs1 : List Loc), ad1 0 = ad 0 → xI M1 (j + 1) → va_P G vwCl ((xC T ad1 sc1 M1 ++ [(o0, .inl (T 4, 1, .inr (.inl h1)))]) ++ (xD T bd thr1 M1)) H1 → va_D (fun q : Nat => s.heap.size ≤ q) ((xC T ad1 sc1 M1 ++ [(o0, .inl (T 4, 1, .inr (.inl h1)))]) ++ (xD T bd thr1 M1)) → va_S (fun q : Nat => s.heap.size ≤ q) s.heap H1 locs1 → ∀ ls1 : Array Slot, lv_has ls1 9 [(0, .ref b), (1, .ref (ad 0)), (2, .ref (bd 0)), (3, .ref o0), (4, .int (nI i))] → W p l e room_1 s m #[Value.ref b] below meth c H1 locs1 (ce + 90) (sl + 547) (lw_Z below #[Value.ref b] s) (F0 m 1431 ls1 [])) : W p l e room_1 s m #[Value.ref b] below meth c H locs ce sl (lw_Z below #[Value.ref b] s) (F0 m 368 ls []) := by
  obtain ⟨hx, hb, hr, hml, hown, hts, hX, hbl, hlocks, hK, hXB, hZ, hL9, hsl⟩ := C0
  have hA : ∀ q : Nat, s.heap.size ≤ q → (fun q : Nat => s.heap.size ≤ q) q := fun _ h => h
  have hbA : ¬ (fun q : Nat => s.heap.size ≤ q) b := Nat.not_le.mpr hbl
  obtain ⟨hn4, hm4, hpk, hsur, hsh, hth, hz0, hhb, hle, hta, hj5⟩ := id hI
  generalize hAe : (fun q : Nat => s.heap.size ≤ q) = A at hA hbA hZ hD hS kk
  refine lv_aload_n hx hb dL_law_368 rfl (lv_at hl 1 rfl) ?_
  refine lv_aload_n hx hb dL_law_369 rfl (lv_at hl 0 rfl) ?_
  refine lv_iload hx hb dL_law_370 (lv_at hl 4 rfl) ?_
  refine lv_iconst (v := nI 1) hx hb dL_law_372 (by decide) ?_
  refine lv_iadd hx hb dL_law_373 ?_
  refine x_topi (y := nI (i + 1)) (nI_add _ _) ?_
  refine va_sld hx hb hX hbl hbA hS (vp_in_nI (n := i + 1) (N := L) (by omega) (by omega)) dL_law_374 ?_
  refine x_topi (y := (xs (i + 1))) (by rw [nI_clamp (by omega)]) ?_
  refine lv_aload_n hx hb dL_law_375 rfl (lv_at hl 3 rfl) ?_
  refine x_calliA (vx_runSW (As := [.ref (ad 0), .int (xs (i + 1)), .ref o0]) (rest := []) ⟨hx, hb, hml, hown, hts⟩ (c_L_card l hsl G T _ ad sc M o0 h (xs (i + 1)) ) (vx_cwSW 3 hts gL_law_L_card rfl rfl rfl (by decide +kernel) ⟨Nat.le_of_ble_eq_true rfl, Nat.le_of_ble_eq_true rfl⟩) (x_preSA (wc := (xC T ad sc M ++ [(o0, .inl (T 4, 1, .inr (.inl h)))])) (wr := (xD T bd thr M)) hK hP hD hS hA hXB hZ _) rfl rfl hl.1 rfl (lv_room (Nat.le_of_ble_eq_true rfl)) dL_law_376 ⟨show ce + 1 ≤ 651071 by omega, show sl + 6 ≤ 7142890 by omega⟩) hP hD hS hA (fun _ _ hw => hw.2.2) (fun r1 u1 H locs hw1 hP hD hS => ?_)
  have hP : va_P G vwCl ((xC T u1.1 u1.2.1 M ++ [(o0, .inl (T 4, 1, .inr (.inl u1.2.2)))]) ++ (xD T bd thr M)) H := hP
  have hD : va_D A ((xC T u1.1 u1.2.1 M ++ [(o0, .inl (T 4, 1, .inr (.inl u1.2.2)))]) ++ (xD T bd thr M)) := hD
  refine lv_istore (lv' := [(5, .int r1), (0, .ref b), (1, .ref (ad 0)), (2, .ref (bd 0)), (3, .ref o0), (4, .int (nI i))]) hx hb dL_law_379 hl (by decide) rfl (fun ls hl => ?_)
  refine lv_aload_n hx hb dL_law_381 rfl (lv_at hl 3 rfl) ?_
  refine lv_aload_n hx hb dL_law_382 rfl (lv_at hl 1 rfl) ?_
  refine lv_iload hx hb dL_law_383 (lv_at hl 5 rfl) ?_
  refine lv_iconst (v := nI 1) hx hb dL_law_385 (by decide) ?_
  refine lv_iadd hx hb dL_law_386 ?_
  refine x_topi (y := nI (i + 1)) (nI_add _ _) ?_
  refine va_sld hx hb hX hbl hbA hS (vp_in_nI (n := i + 1) (N := L) (by omega) (by omega)) dL_law_387 ?_
  refine x_topi (y := (xs (i + 1))) (by rw [nI_clamp (by omega)]) ?_
  have hP := xp_perm (List.perm_append_comm (l₁ := (xC T u1.1 u1.2.1 M ++ [(o0, .inl (T 4, 1, .inr (.inl u1.2.2)))])) (l₂ := (xD T bd thr M))) hP
  have hD := xd_perm (List.perm_append_comm (l₁ := (xC T u1.1 u1.2.1 M ++ [(o0, .inl (T 4, 1, .inr (.inl u1.2.2)))])) (l₂ := (xD T bd thr M))) hD
  refine x_calliA (va_runV (As := [.int (xs (i + 1))]) (rest := []) ⟨hx, hb, hml, hown, hts⟩ (c_X4_card l G T _ bd thr M (xs (i + 1)) ) (cwV 1 hts gL_law_X4_card rfl rfl rfl (by decide +kernel) ⟨Nat.le_of_ble_eq_true rfl, Nat.le_of_ble_eq_true rfl⟩) (x_preVA (wc := (xD T bd thr M)) (wr := (xC T u1.1 u1.2.1 M ++ [(o0, .inl (T 4, 1, .inr (.inl u1.2.2)))])) hK hP hD hS hA hXB hZ _ _ 0 4 rfl rfl) rfl rfl hl.1 rfl (lv_room (Nat.le_of_ble_eq_true rfl)) dL_law_388 ⟨show (ce + 1) + 0 ≤ 651071 by omega, show (sl + 6) + 0 ≤ 7142890 by omega⟩) hP hD hS hA (fun _ _ _ => xd_self rfl (xd_l hD)) (fun r2 u2 H locs hw2 hP hD hS => ?_)
  have hP : va_P G vwCl ((xD T bd u2 M) ++ (xC T u1.1 u1.2.1 M ++ [(o0, .inl (T 4, 1, .inr (.inl u1.2.2)))])) H := hP
  have hD : va_D A ((xD T bd u2 M) ++ (xC T u1.1 u1.2.1 M ++ [(o0, .inl (T 4, 1, .inr (.inl u1.2.2)))])) := hD
  refine lv_istore (lv' := [(6, .int r2), (5, .int r1), (0, .ref b), (1, .ref (ad 0)), (2, .ref (bd 0)), (3, .ref o0), (4, .int (nI i))]) hx hb dL_law_391 hl (by decide) rfl (fun ls hl => ?_)
  refine lv_aload_n hx hb dL_law_393 rfl (lv_at hl 4 rfl) ?_
  refine x_calliA (va_runV (As := []) (rest := []) ⟨hx, hb, hml, hown, hts⟩ (c_X4_thrown l G T _ bd u2 M) (cwV 0 hts gL_law_X4_thrown rfl rfl rfl (by decide +kernel) ⟨Nat.le_of_ble_eq_true rfl, Nat.le_of_ble_eq_true rfl⟩) (x_preVA (wc := (xD T bd u2 M)) (wr := (xC T u1.1 u1.2.1 M ++ [(o0, .inl (T 4, 1, .inr (.inl u1.2.2)))])) hK hP hD hS hA hXB hZ _ _ 0 4 rfl rfl) rfl rfl hl.1 rfl (lv_room (Nat.le_of_ble_eq_true rfl)) dL_law_394 ⟨show ((ce + 1) + 0) + 0 ≤ 651071 by omega, show ((sl + 6) + 0) + 0 ≤ 7142890 by omega⟩) hP hD hS hA (fun _ _ _ => xd_self rfl (xd_l hD)) (fun r3 u3 H locs hw3 hP hD hS => ?_)
  have hP : va_P G vwCl ((xD T bd u2 M) ++ (xC T u1.1 u1.2.1 M ++ [(o0, .inl (T 4, 1, .inr (.inl u1.2.2)))])) H := hP
  have hD : va_D A ((xD T bd u2 M) ++ (xC T u1.1 u1.2.1 M ++ [(o0, .inl (T 4, 1, .inr (.inl u1.2.2)))])) := hD
  refine x_topi (y := u2) (hw3) ?_
  have hP := xp_perm (List.perm_append_comm (l₁ := (xD T bd u2 M)) (l₂ := (xC T u1.1 u1.2.1 M ++ [(o0, .inl (T 4, 1, .inr (.inl u1.2.2)))]))) hP
  have hD := xd_perm (List.perm_append_comm (l₁ := (xD T bd u2 M)) (l₂ := (xC T u1.1 u1.2.1 M ++ [(o0, .inl (T 4, 1, .inr (.inl u1.2.2)))]))) hD
  obtain ⟨hw1, hx1, hy1⟩ := hw1
  refine lv_iload hx hb dL_law_397 (lv_at hl 1 rfl) ?_
  rcases (show (r1 = nI 0 ∧ u2 = nI 0 ∧ u1.2.2 (nI 0).toNatClampNeg = r2.toInt64) ∨ (r1 = nI 1 ∧ u2 = nI 1) from xmeet1 hw1 hw2) with ⟨rfl, rfl, hk3⟩ | ⟨rfl, rfl⟩
  · refine lv_icmp_eq (tgt := 404) hx hb dL_law_399 (by decide) (fun _ => ?_) (fun c_ => absurd (rfl) c_)
    refine lv_iload hx hb dL_law_404 (lv_at hl 1 rfl) ?_
    refine lv_if_ne (tgt := 421) hx hb dL_law_406 (by decide) (fun c_ => absurd (rfl) c_) (fun _ => ?_)
    refine lv_aload_n hx hb dL_law_409 rfl (lv_at hl 5 rfl) ?_
    refine lv_iconst (v := nI 0) hx hb dL_law_410 (by decide) ?_
    refine va_lald hx hb hK hP (xC T u1.1 u1.2.1 M).length 4 x_lget2 rfl (vp_in_nI (n := 0) (N := 1) (by decide) (by decide)) dL_law_411 ?_
    refine x_topl (y := r2.toInt64) (hk3) ?_
    refine lv_iload hx hb dL_law_412 (lv_at hl 0 rfl) ?_
    refine lv_i2l hx hb dL_law_414 rfl ?_
    refine x_lcmp0 hx hb dL_law_415 ?_
    refine lv_if_eq (tgt := 421) hx hb dL_law_416 (by decide) (fun _ => ?_) (fun c_ => absurd (rfl) c_)
    refine lv_goto (tgt := 1431) hx hb dL_law_421 (by decide) ?_
    refine W.widen (k := ce + 90) (n := sl + 547) (by omega) (by omega) ?_
    exact kk _ _ _ _ _ _ _ hx1 (xI_s hI hj) hP hD hS ls (lv_sub hl [2, 3, 4, 5, 6] rfl)
  · refine lv_icmp_eq (tgt := 404) hx hb dL_law_399 (by decide) (fun _ => ?_) (fun c_ => absurd (rfl) c_)
    refine lv_iload hx hb dL_law_404 (lv_at hl 1 rfl) ?_
    refine lv_if_ne (tgt := 421) hx hb dL_law_406 (by decide) (fun _ => ?_) (fun c_ => absurd c_ (by decide))
    refine lv_goto (tgt := 1431) hx hb dL_law_421 (by decide) ?_
    refine W.widen (k := ce + 90) (n := sl + 547) (by omega) (by omega) ?_
    exact kk _ _ _ _ _ _ _ hx1 (xI_s hI hj) hP hD hS ls (lv_sub hl [2, 3, 4, 5, 6] rfl)

set_option maxHeartbeats 4000000 in
set_option maxRecDepth 100000 in
/-- the law: find -/
theorem lc_find {p : Program} {l : Launch} {e : Env} {s : State} {m : MethodId} {below : List Frame} {meth : Method} {c : Code} {G : va_G} {T : Nat → ClassId} {b L : Nat} {xs : Nat → Int32} (C0 : xLC p l s m meth c b L xs G T) (i j : Nat) (hi : i + 4 ≤ L) (hj : j < 512) (ad : Nat → Nat) (sc : Nat → Nat → Int32) (M : XM) (bd : Nat → Nat) (thr : Int32) (o0 : Nat) (h : Nat → Int64) (hI : xI M j) (ce sl : Nat) (hce : ce + 90 ≤ 651071) (hsl9 : sl + 547 ≤ 7142890) (H : Heap) (locs : List Loc) (hP : va_P G vwCl ((xC T ad sc M ++ [(o0, .inl (T 4, 1, .inr (.inl h)))]) ++ (xD T bd thr M)) H) (hD : va_D (fun q : Nat => s.heap.size ≤ q) ((xC T ad sc M ++ [(o0, .inl (T 4, 1, .inr (.inl h)))]) ++ (xD T bd thr M))) (hS : va_S (fun q : Nat => s.heap.size ≤ q) s.heap H locs) (ls : Array Slot) (hl : lv_has ls 9 [(0, .ref b), (1, .ref (ad 0)), (2, .ref (bd 0)), (3, .ref o0), (4, .int (nI i))]) (kk : ∀ (ad1 : Nat → Nat) (sc1 : Nat → Nat → Int32) (M1 : XM) (thr1 : Int32) (h1 : Nat → Int64) (H1 : Heap) (locs1 : List Loc), ad1 0 = ad 0 → xI M1 (j + 1) → va_P G vwCl ((xC T ad1 sc1 M1 ++ [(o0, .inl (T 4, 1, .inr (.inl h1)))]) ++ (xD T bd thr1 M1)) H1 → va_D (fun q : Nat => s.heap.size ≤ q) ((xC T ad1 sc1 M1 ++ [(o0, .inl (T 4, 1, .inr (.inl h1)))]) ++ (xD T bd thr1 M1)) → va_S (fun q : Nat => s.heap.size ≤ q) s.heap H1 locs1 → ∀ ls1 : Array Slot, lv_has ls1 9 [(0, .ref b), (1, .ref (ad 0)), (2, .ref (bd 0)), (3, .ref o0), (4, .int (nI i))] → W p l e room_1 s m #[Value.ref b] below meth c H1 locs1 (ce + 90) (sl + 547) (lw_Z below #[Value.ref b] s) (F0 m 1431 ls1 [])) : W p l e room_1 s m #[Value.ref b] below meth c H locs ce sl (lw_Z below #[Value.ref b] s) (F0 m 424 ls []) := by
  obtain ⟨hx, hb, hr, hml, hown, hts, hX, hbl, hlocks, hK, hXB, hZ, hL9, hsl⟩ := C0
  have hA : ∀ q : Nat, s.heap.size ≤ q → (fun q : Nat => s.heap.size ≤ q) q := fun _ h => h
  have hbA : ¬ (fun q : Nat => s.heap.size ≤ q) b := Nat.not_le.mpr hbl
  obtain ⟨hn4, hm4, hpk, hsur, hsh, hth, hz0, hhb, hle, hta, hj5⟩ := id hI
  generalize hAe : (fun q : Nat => s.heap.size ≤ q) = A at hA hbA hZ hD hS kk
  refine lv_aload_n hx hb dL_law_424 rfl (lv_at hl 1 rfl) ?_
  refine lv_aload_n hx hb dL_law_425 rfl (lv_at hl 0 rfl) ?_
  refine lv_iload hx hb dL_law_426 (lv_at hl 4 rfl) ?_
  refine lv_iconst (v := nI 1) hx hb dL_law_428 (by decide) ?_
  refine lv_iadd hx hb dL_law_429 ?_
  refine x_topi (y := nI (i + 1)) (nI_add _ _) ?_
  refine va_sld hx hb hX hbl hbA hS (vp_in_nI (n := i + 1) (N := L) (by omega) (by omega)) dL_law_430 ?_
  refine x_topi (y := (xs (i + 1))) (by rw [nI_clamp (by omega)]) ?_
  refine lv_aload_n hx hb dL_law_431 rfl (lv_at hl 3 rfl) ?_
  refine x_calliA (vx_runSW (As := [.ref (ad 0), .int (xs (i + 1)), .ref o0]) (rest := []) ⟨hx, hb, hml, hown, hts⟩ (c_L_find l hsl G T _ ad sc M o0 h (xs (i + 1)) ) (vx_cwSW 3 hts gL_law_L_find rfl rfl rfl (by decide +kernel) ⟨Nat.le_of_ble_eq_true rfl, Nat.le_of_ble_eq_true rfl⟩) (x_preSA (wc := (xC T ad sc M ++ [(o0, .inl (T 4, 1, .inr (.inl h)))])) (wr := (xD T bd thr M)) hK hP hD hS hA hXB hZ _) rfl rfl hl.1 rfl (lv_room (Nat.le_of_ble_eq_true rfl)) dL_law_432 ⟨show ce + 1 ≤ 651071 by omega, show sl + 6 ≤ 7142890 by omega⟩) hP hD hS hA (fun _ _ hw => hw.2.2) (fun r1 u1 H locs hw1 hP hD hS => ?_)
  have hP : va_P G vwCl ((xC T u1.1 u1.2.1 M ++ [(o0, .inl (T 4, 1, .inr (.inl u1.2.2)))]) ++ (xD T bd thr M)) H := hP
  have hD : va_D A ((xC T u1.1 u1.2.1 M ++ [(o0, .inl (T 4, 1, .inr (.inl u1.2.2)))]) ++ (xD T bd thr M)) := hD
  refine lv_istore (lv' := [(5, .int r1), (0, .ref b), (1, .ref (ad 0)), (2, .ref (bd 0)), (3, .ref o0), (4, .int (nI i))]) hx hb dL_law_435 hl (by decide) rfl (fun ls hl => ?_)
  refine lv_aload_n hx hb dL_law_437 rfl (lv_at hl 3 rfl) ?_
  refine lv_aload_n hx hb dL_law_438 rfl (lv_at hl 1 rfl) ?_
  refine lv_iload hx hb dL_law_439 (lv_at hl 5 rfl) ?_
  refine lv_iconst (v := nI 1) hx hb dL_law_441 (by decide) ?_
  refine lv_iadd hx hb dL_law_442 ?_
  refine x_topi (y := nI (i + 1)) (nI_add _ _) ?_
  refine va_sld hx hb hX hbl hbA hS (vp_in_nI (n := i + 1) (N := L) (by omega) (by omega)) dL_law_443 ?_
  refine x_topi (y := (xs (i + 1))) (by rw [nI_clamp (by omega)]) ?_
  have hP := xp_perm (List.perm_append_comm (l₁ := (xC T u1.1 u1.2.1 M ++ [(o0, .inl (T 4, 1, .inr (.inl u1.2.2)))])) (l₂ := (xD T bd thr M))) hP
  have hD := xd_perm (List.perm_append_comm (l₁ := (xC T u1.1 u1.2.1 M ++ [(o0, .inl (T 4, 1, .inr (.inl u1.2.2)))])) (l₂ := (xD T bd thr M))) hD
  refine x_calliA (va_runV (As := [.int (xs (i + 1))]) (rest := []) ⟨hx, hb, hml, hown, hts⟩ (c_X4_find l G T _ bd thr M (xs (i + 1)) hsur) (cwV 1 hts gL_law_X4_find rfl rfl rfl (by decide +kernel) ⟨Nat.le_of_ble_eq_true rfl, Nat.le_of_ble_eq_true rfl⟩) (x_preVA (wc := (xD T bd thr M)) (wr := (xC T u1.1 u1.2.1 M ++ [(o0, .inl (T 4, 1, .inr (.inl u1.2.2)))])) hK hP hD hS hA hXB hZ _ _ 0 4 rfl rfl) rfl rfl hl.1 rfl (lv_room (Nat.le_of_ble_eq_true rfl)) dL_law_444 ⟨show (ce + 1) + 0 ≤ 651071 by omega, show (sl + 6) + 0 ≤ 7142890 by omega⟩) hP hD hS hA (fun _ _ _ => xd_self rfl (xd_l hD)) (fun r2 u2 H locs hw2 hP hD hS => ?_)
  have hP : va_P G vwCl ((xD T bd u2 M) ++ (xC T u1.1 u1.2.1 M ++ [(o0, .inl (T 4, 1, .inr (.inl u1.2.2)))])) H := hP
  have hD : va_D A ((xD T bd u2 M) ++ (xC T u1.1 u1.2.1 M ++ [(o0, .inl (T 4, 1, .inr (.inl u1.2.2)))])) := hD
  refine lv_istore (lv' := [(6, .int r2), (5, .int r1), (0, .ref b), (1, .ref (ad 0)), (2, .ref (bd 0)), (3, .ref o0), (4, .int (nI i))]) hx hb dL_law_447 hl (by decide) rfl (fun ls hl => ?_)
  refine lv_aload_n hx hb dL_law_449 rfl (lv_at hl 4 rfl) ?_
  refine x_calliA (va_runV (As := []) (rest := []) ⟨hx, hb, hml, hown, hts⟩ (c_X4_thrown l G T _ bd u2 M) (cwV 0 hts gL_law_X4_thrown rfl rfl rfl (by decide +kernel) ⟨Nat.le_of_ble_eq_true rfl, Nat.le_of_ble_eq_true rfl⟩) (x_preVA (wc := (xD T bd u2 M)) (wr := (xC T u1.1 u1.2.1 M ++ [(o0, .inl (T 4, 1, .inr (.inl u1.2.2)))])) hK hP hD hS hA hXB hZ _ _ 0 4 rfl rfl) rfl rfl hl.1 rfl (lv_room (Nat.le_of_ble_eq_true rfl)) dL_law_450 ⟨show ((ce + 1) + 0) + 0 ≤ 651071 by omega, show ((sl + 6) + 0) + 0 ≤ 7142890 by omega⟩) hP hD hS hA (fun _ _ _ => xd_self rfl (xd_l hD)) (fun r3 u3 H locs hw3 hP hD hS => ?_)
  have hP : va_P G vwCl ((xD T bd u2 M) ++ (xC T u1.1 u1.2.1 M ++ [(o0, .inl (T 4, 1, .inr (.inl u1.2.2)))])) H := hP
  have hD : va_D A ((xD T bd u2 M) ++ (xC T u1.1 u1.2.1 M ++ [(o0, .inl (T 4, 1, .inr (.inl u1.2.2)))])) := hD
  refine x_topi (y := u2) (hw3) ?_
  have hP := xp_perm (List.perm_append_comm (l₁ := (xD T bd u2 M)) (l₂ := (xC T u1.1 u1.2.1 M ++ [(o0, .inl (T 4, 1, .inr (.inl u1.2.2)))]))) hP
  have hD := xd_perm (List.perm_append_comm (l₁ := (xD T bd u2 M)) (l₂ := (xC T u1.1 u1.2.1 M ++ [(o0, .inl (T 4, 1, .inr (.inl u1.2.2)))]))) hD
  obtain ⟨hw1, hx1, hy1⟩ := hw1
  refine lv_iload hx hb dL_law_453 (lv_at hl 1 rfl) ?_
  rcases (show (r1 = nI 0 ∧ u2 = nI 0 ∧ u1.2.2 (nI 0).toNatClampNeg = r2.toInt64) ∨ (r1 = nI 1 ∧ u2 = nI 1) from xmeet1 hw1 hw2) with ⟨rfl, rfl, hk3⟩ | ⟨rfl, rfl⟩
  · refine lv_icmp_eq (tgt := 460) hx hb dL_law_455 (by decide) (fun _ => ?_) (fun c_ => absurd (rfl) c_)
    refine lv_iload hx hb dL_law_460 (lv_at hl 1 rfl) ?_
    refine lv_if_ne (tgt := 477) hx hb dL_law_462 (by decide) (fun c_ => absurd (rfl) c_) (fun _ => ?_)
    refine lv_aload_n hx hb dL_law_465 rfl (lv_at hl 5 rfl) ?_
    refine lv_iconst (v := nI 0) hx hb dL_law_466 (by decide) ?_
    refine va_lald hx hb hK hP (xC T u1.1 u1.2.1 M).length 4 x_lget2 rfl (vp_in_nI (n := 0) (N := 1) (by decide) (by decide)) dL_law_467 ?_
    refine x_topl (y := r2.toInt64) (hk3) ?_
    refine lv_iload hx hb dL_law_468 (lv_at hl 0 rfl) ?_
    refine lv_i2l hx hb dL_law_470 rfl ?_
    refine x_lcmp0 hx hb dL_law_471 ?_
    refine lv_if_eq (tgt := 477) hx hb dL_law_472 (by decide) (fun _ => ?_) (fun c_ => absurd (rfl) c_)
    refine lv_goto (tgt := 1431) hx hb dL_law_477 (by decide) ?_
    refine W.widen (k := ce + 90) (n := sl + 547) (by omega) (by omega) ?_
    exact kk _ _ _ _ _ _ _ hx1 (xI_s hI hj) hP hD hS ls (lv_sub hl [2, 3, 4, 5, 6] rfl)
  · refine lv_icmp_eq (tgt := 460) hx hb dL_law_455 (by decide) (fun _ => ?_) (fun c_ => absurd (rfl) c_)
    refine lv_iload hx hb dL_law_460 (lv_at hl 1 rfl) ?_
    refine lv_if_ne (tgt := 477) hx hb dL_law_462 (by decide) (fun _ => ?_) (fun c_ => absurd c_ (by decide))
    refine lv_goto (tgt := 1431) hx hb dL_law_477 (by decide) ?_
    refine W.widen (k := ce + 90) (n := sl + 547) (by omega) (by omega) ?_
    exact kk _ _ _ _ _ _ _ hx1 (xI_s hI hj) hP hD hS ls (lv_sub hl [2, 3, 4, 5, 6] rfl)

set_option maxHeartbeats 4000000 in
set_option maxRecDepth 100000 in
/-- the law: watch -/
theorem lc_watch {p : Program} {l : Launch} {e : Env} {s : State} {m : MethodId} {below : List Frame} {meth : Method} {c : Code} {G : va_G} {T : Nat → ClassId} {b L : Nat} {xs : Nat → Int32} (C0 : xLC p l s m meth c b L xs G T) (i j : Nat) (hi : i + 4 ≤ L) (hj : j < 512) (ad : Nat → Nat) (sc : Nat → Nat → Int32) (M : XM) (bd : Nat → Nat) (thr : Int32) (o0 : Nat) (h : Nat → Int64) (hI : xI M j) (ce sl : Nat) (hce : ce + 90 ≤ 651071) (hsl9 : sl + 547 ≤ 7142890) (H : Heap) (locs : List Loc) (hP : va_P G vwCl ((xC T ad sc M ++ [(o0, .inl (T 4, 1, .inr (.inl h)))]) ++ (xD T bd thr M)) H) (hD : va_D (fun q : Nat => s.heap.size ≤ q) ((xC T ad sc M ++ [(o0, .inl (T 4, 1, .inr (.inl h)))]) ++ (xD T bd thr M))) (hS : va_S (fun q : Nat => s.heap.size ≤ q) s.heap H locs) (ls : Array Slot) (hl : lv_has ls 9 [(0, .ref b), (1, .ref (ad 0)), (2, .ref (bd 0)), (3, .ref o0), (4, .int (nI i))]) (kk : ∀ (ad1 : Nat → Nat) (sc1 : Nat → Nat → Int32) (M1 : XM) (thr1 : Int32) (h1 : Nat → Int64) (H1 : Heap) (locs1 : List Loc), ad1 0 = ad 0 → xI M1 (j + 1) → va_P G vwCl ((xC T ad1 sc1 M1 ++ [(o0, .inl (T 4, 1, .inr (.inl h1)))]) ++ (xD T bd thr1 M1)) H1 → va_D (fun q : Nat => s.heap.size ≤ q) ((xC T ad1 sc1 M1 ++ [(o0, .inl (T 4, 1, .inr (.inl h1)))]) ++ (xD T bd thr1 M1)) → va_S (fun q : Nat => s.heap.size ≤ q) s.heap H1 locs1 → ∀ ls1 : Array Slot, lv_has ls1 9 [(0, .ref b), (1, .ref (ad 0)), (2, .ref (bd 0)), (3, .ref o0), (4, .int (nI i))] → W p l e room_1 s m #[Value.ref b] below meth c H1 locs1 (ce + 90) (sl + 547) (lw_Z below #[Value.ref b] s) (F0 m 1431 ls1 [])) : W p l e room_1 s m #[Value.ref b] below meth c H locs ce sl (lw_Z below #[Value.ref b] s) (F0 m 480 ls []) := by
  obtain ⟨hx, hb, hr, hml, hown, hts, hX, hbl, hlocks, hK, hXB, hZ, hL9, hsl⟩ := C0
  have hA : ∀ q : Nat, s.heap.size ≤ q → (fun q : Nat => s.heap.size ≤ q) q := fun _ h => h
  have hbA : ¬ (fun q : Nat => s.heap.size ≤ q) b := Nat.not_le.mpr hbl
  obtain ⟨hn4, hm4, hpk, hsur, hsh, hth, hz0, hhb, hle, hta, hj5⟩ := id hI
  generalize hAe : (fun q : Nat => s.heap.size ≤ q) = A at hA hbA hZ hD hS kk
  refine lv_aload_n hx hb dL_law_480 rfl (lv_at hl 1 rfl) ?_
  refine lv_aload_n hx hb dL_law_481 rfl (lv_at hl 0 rfl) ?_
  refine lv_iload hx hb dL_law_482 (lv_at hl 4 rfl) ?_
  refine lv_iconst (v := nI 1) hx hb dL_law_484 (by decide) ?_
  refine lv_iadd hx hb dL_law_485 ?_
  refine x_topi (y := nI (i + 1)) (nI_add _ _) ?_
  refine va_sld hx hb hX hbl hbA hS (vp_in_nI (n := i + 1) (N := L) (by omega) (by omega)) dL_law_486 ?_
  refine x_topi (y := (xs (i + 1))) (by rw [nI_clamp (by omega)]) ?_
  refine lv_if_eq (tgt := 494) hx hb dL_law_487 (by decide) (fun c0 => ?_) (fun c0 => ?_)
  · refine lv_iconst (v := nI 0) hx hb dL_law_494 (by decide) ?_
    refine lv_aload_n hx hb dL_law_495 rfl (lv_at hl 3 rfl) ?_
    refine x_calliA (vx_runSW (As := [.ref (ad 0), .int (nI 0), .ref o0]) (rest := []) ⟨hx, hb, hml, hown, hts⟩ (c_L_watch l hsl G T _ ad sc M o0 h (nI 0) rfl rfl hn4 hm4 (hz0 _ (Nat.le_refl _))) (vx_cwSW 3 hts gL_law_L_watch rfl rfl rfl (by decide +kernel) ⟨Nat.le_of_ble_eq_true rfl, Nat.le_of_ble_eq_true rfl⟩) (x_preSA (wc := (xC T ad sc M ++ [(o0, .inl (T 4, 1, .inr (.inl h)))])) (wr := (xD T bd thr M)) hK hP hD hS hA hXB hZ _) rfl rfl hl.1 rfl (lv_room (Nat.le_of_ble_eq_true rfl)) dL_law_496 ⟨show ce + 4 ≤ 651071 by omega, show sl + 38 ≤ 7142890 by omega⟩) hP hD hS hA (fun _ _ hw => hw.2.2) (fun r1 u1 H locs hw1 hP hD hS => ?_)
    have hP : va_P G vwCl ((xC T u1.1 u1.2.1 (if mnw M < 4 then (xmk (mpk M) (va_up (mth M) (mnw M) (fun _ => nI 65535)) (upd (msh M) (mnw M) (nI 0)) (man M) (mgl M) (mhb M) (mtk M) (mnw M + 1) (mnp M) (mle M) (mwy M) (mfc M) (mta M)) else M) ++ [(o0, .inl (T 4, 1, .inr (.inl u1.2.2)))]) ++ (xD T bd thr M)) H := hP
    have hD : va_D A ((xC T u1.1 u1.2.1 (if mnw M < 4 then (xmk (mpk M) (va_up (mth M) (mnw M) (fun _ => nI 65535)) (upd (msh M) (mnw M) (nI 0)) (man M) (mgl M) (mhb M) (mtk M) (mnw M + 1) (mnp M) (mle M) (mwy M) (mfc M) (mta M)) else M) ++ [(o0, .inl (T 4, 1, .inr (.inl u1.2.2)))]) ++ (xD T bd thr M)) := hD
    refine lv_istore (lv' := [(5, .int r1), (0, .ref b), (1, .ref (ad 0)), (2, .ref (bd 0)), (3, .ref o0), (4, .int (nI i))]) hx hb dL_law_499 hl (by decide) rfl (fun ls hl => ?_)
    refine lv_aload_n hx hb dL_law_501 rfl (lv_at hl 3 rfl) ?_
    refine lv_aload_n hx hb dL_law_502 rfl (lv_at hl 1 rfl) ?_
    refine lv_iload hx hb dL_law_503 (lv_at hl 5 rfl) ?_
    refine lv_iconst (v := nI 1) hx hb dL_law_505 (by decide) ?_
    refine lv_iadd hx hb dL_law_506 ?_
    refine x_topi (y := nI (i + 1)) (nI_add _ _) ?_
    refine va_sld hx hb hX hbl hbA hS (vp_in_nI (n := i + 1) (N := L) (by omega) (by omega)) dL_law_507 ?_
    refine x_topi (y := (xs (i + 1))) (by rw [nI_clamp (by omega)]) ?_
    refine lv_if_eq (tgt := 515) hx hb dL_law_508 (by decide) (fun _ => ?_) (fun c_ => absurd (c0) c_)
    refine lv_iconst (v := nI 0) hx hb dL_law_515 (by decide) ?_
    have hP := xp_perm (List.perm_append_comm (l₁ := (xC T u1.1 u1.2.1 (if mnw M < 4 then (xmk (mpk M) (va_up (mth M) (mnw M) (fun _ => nI 65535)) (upd (msh M) (mnw M) (nI 0)) (man M) (mgl M) (mhb M) (mtk M) (mnw M + 1) (mnp M) (mle M) (mwy M) (mfc M) (mta M)) else M) ++ [(o0, .inl (T 4, 1, .inr (.inl u1.2.2)))])) (l₂ := (xD T bd thr M))) hP
    have hD := xd_perm (List.perm_append_comm (l₁ := (xC T u1.1 u1.2.1 (if mnw M < 4 then (xmk (mpk M) (va_up (mth M) (mnw M) (fun _ => nI 65535)) (upd (msh M) (mnw M) (nI 0)) (man M) (mgl M) (mhb M) (mtk M) (mnw M + 1) (mnp M) (mle M) (mwy M) (mfc M) (mta M)) else M) ++ [(o0, .inl (T 4, 1, .inr (.inl u1.2.2)))])) (l₂ := (xD T bd thr M))) hD
    refine x_calliA (va_runV (As := [.int (nI 0)]) (rest := []) ⟨hx, hb, hml, hown, hts⟩ (c_X4_watch l G T _ bd thr M (nI 0) (Or.inl rfl) hn4) (cwV 1 hts gL_law_X4_watch rfl rfl rfl (by decide +kernel) ⟨Nat.le_of_ble_eq_true rfl, Nat.le_of_ble_eq_true rfl⟩) (x_preVA (wc := (xD T bd thr M)) (wr := (xC T u1.1 u1.2.1 (if mnw M < 4 then (xmk (mpk M) (va_up (mth M) (mnw M) (fun _ => nI 65535)) (upd (msh M) (mnw M) (nI 0)) (man M) (mgl M) (mhb M) (mtk M) (mnw M + 1) (mnp M) (mle M) (mwy M) (mfc M) (mta M)) else M) ++ [(o0, .inl (T 4, 1, .inr (.inl u1.2.2)))])) hK hP hD hS hA hXB hZ _ _ 0 4 rfl rfl) rfl rfl hl.1 rfl (lv_room (Nat.le_of_ble_eq_true rfl)) dL_law_516 ⟨show (ce + 4) + 0 ≤ 651071 by omega, show (sl + 38) + 0 ≤ 7142890 by omega⟩) hP hD hS hA (fun _ _ _ => xd_self rfl (xd_l hD)) (fun r2 u2 H locs hw2 hP hD hS => ?_)
    have hP : va_P G vwCl ((xD T bd u2 (if mnw M < 4 then (xmk (mpk M) (va_up (mth M) (mnw M) (fun _ => nI 65535)) (upd (msh M) (mnw M) (nI 0)) (man M) (mgl M) (mhb M) (mtk M) (mnw M + 1) (mnp M) (mle M) (mwy M) (mfc M) (mta M)) else M)) ++ (xC T u1.1 u1.2.1 (if mnw M < 4 then (xmk (mpk M) (va_up (mth M) (mnw M) (fun _ => nI 65535)) (upd (msh M) (mnw M) (nI 0)) (man M) (mgl M) (mhb M) (mtk M) (mnw M + 1) (mnp M) (mle M) (mwy M) (mfc M) (mta M)) else M) ++ [(o0, .inl (T 4, 1, .inr (.inl u1.2.2)))])) H := hP
    have hD : va_D A ((xD T bd u2 (if mnw M < 4 then (xmk (mpk M) (va_up (mth M) (mnw M) (fun _ => nI 65535)) (upd (msh M) (mnw M) (nI 0)) (man M) (mgl M) (mhb M) (mtk M) (mnw M + 1) (mnp M) (mle M) (mwy M) (mfc M) (mta M)) else M)) ++ (xC T u1.1 u1.2.1 (if mnw M < 4 then (xmk (mpk M) (va_up (mth M) (mnw M) (fun _ => nI 65535)) (upd (msh M) (mnw M) (nI 0)) (man M) (mgl M) (mhb M) (mtk M) (mnw M + 1) (mnp M) (mle M) (mwy M) (mfc M) (mta M)) else M) ++ [(o0, .inl (T 4, 1, .inr (.inl u1.2.2)))])) := hD
    refine lv_istore (lv' := [(6, .int r2), (5, .int r1), (0, .ref b), (1, .ref (ad 0)), (2, .ref (bd 0)), (3, .ref o0), (4, .int (nI i))]) hx hb dL_law_519 hl (by decide) rfl (fun ls hl => ?_)
    refine lv_aload_n hx hb dL_law_521 rfl (lv_at hl 4 rfl) ?_
    refine x_calliA (va_runV (As := []) (rest := []) ⟨hx, hb, hml, hown, hts⟩ (c_X4_thrown l G T _ bd u2 (if mnw M < 4 then (xmk (mpk M) (va_up (mth M) (mnw M) (fun _ => nI 65535)) (upd (msh M) (mnw M) (nI 0)) (man M) (mgl M) (mhb M) (mtk M) (mnw M + 1) (mnp M) (mle M) (mwy M) (mfc M) (mta M)) else M)) (cwV 0 hts gL_law_X4_thrown rfl rfl rfl (by decide +kernel) ⟨Nat.le_of_ble_eq_true rfl, Nat.le_of_ble_eq_true rfl⟩) (x_preVA (wc := (xD T bd u2 (if mnw M < 4 then (xmk (mpk M) (va_up (mth M) (mnw M) (fun _ => nI 65535)) (upd (msh M) (mnw M) (nI 0)) (man M) (mgl M) (mhb M) (mtk M) (mnw M + 1) (mnp M) (mle M) (mwy M) (mfc M) (mta M)) else M))) (wr := (xC T u1.1 u1.2.1 (if mnw M < 4 then (xmk (mpk M) (va_up (mth M) (mnw M) (fun _ => nI 65535)) (upd (msh M) (mnw M) (nI 0)) (man M) (mgl M) (mhb M) (mtk M) (mnw M + 1) (mnp M) (mle M) (mwy M) (mfc M) (mta M)) else M) ++ [(o0, .inl (T 4, 1, .inr (.inl u1.2.2)))])) hK hP hD hS hA hXB hZ _ _ 0 4 rfl rfl) rfl rfl hl.1 rfl (lv_room (Nat.le_of_ble_eq_true rfl)) dL_law_522 ⟨show ((ce + 4) + 0) + 0 ≤ 651071 by omega, show ((sl + 38) + 0) + 0 ≤ 7142890 by omega⟩) hP hD hS hA (fun _ _ _ => xd_self rfl (xd_l hD)) (fun r3 u3 H locs hw3 hP hD hS => ?_)
    have hP : va_P G vwCl ((xD T bd u2 (if mnw M < 4 then (xmk (mpk M) (va_up (mth M) (mnw M) (fun _ => nI 65535)) (upd (msh M) (mnw M) (nI 0)) (man M) (mgl M) (mhb M) (mtk M) (mnw M + 1) (mnp M) (mle M) (mwy M) (mfc M) (mta M)) else M)) ++ (xC T u1.1 u1.2.1 (if mnw M < 4 then (xmk (mpk M) (va_up (mth M) (mnw M) (fun _ => nI 65535)) (upd (msh M) (mnw M) (nI 0)) (man M) (mgl M) (mhb M) (mtk M) (mnw M + 1) (mnp M) (mle M) (mwy M) (mfc M) (mta M)) else M) ++ [(o0, .inl (T 4, 1, .inr (.inl u1.2.2)))])) H := hP
    have hD : va_D A ((xD T bd u2 (if mnw M < 4 then (xmk (mpk M) (va_up (mth M) (mnw M) (fun _ => nI 65535)) (upd (msh M) (mnw M) (nI 0)) (man M) (mgl M) (mhb M) (mtk M) (mnw M + 1) (mnp M) (mle M) (mwy M) (mfc M) (mta M)) else M)) ++ (xC T u1.1 u1.2.1 (if mnw M < 4 then (xmk (mpk M) (va_up (mth M) (mnw M) (fun _ => nI 65535)) (upd (msh M) (mnw M) (nI 0)) (man M) (mgl M) (mhb M) (mtk M) (mnw M + 1) (mnp M) (mle M) (mwy M) (mfc M) (mta M)) else M) ++ [(o0, .inl (T 4, 1, .inr (.inl u1.2.2)))])) := hD
    refine x_topi (y := u2) (hw3) ?_
    have hP := xp_perm (List.perm_append_comm (l₁ := (xD T bd u2 (if mnw M < 4 then (xmk (mpk M) (va_up (mth M) (mnw M) (fun _ => nI 65535)) (upd (msh M) (mnw M) (nI 0)) (man M) (mgl M) (mhb M) (mtk M) (mnw M + 1) (mnp M) (mle M) (mwy M) (mfc M) (mta M)) else M))) (l₂ := (xC T u1.1 u1.2.1 (if mnw M < 4 then (xmk (mpk M) (va_up (mth M) (mnw M) (fun _ => nI 65535)) (upd (msh M) (mnw M) (nI 0)) (man M) (mgl M) (mhb M) (mtk M) (mnw M + 1) (mnp M) (mle M) (mwy M) (mfc M) (mta M)) else M) ++ [(o0, .inl (T 4, 1, .inr (.inl u1.2.2)))]))) hP
    have hD := xd_perm (List.perm_append_comm (l₁ := (xD T bd u2 (if mnw M < 4 then (xmk (mpk M) (va_up (mth M) (mnw M) (fun _ => nI 65535)) (upd (msh M) (mnw M) (nI 0)) (man M) (mgl M) (mhb M) (mtk M) (mnw M + 1) (mnp M) (mle M) (mwy M) (mfc M) (mta M)) else M))) (l₂ := (xC T u1.1 u1.2.1 (if mnw M < 4 then (xmk (mpk M) (va_up (mth M) (mnw M) (fun _ => nI 65535)) (upd (msh M) (mnw M) (nI 0)) (man M) (mgl M) (mhb M) (mtk M) (mnw M + 1) (mnp M) (mle M) (mwy M) (mfc M) (mta M)) else M) ++ [(o0, .inl (T 4, 1, .inr (.inl u1.2.2)))]))) hD
    obtain ⟨hw1, hx1, hy1⟩ := hw1
    refine lv_iload hx hb dL_law_525 (lv_at hl 1 rfl) ?_
    rcases (show (r1 = nI 0 ∧ u2 = nI 0 ∧ u1.2.2 (nI 0).toNatClampNeg = r2.toInt64) ∨ (r1 = nI 1 ∧ u2 = nI 1) from xmeetP (by omega) hw1 hw2) with ⟨rfl, rfl, hk3⟩ | ⟨rfl, rfl⟩
    · refine lv_icmp_eq (tgt := 532) hx hb dL_law_527 (by decide) (fun _ => ?_) (fun c_ => absurd (rfl) c_)
      refine lv_iload hx hb dL_law_532 (lv_at hl 1 rfl) ?_
      refine lv_if_ne (tgt := 549) hx hb dL_law_534 (by decide) (fun c_ => absurd (rfl) c_) (fun _ => ?_)
      refine lv_aload_n hx hb dL_law_537 rfl (lv_at hl 5 rfl) ?_
      refine lv_iconst (v := nI 0) hx hb dL_law_538 (by decide) ?_
      refine va_lald hx hb hK hP (xC T u1.1 u1.2.1 (if mnw M < 4 then (xmk (mpk M) (va_up (mth M) (mnw M) (fun _ => nI 65535)) (upd (msh M) (mnw M) (nI 0)) (man M) (mgl M) (mhb M) (mtk M) (mnw M + 1) (mnp M) (mle M) (mwy M) (mfc M) (mta M)) else M)).length 4 x_lget2 rfl (vp_in_nI (n := 0) (N := 1) (by decide) (by decide)) dL_law_539 ?_
      refine x_topl (y := r2.toInt64) (hk3) ?_
      refine lv_iload hx hb dL_law_540 (lv_at hl 0 rfl) ?_
      refine lv_i2l hx hb dL_law_542 rfl ?_
      refine x_lcmp0 hx hb dL_law_543 ?_
      refine lv_if_eq (tgt := 549) hx hb dL_law_544 (by decide) (fun _ => ?_) (fun c_ => absurd (rfl) c_)
      refine lv_goto (tgt := 1431) hx hb dL_law_549 (by decide) ?_
      refine W.widen (k := ce + 90) (n := sl + 547) (by omega) (by omega) ?_
      exact kk _ _ _ _ _ _ _ hx1 (by split; rename_i hC; exact xI_watch hI hj hC (Or.inl rfl); exact xI_s hI hj) hP hD hS ls (lv_sub hl [2, 3, 4, 5, 6] rfl)
    · refine lv_icmp_eq (tgt := 532) hx hb dL_law_527 (by decide) (fun _ => ?_) (fun c_ => absurd (rfl) c_)
      refine lv_iload hx hb dL_law_532 (lv_at hl 1 rfl) ?_
      refine lv_if_ne (tgt := 549) hx hb dL_law_534 (by decide) (fun _ => ?_) (fun c_ => absurd c_ (by decide))
      refine lv_goto (tgt := 1431) hx hb dL_law_549 (by decide) ?_
      refine W.widen (k := ce + 90) (n := sl + 547) (by omega) (by omega) ?_
      exact kk _ _ _ _ _ _ _ hx1 (by split; rename_i hC; exact xI_watch hI hj hC (Or.inl rfl); exact xI_s hI hj) hP hD hS ls (lv_sub hl [2, 3, 4, 5, 6] rfl)
  · refine lv_iconst (v := nI 1) hx hb dL_law_490 (by decide) ?_
    refine lv_goto (tgt := 495) hx hb dL_law_491 (by decide) ?_
    refine lv_aload_n hx hb dL_law_495 rfl (lv_at hl 3 rfl) ?_
    refine x_calliA (vx_runSW (As := [.ref (ad 0), .int (nI 1), .ref o0]) (rest := []) ⟨hx, hb, hml, hown, hts⟩ (c_L_watch l hsl G T _ ad sc M o0 h (nI 1) rfl rfl hn4 hm4 (hz0 _ (Nat.le_refl _))) (vx_cwSW 3 hts gL_law_L_watch rfl rfl rfl (by decide +kernel) ⟨Nat.le_of_ble_eq_true rfl, Nat.le_of_ble_eq_true rfl⟩) (x_preSA (wc := (xC T ad sc M ++ [(o0, .inl (T 4, 1, .inr (.inl h)))])) (wr := (xD T bd thr M)) hK hP hD hS hA hXB hZ _) rfl rfl hl.1 rfl (lv_room (Nat.le_of_ble_eq_true rfl)) dL_law_496 ⟨show ce + 4 ≤ 651071 by omega, show sl + 38 ≤ 7142890 by omega⟩) hP hD hS hA (fun _ _ hw => hw.2.2) (fun r1 u1 H locs hw1 hP hD hS => ?_)
    have hP : va_P G vwCl ((xC T u1.1 u1.2.1 (if mnw M < 4 then (xmk (mpk M) (va_up (mth M) (mnw M) (fun _ => nI 65535)) (upd (msh M) (mnw M) (nI 1)) (man M) (mgl M) (mhb M) (mtk M) (mnw M + 1) (mnp M) (mle M) (mwy M) (mfc M) (mta M)) else M) ++ [(o0, .inl (T 4, 1, .inr (.inl u1.2.2)))]) ++ (xD T bd thr M)) H := hP
    have hD : va_D A ((xC T u1.1 u1.2.1 (if mnw M < 4 then (xmk (mpk M) (va_up (mth M) (mnw M) (fun _ => nI 65535)) (upd (msh M) (mnw M) (nI 1)) (man M) (mgl M) (mhb M) (mtk M) (mnw M + 1) (mnp M) (mle M) (mwy M) (mfc M) (mta M)) else M) ++ [(o0, .inl (T 4, 1, .inr (.inl u1.2.2)))]) ++ (xD T bd thr M)) := hD
    refine lv_istore (lv' := [(5, .int r1), (0, .ref b), (1, .ref (ad 0)), (2, .ref (bd 0)), (3, .ref o0), (4, .int (nI i))]) hx hb dL_law_499 hl (by decide) rfl (fun ls hl => ?_)
    refine lv_aload_n hx hb dL_law_501 rfl (lv_at hl 3 rfl) ?_
    refine lv_aload_n hx hb dL_law_502 rfl (lv_at hl 1 rfl) ?_
    refine lv_iload hx hb dL_law_503 (lv_at hl 5 rfl) ?_
    refine lv_iconst (v := nI 1) hx hb dL_law_505 (by decide) ?_
    refine lv_iadd hx hb dL_law_506 ?_
    refine x_topi (y := nI (i + 1)) (nI_add _ _) ?_
    refine va_sld hx hb hX hbl hbA hS (vp_in_nI (n := i + 1) (N := L) (by omega) (by omega)) dL_law_507 ?_
    refine x_topi (y := (xs (i + 1))) (by rw [nI_clamp (by omega)]) ?_
    refine lv_if_eq (tgt := 515) hx hb dL_law_508 (by decide) (fun c_ => absurd c_ (c0)) (fun _ => ?_)
    refine lv_iconst (v := nI 1) hx hb dL_law_511 (by decide) ?_
    refine lv_goto (tgt := 516) hx hb dL_law_512 (by decide) ?_
    have hP := xp_perm (List.perm_append_comm (l₁ := (xC T u1.1 u1.2.1 (if mnw M < 4 then (xmk (mpk M) (va_up (mth M) (mnw M) (fun _ => nI 65535)) (upd (msh M) (mnw M) (nI 1)) (man M) (mgl M) (mhb M) (mtk M) (mnw M + 1) (mnp M) (mle M) (mwy M) (mfc M) (mta M)) else M) ++ [(o0, .inl (T 4, 1, .inr (.inl u1.2.2)))])) (l₂ := (xD T bd thr M))) hP
    have hD := xd_perm (List.perm_append_comm (l₁ := (xC T u1.1 u1.2.1 (if mnw M < 4 then (xmk (mpk M) (va_up (mth M) (mnw M) (fun _ => nI 65535)) (upd (msh M) (mnw M) (nI 1)) (man M) (mgl M) (mhb M) (mtk M) (mnw M + 1) (mnp M) (mle M) (mwy M) (mfc M) (mta M)) else M) ++ [(o0, .inl (T 4, 1, .inr (.inl u1.2.2)))])) (l₂ := (xD T bd thr M))) hD
    refine x_calliA (va_runV (As := [.int (nI 1)]) (rest := []) ⟨hx, hb, hml, hown, hts⟩ (c_X4_watch l G T _ bd thr M (nI 1) (Or.inr rfl) hn4) (cwV 1 hts gL_law_X4_watch rfl rfl rfl (by decide +kernel) ⟨Nat.le_of_ble_eq_true rfl, Nat.le_of_ble_eq_true rfl⟩) (x_preVA (wc := (xD T bd thr M)) (wr := (xC T u1.1 u1.2.1 (if mnw M < 4 then (xmk (mpk M) (va_up (mth M) (mnw M) (fun _ => nI 65535)) (upd (msh M) (mnw M) (nI 1)) (man M) (mgl M) (mhb M) (mtk M) (mnw M + 1) (mnp M) (mle M) (mwy M) (mfc M) (mta M)) else M) ++ [(o0, .inl (T 4, 1, .inr (.inl u1.2.2)))])) hK hP hD hS hA hXB hZ _ _ 0 4 rfl rfl) rfl rfl hl.1 rfl (lv_room (Nat.le_of_ble_eq_true rfl)) dL_law_516 ⟨show (ce + 4) + 0 ≤ 651071 by omega, show (sl + 38) + 0 ≤ 7142890 by omega⟩) hP hD hS hA (fun _ _ _ => xd_self rfl (xd_l hD)) (fun r2 u2 H locs hw2 hP hD hS => ?_)
    have hP : va_P G vwCl ((xD T bd u2 (if mnw M < 4 then (xmk (mpk M) (va_up (mth M) (mnw M) (fun _ => nI 65535)) (upd (msh M) (mnw M) (nI 1)) (man M) (mgl M) (mhb M) (mtk M) (mnw M + 1) (mnp M) (mle M) (mwy M) (mfc M) (mta M)) else M)) ++ (xC T u1.1 u1.2.1 (if mnw M < 4 then (xmk (mpk M) (va_up (mth M) (mnw M) (fun _ => nI 65535)) (upd (msh M) (mnw M) (nI 1)) (man M) (mgl M) (mhb M) (mtk M) (mnw M + 1) (mnp M) (mle M) (mwy M) (mfc M) (mta M)) else M) ++ [(o0, .inl (T 4, 1, .inr (.inl u1.2.2)))])) H := hP
    have hD : va_D A ((xD T bd u2 (if mnw M < 4 then (xmk (mpk M) (va_up (mth M) (mnw M) (fun _ => nI 65535)) (upd (msh M) (mnw M) (nI 1)) (man M) (mgl M) (mhb M) (mtk M) (mnw M + 1) (mnp M) (mle M) (mwy M) (mfc M) (mta M)) else M)) ++ (xC T u1.1 u1.2.1 (if mnw M < 4 then (xmk (mpk M) (va_up (mth M) (mnw M) (fun _ => nI 65535)) (upd (msh M) (mnw M) (nI 1)) (man M) (mgl M) (mhb M) (mtk M) (mnw M + 1) (mnp M) (mle M) (mwy M) (mfc M) (mta M)) else M) ++ [(o0, .inl (T 4, 1, .inr (.inl u1.2.2)))])) := hD
    refine lv_istore (lv' := [(6, .int r2), (5, .int r1), (0, .ref b), (1, .ref (ad 0)), (2, .ref (bd 0)), (3, .ref o0), (4, .int (nI i))]) hx hb dL_law_519 hl (by decide) rfl (fun ls hl => ?_)
    refine lv_aload_n hx hb dL_law_521 rfl (lv_at hl 4 rfl) ?_
    refine x_calliA (va_runV (As := []) (rest := []) ⟨hx, hb, hml, hown, hts⟩ (c_X4_thrown l G T _ bd u2 (if mnw M < 4 then (xmk (mpk M) (va_up (mth M) (mnw M) (fun _ => nI 65535)) (upd (msh M) (mnw M) (nI 1)) (man M) (mgl M) (mhb M) (mtk M) (mnw M + 1) (mnp M) (mle M) (mwy M) (mfc M) (mta M)) else M)) (cwV 0 hts gL_law_X4_thrown rfl rfl rfl (by decide +kernel) ⟨Nat.le_of_ble_eq_true rfl, Nat.le_of_ble_eq_true rfl⟩) (x_preVA (wc := (xD T bd u2 (if mnw M < 4 then (xmk (mpk M) (va_up (mth M) (mnw M) (fun _ => nI 65535)) (upd (msh M) (mnw M) (nI 1)) (man M) (mgl M) (mhb M) (mtk M) (mnw M + 1) (mnp M) (mle M) (mwy M) (mfc M) (mta M)) else M))) (wr := (xC T u1.1 u1.2.1 (if mnw M < 4 then (xmk (mpk M) (va_up (mth M) (mnw M) (fun _ => nI 65535)) (upd (msh M) (mnw M) (nI 1)) (man M) (mgl M) (mhb M) (mtk M) (mnw M + 1) (mnp M) (mle M) (mwy M) (mfc M) (mta M)) else M) ++ [(o0, .inl (T 4, 1, .inr (.inl u1.2.2)))])) hK hP hD hS hA hXB hZ _ _ 0 4 rfl rfl) rfl rfl hl.1 rfl (lv_room (Nat.le_of_ble_eq_true rfl)) dL_law_522 ⟨show ((ce + 4) + 0) + 0 ≤ 651071 by omega, show ((sl + 38) + 0) + 0 ≤ 7142890 by omega⟩) hP hD hS hA (fun _ _ _ => xd_self rfl (xd_l hD)) (fun r3 u3 H locs hw3 hP hD hS => ?_)
    have hP : va_P G vwCl ((xD T bd u2 (if mnw M < 4 then (xmk (mpk M) (va_up (mth M) (mnw M) (fun _ => nI 65535)) (upd (msh M) (mnw M) (nI 1)) (man M) (mgl M) (mhb M) (mtk M) (mnw M + 1) (mnp M) (mle M) (mwy M) (mfc M) (mta M)) else M)) ++ (xC T u1.1 u1.2.1 (if mnw M < 4 then (xmk (mpk M) (va_up (mth M) (mnw M) (fun _ => nI 65535)) (upd (msh M) (mnw M) (nI 1)) (man M) (mgl M) (mhb M) (mtk M) (mnw M + 1) (mnp M) (mle M) (mwy M) (mfc M) (mta M)) else M) ++ [(o0, .inl (T 4, 1, .inr (.inl u1.2.2)))])) H := hP
    have hD : va_D A ((xD T bd u2 (if mnw M < 4 then (xmk (mpk M) (va_up (mth M) (mnw M) (fun _ => nI 65535)) (upd (msh M) (mnw M) (nI 1)) (man M) (mgl M) (mhb M) (mtk M) (mnw M + 1) (mnp M) (mle M) (mwy M) (mfc M) (mta M)) else M)) ++ (xC T u1.1 u1.2.1 (if mnw M < 4 then (xmk (mpk M) (va_up (mth M) (mnw M) (fun _ => nI 65535)) (upd (msh M) (mnw M) (nI 1)) (man M) (mgl M) (mhb M) (mtk M) (mnw M + 1) (mnp M) (mle M) (mwy M) (mfc M) (mta M)) else M) ++ [(o0, .inl (T 4, 1, .inr (.inl u1.2.2)))])) := hD
    refine x_topi (y := u2) (hw3) ?_
    have hP := xp_perm (List.perm_append_comm (l₁ := (xD T bd u2 (if mnw M < 4 then (xmk (mpk M) (va_up (mth M) (mnw M) (fun _ => nI 65535)) (upd (msh M) (mnw M) (nI 1)) (man M) (mgl M) (mhb M) (mtk M) (mnw M + 1) (mnp M) (mle M) (mwy M) (mfc M) (mta M)) else M))) (l₂ := (xC T u1.1 u1.2.1 (if mnw M < 4 then (xmk (mpk M) (va_up (mth M) (mnw M) (fun _ => nI 65535)) (upd (msh M) (mnw M) (nI 1)) (man M) (mgl M) (mhb M) (mtk M) (mnw M + 1) (mnp M) (mle M) (mwy M) (mfc M) (mta M)) else M) ++ [(o0, .inl (T 4, 1, .inr (.inl u1.2.2)))]))) hP
    have hD := xd_perm (List.perm_append_comm (l₁ := (xD T bd u2 (if mnw M < 4 then (xmk (mpk M) (va_up (mth M) (mnw M) (fun _ => nI 65535)) (upd (msh M) (mnw M) (nI 1)) (man M) (mgl M) (mhb M) (mtk M) (mnw M + 1) (mnp M) (mle M) (mwy M) (mfc M) (mta M)) else M))) (l₂ := (xC T u1.1 u1.2.1 (if mnw M < 4 then (xmk (mpk M) (va_up (mth M) (mnw M) (fun _ => nI 65535)) (upd (msh M) (mnw M) (nI 1)) (man M) (mgl M) (mhb M) (mtk M) (mnw M + 1) (mnp M) (mle M) (mwy M) (mfc M) (mta M)) else M) ++ [(o0, .inl (T 4, 1, .inr (.inl u1.2.2)))]))) hD
    obtain ⟨hw1, hx1, hy1⟩ := hw1
    refine lv_iload hx hb dL_law_525 (lv_at hl 1 rfl) ?_
    rcases (show (r1 = nI 0 ∧ u2 = nI 0 ∧ u1.2.2 (nI 0).toNatClampNeg = r2.toInt64) ∨ (r1 = nI 1 ∧ u2 = nI 1) from xmeetP (by omega) hw1 hw2) with ⟨rfl, rfl, hk3⟩ | ⟨rfl, rfl⟩
    · refine lv_icmp_eq (tgt := 532) hx hb dL_law_527 (by decide) (fun _ => ?_) (fun c_ => absurd (rfl) c_)
      refine lv_iload hx hb dL_law_532 (lv_at hl 1 rfl) ?_
      refine lv_if_ne (tgt := 549) hx hb dL_law_534 (by decide) (fun c_ => absurd (rfl) c_) (fun _ => ?_)
      refine lv_aload_n hx hb dL_law_537 rfl (lv_at hl 5 rfl) ?_
      refine lv_iconst (v := nI 0) hx hb dL_law_538 (by decide) ?_
      refine va_lald hx hb hK hP (xC T u1.1 u1.2.1 (if mnw M < 4 then (xmk (mpk M) (va_up (mth M) (mnw M) (fun _ => nI 65535)) (upd (msh M) (mnw M) (nI 1)) (man M) (mgl M) (mhb M) (mtk M) (mnw M + 1) (mnp M) (mle M) (mwy M) (mfc M) (mta M)) else M)).length 4 x_lget2 rfl (vp_in_nI (n := 0) (N := 1) (by decide) (by decide)) dL_law_539 ?_
      refine x_topl (y := r2.toInt64) (hk3) ?_
      refine lv_iload hx hb dL_law_540 (lv_at hl 0 rfl) ?_
      refine lv_i2l hx hb dL_law_542 rfl ?_
      refine x_lcmp0 hx hb dL_law_543 ?_
      refine lv_if_eq (tgt := 549) hx hb dL_law_544 (by decide) (fun _ => ?_) (fun c_ => absurd (rfl) c_)
      refine lv_goto (tgt := 1431) hx hb dL_law_549 (by decide) ?_
      refine W.widen (k := ce + 90) (n := sl + 547) (by omega) (by omega) ?_
      exact kk _ _ _ _ _ _ _ hx1 (by split; rename_i hC; exact xI_watch hI hj hC (Or.inr rfl); exact xI_s hI hj) hP hD hS ls (lv_sub hl [2, 3, 4, 5, 6] rfl)
    · refine lv_icmp_eq (tgt := 532) hx hb dL_law_527 (by decide) (fun _ => ?_) (fun c_ => absurd (rfl) c_)
      refine lv_iload hx hb dL_law_532 (lv_at hl 1 rfl) ?_
      refine lv_if_ne (tgt := 549) hx hb dL_law_534 (by decide) (fun _ => ?_) (fun c_ => absurd c_ (by decide))
      refine lv_goto (tgt := 1431) hx hb dL_law_549 (by decide) ?_
      refine W.widen (k := ce + 90) (n := sl + 547) (by omega) (by omega) ?_
      exact kk _ _ _ _ _ _ _ hx1 (by split; rename_i hC; exact xI_watch hI hj hC (Or.inr rfl); exact xI_s hI hj) hP hD hS ls (lv_sub hl [2, 3, 4, 5, 6] rfl)

set_option maxHeartbeats 4000000 in
set_option maxRecDepth 100000 in
/-- the law: glimpse -/
theorem lc_glimpse {p : Program} {l : Launch} {e : Env} {s : State} {m : MethodId} {below : List Frame} {meth : Method} {c : Code} {G : va_G} {T : Nat → ClassId} {b L : Nat} {xs : Nat → Int32} (C0 : xLC p l s m meth c b L xs G T) (i j : Nat) (hi : i + 4 ≤ L) (hj : j < 512) (ad : Nat → Nat) (sc : Nat → Nat → Int32) (M : XM) (bd : Nat → Nat) (thr : Int32) (o0 : Nat) (h : Nat → Int64) (hI : xI M j) (ce sl : Nat) (hce : ce + 90 ≤ 651071) (hsl9 : sl + 547 ≤ 7142890) (H : Heap) (locs : List Loc) (hP : va_P G vwCl ((xC T ad sc M ++ [(o0, .inl (T 4, 1, .inr (.inl h)))]) ++ (xD T bd thr M)) H) (hD : va_D (fun q : Nat => s.heap.size ≤ q) ((xC T ad sc M ++ [(o0, .inl (T 4, 1, .inr (.inl h)))]) ++ (xD T bd thr M))) (hS : va_S (fun q : Nat => s.heap.size ≤ q) s.heap H locs) (ls : Array Slot) (hl : lv_has ls 9 [(0, .ref b), (1, .ref (ad 0)), (2, .ref (bd 0)), (3, .ref o0), (4, .int (nI i))]) (kk : ∀ (ad1 : Nat → Nat) (sc1 : Nat → Nat → Int32) (M1 : XM) (thr1 : Int32) (h1 : Nat → Int64) (H1 : Heap) (locs1 : List Loc), ad1 0 = ad 0 → xI M1 (j + 1) → va_P G vwCl ((xC T ad1 sc1 M1 ++ [(o0, .inl (T 4, 1, .inr (.inl h1)))]) ++ (xD T bd thr1 M1)) H1 → va_D (fun q : Nat => s.heap.size ≤ q) ((xC T ad1 sc1 M1 ++ [(o0, .inl (T 4, 1, .inr (.inl h1)))]) ++ (xD T bd thr1 M1)) → va_S (fun q : Nat => s.heap.size ≤ q) s.heap H1 locs1 → ∀ ls1 : Array Slot, lv_has ls1 9 [(0, .ref b), (1, .ref (ad 0)), (2, .ref (bd 0)), (3, .ref o0), (4, .int (nI i))] → W p l e room_1 s m #[Value.ref b] below meth c H1 locs1 (ce + 90) (sl + 547) (lw_Z below #[Value.ref b] s) (F0 m 1431 ls1 [])) : W p l e room_1 s m #[Value.ref b] below meth c H locs ce sl (lw_Z below #[Value.ref b] s) (F0 m 552 ls []) := by
  obtain ⟨hx, hb, hr, hml, hown, hts, hX, hbl, hlocks, hK, hXB, hZ, hL9, hsl⟩ := C0
  have hA : ∀ q : Nat, s.heap.size ≤ q → (fun q : Nat => s.heap.size ≤ q) q := fun _ h => h
  have hbA : ¬ (fun q : Nat => s.heap.size ≤ q) b := Nat.not_le.mpr hbl
  obtain ⟨hn4, hm4, hpk, hsur, hsh, hth, hz0, hhb, hle, hta, hj5⟩ := id hI
  generalize hAe : (fun q : Nat => s.heap.size ≤ q) = A at hA hbA hZ hD hS kk
  obtain ⟨N, hN⟩ : ∃ N : Nat, N = 257 := ⟨_, rfl⟩
  refine lv_aload_n hx hb dL_law_552 rfl (lv_at hl 1 rfl) ?_
  refine lv_aload_n hx hb dL_law_553 rfl (lv_at hl 0 rfl) ?_
  refine lv_iload hx hb dL_law_554 (lv_at hl 4 rfl) ?_
  refine lv_iconst (v := nI 1) hx hb dL_law_556 (by decide) ?_
  refine lv_iadd hx hb dL_law_557 ?_
  refine x_topi (y := nI (i + 1)) (nI_add _ _) ?_
  refine va_sld hx hb hX hbl hbA hS (vp_in_nI (n := i + 1) (N := L) (by omega) (by omega)) dL_law_558 ?_
  refine x_topi (y := (xs (i + 1))) (by rw [nI_clamp (by omega)]) ?_
  refine lv_aload_n hx hb dL_law_559 rfl (lv_at hl 0 rfl) ?_
  refine lv_iload hx hb dL_law_560 (lv_at hl 4 rfl) ?_
  refine lv_iconst (v := nI 2) hx hb dL_law_562 (by decide) ?_
  refine lv_iadd hx hb dL_law_563 ?_
  refine x_topi (y := nI (i + 2)) (nI_add _ _) ?_
  refine va_sld hx hb hX hbl hbA hS (vp_in_nI (n := i + 2) (N := L) (by omega) (by omega)) dL_law_564 ?_
  refine x_topi (y := (xs (i + 2))) (by rw [nI_clamp (by omega)]) ?_
  refine lv_aload_n hx hb dL_law_565 rfl (lv_at hl 3 rfl) ?_
  refine x_calliA (vx_runSW (As := [.ref (ad 0), .int (xs (i + 1)), .int (xs (i + 2)), .ref o0]) (rest := []) ⟨hx, hb, hml, hown, hts⟩ (c_L_glimpse l hsl G T _ N hN ad sc M o0 h (xs (i + 1)) (xs (i + 2)) hn4) (vx_cwSW 4 hts gL_law_L_glimpse rfl rfl rfl (by decide +kernel) ⟨Nat.le_of_ble_eq_true rfl, Nat.le_of_ble_eq_true rfl⟩) (x_preSA (wc := (xC T ad sc M ++ [(o0, .inl (T 4, 1, .inr (.inl h)))])) (wr := (xD T bd thr M)) hK hP hD hS hA hXB hZ _) rfl rfl hl.1 rfl (lv_room (Nat.le_of_ble_eq_true rfl)) dL_law_566 ⟨show ce + 2 ≤ 651071 by omega, show sl + 12 ≤ 7142890 by omega⟩) hP hD hS hA (fun _ _ hw => hw.2.2) (fun r1 u1 H locs hw1 hP hD hS => ?_)
  have hP : va_P G vwCl ((xC T u1.1 u1.2.1 (if (xvb (mnw M) (xs (i + 1)) && xvb 16 (xs (i + 2))) then (xMg N M (xka (xs (i + 1))) (xka (xs (i + 2)))) else M) ++ [(o0, .inl (T 4, 1, .inr (.inl u1.2.2)))]) ++ (xD T bd thr M)) H := hP
  have hD : va_D A ((xC T u1.1 u1.2.1 (if (xvb (mnw M) (xs (i + 1)) && xvb 16 (xs (i + 2))) then (xMg N M (xka (xs (i + 1))) (xka (xs (i + 2)))) else M) ++ [(o0, .inl (T 4, 1, .inr (.inl u1.2.2)))]) ++ (xD T bd thr M)) := hD
  refine lv_istore (lv' := [(5, .int r1), (0, .ref b), (1, .ref (ad 0)), (2, .ref (bd 0)), (3, .ref o0), (4, .int (nI i))]) hx hb dL_law_569 hl (by decide) rfl (fun ls hl => ?_)
  refine lv_aload_n hx hb dL_law_571 rfl (lv_at hl 3 rfl) ?_
  refine lv_aload_n hx hb dL_law_572 rfl (lv_at hl 1 rfl) ?_
  refine lv_iload hx hb dL_law_573 (lv_at hl 5 rfl) ?_
  refine lv_iconst (v := nI 1) hx hb dL_law_575 (by decide) ?_
  refine lv_iadd hx hb dL_law_576 ?_
  refine x_topi (y := nI (i + 1)) (nI_add _ _) ?_
  refine va_sld hx hb hX hbl hbA hS (vp_in_nI (n := i + 1) (N := L) (by omega) (by omega)) dL_law_577 ?_
  refine x_topi (y := (xs (i + 1))) (by rw [nI_clamp (by omega)]) ?_
  refine lv_aload_n hx hb dL_law_578 rfl (lv_at hl 1 rfl) ?_
  refine lv_iload hx hb dL_law_579 (lv_at hl 5 rfl) ?_
  refine lv_iconst (v := nI 2) hx hb dL_law_581 (by decide) ?_
  refine lv_iadd hx hb dL_law_582 ?_
  refine x_topi (y := nI (i + 2)) (nI_add _ _) ?_
  refine va_sld hx hb hX hbl hbA hS (vp_in_nI (n := i + 2) (N := L) (by omega) (by omega)) dL_law_583 ?_
  refine x_topi (y := (xs (i + 2))) (by rw [nI_clamp (by omega)]) ?_
  have hP := xp_perm (List.perm_append_comm (l₁ := (xC T u1.1 u1.2.1 (if (xvb (mnw M) (xs (i + 1)) && xvb 16 (xs (i + 2))) then (xMg N M (xka (xs (i + 1))) (xka (xs (i + 2)))) else M) ++ [(o0, .inl (T 4, 1, .inr (.inl u1.2.2)))])) (l₂ := (xD T bd thr M))) hP
  have hD := xd_perm (List.perm_append_comm (l₁ := (xC T u1.1 u1.2.1 (if (xvb (mnw M) (xs (i + 1)) && xvb 16 (xs (i + 2))) then (xMg N M (xka (xs (i + 1))) (xka (xs (i + 2)))) else M) ++ [(o0, .inl (T 4, 1, .inr (.inl u1.2.2)))])) (l₂ := (xD T bd thr M))) hD
  refine x_calliA (va_runV (As := [.int (xs (i + 1)), .int (xs (i + 2))]) (rest := []) ⟨hx, hb, hml, hown, hts⟩ (c_X4_glimpse l G T _ N hN bd thr M (xs (i + 1)) (xs (i + 2)) hn4 hth hpk) (cwV 2 hts gL_law_X4_glimpse rfl rfl rfl (by decide +kernel) ⟨Nat.le_of_ble_eq_true rfl, Nat.le_of_ble_eq_true rfl⟩) (x_preVA (wc := (xD T bd thr M)) (wr := (xC T u1.1 u1.2.1 (if (xvb (mnw M) (xs (i + 1)) && xvb 16 (xs (i + 2))) then (xMg N M (xka (xs (i + 1))) (xka (xs (i + 2)))) else M) ++ [(o0, .inl (T 4, 1, .inr (.inl u1.2.2)))])) hK hP hD hS hA hXB hZ _ _ 0 4 rfl rfl) rfl rfl hl.1 rfl (lv_room (Nat.le_of_ble_eq_true rfl)) dL_law_584 ⟨show (ce + 2) + 0 ≤ 651071 by omega, show (sl + 12) + 0 ≤ 7142890 by omega⟩) hP hD hS hA (fun _ _ _ => xd_self rfl (xd_l hD)) (fun r2 u2 H locs hw2 hP hD hS => ?_)
  have hP : va_P G vwCl ((xD T bd u2 (if (xvb (mnw M) (xs (i + 1)) && xvb 16 (xs (i + 2))) then (xMg N M (xka (xs (i + 1))) (xka (xs (i + 2)))) else M)) ++ (xC T u1.1 u1.2.1 (if (xvb (mnw M) (xs (i + 1)) && xvb 16 (xs (i + 2))) then (xMg N M (xka (xs (i + 1))) (xka (xs (i + 2)))) else M) ++ [(o0, .inl (T 4, 1, .inr (.inl u1.2.2)))])) H := hP
  have hD : va_D A ((xD T bd u2 (if (xvb (mnw M) (xs (i + 1)) && xvb 16 (xs (i + 2))) then (xMg N M (xka (xs (i + 1))) (xka (xs (i + 2)))) else M)) ++ (xC T u1.1 u1.2.1 (if (xvb (mnw M) (xs (i + 1)) && xvb 16 (xs (i + 2))) then (xMg N M (xka (xs (i + 1))) (xka (xs (i + 2)))) else M) ++ [(o0, .inl (T 4, 1, .inr (.inl u1.2.2)))])) := hD
  refine lv_istore (lv' := [(6, .int r2), (5, .int r1), (0, .ref b), (1, .ref (ad 0)), (2, .ref (bd 0)), (3, .ref o0), (4, .int (nI i))]) hx hb dL_law_587 hl (by decide) rfl (fun ls hl => ?_)
  refine lv_aload_n hx hb dL_law_589 rfl (lv_at hl 4 rfl) ?_
  refine x_calliA (va_runV (As := []) (rest := []) ⟨hx, hb, hml, hown, hts⟩ (c_X4_thrown l G T _ bd u2 (if (xvb (mnw M) (xs (i + 1)) && xvb 16 (xs (i + 2))) then (xMg N M (xka (xs (i + 1))) (xka (xs (i + 2)))) else M)) (cwV 0 hts gL_law_X4_thrown rfl rfl rfl (by decide +kernel) ⟨Nat.le_of_ble_eq_true rfl, Nat.le_of_ble_eq_true rfl⟩) (x_preVA (wc := (xD T bd u2 (if (xvb (mnw M) (xs (i + 1)) && xvb 16 (xs (i + 2))) then (xMg N M (xka (xs (i + 1))) (xka (xs (i + 2)))) else M))) (wr := (xC T u1.1 u1.2.1 (if (xvb (mnw M) (xs (i + 1)) && xvb 16 (xs (i + 2))) then (xMg N M (xka (xs (i + 1))) (xka (xs (i + 2)))) else M) ++ [(o0, .inl (T 4, 1, .inr (.inl u1.2.2)))])) hK hP hD hS hA hXB hZ _ _ 0 4 rfl rfl) rfl rfl hl.1 rfl (lv_room (Nat.le_of_ble_eq_true rfl)) dL_law_590 ⟨show ((ce + 2) + 0) + 0 ≤ 651071 by omega, show ((sl + 12) + 0) + 0 ≤ 7142890 by omega⟩) hP hD hS hA (fun _ _ _ => xd_self rfl (xd_l hD)) (fun r3 u3 H locs hw3 hP hD hS => ?_)
  have hP : va_P G vwCl ((xD T bd u2 (if (xvb (mnw M) (xs (i + 1)) && xvb 16 (xs (i + 2))) then (xMg N M (xka (xs (i + 1))) (xka (xs (i + 2)))) else M)) ++ (xC T u1.1 u1.2.1 (if (xvb (mnw M) (xs (i + 1)) && xvb 16 (xs (i + 2))) then (xMg N M (xka (xs (i + 1))) (xka (xs (i + 2)))) else M) ++ [(o0, .inl (T 4, 1, .inr (.inl u1.2.2)))])) H := hP
  have hD : va_D A ((xD T bd u2 (if (xvb (mnw M) (xs (i + 1)) && xvb 16 (xs (i + 2))) then (xMg N M (xka (xs (i + 1))) (xka (xs (i + 2)))) else M)) ++ (xC T u1.1 u1.2.1 (if (xvb (mnw M) (xs (i + 1)) && xvb 16 (xs (i + 2))) then (xMg N M (xka (xs (i + 1))) (xka (xs (i + 2)))) else M) ++ [(o0, .inl (T 4, 1, .inr (.inl u1.2.2)))])) := hD
  refine x_topi (y := u2) (hw3) ?_
  have hP := xp_perm (List.perm_append_comm (l₁ := (xD T bd u2 (if (xvb (mnw M) (xs (i + 1)) && xvb 16 (xs (i + 2))) then (xMg N M (xka (xs (i + 1))) (xka (xs (i + 2)))) else M))) (l₂ := (xC T u1.1 u1.2.1 (if (xvb (mnw M) (xs (i + 1)) && xvb 16 (xs (i + 2))) then (xMg N M (xka (xs (i + 1))) (xka (xs (i + 2)))) else M) ++ [(o0, .inl (T 4, 1, .inr (.inl u1.2.2)))]))) hP
  have hD := xd_perm (List.perm_append_comm (l₁ := (xD T bd u2 (if (xvb (mnw M) (xs (i + 1)) && xvb 16 (xs (i + 2))) then (xMg N M (xka (xs (i + 1))) (xka (xs (i + 2)))) else M))) (l₂ := (xC T u1.1 u1.2.1 (if (xvb (mnw M) (xs (i + 1)) && xvb 16 (xs (i + 2))) then (xMg N M (xka (xs (i + 1))) (xka (xs (i + 2)))) else M) ++ [(o0, .inl (T 4, 1, .inr (.inl u1.2.2)))]))) hD
  obtain ⟨hw1, hx1, hy1⟩ := hw1
  refine lv_iload hx hb dL_law_593 (lv_at hl 1 rfl) ?_
  rcases (show (r1 = nI 0 ∧ u2 = nI 0 ∧ u1.2.2 (nI 0).toNatClampNeg = r2.toInt64) ∨ (r1 = nI 1 ∧ u2 = nI 1) from xmeet1 hw1 hw2) with ⟨rfl, rfl, hk3⟩ | ⟨rfl, rfl⟩
  · refine lv_icmp_eq (tgt := 600) hx hb dL_law_595 (by decide) (fun _ => ?_) (fun c_ => absurd (rfl) c_)
    refine lv_iload hx hb dL_law_600 (lv_at hl 1 rfl) ?_
    refine lv_if_ne (tgt := 617) hx hb dL_law_602 (by decide) (fun c_ => absurd (rfl) c_) (fun _ => ?_)
    refine lv_aload_n hx hb dL_law_605 rfl (lv_at hl 5 rfl) ?_
    refine lv_iconst (v := nI 0) hx hb dL_law_606 (by decide) ?_
    refine va_lald hx hb hK hP (xC T u1.1 u1.2.1 (if (xvb (mnw M) (xs (i + 1)) && xvb 16 (xs (i + 2))) then (xMg N M (xka (xs (i + 1))) (xka (xs (i + 2)))) else M)).length 4 x_lget2 rfl (vp_in_nI (n := 0) (N := 1) (by decide) (by decide)) dL_law_607 ?_
    refine x_topl (y := r2.toInt64) (hk3) ?_
    refine lv_iload hx hb dL_law_608 (lv_at hl 0 rfl) ?_
    refine lv_i2l hx hb dL_law_610 rfl ?_
    refine x_lcmp0 hx hb dL_law_611 ?_
    refine lv_if_eq (tgt := 617) hx hb dL_law_612 (by decide) (fun _ => ?_) (fun c_ => absurd (rfl) c_)
    refine lv_goto (tgt := 1431) hx hb dL_law_617 (by decide) ?_
    refine W.widen (k := ce + 90) (n := sl + 547) (by omega) (by omega) ?_
    exact kk _ _ _ _ _ _ _ hx1 (by split; rename_i hC; exact xI_glimpse hI hj N hC; exact xI_s hI hj) hP hD hS ls (lv_sub hl [2, 3, 4, 5, 6] rfl)
  · refine lv_icmp_eq (tgt := 600) hx hb dL_law_595 (by decide) (fun _ => ?_) (fun c_ => absurd (rfl) c_)
    refine lv_iload hx hb dL_law_600 (lv_at hl 1 rfl) ?_
    refine lv_if_ne (tgt := 617) hx hb dL_law_602 (by decide) (fun _ => ?_) (fun c_ => absurd c_ (by decide))
    refine lv_goto (tgt := 1431) hx hb dL_law_617 (by decide) ?_
    refine W.widen (k := ce + 90) (n := sl + 547) (by omega) (by omega) ?_
    exact kk _ _ _ _ _ _ _ hx1 (by split; rename_i hC; exact xI_glimpse hI hj N hC; exact xI_s hI hj) hP hD hS ls (lv_sub hl [2, 3, 4, 5, 6] rfl)

set_option maxHeartbeats 4000000 in
set_option maxRecDepth 100000 in
/-- the law: thinks -/
theorem lc_thinks {p : Program} {l : Launch} {e : Env} {s : State} {m : MethodId} {below : List Frame} {meth : Method} {c : Code} {G : va_G} {T : Nat → ClassId} {b L : Nat} {xs : Nat → Int32} (C0 : xLC p l s m meth c b L xs G T) (i j : Nat) (hi : i + 4 ≤ L) (hj : j < 512) (ad : Nat → Nat) (sc : Nat → Nat → Int32) (M : XM) (bd : Nat → Nat) (thr : Int32) (o0 : Nat) (h : Nat → Int64) (hI : xI M j) (ce sl : Nat) (hce : ce + 90 ≤ 651071) (hsl9 : sl + 547 ≤ 7142890) (H : Heap) (locs : List Loc) (hP : va_P G vwCl ((xC T ad sc M ++ [(o0, .inl (T 4, 1, .inr (.inl h)))]) ++ (xD T bd thr M)) H) (hD : va_D (fun q : Nat => s.heap.size ≤ q) ((xC T ad sc M ++ [(o0, .inl (T 4, 1, .inr (.inl h)))]) ++ (xD T bd thr M))) (hS : va_S (fun q : Nat => s.heap.size ≤ q) s.heap H locs) (ls : Array Slot) (hl : lv_has ls 9 [(0, .ref b), (1, .ref (ad 0)), (2, .ref (bd 0)), (3, .ref o0), (4, .int (nI i))]) (kk : ∀ (ad1 : Nat → Nat) (sc1 : Nat → Nat → Int32) (M1 : XM) (thr1 : Int32) (h1 : Nat → Int64) (H1 : Heap) (locs1 : List Loc), ad1 0 = ad 0 → xI M1 (j + 1) → va_P G vwCl ((xC T ad1 sc1 M1 ++ [(o0, .inl (T 4, 1, .inr (.inl h1)))]) ++ (xD T bd thr1 M1)) H1 → va_D (fun q : Nat => s.heap.size ≤ q) ((xC T ad1 sc1 M1 ++ [(o0, .inl (T 4, 1, .inr (.inl h1)))]) ++ (xD T bd thr1 M1)) → va_S (fun q : Nat => s.heap.size ≤ q) s.heap H1 locs1 → ∀ ls1 : Array Slot, lv_has ls1 9 [(0, .ref b), (1, .ref (ad 0)), (2, .ref (bd 0)), (3, .ref o0), (4, .int (nI i))] → W p l e room_1 s m #[Value.ref b] below meth c H1 locs1 (ce + 90) (sl + 547) (lw_Z below #[Value.ref b] s) (F0 m 1431 ls1 [])) : W p l e room_1 s m #[Value.ref b] below meth c H locs ce sl (lw_Z below #[Value.ref b] s) (F0 m 620 ls []) := by
  obtain ⟨hx, hb, hr, hml, hown, hts, hX, hbl, hlocks, hK, hXB, hZ, hL9, hsl⟩ := C0
  have hA : ∀ q : Nat, s.heap.size ≤ q → (fun q : Nat => s.heap.size ≤ q) q := fun _ h => h
  have hbA : ¬ (fun q : Nat => s.heap.size ≤ q) b := Nat.not_le.mpr hbl
  obtain ⟨hn4, hm4, hpk, hsur, hsh, hth, hz0, hhb, hle, hta, hj5⟩ := id hI
  generalize hAe : (fun q : Nat => s.heap.size ≤ q) = A at hA hbA hZ hD hS kk
  refine lv_aload_n hx hb dL_law_620 rfl (lv_at hl 1 rfl) ?_
  refine lv_aload_n hx hb dL_law_621 rfl (lv_at hl 0 rfl) ?_
  refine lv_iload hx hb dL_law_622 (lv_at hl 4 rfl) ?_
  refine lv_iconst (v := nI 1) hx hb dL_law_624 (by decide) ?_
  refine lv_iadd hx hb dL_law_625 ?_
  refine x_topi (y := nI (i + 1)) (nI_add _ _) ?_
  refine va_sld hx hb hX hbl hbA hS (vp_in_nI (n := i + 1) (N := L) (by omega) (by omega)) dL_law_626 ?_
  refine x_topi (y := (xs (i + 1))) (by rw [nI_clamp (by omega)]) ?_
  refine lv_aload_n hx hb dL_law_627 rfl (lv_at hl 0 rfl) ?_
  refine lv_iload hx hb dL_law_628 (lv_at hl 4 rfl) ?_
  refine lv_iconst (v := nI 2) hx hb dL_law_630 (by decide) ?_
  refine lv_iadd hx hb dL_law_631 ?_
  refine x_topi (y := nI (i + 2)) (nI_add _ _) ?_
  refine va_sld hx hb hX hbl hbA hS (vp_in_nI (n := i + 2) (N := L) (by omega) (by omega)) dL_law_632 ?_
  refine x_topi (y := (xs (i + 2))) (by rw [nI_clamp (by omega)]) ?_
  refine lv_aload_n hx hb dL_law_633 rfl (lv_at hl 3 rfl) ?_
  refine x_calliA (vx_runSW (As := [.ref (ad 0), .int (xs (i + 1)), .int (xs (i + 2)), .ref o0]) (rest := []) ⟨hx, hb, hml, hown, hts⟩ (c_L_thinks l hsl G T _ ad sc M o0 h (xs (i + 1)) (xs (i + 2)) hn4) (vx_cwSW 4 hts gL_law_L_thinks rfl rfl rfl (by decide +kernel) ⟨Nat.le_of_ble_eq_true rfl, Nat.le_of_ble_eq_true rfl⟩) (x_preSA (wc := (xC T ad sc M ++ [(o0, .inl (T 4, 1, .inr (.inl h)))])) (wr := (xD T bd thr M)) hK hP hD hS hA hXB hZ _) rfl rfl hl.1 rfl (lv_room (Nat.le_of_ble_eq_true rfl)) dL_law_634 ⟨show ce + 2 ≤ 651071 by omega, show sl + 12 ≤ 7142890 by omega⟩) hP hD hS hA (fun _ _ hw => hw.2.2) (fun r1 u1 H locs hw1 hP hD hS => ?_)
  have hP : va_P G vwCl ((xC T u1.1 u1.2.1 M ++ [(o0, .inl (T 4, 1, .inr (.inl u1.2.2)))]) ++ (xD T bd thr M)) H := hP
  have hD : va_D A ((xC T u1.1 u1.2.1 M ++ [(o0, .inl (T 4, 1, .inr (.inl u1.2.2)))]) ++ (xD T bd thr M)) := hD
  refine lv_istore (lv' := [(5, .int r1), (0, .ref b), (1, .ref (ad 0)), (2, .ref (bd 0)), (3, .ref o0), (4, .int (nI i))]) hx hb dL_law_637 hl (by decide) rfl (fun ls hl => ?_)
  refine lv_aload_n hx hb dL_law_639 rfl (lv_at hl 3 rfl) ?_
  refine lv_aload_n hx hb dL_law_640 rfl (lv_at hl 1 rfl) ?_
  refine lv_iload hx hb dL_law_641 (lv_at hl 5 rfl) ?_
  refine lv_iconst (v := nI 1) hx hb dL_law_643 (by decide) ?_
  refine lv_iadd hx hb dL_law_644 ?_
  refine x_topi (y := nI (i + 1)) (nI_add _ _) ?_
  refine va_sld hx hb hX hbl hbA hS (vp_in_nI (n := i + 1) (N := L) (by omega) (by omega)) dL_law_645 ?_
  refine x_topi (y := (xs (i + 1))) (by rw [nI_clamp (by omega)]) ?_
  refine lv_aload_n hx hb dL_law_646 rfl (lv_at hl 1 rfl) ?_
  refine lv_iload hx hb dL_law_647 (lv_at hl 5 rfl) ?_
  refine lv_iconst (v := nI 2) hx hb dL_law_649 (by decide) ?_
  refine lv_iadd hx hb dL_law_650 ?_
  refine x_topi (y := nI (i + 2)) (nI_add _ _) ?_
  refine va_sld hx hb hX hbl hbA hS (vp_in_nI (n := i + 2) (N := L) (by omega) (by omega)) dL_law_651 ?_
  refine x_topi (y := (xs (i + 2))) (by rw [nI_clamp (by omega)]) ?_
  have hP := xp_perm (List.perm_append_comm (l₁ := (xC T u1.1 u1.2.1 M ++ [(o0, .inl (T 4, 1, .inr (.inl u1.2.2)))])) (l₂ := (xD T bd thr M))) hP
  have hD := xd_perm (List.perm_append_comm (l₁ := (xC T u1.1 u1.2.1 M ++ [(o0, .inl (T 4, 1, .inr (.inl u1.2.2)))])) (l₂ := (xD T bd thr M))) hD
  refine x_calliA (va_runV (As := [.int (xs (i + 1)), .int (xs (i + 2))]) (rest := []) ⟨hx, hb, hml, hown, hts⟩ (c_X4_thinks l G T _ bd thr M (xs (i + 1)) (xs (i + 2)) hn4) (cwV 2 hts gL_law_X4_thinks rfl rfl rfl (by decide +kernel) ⟨Nat.le_of_ble_eq_true rfl, Nat.le_of_ble_eq_true rfl⟩) (x_preVA (wc := (xD T bd thr M)) (wr := (xC T u1.1 u1.2.1 M ++ [(o0, .inl (T 4, 1, .inr (.inl u1.2.2)))])) hK hP hD hS hA hXB hZ _ _ 0 4 rfl rfl) rfl rfl hl.1 rfl (lv_room (Nat.le_of_ble_eq_true rfl)) dL_law_652 ⟨show (ce + 2) + 0 ≤ 651071 by omega, show (sl + 12) + 0 ≤ 7142890 by omega⟩) hP hD hS hA (fun _ _ _ => xd_self rfl (xd_l hD)) (fun r2 u2 H locs hw2 hP hD hS => ?_)
  have hP : va_P G vwCl ((xD T bd u2 M) ++ (xC T u1.1 u1.2.1 M ++ [(o0, .inl (T 4, 1, .inr (.inl u1.2.2)))])) H := hP
  have hD : va_D A ((xD T bd u2 M) ++ (xC T u1.1 u1.2.1 M ++ [(o0, .inl (T 4, 1, .inr (.inl u1.2.2)))])) := hD
  refine lv_istore (lv' := [(6, .int r2), (5, .int r1), (0, .ref b), (1, .ref (ad 0)), (2, .ref (bd 0)), (3, .ref o0), (4, .int (nI i))]) hx hb dL_law_655 hl (by decide) rfl (fun ls hl => ?_)
  refine lv_aload_n hx hb dL_law_657 rfl (lv_at hl 4 rfl) ?_
  refine x_calliA (va_runV (As := []) (rest := []) ⟨hx, hb, hml, hown, hts⟩ (c_X4_thrown l G T _ bd u2 M) (cwV 0 hts gL_law_X4_thrown rfl rfl rfl (by decide +kernel) ⟨Nat.le_of_ble_eq_true rfl, Nat.le_of_ble_eq_true rfl⟩) (x_preVA (wc := (xD T bd u2 M)) (wr := (xC T u1.1 u1.2.1 M ++ [(o0, .inl (T 4, 1, .inr (.inl u1.2.2)))])) hK hP hD hS hA hXB hZ _ _ 0 4 rfl rfl) rfl rfl hl.1 rfl (lv_room (Nat.le_of_ble_eq_true rfl)) dL_law_658 ⟨show ((ce + 2) + 0) + 0 ≤ 651071 by omega, show ((sl + 12) + 0) + 0 ≤ 7142890 by omega⟩) hP hD hS hA (fun _ _ _ => xd_self rfl (xd_l hD)) (fun r3 u3 H locs hw3 hP hD hS => ?_)
  have hP : va_P G vwCl ((xD T bd u2 M) ++ (xC T u1.1 u1.2.1 M ++ [(o0, .inl (T 4, 1, .inr (.inl u1.2.2)))])) H := hP
  have hD : va_D A ((xD T bd u2 M) ++ (xC T u1.1 u1.2.1 M ++ [(o0, .inl (T 4, 1, .inr (.inl u1.2.2)))])) := hD
  refine x_topi (y := u2) (hw3) ?_
  have hP := xp_perm (List.perm_append_comm (l₁ := (xD T bd u2 M)) (l₂ := (xC T u1.1 u1.2.1 M ++ [(o0, .inl (T 4, 1, .inr (.inl u1.2.2)))]))) hP
  have hD := xd_perm (List.perm_append_comm (l₁ := (xD T bd u2 M)) (l₂ := (xC T u1.1 u1.2.1 M ++ [(o0, .inl (T 4, 1, .inr (.inl u1.2.2)))]))) hD
  obtain ⟨hw1, hx1, hy1⟩ := hw1
  refine lv_iload hx hb dL_law_661 (lv_at hl 1 rfl) ?_
  rcases (show (r1 = nI 0 ∧ u2 = nI 0 ∧ u1.2.2 (nI 0).toNatClampNeg = r2.toInt64) ∨ (r1 = nI 1 ∧ u2 = nI 1) from xmeet1 hw1 hw2) with ⟨rfl, rfl, hk3⟩ | ⟨rfl, rfl⟩
  · refine lv_icmp_eq (tgt := 668) hx hb dL_law_663 (by decide) (fun _ => ?_) (fun c_ => absurd (rfl) c_)
    refine lv_iload hx hb dL_law_668 (lv_at hl 1 rfl) ?_
    refine lv_if_ne (tgt := 685) hx hb dL_law_670 (by decide) (fun c_ => absurd (rfl) c_) (fun _ => ?_)
    refine lv_aload_n hx hb dL_law_673 rfl (lv_at hl 5 rfl) ?_
    refine lv_iconst (v := nI 0) hx hb dL_law_674 (by decide) ?_
    refine va_lald hx hb hK hP (xC T u1.1 u1.2.1 M).length 4 x_lget2 rfl (vp_in_nI (n := 0) (N := 1) (by decide) (by decide)) dL_law_675 ?_
    refine x_topl (y := r2.toInt64) (hk3) ?_
    refine lv_iload hx hb dL_law_676 (lv_at hl 0 rfl) ?_
    refine lv_i2l hx hb dL_law_678 rfl ?_
    refine x_lcmp0 hx hb dL_law_679 ?_
    refine lv_if_eq (tgt := 685) hx hb dL_law_680 (by decide) (fun _ => ?_) (fun c_ => absurd (rfl) c_)
    refine lv_goto (tgt := 1431) hx hb dL_law_685 (by decide) ?_
    refine W.widen (k := ce + 90) (n := sl + 547) (by omega) (by omega) ?_
    exact kk _ _ _ _ _ _ _ hx1 (xI_s hI hj) hP hD hS ls (lv_sub hl [2, 3, 4, 5, 6] rfl)
  · refine lv_icmp_eq (tgt := 668) hx hb dL_law_663 (by decide) (fun _ => ?_) (fun c_ => absurd (rfl) c_)
    refine lv_iload hx hb dL_law_668 (lv_at hl 1 rfl) ?_
    refine lv_if_ne (tgt := 685) hx hb dL_law_670 (by decide) (fun _ => ?_) (fun c_ => absurd c_ (by decide))
    refine lv_goto (tgt := 1431) hx hb dL_law_685 (by decide) ?_
    refine W.widen (k := ce + 90) (n := sl + 547) (by omega) (by omega) ?_
    exact kk _ _ _ _ _ _ _ hx1 (xI_s hI hj) hP hD hS ls (lv_sub hl [2, 3, 4, 5, 6] rfl)

set_option maxHeartbeats 4000000 in
set_option maxRecDepth 100000 in
/-- the law: sure -/
theorem lc_sure {p : Program} {l : Launch} {e : Env} {s : State} {m : MethodId} {below : List Frame} {meth : Method} {c : Code} {G : va_G} {T : Nat → ClassId} {b L : Nat} {xs : Nat → Int32} (C0 : xLC p l s m meth c b L xs G T) (i j : Nat) (hi : i + 4 ≤ L) (hj : j < 512) (ad : Nat → Nat) (sc : Nat → Nat → Int32) (M : XM) (bd : Nat → Nat) (thr : Int32) (o0 : Nat) (h : Nat → Int64) (hI : xI M j) (ce sl : Nat) (hce : ce + 90 ≤ 651071) (hsl9 : sl + 547 ≤ 7142890) (H : Heap) (locs : List Loc) (hP : va_P G vwCl ((xC T ad sc M ++ [(o0, .inl (T 4, 1, .inr (.inl h)))]) ++ (xD T bd thr M)) H) (hD : va_D (fun q : Nat => s.heap.size ≤ q) ((xC T ad sc M ++ [(o0, .inl (T 4, 1, .inr (.inl h)))]) ++ (xD T bd thr M))) (hS : va_S (fun q : Nat => s.heap.size ≤ q) s.heap H locs) (ls : Array Slot) (hl : lv_has ls 9 [(0, .ref b), (1, .ref (ad 0)), (2, .ref (bd 0)), (3, .ref o0), (4, .int (nI i))]) (kk : ∀ (ad1 : Nat → Nat) (sc1 : Nat → Nat → Int32) (M1 : XM) (thr1 : Int32) (h1 : Nat → Int64) (H1 : Heap) (locs1 : List Loc), ad1 0 = ad 0 → xI M1 (j + 1) → va_P G vwCl ((xC T ad1 sc1 M1 ++ [(o0, .inl (T 4, 1, .inr (.inl h1)))]) ++ (xD T bd thr1 M1)) H1 → va_D (fun q : Nat => s.heap.size ≤ q) ((xC T ad1 sc1 M1 ++ [(o0, .inl (T 4, 1, .inr (.inl h1)))]) ++ (xD T bd thr1 M1)) → va_S (fun q : Nat => s.heap.size ≤ q) s.heap H1 locs1 → ∀ ls1 : Array Slot, lv_has ls1 9 [(0, .ref b), (1, .ref (ad 0)), (2, .ref (bd 0)), (3, .ref o0), (4, .int (nI i))] → W p l e room_1 s m #[Value.ref b] below meth c H1 locs1 (ce + 90) (sl + 547) (lw_Z below #[Value.ref b] s) (F0 m 1431 ls1 [])) : W p l e room_1 s m #[Value.ref b] below meth c H locs ce sl (lw_Z below #[Value.ref b] s) (F0 m 688 ls []) := by
  obtain ⟨hx, hb, hr, hml, hown, hts, hX, hbl, hlocks, hK, hXB, hZ, hL9, hsl⟩ := C0
  have hA : ∀ q : Nat, s.heap.size ≤ q → (fun q : Nat => s.heap.size ≤ q) q := fun _ h => h
  have hbA : ¬ (fun q : Nat => s.heap.size ≤ q) b := Nat.not_le.mpr hbl
  obtain ⟨hn4, hm4, hpk, hsur, hsh, hth, hz0, hhb, hle, hta, hj5⟩ := id hI
  generalize hAe : (fun q : Nat => s.heap.size ≤ q) = A at hA hbA hZ hD hS kk
  refine lv_aload_n hx hb dL_law_688 rfl (lv_at hl 1 rfl) ?_
  refine lv_aload_n hx hb dL_law_689 rfl (lv_at hl 0 rfl) ?_
  refine lv_iload hx hb dL_law_690 (lv_at hl 4 rfl) ?_
  refine lv_iconst (v := nI 1) hx hb dL_law_692 (by decide) ?_
  refine lv_iadd hx hb dL_law_693 ?_
  refine x_topi (y := nI (i + 1)) (nI_add _ _) ?_
  refine va_sld hx hb hX hbl hbA hS (vp_in_nI (n := i + 1) (N := L) (by omega) (by omega)) dL_law_694 ?_
  refine x_topi (y := (xs (i + 1))) (by rw [nI_clamp (by omega)]) ?_
  refine lv_aload_n hx hb dL_law_695 rfl (lv_at hl 0 rfl) ?_
  refine lv_iload hx hb dL_law_696 (lv_at hl 4 rfl) ?_
  refine lv_iconst (v := nI 2) hx hb dL_law_698 (by decide) ?_
  refine lv_iadd hx hb dL_law_699 ?_
  refine x_topi (y := nI (i + 2)) (nI_add _ _) ?_
  refine va_sld hx hb hX hbl hbA hS (vp_in_nI (n := i + 2) (N := L) (by omega) (by omega)) dL_law_700 ?_
  refine x_topi (y := (xs (i + 2))) (by rw [nI_clamp (by omega)]) ?_
  refine lv_aload_n hx hb dL_law_701 rfl (lv_at hl 3 rfl) ?_
  refine x_calliA (vx_runSW (As := [.ref (ad 0), .int (xs (i + 1)), .int (xs (i + 2)), .ref o0]) (rest := []) ⟨hx, hb, hml, hown, hts⟩ (c_L_sure l hsl G T _ ad sc M o0 h (xs (i + 1)) (xs (i + 2)) hn4) (vx_cwSW 4 hts gL_law_L_sure rfl rfl rfl (by decide +kernel) ⟨Nat.le_of_ble_eq_true rfl, Nat.le_of_ble_eq_true rfl⟩) (x_preSA (wc := (xC T ad sc M ++ [(o0, .inl (T 4, 1, .inr (.inl h)))])) (wr := (xD T bd thr M)) hK hP hD hS hA hXB hZ _) rfl rfl hl.1 rfl (lv_room (Nat.le_of_ble_eq_true rfl)) dL_law_702 ⟨show ce + 2 ≤ 651071 by omega, show sl + 12 ≤ 7142890 by omega⟩) hP hD hS hA (fun _ _ hw => hw.2.2) (fun r1 u1 H locs hw1 hP hD hS => ?_)
  have hP : va_P G vwCl ((xC T u1.1 u1.2.1 M ++ [(o0, .inl (T 4, 1, .inr (.inl u1.2.2)))]) ++ (xD T bd thr M)) H := hP
  have hD : va_D A ((xC T u1.1 u1.2.1 M ++ [(o0, .inl (T 4, 1, .inr (.inl u1.2.2)))]) ++ (xD T bd thr M)) := hD
  refine lv_istore (lv' := [(5, .int r1), (0, .ref b), (1, .ref (ad 0)), (2, .ref (bd 0)), (3, .ref o0), (4, .int (nI i))]) hx hb dL_law_705 hl (by decide) rfl (fun ls hl => ?_)
  refine lv_aload_n hx hb dL_law_707 rfl (lv_at hl 3 rfl) ?_
  refine lv_aload_n hx hb dL_law_708 rfl (lv_at hl 1 rfl) ?_
  refine lv_iload hx hb dL_law_709 (lv_at hl 5 rfl) ?_
  refine lv_iconst (v := nI 1) hx hb dL_law_711 (by decide) ?_
  refine lv_iadd hx hb dL_law_712 ?_
  refine x_topi (y := nI (i + 1)) (nI_add _ _) ?_
  refine va_sld hx hb hX hbl hbA hS (vp_in_nI (n := i + 1) (N := L) (by omega) (by omega)) dL_law_713 ?_
  refine x_topi (y := (xs (i + 1))) (by rw [nI_clamp (by omega)]) ?_
  refine lv_aload_n hx hb dL_law_714 rfl (lv_at hl 1 rfl) ?_
  refine lv_iload hx hb dL_law_715 (lv_at hl 5 rfl) ?_
  refine lv_iconst (v := nI 2) hx hb dL_law_717 (by decide) ?_
  refine lv_iadd hx hb dL_law_718 ?_
  refine x_topi (y := nI (i + 2)) (nI_add _ _) ?_
  refine va_sld hx hb hX hbl hbA hS (vp_in_nI (n := i + 2) (N := L) (by omega) (by omega)) dL_law_719 ?_
  refine x_topi (y := (xs (i + 2))) (by rw [nI_clamp (by omega)]) ?_
  have hP := xp_perm (List.perm_append_comm (l₁ := (xC T u1.1 u1.2.1 M ++ [(o0, .inl (T 4, 1, .inr (.inl u1.2.2)))])) (l₂ := (xD T bd thr M))) hP
  have hD := xd_perm (List.perm_append_comm (l₁ := (xC T u1.1 u1.2.1 M ++ [(o0, .inl (T 4, 1, .inr (.inl u1.2.2)))])) (l₂ := (xD T bd thr M))) hD
  refine x_calliA (va_runV (As := [.int (xs (i + 1)), .int (xs (i + 2))]) (rest := []) ⟨hx, hb, hml, hown, hts⟩ (c_X4_sure l G T _ bd thr M (xs (i + 1)) (xs (i + 2)) hn4) (cwV 2 hts gL_law_X4_sure rfl rfl rfl (by decide +kernel) ⟨Nat.le_of_ble_eq_true rfl, Nat.le_of_ble_eq_true rfl⟩) (x_preVA (wc := (xD T bd thr M)) (wr := (xC T u1.1 u1.2.1 M ++ [(o0, .inl (T 4, 1, .inr (.inl u1.2.2)))])) hK hP hD hS hA hXB hZ _ _ 0 4 rfl rfl) rfl rfl hl.1 rfl (lv_room (Nat.le_of_ble_eq_true rfl)) dL_law_720 ⟨show (ce + 2) + 0 ≤ 651071 by omega, show (sl + 12) + 0 ≤ 7142890 by omega⟩) hP hD hS hA (fun _ _ _ => xd_self rfl (xd_l hD)) (fun r2 u2 H locs hw2 hP hD hS => ?_)
  have hP : va_P G vwCl ((xD T bd u2 M) ++ (xC T u1.1 u1.2.1 M ++ [(o0, .inl (T 4, 1, .inr (.inl u1.2.2)))])) H := hP
  have hD : va_D A ((xD T bd u2 M) ++ (xC T u1.1 u1.2.1 M ++ [(o0, .inl (T 4, 1, .inr (.inl u1.2.2)))])) := hD
  refine lv_istore (lv' := [(6, .int r2), (5, .int r1), (0, .ref b), (1, .ref (ad 0)), (2, .ref (bd 0)), (3, .ref o0), (4, .int (nI i))]) hx hb dL_law_723 hl (by decide) rfl (fun ls hl => ?_)
  refine lv_aload_n hx hb dL_law_725 rfl (lv_at hl 4 rfl) ?_
  refine x_calliA (va_runV (As := []) (rest := []) ⟨hx, hb, hml, hown, hts⟩ (c_X4_thrown l G T _ bd u2 M) (cwV 0 hts gL_law_X4_thrown rfl rfl rfl (by decide +kernel) ⟨Nat.le_of_ble_eq_true rfl, Nat.le_of_ble_eq_true rfl⟩) (x_preVA (wc := (xD T bd u2 M)) (wr := (xC T u1.1 u1.2.1 M ++ [(o0, .inl (T 4, 1, .inr (.inl u1.2.2)))])) hK hP hD hS hA hXB hZ _ _ 0 4 rfl rfl) rfl rfl hl.1 rfl (lv_room (Nat.le_of_ble_eq_true rfl)) dL_law_726 ⟨show ((ce + 2) + 0) + 0 ≤ 651071 by omega, show ((sl + 12) + 0) + 0 ≤ 7142890 by omega⟩) hP hD hS hA (fun _ _ _ => xd_self rfl (xd_l hD)) (fun r3 u3 H locs hw3 hP hD hS => ?_)
  have hP : va_P G vwCl ((xD T bd u2 M) ++ (xC T u1.1 u1.2.1 M ++ [(o0, .inl (T 4, 1, .inr (.inl u1.2.2)))])) H := hP
  have hD : va_D A ((xD T bd u2 M) ++ (xC T u1.1 u1.2.1 M ++ [(o0, .inl (T 4, 1, .inr (.inl u1.2.2)))])) := hD
  refine x_topi (y := u2) (hw3) ?_
  have hP := xp_perm (List.perm_append_comm (l₁ := (xD T bd u2 M)) (l₂ := (xC T u1.1 u1.2.1 M ++ [(o0, .inl (T 4, 1, .inr (.inl u1.2.2)))]))) hP
  have hD := xd_perm (List.perm_append_comm (l₁ := (xD T bd u2 M)) (l₂ := (xC T u1.1 u1.2.1 M ++ [(o0, .inl (T 4, 1, .inr (.inl u1.2.2)))]))) hD
  obtain ⟨hw1, hx1, hy1⟩ := hw1
  refine lv_iload hx hb dL_law_729 (lv_at hl 1 rfl) ?_
  rcases (show (r1 = nI 0 ∧ u2 = nI 0 ∧ u1.2.2 (nI 0).toNatClampNeg = r2.toInt64) ∨ (r1 = nI 1 ∧ u2 = nI 1) from xmeet1 hw1 hw2) with ⟨rfl, rfl, hk3⟩ | ⟨rfl, rfl⟩
  · refine lv_icmp_eq (tgt := 736) hx hb dL_law_731 (by decide) (fun _ => ?_) (fun c_ => absurd (rfl) c_)
    refine lv_iload hx hb dL_law_736 (lv_at hl 1 rfl) ?_
    refine lv_if_ne (tgt := 753) hx hb dL_law_738 (by decide) (fun c_ => absurd (rfl) c_) (fun _ => ?_)
    refine lv_aload_n hx hb dL_law_741 rfl (lv_at hl 5 rfl) ?_
    refine lv_iconst (v := nI 0) hx hb dL_law_742 (by decide) ?_
    refine va_lald hx hb hK hP (xC T u1.1 u1.2.1 M).length 4 x_lget2 rfl (vp_in_nI (n := 0) (N := 1) (by decide) (by decide)) dL_law_743 ?_
    refine x_topl (y := r2.toInt64) (hk3) ?_
    refine lv_iload hx hb dL_law_744 (lv_at hl 0 rfl) ?_
    refine lv_i2l hx hb dL_law_746 rfl ?_
    refine x_lcmp0 hx hb dL_law_747 ?_
    refine lv_if_eq (tgt := 753) hx hb dL_law_748 (by decide) (fun _ => ?_) (fun c_ => absurd (rfl) c_)
    refine lv_goto (tgt := 1431) hx hb dL_law_753 (by decide) ?_
    refine W.widen (k := ce + 90) (n := sl + 547) (by omega) (by omega) ?_
    exact kk _ _ _ _ _ _ _ hx1 (xI_s hI hj) hP hD hS ls (lv_sub hl [2, 3, 4, 5, 6] rfl)
  · refine lv_icmp_eq (tgt := 736) hx hb dL_law_731 (by decide) (fun _ => ?_) (fun c_ => absurd (rfl) c_)
    refine lv_iload hx hb dL_law_736 (lv_at hl 1 rfl) ?_
    refine lv_if_ne (tgt := 753) hx hb dL_law_738 (by decide) (fun _ => ?_) (fun c_ => absurd c_ (by decide))
    refine lv_goto (tgt := 1431) hx hb dL_law_753 (by decide) ?_
    refine W.widen (k := ce + 90) (n := sl + 547) (by omega) (by omega) ?_
    exact kk _ _ _ _ _ _ _ hx1 (xI_s hI hj) hP hD hS ls (lv_sub hl [2, 3, 4, 5, 6] rfl)

set_option maxHeartbeats 4000000 in
set_option maxRecDepth 100000 in
/-- the law: watcher -/
theorem lc_watcher {p : Program} {l : Launch} {e : Env} {s : State} {m : MethodId} {below : List Frame} {meth : Method} {c : Code} {G : va_G} {T : Nat → ClassId} {b L : Nat} {xs : Nat → Int32} (C0 : xLC p l s m meth c b L xs G T) (i j : Nat) (hi : i + 4 ≤ L) (hj : j < 512) (ad : Nat → Nat) (sc : Nat → Nat → Int32) (M : XM) (bd : Nat → Nat) (thr : Int32) (o0 : Nat) (h : Nat → Int64) (hI : xI M j) (ce sl : Nat) (hce : ce + 90 ≤ 651071) (hsl9 : sl + 547 ≤ 7142890) (H : Heap) (locs : List Loc) (hP : va_P G vwCl ((xC T ad sc M ++ [(o0, .inl (T 4, 1, .inr (.inl h)))]) ++ (xD T bd thr M)) H) (hD : va_D (fun q : Nat => s.heap.size ≤ q) ((xC T ad sc M ++ [(o0, .inl (T 4, 1, .inr (.inl h)))]) ++ (xD T bd thr M))) (hS : va_S (fun q : Nat => s.heap.size ≤ q) s.heap H locs) (ls : Array Slot) (hl : lv_has ls 9 [(0, .ref b), (1, .ref (ad 0)), (2, .ref (bd 0)), (3, .ref o0), (4, .int (nI i))]) (kk : ∀ (ad1 : Nat → Nat) (sc1 : Nat → Nat → Int32) (M1 : XM) (thr1 : Int32) (h1 : Nat → Int64) (H1 : Heap) (locs1 : List Loc), ad1 0 = ad 0 → xI M1 (j + 1) → va_P G vwCl ((xC T ad1 sc1 M1 ++ [(o0, .inl (T 4, 1, .inr (.inl h1)))]) ++ (xD T bd thr1 M1)) H1 → va_D (fun q : Nat => s.heap.size ≤ q) ((xC T ad1 sc1 M1 ++ [(o0, .inl (T 4, 1, .inr (.inl h1)))]) ++ (xD T bd thr1 M1)) → va_S (fun q : Nat => s.heap.size ≤ q) s.heap H1 locs1 → ∀ ls1 : Array Slot, lv_has ls1 9 [(0, .ref b), (1, .ref (ad 0)), (2, .ref (bd 0)), (3, .ref o0), (4, .int (nI i))] → W p l e room_1 s m #[Value.ref b] below meth c H1 locs1 (ce + 90) (sl + 547) (lw_Z below #[Value.ref b] s) (F0 m 1431 ls1 [])) : W p l e room_1 s m #[Value.ref b] below meth c H locs ce sl (lw_Z below #[Value.ref b] s) (F0 m 756 ls []) := by
  obtain ⟨hx, hb, hr, hml, hown, hts, hX, hbl, hlocks, hK, hXB, hZ, hL9, hsl⟩ := C0
  have hA : ∀ q : Nat, s.heap.size ≤ q → (fun q : Nat => s.heap.size ≤ q) q := fun _ h => h
  have hbA : ¬ (fun q : Nat => s.heap.size ≤ q) b := Nat.not_le.mpr hbl
  obtain ⟨hn4, hm4, hpk, hsur, hsh, hth, hz0, hhb, hle, hta, hj5⟩ := id hI
  generalize hAe : (fun q : Nat => s.heap.size ≤ q) = A at hA hbA hZ hD hS kk
  refine lv_aload_n hx hb dL_law_756 rfl (lv_at hl 1 rfl) ?_
  refine lv_aload_n hx hb dL_law_757 rfl (lv_at hl 0 rfl) ?_
  refine lv_iload hx hb dL_law_758 (lv_at hl 4 rfl) ?_
  refine lv_iconst (v := nI 1) hx hb dL_law_760 (by decide) ?_
  refine lv_iadd hx hb dL_law_761 ?_
  refine x_topi (y := nI (i + 1)) (nI_add _ _) ?_
  refine va_sld hx hb hX hbl hbA hS (vp_in_nI (n := i + 1) (N := L) (by omega) (by omega)) dL_law_762 ?_
  refine x_topi (y := (xs (i + 1))) (by rw [nI_clamp (by omega)]) ?_
  refine lv_aload_n hx hb dL_law_763 rfl (lv_at hl 0 rfl) ?_
  refine lv_iload hx hb dL_law_764 (lv_at hl 4 rfl) ?_
  refine lv_iconst (v := nI 2) hx hb dL_law_766 (by decide) ?_
  refine lv_iadd hx hb dL_law_767 ?_
  refine x_topi (y := nI (i + 2)) (nI_add _ _) ?_
  refine va_sld hx hb hX hbl hbA hS (vp_in_nI (n := i + 2) (N := L) (by omega) (by omega)) dL_law_768 ?_
  refine x_topi (y := (xs (i + 2))) (by rw [nI_clamp (by omega)]) ?_
  refine lv_aload_n hx hb dL_law_769 rfl (lv_at hl 3 rfl) ?_
  refine x_calliA (vx_runSW (As := [.ref (ad 0), .int (xs (i + 1)), .int (xs (i + 2)), .ref o0]) (rest := []) ⟨hx, hb, hml, hown, hts⟩ (c_L_watcher l hsl G T _ ad sc M o0 h (xs (i + 1)) (xs (i + 2)) hn4 hsh) (vx_cwSW 4 hts gL_law_L_watcher rfl rfl rfl (by decide +kernel) ⟨Nat.le_of_ble_eq_true rfl, Nat.le_of_ble_eq_true rfl⟩) (x_preSA (wc := (xC T ad sc M ++ [(o0, .inl (T 4, 1, .inr (.inl h)))])) (wr := (xD T bd thr M)) hK hP hD hS hA hXB hZ _) rfl rfl hl.1 rfl (lv_room (Nat.le_of_ble_eq_true rfl)) dL_law_770 ⟨show ce + 2 ≤ 651071 by omega, show sl + 12 ≤ 7142890 by omega⟩) hP hD hS hA (fun _ _ hw => hw.2.2) (fun r1 u1 H locs hw1 hP hD hS => ?_)
  have hP : va_P G vwCl ((xC T u1.1 u1.2.1 M ++ [(o0, .inl (T 4, 1, .inr (.inl u1.2.2)))]) ++ (xD T bd thr M)) H := hP
  have hD : va_D A ((xC T u1.1 u1.2.1 M ++ [(o0, .inl (T 4, 1, .inr (.inl u1.2.2)))]) ++ (xD T bd thr M)) := hD
  refine lv_istore (lv' := [(5, .int r1), (0, .ref b), (1, .ref (ad 0)), (2, .ref (bd 0)), (3, .ref o0), (4, .int (nI i))]) hx hb dL_law_773 hl (by decide) rfl (fun ls hl => ?_)
  refine lv_aload_n hx hb dL_law_775 rfl (lv_at hl 3 rfl) ?_
  refine lv_aload_n hx hb dL_law_776 rfl (lv_at hl 1 rfl) ?_
  refine lv_iload hx hb dL_law_777 (lv_at hl 5 rfl) ?_
  refine lv_iconst (v := nI 1) hx hb dL_law_779 (by decide) ?_
  refine lv_iadd hx hb dL_law_780 ?_
  refine x_topi (y := nI (i + 1)) (nI_add _ _) ?_
  refine va_sld hx hb hX hbl hbA hS (vp_in_nI (n := i + 1) (N := L) (by omega) (by omega)) dL_law_781 ?_
  refine x_topi (y := (xs (i + 1))) (by rw [nI_clamp (by omega)]) ?_
  refine lv_aload_n hx hb dL_law_782 rfl (lv_at hl 1 rfl) ?_
  refine lv_iload hx hb dL_law_783 (lv_at hl 5 rfl) ?_
  refine lv_iconst (v := nI 2) hx hb dL_law_785 (by decide) ?_
  refine lv_iadd hx hb dL_law_786 ?_
  refine x_topi (y := nI (i + 2)) (nI_add _ _) ?_
  refine va_sld hx hb hX hbl hbA hS (vp_in_nI (n := i + 2) (N := L) (by omega) (by omega)) dL_law_787 ?_
  refine x_topi (y := (xs (i + 2))) (by rw [nI_clamp (by omega)]) ?_
  have hP := xp_perm (List.perm_append_comm (l₁ := (xC T u1.1 u1.2.1 M ++ [(o0, .inl (T 4, 1, .inr (.inl u1.2.2)))])) (l₂ := (xD T bd thr M))) hP
  have hD := xd_perm (List.perm_append_comm (l₁ := (xC T u1.1 u1.2.1 M ++ [(o0, .inl (T 4, 1, .inr (.inl u1.2.2)))])) (l₂ := (xD T bd thr M))) hD
  refine x_calliA (va_runV (As := [.int (xs (i + 1)), .int (xs (i + 2))]) (rest := []) ⟨hx, hb, hml, hown, hts⟩ (c_X4_watcher l G T _ bd thr M (xs (i + 1)) (xs (i + 2)) hn4 (fun w hw j hj => (hth w hw j hj).1) hpk) (cwV 2 hts gL_law_X4_watcher rfl rfl rfl (by decide +kernel) ⟨Nat.le_of_ble_eq_true rfl, Nat.le_of_ble_eq_true rfl⟩) (x_preVA (wc := (xD T bd thr M)) (wr := (xC T u1.1 u1.2.1 M ++ [(o0, .inl (T 4, 1, .inr (.inl u1.2.2)))])) hK hP hD hS hA hXB hZ _ _ 0 4 rfl rfl) rfl rfl hl.1 rfl (lv_room (Nat.le_of_ble_eq_true rfl)) dL_law_788 ⟨show (ce + 2) + 1 ≤ 651071 by omega, show (sl + 12) + 6 ≤ 7142890 by omega⟩) hP hD hS hA (fun _ _ _ => xd_self rfl (xd_l hD)) (fun r2 u2 H locs hw2 hP hD hS => ?_)
  have hP : va_P G vwCl ((xD T bd u2 M) ++ (xC T u1.1 u1.2.1 M ++ [(o0, .inl (T 4, 1, .inr (.inl u1.2.2)))])) H := hP
  have hD : va_D A ((xD T bd u2 M) ++ (xC T u1.1 u1.2.1 M ++ [(o0, .inl (T 4, 1, .inr (.inl u1.2.2)))])) := hD
  refine lv_istore (lv' := [(6, .int r2), (5, .int r1), (0, .ref b), (1, .ref (ad 0)), (2, .ref (bd 0)), (3, .ref o0), (4, .int (nI i))]) hx hb dL_law_791 hl (by decide) rfl (fun ls hl => ?_)
  refine lv_aload_n hx hb dL_law_793 rfl (lv_at hl 4 rfl) ?_
  refine x_calliA (va_runV (As := []) (rest := []) ⟨hx, hb, hml, hown, hts⟩ (c_X4_thrown l G T _ bd u2 M) (cwV 0 hts gL_law_X4_thrown rfl rfl rfl (by decide +kernel) ⟨Nat.le_of_ble_eq_true rfl, Nat.le_of_ble_eq_true rfl⟩) (x_preVA (wc := (xD T bd u2 M)) (wr := (xC T u1.1 u1.2.1 M ++ [(o0, .inl (T 4, 1, .inr (.inl u1.2.2)))])) hK hP hD hS hA hXB hZ _ _ 0 4 rfl rfl) rfl rfl hl.1 rfl (lv_room (Nat.le_of_ble_eq_true rfl)) dL_law_794 ⟨show ((ce + 2) + 1) + 0 ≤ 651071 by omega, show ((sl + 12) + 6) + 0 ≤ 7142890 by omega⟩) hP hD hS hA (fun _ _ _ => xd_self rfl (xd_l hD)) (fun r3 u3 H locs hw3 hP hD hS => ?_)
  have hP : va_P G vwCl ((xD T bd u2 M) ++ (xC T u1.1 u1.2.1 M ++ [(o0, .inl (T 4, 1, .inr (.inl u1.2.2)))])) H := hP
  have hD : va_D A ((xD T bd u2 M) ++ (xC T u1.1 u1.2.1 M ++ [(o0, .inl (T 4, 1, .inr (.inl u1.2.2)))])) := hD
  refine x_topi (y := u2) (hw3) ?_
  have hP := xp_perm (List.perm_append_comm (l₁ := (xD T bd u2 M)) (l₂ := (xC T u1.1 u1.2.1 M ++ [(o0, .inl (T 4, 1, .inr (.inl u1.2.2)))]))) hP
  have hD := xd_perm (List.perm_append_comm (l₁ := (xD T bd u2 M)) (l₂ := (xC T u1.1 u1.2.1 M ++ [(o0, .inl (T 4, 1, .inr (.inl u1.2.2)))]))) hD
  obtain ⟨hw1, hx1, hy1⟩ := hw1
  refine lv_iload hx hb dL_law_797 (lv_at hl 1 rfl) ?_
  rcases (show (r1 = nI 0 ∧ u2 = nI 0 ∧ u1.2.2 (nI 0).toNatClampNeg = r2.toInt64) ∨ (r1 = nI 1 ∧ u2 = nI 1) from xmeet1 hw1 hw2) with ⟨rfl, rfl, hk3⟩ | ⟨rfl, rfl⟩
  · refine lv_icmp_eq (tgt := 804) hx hb dL_law_799 (by decide) (fun _ => ?_) (fun c_ => absurd (rfl) c_)
    refine lv_iload hx hb dL_law_804 (lv_at hl 1 rfl) ?_
    refine lv_if_ne (tgt := 821) hx hb dL_law_806 (by decide) (fun c_ => absurd (rfl) c_) (fun _ => ?_)
    refine lv_aload_n hx hb dL_law_809 rfl (lv_at hl 5 rfl) ?_
    refine lv_iconst (v := nI 0) hx hb dL_law_810 (by decide) ?_
    refine va_lald hx hb hK hP (xC T u1.1 u1.2.1 M).length 4 x_lget2 rfl (vp_in_nI (n := 0) (N := 1) (by decide) (by decide)) dL_law_811 ?_
    refine x_topl (y := r2.toInt64) (hk3) ?_
    refine lv_iload hx hb dL_law_812 (lv_at hl 0 rfl) ?_
    refine lv_i2l hx hb dL_law_814 rfl ?_
    refine x_lcmp0 hx hb dL_law_815 ?_
    refine lv_if_eq (tgt := 821) hx hb dL_law_816 (by decide) (fun _ => ?_) (fun c_ => absurd (rfl) c_)
    refine lv_goto (tgt := 1431) hx hb dL_law_821 (by decide) ?_
    refine W.widen (k := ce + 90) (n := sl + 547) (by omega) (by omega) ?_
    exact kk _ _ _ _ _ _ _ hx1 (xI_s hI hj) hP hD hS ls (lv_sub hl [2, 3, 4, 5, 6] rfl)
  · refine lv_icmp_eq (tgt := 804) hx hb dL_law_799 (by decide) (fun _ => ?_) (fun c_ => absurd (rfl) c_)
    refine lv_iload hx hb dL_law_804 (lv_at hl 1 rfl) ?_
    refine lv_if_ne (tgt := 821) hx hb dL_law_806 (by decide) (fun _ => ?_) (fun c_ => absurd c_ (by decide))
    refine lv_goto (tgt := 1431) hx hb dL_law_821 (by decide) ?_
    refine W.widen (k := ce + 90) (n := sl + 547) (by omega) (by omega) ?_
    exact kk _ _ _ _ _ _ _ hx1 (xI_s hI hj) hP hD hS ls (lv_sub hl [2, 3, 4, 5, 6] rfl)

set_option maxHeartbeats 4000000 in
set_option maxRecDepth 100000 in
/-- the law: sit -/
theorem lc_sit {p : Program} {l : Launch} {e : Env} {s : State} {m : MethodId} {below : List Frame} {meth : Method} {c : Code} {G : va_G} {T : Nat → ClassId} {b L : Nat} {xs : Nat → Int32} (C0 : xLC p l s m meth c b L xs G T) (i j : Nat) (hi : i + 4 ≤ L) (hj : j < 512) (ad : Nat → Nat) (sc : Nat → Nat → Int32) (M : XM) (bd : Nat → Nat) (thr : Int32) (o0 : Nat) (h : Nat → Int64) (hI : xI M j) (ce sl : Nat) (hce : ce + 90 ≤ 651071) (hsl9 : sl + 547 ≤ 7142890) (H : Heap) (locs : List Loc) (hP : va_P G vwCl ((xC T ad sc M ++ [(o0, .inl (T 4, 1, .inr (.inl h)))]) ++ (xD T bd thr M)) H) (hD : va_D (fun q : Nat => s.heap.size ≤ q) ((xC T ad sc M ++ [(o0, .inl (T 4, 1, .inr (.inl h)))]) ++ (xD T bd thr M))) (hS : va_S (fun q : Nat => s.heap.size ≤ q) s.heap H locs) (ls : Array Slot) (hl : lv_has ls 9 [(0, .ref b), (1, .ref (ad 0)), (2, .ref (bd 0)), (3, .ref o0), (4, .int (nI i))]) (kk : ∀ (ad1 : Nat → Nat) (sc1 : Nat → Nat → Int32) (M1 : XM) (thr1 : Int32) (h1 : Nat → Int64) (H1 : Heap) (locs1 : List Loc), ad1 0 = ad 0 → xI M1 (j + 1) → va_P G vwCl ((xC T ad1 sc1 M1 ++ [(o0, .inl (T 4, 1, .inr (.inl h1)))]) ++ (xD T bd thr1 M1)) H1 → va_D (fun q : Nat => s.heap.size ≤ q) ((xC T ad1 sc1 M1 ++ [(o0, .inl (T 4, 1, .inr (.inl h1)))]) ++ (xD T bd thr1 M1)) → va_S (fun q : Nat => s.heap.size ≤ q) s.heap H1 locs1 → ∀ ls1 : Array Slot, lv_has ls1 9 [(0, .ref b), (1, .ref (ad 0)), (2, .ref (bd 0)), (3, .ref o0), (4, .int (nI i))] → W p l e room_1 s m #[Value.ref b] below meth c H1 locs1 (ce + 90) (sl + 547) (lw_Z below #[Value.ref b] s) (F0 m 1431 ls1 [])) : W p l e room_1 s m #[Value.ref b] below meth c H locs ce sl (lw_Z below #[Value.ref b] s) (F0 m 824 ls []) := by
  obtain ⟨hx, hb, hr, hml, hown, hts, hX, hbl, hlocks, hK, hXB, hZ, hL9, hsl⟩ := C0
  have hA : ∀ q : Nat, s.heap.size ≤ q → (fun q : Nat => s.heap.size ≤ q) q := fun _ h => h
  have hbA : ¬ (fun q : Nat => s.heap.size ≤ q) b := Nat.not_le.mpr hbl
  obtain ⟨hn4, hm4, hpk, hsur, hsh, hth, hz0, hhb, hle, hta, hj5⟩ := id hI
  generalize hAe : (fun q : Nat => s.heap.size ≤ q) = A at hA hbA hZ hD hS kk
  refine lv_aload_n hx hb dL_law_824 rfl (lv_at hl 1 rfl) ?_
  refine lv_aload_n hx hb dL_law_825 rfl (lv_at hl 0 rfl) ?_
  refine lv_iload hx hb dL_law_826 (lv_at hl 4 rfl) ?_
  refine lv_iconst (v := nI 1) hx hb dL_law_828 (by decide) ?_
  refine lv_iadd hx hb dL_law_829 ?_
  refine x_topi (y := nI (i + 1)) (nI_add _ _) ?_
  refine va_sld hx hb hX hbl hbA hS (vp_in_nI (n := i + 1) (N := L) (by omega) (by omega)) dL_law_830 ?_
  refine x_topi (y := (xs (i + 1))) (by rw [nI_clamp (by omega)]) ?_
  refine lv_aload_n hx hb dL_law_831 rfl (lv_at hl 3 rfl) ?_
  refine x_calliA (vx_runSW (As := [.ref (ad 0), .int (xs (i + 1)), .ref o0]) (rest := []) ⟨hx, hb, hml, hown, hts⟩ (c_L_sit l hsl G T _ ad sc M o0 h (xs (i + 1)) hn4 hm4) (vx_cwSW 3 hts gL_law_L_sit rfl rfl rfl (by decide +kernel) ⟨Nat.le_of_ble_eq_true rfl, Nat.le_of_ble_eq_true rfl⟩) (x_preSA (wc := (xC T ad sc M ++ [(o0, .inl (T 4, 1, .inr (.inl h)))])) (wr := (xD T bd thr M)) hK hP hD hS hA hXB hZ _) rfl rfl hl.1 rfl (lv_room (Nat.le_of_ble_eq_true rfl)) dL_law_832 ⟨show ce + 2 ≤ 651071 by omega, show sl + 12 ≤ 7142890 by omega⟩) hP hD hS hA (fun _ _ hw => hw.2.2) (fun r1 u1 H locs hw1 hP hD hS => ?_)
  have hP : va_P G vwCl ((xC T u1.1 u1.2.1 (if xvb 16 (xs (i + 1)) = true ∧ mnp M < 4 then (xmk (mpk M) (mth M) (msh M) (man M) (mgl M) (upd (mhb M) (mnp M) (xs (i + 1))) (upd (mtk M) (mnp M) (-1)) (mnw M) (mnp M + 1) (mle M) (mwy M) (mfc M) (mta M)) else M) ++ [(o0, .inl (T 4, 1, .inr (.inl u1.2.2)))]) ++ (xD T bd thr M)) H := hP
  have hD : va_D A ((xC T u1.1 u1.2.1 (if xvb 16 (xs (i + 1)) = true ∧ mnp M < 4 then (xmk (mpk M) (mth M) (msh M) (man M) (mgl M) (upd (mhb M) (mnp M) (xs (i + 1))) (upd (mtk M) (mnp M) (-1)) (mnw M) (mnp M + 1) (mle M) (mwy M) (mfc M) (mta M)) else M) ++ [(o0, .inl (T 4, 1, .inr (.inl u1.2.2)))]) ++ (xD T bd thr M)) := hD
  refine lv_istore (lv' := [(5, .int r1), (0, .ref b), (1, .ref (ad 0)), (2, .ref (bd 0)), (3, .ref o0), (4, .int (nI i))]) hx hb dL_law_835 hl (by decide) rfl (fun ls hl => ?_)
  refine lv_aload_n hx hb dL_law_837 rfl (lv_at hl 3 rfl) ?_
  refine lv_aload_n hx hb dL_law_838 rfl (lv_at hl 1 rfl) ?_
  refine lv_iload hx hb dL_law_839 (lv_at hl 5 rfl) ?_
  refine lv_iconst (v := nI 1) hx hb dL_law_841 (by decide) ?_
  refine lv_iadd hx hb dL_law_842 ?_
  refine x_topi (y := nI (i + 1)) (nI_add _ _) ?_
  refine va_sld hx hb hX hbl hbA hS (vp_in_nI (n := i + 1) (N := L) (by omega) (by omega)) dL_law_843 ?_
  refine x_topi (y := (xs (i + 1))) (by rw [nI_clamp (by omega)]) ?_
  have hP := xp_perm (List.perm_append_comm (l₁ := (xC T u1.1 u1.2.1 (if xvb 16 (xs (i + 1)) = true ∧ mnp M < 4 then (xmk (mpk M) (mth M) (msh M) (man M) (mgl M) (upd (mhb M) (mnp M) (xs (i + 1))) (upd (mtk M) (mnp M) (-1)) (mnw M) (mnp M + 1) (mle M) (mwy M) (mfc M) (mta M)) else M) ++ [(o0, .inl (T 4, 1, .inr (.inl u1.2.2)))])) (l₂ := (xD T bd thr M))) hP
  have hD := xd_perm (List.perm_append_comm (l₁ := (xC T u1.1 u1.2.1 (if xvb 16 (xs (i + 1)) = true ∧ mnp M < 4 then (xmk (mpk M) (mth M) (msh M) (man M) (mgl M) (upd (mhb M) (mnp M) (xs (i + 1))) (upd (mtk M) (mnp M) (-1)) (mnw M) (mnp M + 1) (mle M) (mwy M) (mfc M) (mta M)) else M) ++ [(o0, .inl (T 4, 1, .inr (.inl u1.2.2)))])) (l₂ := (xD T bd thr M))) hD
  refine x_calliA (va_runV (As := [.int (xs (i + 1))]) (rest := []) ⟨hx, hb, hml, hown, hts⟩ (c_X4_sit l G T _ bd thr M (xs (i + 1)) hm4) (cwV 1 hts gL_law_X4_sit rfl rfl rfl (by decide +kernel) ⟨Nat.le_of_ble_eq_true rfl, Nat.le_of_ble_eq_true rfl⟩) (x_preVA (wc := (xD T bd thr M)) (wr := (xC T u1.1 u1.2.1 (if xvb 16 (xs (i + 1)) = true ∧ mnp M < 4 then (xmk (mpk M) (mth M) (msh M) (man M) (mgl M) (upd (mhb M) (mnp M) (xs (i + 1))) (upd (mtk M) (mnp M) (-1)) (mnw M) (mnp M + 1) (mle M) (mwy M) (mfc M) (mta M)) else M) ++ [(o0, .inl (T 4, 1, .inr (.inl u1.2.2)))])) hK hP hD hS hA hXB hZ _ _ 0 4 rfl rfl) rfl rfl hl.1 rfl (lv_room (Nat.le_of_ble_eq_true rfl)) dL_law_844 ⟨show (ce + 2) + 0 ≤ 651071 by omega, show (sl + 12) + 0 ≤ 7142890 by omega⟩) hP hD hS hA (fun _ _ _ => xd_self rfl (xd_l hD)) (fun r2 u2 H locs hw2 hP hD hS => ?_)
  have hP : va_P G vwCl ((xD T bd u2 (if xvb 16 (xs (i + 1)) = true ∧ mnp M < 4 then (xmk (mpk M) (mth M) (msh M) (man M) (mgl M) (upd (mhb M) (mnp M) (xs (i + 1))) (upd (mtk M) (mnp M) (-1)) (mnw M) (mnp M + 1) (mle M) (mwy M) (mfc M) (mta M)) else M)) ++ (xC T u1.1 u1.2.1 (if xvb 16 (xs (i + 1)) = true ∧ mnp M < 4 then (xmk (mpk M) (mth M) (msh M) (man M) (mgl M) (upd (mhb M) (mnp M) (xs (i + 1))) (upd (mtk M) (mnp M) (-1)) (mnw M) (mnp M + 1) (mle M) (mwy M) (mfc M) (mta M)) else M) ++ [(o0, .inl (T 4, 1, .inr (.inl u1.2.2)))])) H := hP
  have hD : va_D A ((xD T bd u2 (if xvb 16 (xs (i + 1)) = true ∧ mnp M < 4 then (xmk (mpk M) (mth M) (msh M) (man M) (mgl M) (upd (mhb M) (mnp M) (xs (i + 1))) (upd (mtk M) (mnp M) (-1)) (mnw M) (mnp M + 1) (mle M) (mwy M) (mfc M) (mta M)) else M)) ++ (xC T u1.1 u1.2.1 (if xvb 16 (xs (i + 1)) = true ∧ mnp M < 4 then (xmk (mpk M) (mth M) (msh M) (man M) (mgl M) (upd (mhb M) (mnp M) (xs (i + 1))) (upd (mtk M) (mnp M) (-1)) (mnw M) (mnp M + 1) (mle M) (mwy M) (mfc M) (mta M)) else M) ++ [(o0, .inl (T 4, 1, .inr (.inl u1.2.2)))])) := hD
  refine lv_istore (lv' := [(6, .int r2), (5, .int r1), (0, .ref b), (1, .ref (ad 0)), (2, .ref (bd 0)), (3, .ref o0), (4, .int (nI i))]) hx hb dL_law_847 hl (by decide) rfl (fun ls hl => ?_)
  refine lv_aload_n hx hb dL_law_849 rfl (lv_at hl 4 rfl) ?_
  refine x_calliA (va_runV (As := []) (rest := []) ⟨hx, hb, hml, hown, hts⟩ (c_X4_thrown l G T _ bd u2 (if xvb 16 (xs (i + 1)) = true ∧ mnp M < 4 then (xmk (mpk M) (mth M) (msh M) (man M) (mgl M) (upd (mhb M) (mnp M) (xs (i + 1))) (upd (mtk M) (mnp M) (-1)) (mnw M) (mnp M + 1) (mle M) (mwy M) (mfc M) (mta M)) else M)) (cwV 0 hts gL_law_X4_thrown rfl rfl rfl (by decide +kernel) ⟨Nat.le_of_ble_eq_true rfl, Nat.le_of_ble_eq_true rfl⟩) (x_preVA (wc := (xD T bd u2 (if xvb 16 (xs (i + 1)) = true ∧ mnp M < 4 then (xmk (mpk M) (mth M) (msh M) (man M) (mgl M) (upd (mhb M) (mnp M) (xs (i + 1))) (upd (mtk M) (mnp M) (-1)) (mnw M) (mnp M + 1) (mle M) (mwy M) (mfc M) (mta M)) else M))) (wr := (xC T u1.1 u1.2.1 (if xvb 16 (xs (i + 1)) = true ∧ mnp M < 4 then (xmk (mpk M) (mth M) (msh M) (man M) (mgl M) (upd (mhb M) (mnp M) (xs (i + 1))) (upd (mtk M) (mnp M) (-1)) (mnw M) (mnp M + 1) (mle M) (mwy M) (mfc M) (mta M)) else M) ++ [(o0, .inl (T 4, 1, .inr (.inl u1.2.2)))])) hK hP hD hS hA hXB hZ _ _ 0 4 rfl rfl) rfl rfl hl.1 rfl (lv_room (Nat.le_of_ble_eq_true rfl)) dL_law_850 ⟨show ((ce + 2) + 0) + 0 ≤ 651071 by omega, show ((sl + 12) + 0) + 0 ≤ 7142890 by omega⟩) hP hD hS hA (fun _ _ _ => xd_self rfl (xd_l hD)) (fun r3 u3 H locs hw3 hP hD hS => ?_)
  have hP : va_P G vwCl ((xD T bd u2 (if xvb 16 (xs (i + 1)) = true ∧ mnp M < 4 then (xmk (mpk M) (mth M) (msh M) (man M) (mgl M) (upd (mhb M) (mnp M) (xs (i + 1))) (upd (mtk M) (mnp M) (-1)) (mnw M) (mnp M + 1) (mle M) (mwy M) (mfc M) (mta M)) else M)) ++ (xC T u1.1 u1.2.1 (if xvb 16 (xs (i + 1)) = true ∧ mnp M < 4 then (xmk (mpk M) (mth M) (msh M) (man M) (mgl M) (upd (mhb M) (mnp M) (xs (i + 1))) (upd (mtk M) (mnp M) (-1)) (mnw M) (mnp M + 1) (mle M) (mwy M) (mfc M) (mta M)) else M) ++ [(o0, .inl (T 4, 1, .inr (.inl u1.2.2)))])) H := hP
  have hD : va_D A ((xD T bd u2 (if xvb 16 (xs (i + 1)) = true ∧ mnp M < 4 then (xmk (mpk M) (mth M) (msh M) (man M) (mgl M) (upd (mhb M) (mnp M) (xs (i + 1))) (upd (mtk M) (mnp M) (-1)) (mnw M) (mnp M + 1) (mle M) (mwy M) (mfc M) (mta M)) else M)) ++ (xC T u1.1 u1.2.1 (if xvb 16 (xs (i + 1)) = true ∧ mnp M < 4 then (xmk (mpk M) (mth M) (msh M) (man M) (mgl M) (upd (mhb M) (mnp M) (xs (i + 1))) (upd (mtk M) (mnp M) (-1)) (mnw M) (mnp M + 1) (mle M) (mwy M) (mfc M) (mta M)) else M) ++ [(o0, .inl (T 4, 1, .inr (.inl u1.2.2)))])) := hD
  refine x_topi (y := u2) (hw3) ?_
  have hP := xp_perm (List.perm_append_comm (l₁ := (xD T bd u2 (if xvb 16 (xs (i + 1)) = true ∧ mnp M < 4 then (xmk (mpk M) (mth M) (msh M) (man M) (mgl M) (upd (mhb M) (mnp M) (xs (i + 1))) (upd (mtk M) (mnp M) (-1)) (mnw M) (mnp M + 1) (mle M) (mwy M) (mfc M) (mta M)) else M))) (l₂ := (xC T u1.1 u1.2.1 (if xvb 16 (xs (i + 1)) = true ∧ mnp M < 4 then (xmk (mpk M) (mth M) (msh M) (man M) (mgl M) (upd (mhb M) (mnp M) (xs (i + 1))) (upd (mtk M) (mnp M) (-1)) (mnw M) (mnp M + 1) (mle M) (mwy M) (mfc M) (mta M)) else M) ++ [(o0, .inl (T 4, 1, .inr (.inl u1.2.2)))]))) hP
  have hD := xd_perm (List.perm_append_comm (l₁ := (xD T bd u2 (if xvb 16 (xs (i + 1)) = true ∧ mnp M < 4 then (xmk (mpk M) (mth M) (msh M) (man M) (mgl M) (upd (mhb M) (mnp M) (xs (i + 1))) (upd (mtk M) (mnp M) (-1)) (mnw M) (mnp M + 1) (mle M) (mwy M) (mfc M) (mta M)) else M))) (l₂ := (xC T u1.1 u1.2.1 (if xvb 16 (xs (i + 1)) = true ∧ mnp M < 4 then (xmk (mpk M) (mth M) (msh M) (man M) (mgl M) (upd (mhb M) (mnp M) (xs (i + 1))) (upd (mtk M) (mnp M) (-1)) (mnw M) (mnp M + 1) (mle M) (mwy M) (mfc M) (mta M)) else M) ++ [(o0, .inl (T 4, 1, .inr (.inl u1.2.2)))]))) hD
  obtain ⟨hw1, hx1, hy1⟩ := hw1
  refine lv_iload hx hb dL_law_853 (lv_at hl 1 rfl) ?_
  rcases (show (r1 = nI 0 ∧ u2 = nI 0 ∧ u1.2.2 (nI 0).toNatClampNeg = r2.toInt64) ∨ (r1 = nI 1 ∧ u2 = nI 1) ∨ (r1 = nI 2 ∧ u2 = nI 2) from xmeet2 (by omega) hw1 hw2) with ⟨rfl, rfl, hk3⟩ | ⟨rfl, rfl⟩ | ⟨rfl, rfl⟩
  · refine lv_icmp_eq (tgt := 860) hx hb dL_law_855 (by decide) (fun _ => ?_) (fun c_ => absurd (rfl) c_)
    refine lv_iload hx hb dL_law_860 (lv_at hl 1 rfl) ?_
    refine lv_if_ne (tgt := 877) hx hb dL_law_862 (by decide) (fun c_ => absurd (rfl) c_) (fun _ => ?_)
    refine lv_aload_n hx hb dL_law_865 rfl (lv_at hl 5 rfl) ?_
    refine lv_iconst (v := nI 0) hx hb dL_law_866 (by decide) ?_
    refine va_lald hx hb hK hP (xC T u1.1 u1.2.1 (if xvb 16 (xs (i + 1)) = true ∧ mnp M < 4 then (xmk (mpk M) (mth M) (msh M) (man M) (mgl M) (upd (mhb M) (mnp M) (xs (i + 1))) (upd (mtk M) (mnp M) (-1)) (mnw M) (mnp M + 1) (mle M) (mwy M) (mfc M) (mta M)) else M)).length 4 x_lget2 rfl (vp_in_nI (n := 0) (N := 1) (by decide) (by decide)) dL_law_867 ?_
    refine x_topl (y := r2.toInt64) (hk3) ?_
    refine lv_iload hx hb dL_law_868 (lv_at hl 0 rfl) ?_
    refine lv_i2l hx hb dL_law_870 rfl ?_
    refine x_lcmp0 hx hb dL_law_871 ?_
    refine lv_if_eq (tgt := 877) hx hb dL_law_872 (by decide) (fun _ => ?_) (fun c_ => absurd (rfl) c_)
    refine lv_goto (tgt := 1431) hx hb dL_law_877 (by decide) ?_
    refine W.widen (k := ce + 90) (n := sl + 547) (by omega) (by omega) ?_
    exact kk _ _ _ _ _ _ _ hx1 (by split; rename_i hC; exact xI_sit hI hj hC.1 hC.2; exact xI_s hI hj) hP hD hS ls (lv_sub hl [2, 3, 4, 5, 6] rfl)
  · refine lv_icmp_eq (tgt := 860) hx hb dL_law_855 (by decide) (fun _ => ?_) (fun c_ => absurd (rfl) c_)
    refine lv_iload hx hb dL_law_860 (lv_at hl 1 rfl) ?_
    refine lv_if_ne (tgt := 877) hx hb dL_law_862 (by decide) (fun _ => ?_) (fun c_ => absurd c_ (by decide))
    refine lv_goto (tgt := 1431) hx hb dL_law_877 (by decide) ?_
    refine W.widen (k := ce + 90) (n := sl + 547) (by omega) (by omega) ?_
    exact kk _ _ _ _ _ _ _ hx1 (by split; rename_i hC; exact xI_sit hI hj hC.1 hC.2; exact xI_s hI hj) hP hD hS ls (lv_sub hl [2, 3, 4, 5, 6] rfl)
  · refine lv_icmp_eq (tgt := 860) hx hb dL_law_855 (by decide) (fun _ => ?_) (fun c_ => absurd (rfl) c_)
    refine lv_iload hx hb dL_law_860 (lv_at hl 1 rfl) ?_
    refine lv_if_ne (tgt := 877) hx hb dL_law_862 (by decide) (fun _ => ?_) (fun c_ => absurd c_ (by decide))
    refine lv_goto (tgt := 1431) hx hb dL_law_877 (by decide) ?_
    refine W.widen (k := ce + 90) (n := sl + 547) (by omega) (by omega) ?_
    exact kk _ _ _ _ _ _ _ hx1 (by split; rename_i hC; exact xI_sit hI hj hC.1 hC.2; exact xI_s hI hj) hP hD hS ls (lv_sub hl [2, 3, 4, 5, 6] rfl)

set_option maxHeartbeats 4000000 in
set_option maxRecDepth 100000 in
/-- the law: fan -/
theorem lc_fan {p : Program} {l : Launch} {e : Env} {s : State} {m : MethodId} {below : List Frame} {meth : Method} {c : Code} {G : va_G} {T : Nat → ClassId} {b L : Nat} {xs : Nat → Int32} (C0 : xLC p l s m meth c b L xs G T) (i j : Nat) (hi : i + 4 ≤ L) (hj : j < 512) (ad : Nat → Nat) (sc : Nat → Nat → Int32) (M : XM) (bd : Nat → Nat) (thr : Int32) (o0 : Nat) (h : Nat → Int64) (hI : xI M j) (ce sl : Nat) (hce : ce + 90 ≤ 651071) (hsl9 : sl + 547 ≤ 7142890) (H : Heap) (locs : List Loc) (hP : va_P G vwCl ((xC T ad sc M ++ [(o0, .inl (T 4, 1, .inr (.inl h)))]) ++ (xD T bd thr M)) H) (hD : va_D (fun q : Nat => s.heap.size ≤ q) ((xC T ad sc M ++ [(o0, .inl (T 4, 1, .inr (.inl h)))]) ++ (xD T bd thr M))) (hS : va_S (fun q : Nat => s.heap.size ≤ q) s.heap H locs) (ls : Array Slot) (hl : lv_has ls 9 [(0, .ref b), (1, .ref (ad 0)), (2, .ref (bd 0)), (3, .ref o0), (4, .int (nI i))]) (kk : ∀ (ad1 : Nat → Nat) (sc1 : Nat → Nat → Int32) (M1 : XM) (thr1 : Int32) (h1 : Nat → Int64) (H1 : Heap) (locs1 : List Loc), ad1 0 = ad 0 → xI M1 (j + 1) → va_P G vwCl ((xC T ad1 sc1 M1 ++ [(o0, .inl (T 4, 1, .inr (.inl h1)))]) ++ (xD T bd thr1 M1)) H1 → va_D (fun q : Nat => s.heap.size ≤ q) ((xC T ad1 sc1 M1 ++ [(o0, .inl (T 4, 1, .inr (.inl h1)))]) ++ (xD T bd thr1 M1)) → va_S (fun q : Nat => s.heap.size ≤ q) s.heap H1 locs1 → ∀ ls1 : Array Slot, lv_has ls1 9 [(0, .ref b), (1, .ref (ad 0)), (2, .ref (bd 0)), (3, .ref o0), (4, .int (nI i))] → W p l e room_1 s m #[Value.ref b] below meth c H1 locs1 (ce + 90) (sl + 547) (lw_Z below #[Value.ref b] s) (F0 m 1431 ls1 [])) : W p l e room_1 s m #[Value.ref b] below meth c H locs ce sl (lw_Z below #[Value.ref b] s) (F0 m 880 ls []) := by
  obtain ⟨hx, hb, hr, hml, hown, hts, hX, hbl, hlocks, hK, hXB, hZ, hL9, hsl⟩ := C0
  have hA : ∀ q : Nat, s.heap.size ≤ q → (fun q : Nat => s.heap.size ≤ q) q := fun _ h => h
  have hbA : ¬ (fun q : Nat => s.heap.size ≤ q) b := Nat.not_le.mpr hbl
  obtain ⟨hn4, hm4, hpk, hsur, hsh, hth, hz0, hhb, hle, hta, hj5⟩ := id hI
  generalize hAe : (fun q : Nat => s.heap.size ≤ q) = A at hA hbA hZ hD hS kk
  refine lv_aload_n hx hb dL_law_880 rfl (lv_at hl 1 rfl) ?_
  refine lv_aload_n hx hb dL_law_881 rfl (lv_at hl 0 rfl) ?_
  refine lv_iload hx hb dL_law_882 (lv_at hl 4 rfl) ?_
  refine lv_iconst (v := nI 1) hx hb dL_law_884 (by decide) ?_
  refine lv_iadd hx hb dL_law_885 ?_
  refine x_topi (y := nI (i + 1)) (nI_add _ _) ?_
  refine va_sld hx hb hX hbl hbA hS (vp_in_nI (n := i + 1) (N := L) (by omega) (by omega)) dL_law_886 ?_
  refine x_topi (y := (xs (i + 1))) (by rw [nI_clamp (by omega)]) ?_
  refine lv_aload_n hx hb dL_law_887 rfl (lv_at hl 3 rfl) ?_
  refine x_calliA (vx_runSW (As := [.ref (ad 0), .int (xs (i + 1)), .ref o0]) (rest := []) ⟨hx, hb, hml, hown, hts⟩ (c_L_fan l hsl G T _ ad sc M o0 h (xs (i + 1)) ) (vx_cwSW 3 hts gL_law_L_fan rfl rfl rfl (by decide +kernel) ⟨Nat.le_of_ble_eq_true rfl, Nat.le_of_ble_eq_true rfl⟩) (x_preSA (wc := (xC T ad sc M ++ [(o0, .inl (T 4, 1, .inr (.inl h)))])) (wr := (xD T bd thr M)) hK hP hD hS hA hXB hZ _) rfl rfl hl.1 rfl (lv_room (Nat.le_of_ble_eq_true rfl)) dL_law_888 ⟨show ce + 1 ≤ 651071 by omega, show sl + 6 ≤ 7142890 by omega⟩) hP hD hS hA (fun _ _ hw => hw.2.2) (fun r1 u1 H locs hw1 hP hD hS => ?_)
  have hP : va_P G vwCl ((xC T u1.1 u1.2.1 (if xvb 16 (xs (i + 1)) then (xmk (mpk M) (mth M) (msh M) (man M) (mgl M) (mhb M) (mtk M) (mnw M) (mnp M) (xs (i + 1)) (mwy M) (mfc M) (mta M)) else M) ++ [(o0, .inl (T 4, 1, .inr (.inl u1.2.2)))]) ++ (xD T bd thr M)) H := hP
  have hD : va_D A ((xC T u1.1 u1.2.1 (if xvb 16 (xs (i + 1)) then (xmk (mpk M) (mth M) (msh M) (man M) (mgl M) (mhb M) (mtk M) (mnw M) (mnp M) (xs (i + 1)) (mwy M) (mfc M) (mta M)) else M) ++ [(o0, .inl (T 4, 1, .inr (.inl u1.2.2)))]) ++ (xD T bd thr M)) := hD
  refine lv_istore (lv' := [(5, .int r1), (0, .ref b), (1, .ref (ad 0)), (2, .ref (bd 0)), (3, .ref o0), (4, .int (nI i))]) hx hb dL_law_891 hl (by decide) rfl (fun ls hl => ?_)
  refine lv_aload_n hx hb dL_law_893 rfl (lv_at hl 3 rfl) ?_
  refine lv_aload_n hx hb dL_law_894 rfl (lv_at hl 1 rfl) ?_
  refine lv_iload hx hb dL_law_895 (lv_at hl 5 rfl) ?_
  refine lv_iconst (v := nI 1) hx hb dL_law_897 (by decide) ?_
  refine lv_iadd hx hb dL_law_898 ?_
  refine x_topi (y := nI (i + 1)) (nI_add _ _) ?_
  refine va_sld hx hb hX hbl hbA hS (vp_in_nI (n := i + 1) (N := L) (by omega) (by omega)) dL_law_899 ?_
  refine x_topi (y := (xs (i + 1))) (by rw [nI_clamp (by omega)]) ?_
  have hP := xp_perm (List.perm_append_comm (l₁ := (xC T u1.1 u1.2.1 (if xvb 16 (xs (i + 1)) then (xmk (mpk M) (mth M) (msh M) (man M) (mgl M) (mhb M) (mtk M) (mnw M) (mnp M) (xs (i + 1)) (mwy M) (mfc M) (mta M)) else M) ++ [(o0, .inl (T 4, 1, .inr (.inl u1.2.2)))])) (l₂ := (xD T bd thr M))) hP
  have hD := xd_perm (List.perm_append_comm (l₁ := (xC T u1.1 u1.2.1 (if xvb 16 (xs (i + 1)) then (xmk (mpk M) (mth M) (msh M) (man M) (mgl M) (mhb M) (mtk M) (mnw M) (mnp M) (xs (i + 1)) (mwy M) (mfc M) (mta M)) else M) ++ [(o0, .inl (T 4, 1, .inr (.inl u1.2.2)))])) (l₂ := (xD T bd thr M))) hD
  refine x_calliA (va_runV (As := [.int (xs (i + 1))]) (rest := []) ⟨hx, hb, hml, hown, hts⟩ (c_X4_fan l G T _ bd thr M (xs (i + 1)) ) (cwV 1 hts gL_law_X4_fan rfl rfl rfl (by decide +kernel) ⟨Nat.le_of_ble_eq_true rfl, Nat.le_of_ble_eq_true rfl⟩) (x_preVA (wc := (xD T bd thr M)) (wr := (xC T u1.1 u1.2.1 (if xvb 16 (xs (i + 1)) then (xmk (mpk M) (mth M) (msh M) (man M) (mgl M) (mhb M) (mtk M) (mnw M) (mnp M) (xs (i + 1)) (mwy M) (mfc M) (mta M)) else M) ++ [(o0, .inl (T 4, 1, .inr (.inl u1.2.2)))])) hK hP hD hS hA hXB hZ _ _ 0 4 rfl rfl) rfl rfl hl.1 rfl (lv_room (Nat.le_of_ble_eq_true rfl)) dL_law_900 ⟨show (ce + 1) + 0 ≤ 651071 by omega, show (sl + 6) + 0 ≤ 7142890 by omega⟩) hP hD hS hA (fun _ _ _ => xd_self rfl (xd_l hD)) (fun r2 u2 H locs hw2 hP hD hS => ?_)
  have hP : va_P G vwCl ((xD T bd u2 (if xvb 16 (xs (i + 1)) then (xmk (mpk M) (mth M) (msh M) (man M) (mgl M) (mhb M) (mtk M) (mnw M) (mnp M) (xs (i + 1)) (mwy M) (mfc M) (mta M)) else M)) ++ (xC T u1.1 u1.2.1 (if xvb 16 (xs (i + 1)) then (xmk (mpk M) (mth M) (msh M) (man M) (mgl M) (mhb M) (mtk M) (mnw M) (mnp M) (xs (i + 1)) (mwy M) (mfc M) (mta M)) else M) ++ [(o0, .inl (T 4, 1, .inr (.inl u1.2.2)))])) H := hP
  have hD : va_D A ((xD T bd u2 (if xvb 16 (xs (i + 1)) then (xmk (mpk M) (mth M) (msh M) (man M) (mgl M) (mhb M) (mtk M) (mnw M) (mnp M) (xs (i + 1)) (mwy M) (mfc M) (mta M)) else M)) ++ (xC T u1.1 u1.2.1 (if xvb 16 (xs (i + 1)) then (xmk (mpk M) (mth M) (msh M) (man M) (mgl M) (mhb M) (mtk M) (mnw M) (mnp M) (xs (i + 1)) (mwy M) (mfc M) (mta M)) else M) ++ [(o0, .inl (T 4, 1, .inr (.inl u1.2.2)))])) := hD
  refine lv_istore (lv' := [(6, .int r2), (5, .int r1), (0, .ref b), (1, .ref (ad 0)), (2, .ref (bd 0)), (3, .ref o0), (4, .int (nI i))]) hx hb dL_law_903 hl (by decide) rfl (fun ls hl => ?_)
  refine lv_aload_n hx hb dL_law_905 rfl (lv_at hl 4 rfl) ?_
  refine x_calliA (va_runV (As := []) (rest := []) ⟨hx, hb, hml, hown, hts⟩ (c_X4_thrown l G T _ bd u2 (if xvb 16 (xs (i + 1)) then (xmk (mpk M) (mth M) (msh M) (man M) (mgl M) (mhb M) (mtk M) (mnw M) (mnp M) (xs (i + 1)) (mwy M) (mfc M) (mta M)) else M)) (cwV 0 hts gL_law_X4_thrown rfl rfl rfl (by decide +kernel) ⟨Nat.le_of_ble_eq_true rfl, Nat.le_of_ble_eq_true rfl⟩) (x_preVA (wc := (xD T bd u2 (if xvb 16 (xs (i + 1)) then (xmk (mpk M) (mth M) (msh M) (man M) (mgl M) (mhb M) (mtk M) (mnw M) (mnp M) (xs (i + 1)) (mwy M) (mfc M) (mta M)) else M))) (wr := (xC T u1.1 u1.2.1 (if xvb 16 (xs (i + 1)) then (xmk (mpk M) (mth M) (msh M) (man M) (mgl M) (mhb M) (mtk M) (mnw M) (mnp M) (xs (i + 1)) (mwy M) (mfc M) (mta M)) else M) ++ [(o0, .inl (T 4, 1, .inr (.inl u1.2.2)))])) hK hP hD hS hA hXB hZ _ _ 0 4 rfl rfl) rfl rfl hl.1 rfl (lv_room (Nat.le_of_ble_eq_true rfl)) dL_law_906 ⟨show ((ce + 1) + 0) + 0 ≤ 651071 by omega, show ((sl + 6) + 0) + 0 ≤ 7142890 by omega⟩) hP hD hS hA (fun _ _ _ => xd_self rfl (xd_l hD)) (fun r3 u3 H locs hw3 hP hD hS => ?_)
  have hP : va_P G vwCl ((xD T bd u2 (if xvb 16 (xs (i + 1)) then (xmk (mpk M) (mth M) (msh M) (man M) (mgl M) (mhb M) (mtk M) (mnw M) (mnp M) (xs (i + 1)) (mwy M) (mfc M) (mta M)) else M)) ++ (xC T u1.1 u1.2.1 (if xvb 16 (xs (i + 1)) then (xmk (mpk M) (mth M) (msh M) (man M) (mgl M) (mhb M) (mtk M) (mnw M) (mnp M) (xs (i + 1)) (mwy M) (mfc M) (mta M)) else M) ++ [(o0, .inl (T 4, 1, .inr (.inl u1.2.2)))])) H := hP
  have hD : va_D A ((xD T bd u2 (if xvb 16 (xs (i + 1)) then (xmk (mpk M) (mth M) (msh M) (man M) (mgl M) (mhb M) (mtk M) (mnw M) (mnp M) (xs (i + 1)) (mwy M) (mfc M) (mta M)) else M)) ++ (xC T u1.1 u1.2.1 (if xvb 16 (xs (i + 1)) then (xmk (mpk M) (mth M) (msh M) (man M) (mgl M) (mhb M) (mtk M) (mnw M) (mnp M) (xs (i + 1)) (mwy M) (mfc M) (mta M)) else M) ++ [(o0, .inl (T 4, 1, .inr (.inl u1.2.2)))])) := hD
  refine x_topi (y := u2) (hw3) ?_
  have hP := xp_perm (List.perm_append_comm (l₁ := (xD T bd u2 (if xvb 16 (xs (i + 1)) then (xmk (mpk M) (mth M) (msh M) (man M) (mgl M) (mhb M) (mtk M) (mnw M) (mnp M) (xs (i + 1)) (mwy M) (mfc M) (mta M)) else M))) (l₂ := (xC T u1.1 u1.2.1 (if xvb 16 (xs (i + 1)) then (xmk (mpk M) (mth M) (msh M) (man M) (mgl M) (mhb M) (mtk M) (mnw M) (mnp M) (xs (i + 1)) (mwy M) (mfc M) (mta M)) else M) ++ [(o0, .inl (T 4, 1, .inr (.inl u1.2.2)))]))) hP
  have hD := xd_perm (List.perm_append_comm (l₁ := (xD T bd u2 (if xvb 16 (xs (i + 1)) then (xmk (mpk M) (mth M) (msh M) (man M) (mgl M) (mhb M) (mtk M) (mnw M) (mnp M) (xs (i + 1)) (mwy M) (mfc M) (mta M)) else M))) (l₂ := (xC T u1.1 u1.2.1 (if xvb 16 (xs (i + 1)) then (xmk (mpk M) (mth M) (msh M) (man M) (mgl M) (mhb M) (mtk M) (mnw M) (mnp M) (xs (i + 1)) (mwy M) (mfc M) (mta M)) else M) ++ [(o0, .inl (T 4, 1, .inr (.inl u1.2.2)))]))) hD
  obtain ⟨hw1, hx1, hy1⟩ := hw1
  refine lv_iload hx hb dL_law_909 (lv_at hl 1 rfl) ?_
  rcases (show (r1 = nI 0 ∧ u2 = nI 0 ∧ u1.2.2 (nI 0).toNatClampNeg = r2.toInt64) ∨ (r1 = nI 1 ∧ u2 = nI 1) from xmeet1 hw1 hw2) with ⟨rfl, rfl, hk3⟩ | ⟨rfl, rfl⟩
  · refine lv_icmp_eq (tgt := 916) hx hb dL_law_911 (by decide) (fun _ => ?_) (fun c_ => absurd (rfl) c_)
    refine lv_iload hx hb dL_law_916 (lv_at hl 1 rfl) ?_
    refine lv_if_ne (tgt := 933) hx hb dL_law_918 (by decide) (fun c_ => absurd (rfl) c_) (fun _ => ?_)
    refine lv_aload_n hx hb dL_law_921 rfl (lv_at hl 5 rfl) ?_
    refine lv_iconst (v := nI 0) hx hb dL_law_922 (by decide) ?_
    refine va_lald hx hb hK hP (xC T u1.1 u1.2.1 (if xvb 16 (xs (i + 1)) then (xmk (mpk M) (mth M) (msh M) (man M) (mgl M) (mhb M) (mtk M) (mnw M) (mnp M) (xs (i + 1)) (mwy M) (mfc M) (mta M)) else M)).length 4 x_lget2 rfl (vp_in_nI (n := 0) (N := 1) (by decide) (by decide)) dL_law_923 ?_
    refine x_topl (y := r2.toInt64) (hk3) ?_
    refine lv_iload hx hb dL_law_924 (lv_at hl 0 rfl) ?_
    refine lv_i2l hx hb dL_law_926 rfl ?_
    refine x_lcmp0 hx hb dL_law_927 ?_
    refine lv_if_eq (tgt := 933) hx hb dL_law_928 (by decide) (fun _ => ?_) (fun c_ => absurd (rfl) c_)
    refine lv_goto (tgt := 1431) hx hb dL_law_933 (by decide) ?_
    refine W.widen (k := ce + 90) (n := sl + 547) (by omega) (by omega) ?_
    exact kk _ _ _ _ _ _ _ hx1 (by split; rename_i hC; exact xI_fan hI hj hC; exact xI_s hI hj) hP hD hS ls (lv_sub hl [2, 3, 4, 5, 6] rfl)
  · refine lv_icmp_eq (tgt := 916) hx hb dL_law_911 (by decide) (fun _ => ?_) (fun c_ => absurd (rfl) c_)
    refine lv_iload hx hb dL_law_916 (lv_at hl 1 rfl) ?_
    refine lv_if_ne (tgt := 933) hx hb dL_law_918 (by decide) (fun _ => ?_) (fun c_ => absurd c_ (by decide))
    refine lv_goto (tgt := 1431) hx hb dL_law_933 (by decide) ?_
    refine W.widen (k := ce + 90) (n := sl + 547) (by omega) (by omega) ?_
    exact kk _ _ _ _ _ _ _ hx1 (by split; rename_i hC; exact xI_fan hI hj hC; exact xI_s hI hj) hP hD hS ls (lv_sub hl [2, 3, 4, 5, 6] rfl)

set_option maxHeartbeats 4000000 in
set_option maxRecDepth 100000 in
/-- the law: take -/
theorem lc_take {p : Program} {l : Launch} {e : Env} {s : State} {m : MethodId} {below : List Frame} {meth : Method} {c : Code} {G : va_G} {T : Nat → ClassId} {b L : Nat} {xs : Nat → Int32} (C0 : xLC p l s m meth c b L xs G T) (i j : Nat) (hi : i + 4 ≤ L) (hj : j < 512) (ad : Nat → Nat) (sc : Nat → Nat → Int32) (M : XM) (bd : Nat → Nat) (thr : Int32) (o0 : Nat) (h : Nat → Int64) (hI : xI M j) (ce sl : Nat) (hce : ce + 90 ≤ 651071) (hsl9 : sl + 547 ≤ 7142890) (H : Heap) (locs : List Loc) (hP : va_P G vwCl ((xC T ad sc M ++ [(o0, .inl (T 4, 1, .inr (.inl h)))]) ++ (xD T bd thr M)) H) (hD : va_D (fun q : Nat => s.heap.size ≤ q) ((xC T ad sc M ++ [(o0, .inl (T 4, 1, .inr (.inl h)))]) ++ (xD T bd thr M))) (hS : va_S (fun q : Nat => s.heap.size ≤ q) s.heap H locs) (ls : Array Slot) (hl : lv_has ls 9 [(0, .ref b), (1, .ref (ad 0)), (2, .ref (bd 0)), (3, .ref o0), (4, .int (nI i))]) (kk : ∀ (ad1 : Nat → Nat) (sc1 : Nat → Nat → Int32) (M1 : XM) (thr1 : Int32) (h1 : Nat → Int64) (H1 : Heap) (locs1 : List Loc), ad1 0 = ad 0 → xI M1 (j + 1) → va_P G vwCl ((xC T ad1 sc1 M1 ++ [(o0, .inl (T 4, 1, .inr (.inl h1)))]) ++ (xD T bd thr1 M1)) H1 → va_D (fun q : Nat => s.heap.size ≤ q) ((xC T ad1 sc1 M1 ++ [(o0, .inl (T 4, 1, .inr (.inl h1)))]) ++ (xD T bd thr1 M1)) → va_S (fun q : Nat => s.heap.size ≤ q) s.heap H1 locs1 → ∀ ls1 : Array Slot, lv_has ls1 9 [(0, .ref b), (1, .ref (ad 0)), (2, .ref (bd 0)), (3, .ref o0), (4, .int (nI i))] → W p l e room_1 s m #[Value.ref b] below meth c H1 locs1 (ce + 90) (sl + 547) (lw_Z below #[Value.ref b] s) (F0 m 1431 ls1 [])) : W p l e room_1 s m #[Value.ref b] below meth c H locs ce sl (lw_Z below #[Value.ref b] s) (F0 m 936 ls []) := by
  obtain ⟨hx, hb, hr, hml, hown, hts, hX, hbl, hlocks, hK, hXB, hZ, hL9, hsl⟩ := C0
  have hA : ∀ q : Nat, s.heap.size ≤ q → (fun q : Nat => s.heap.size ≤ q) q := fun _ h => h
  have hbA : ¬ (fun q : Nat => s.heap.size ≤ q) b := Nat.not_le.mpr hbl
  obtain ⟨hn4, hm4, hpk, hsur, hsh, hth, hz0, hhb, hle, hta, hj5⟩ := id hI
  generalize hAe : (fun q : Nat => s.heap.size ≤ q) = A at hA hbA hZ hD hS kk
  refine lv_aload_n hx hb dL_law_936 rfl (lv_at hl 1 rfl) ?_
  refine lv_aload_n hx hb dL_law_937 rfl (lv_at hl 0 rfl) ?_
  refine lv_iload hx hb dL_law_938 (lv_at hl 4 rfl) ?_
  refine lv_iconst (v := nI 1) hx hb dL_law_940 (by decide) ?_
  refine lv_iadd hx hb dL_law_941 ?_
  refine x_topi (y := nI (i + 1)) (nI_add _ _) ?_
  refine va_sld hx hb hX hbl hbA hS (vp_in_nI (n := i + 1) (N := L) (by omega) (by omega)) dL_law_942 ?_
  refine x_topi (y := (xs (i + 1))) (by rw [nI_clamp (by omega)]) ?_
  refine lv_aload_n hx hb dL_law_943 rfl (lv_at hl 3 rfl) ?_
  refine x_calliA (vx_runSW (As := [.ref (ad 0), .int (xs (i + 1)), .ref o0]) (rest := []) ⟨hx, hb, hml, hown, hts⟩ (c_L_take l hsl G T _ ad sc M o0 h (xs (i + 1)) hn4 hm4 hhb hle (by omega)) (vx_cwSW 3 hts gL_law_L_take rfl rfl rfl (by decide +kernel) ⟨Nat.le_of_ble_eq_true rfl, Nat.le_of_ble_eq_true rfl⟩) (x_preSA (wc := (xC T ad sc M ++ [(o0, .inl (T 4, 1, .inr (.inl h)))])) (wr := (xD T bd thr M)) hK hP hD hS hA hXB hZ _) rfl rfl hl.1 rfl (lv_room (Nat.le_of_ble_eq_true rfl)) dL_law_944 ⟨show ce + 1 ≤ 651071 by omega, show sl + 6 ≤ 7142890 by omega⟩) hP hD hS hA (fun _ _ hw => hw.2.2) (fun r1 u1 H locs hw1 hP hD hS => ?_)
  have hP : va_P G vwCl ((xC T u1.1 u1.2.1 (if xvb (mnp M) (xs (i + 1)) then (xMt M (xka (xs (i + 1)))) else M) ++ [(o0, .inl (T 4, 1, .inr (.inl u1.2.2)))]) ++ (xD T bd thr M)) H := hP
  have hD : va_D A ((xC T u1.1 u1.2.1 (if xvb (mnp M) (xs (i + 1)) then (xMt M (xka (xs (i + 1)))) else M) ++ [(o0, .inl (T 4, 1, .inr (.inl u1.2.2)))]) ++ (xD T bd thr M)) := hD
  refine lv_istore (lv' := [(5, .int r1), (0, .ref b), (1, .ref (ad 0)), (2, .ref (bd 0)), (3, .ref o0), (4, .int (nI i))]) hx hb dL_law_947 hl (by decide) rfl (fun ls hl => ?_)
  refine lv_aload_n hx hb dL_law_949 rfl (lv_at hl 3 rfl) ?_
  refine lv_aload_n hx hb dL_law_950 rfl (lv_at hl 1 rfl) ?_
  refine lv_iload hx hb dL_law_951 (lv_at hl 5 rfl) ?_
  refine lv_iconst (v := nI 1) hx hb dL_law_953 (by decide) ?_
  refine lv_iadd hx hb dL_law_954 ?_
  refine x_topi (y := nI (i + 1)) (nI_add _ _) ?_
  refine va_sld hx hb hX hbl hbA hS (vp_in_nI (n := i + 1) (N := L) (by omega) (by omega)) dL_law_955 ?_
  refine x_topi (y := (xs (i + 1))) (by rw [nI_clamp (by omega)]) ?_
  have hP := xp_perm (List.perm_append_comm (l₁ := (xC T u1.1 u1.2.1 (if xvb (mnp M) (xs (i + 1)) then (xMt M (xka (xs (i + 1)))) else M) ++ [(o0, .inl (T 4, 1, .inr (.inl u1.2.2)))])) (l₂ := (xD T bd thr M))) hP
  have hD := xd_perm (List.perm_append_comm (l₁ := (xC T u1.1 u1.2.1 (if xvb (mnp M) (xs (i + 1)) then (xMt M (xka (xs (i + 1)))) else M) ++ [(o0, .inl (T 4, 1, .inr (.inl u1.2.2)))])) (l₂ := (xD T bd thr M))) hD
  refine x_calliA (va_runV (As := [.int (xs (i + 1))]) (rest := []) ⟨hx, hb, hml, hown, hts⟩ (c_X4_take l G T _ bd thr M (xs (i + 1)) hm4 hhb hle (by omega)) (cwV 1 hts gL_law_X4_take rfl rfl rfl (by decide +kernel) ⟨Nat.le_of_ble_eq_true rfl, Nat.le_of_ble_eq_true rfl⟩) (x_preVA (wc := (xD T bd thr M)) (wr := (xC T u1.1 u1.2.1 (if xvb (mnp M) (xs (i + 1)) then (xMt M (xka (xs (i + 1)))) else M) ++ [(o0, .inl (T 4, 1, .inr (.inl u1.2.2)))])) hK hP hD hS hA hXB hZ _ _ 0 4 rfl rfl) rfl rfl hl.1 rfl (lv_room (Nat.le_of_ble_eq_true rfl)) dL_law_956 ⟨show (ce + 1) + 0 ≤ 651071 by omega, show (sl + 6) + 0 ≤ 7142890 by omega⟩) hP hD hS hA (fun _ _ _ => xd_self rfl (xd_l hD)) (fun r2 u2 H locs hw2 hP hD hS => ?_)
  have hP : va_P G vwCl ((xD T bd u2 (if xvb (mnp M) (xs (i + 1)) then (xMt M (xka (xs (i + 1)))) else M)) ++ (xC T u1.1 u1.2.1 (if xvb (mnp M) (xs (i + 1)) then (xMt M (xka (xs (i + 1)))) else M) ++ [(o0, .inl (T 4, 1, .inr (.inl u1.2.2)))])) H := hP
  have hD : va_D A ((xD T bd u2 (if xvb (mnp M) (xs (i + 1)) then (xMt M (xka (xs (i + 1)))) else M)) ++ (xC T u1.1 u1.2.1 (if xvb (mnp M) (xs (i + 1)) then (xMt M (xka (xs (i + 1)))) else M) ++ [(o0, .inl (T 4, 1, .inr (.inl u1.2.2)))])) := hD
  refine lv_istore (lv' := [(6, .int r2), (5, .int r1), (0, .ref b), (1, .ref (ad 0)), (2, .ref (bd 0)), (3, .ref o0), (4, .int (nI i))]) hx hb dL_law_959 hl (by decide) rfl (fun ls hl => ?_)
  refine lv_aload_n hx hb dL_law_961 rfl (lv_at hl 4 rfl) ?_
  refine x_calliA (va_runV (As := []) (rest := []) ⟨hx, hb, hml, hown, hts⟩ (c_X4_thrown l G T _ bd u2 (if xvb (mnp M) (xs (i + 1)) then (xMt M (xka (xs (i + 1)))) else M)) (cwV 0 hts gL_law_X4_thrown rfl rfl rfl (by decide +kernel) ⟨Nat.le_of_ble_eq_true rfl, Nat.le_of_ble_eq_true rfl⟩) (x_preVA (wc := (xD T bd u2 (if xvb (mnp M) (xs (i + 1)) then (xMt M (xka (xs (i + 1)))) else M))) (wr := (xC T u1.1 u1.2.1 (if xvb (mnp M) (xs (i + 1)) then (xMt M (xka (xs (i + 1)))) else M) ++ [(o0, .inl (T 4, 1, .inr (.inl u1.2.2)))])) hK hP hD hS hA hXB hZ _ _ 0 4 rfl rfl) rfl rfl hl.1 rfl (lv_room (Nat.le_of_ble_eq_true rfl)) dL_law_962 ⟨show ((ce + 1) + 0) + 0 ≤ 651071 by omega, show ((sl + 6) + 0) + 0 ≤ 7142890 by omega⟩) hP hD hS hA (fun _ _ _ => xd_self rfl (xd_l hD)) (fun r3 u3 H locs hw3 hP hD hS => ?_)
  have hP : va_P G vwCl ((xD T bd u2 (if xvb (mnp M) (xs (i + 1)) then (xMt M (xka (xs (i + 1)))) else M)) ++ (xC T u1.1 u1.2.1 (if xvb (mnp M) (xs (i + 1)) then (xMt M (xka (xs (i + 1)))) else M) ++ [(o0, .inl (T 4, 1, .inr (.inl u1.2.2)))])) H := hP
  have hD : va_D A ((xD T bd u2 (if xvb (mnp M) (xs (i + 1)) then (xMt M (xka (xs (i + 1)))) else M)) ++ (xC T u1.1 u1.2.1 (if xvb (mnp M) (xs (i + 1)) then (xMt M (xka (xs (i + 1)))) else M) ++ [(o0, .inl (T 4, 1, .inr (.inl u1.2.2)))])) := hD
  refine x_topi (y := u2) (hw3) ?_
  have hP := xp_perm (List.perm_append_comm (l₁ := (xD T bd u2 (if xvb (mnp M) (xs (i + 1)) then (xMt M (xka (xs (i + 1)))) else M))) (l₂ := (xC T u1.1 u1.2.1 (if xvb (mnp M) (xs (i + 1)) then (xMt M (xka (xs (i + 1)))) else M) ++ [(o0, .inl (T 4, 1, .inr (.inl u1.2.2)))]))) hP
  have hD := xd_perm (List.perm_append_comm (l₁ := (xD T bd u2 (if xvb (mnp M) (xs (i + 1)) then (xMt M (xka (xs (i + 1)))) else M))) (l₂ := (xC T u1.1 u1.2.1 (if xvb (mnp M) (xs (i + 1)) then (xMt M (xka (xs (i + 1)))) else M) ++ [(o0, .inl (T 4, 1, .inr (.inl u1.2.2)))]))) hD
  obtain ⟨hw1, hx1, hy1⟩ := hw1
  refine lv_iload hx hb dL_law_965 (lv_at hl 1 rfl) ?_
  rcases (show (r1 = nI 0 ∧ u2 = nI 0 ∧ u1.2.2 (nI 0).toNatClampNeg = r2.toInt64) ∨ (r1 = nI 1 ∧ u2 = nI 1) from xmeet1 hw1 hw2) with ⟨rfl, rfl, hk3⟩ | ⟨rfl, rfl⟩
  · refine lv_icmp_eq (tgt := 972) hx hb dL_law_967 (by decide) (fun _ => ?_) (fun c_ => absurd (rfl) c_)
    refine lv_iload hx hb dL_law_972 (lv_at hl 1 rfl) ?_
    refine lv_if_ne (tgt := 989) hx hb dL_law_974 (by decide) (fun c_ => absurd (rfl) c_) (fun _ => ?_)
    refine lv_aload_n hx hb dL_law_977 rfl (lv_at hl 5 rfl) ?_
    refine lv_iconst (v := nI 0) hx hb dL_law_978 (by decide) ?_
    refine va_lald hx hb hK hP (xC T u1.1 u1.2.1 (if xvb (mnp M) (xs (i + 1)) then (xMt M (xka (xs (i + 1)))) else M)).length 4 x_lget2 rfl (vp_in_nI (n := 0) (N := 1) (by decide) (by decide)) dL_law_979 ?_
    refine x_topl (y := r2.toInt64) (hk3) ?_
    refine lv_iload hx hb dL_law_980 (lv_at hl 0 rfl) ?_
    refine lv_i2l hx hb dL_law_982 rfl ?_
    refine x_lcmp0 hx hb dL_law_983 ?_
    refine lv_if_eq (tgt := 989) hx hb dL_law_984 (by decide) (fun _ => ?_) (fun c_ => absurd (rfl) c_)
    refine lv_goto (tgt := 1431) hx hb dL_law_989 (by decide) ?_
    refine W.widen (k := ce + 90) (n := sl + 547) (by omega) (by omega) ?_
    exact kk _ _ _ _ _ _ _ hx1 (by split; rename_i hC; exact xI_take hI hj _; exact xI_s hI hj) hP hD hS ls (lv_sub hl [2, 3, 4, 5, 6] rfl)
  · refine lv_icmp_eq (tgt := 972) hx hb dL_law_967 (by decide) (fun _ => ?_) (fun c_ => absurd (rfl) c_)
    refine lv_iload hx hb dL_law_972 (lv_at hl 1 rfl) ?_
    refine lv_if_ne (tgt := 989) hx hb dL_law_974 (by decide) (fun _ => ?_) (fun c_ => absurd c_ (by decide))
    refine lv_goto (tgt := 1431) hx hb dL_law_989 (by decide) ?_
    refine W.widen (k := ce + 90) (n := sl + 547) (by omega) (by omega) ?_
    exact kk _ _ _ _ _ _ _ hx1 (by split; rename_i hC; exact xI_take hI hj _; exact xI_s hI hj) hP hD hS ls (lv_sub hl [2, 3, 4, 5, 6] rfl)

set_option maxHeartbeats 4000000 in
set_option maxRecDepth 100000 in
/-- the law: force -/
theorem lc_force {p : Program} {l : Launch} {e : Env} {s : State} {m : MethodId} {below : List Frame} {meth : Method} {c : Code} {G : va_G} {T : Nat → ClassId} {b L : Nat} {xs : Nat → Int32} (C0 : xLC p l s m meth c b L xs G T) (i j : Nat) (hi : i + 4 ≤ L) (hj : j < 512) (ad : Nat → Nat) (sc : Nat → Nat → Int32) (M : XM) (bd : Nat → Nat) (thr : Int32) (o0 : Nat) (h : Nat → Int64) (hI : xI M j) (ce sl : Nat) (hce : ce + 90 ≤ 651071) (hsl9 : sl + 547 ≤ 7142890) (H : Heap) (locs : List Loc) (hP : va_P G vwCl ((xC T ad sc M ++ [(o0, .inl (T 4, 1, .inr (.inl h)))]) ++ (xD T bd thr M)) H) (hD : va_D (fun q : Nat => s.heap.size ≤ q) ((xC T ad sc M ++ [(o0, .inl (T 4, 1, .inr (.inl h)))]) ++ (xD T bd thr M))) (hS : va_S (fun q : Nat => s.heap.size ≤ q) s.heap H locs) (ls : Array Slot) (hl : lv_has ls 9 [(0, .ref b), (1, .ref (ad 0)), (2, .ref (bd 0)), (3, .ref o0), (4, .int (nI i))]) (kk : ∀ (ad1 : Nat → Nat) (sc1 : Nat → Nat → Int32) (M1 : XM) (thr1 : Int32) (h1 : Nat → Int64) (H1 : Heap) (locs1 : List Loc), ad1 0 = ad 0 → xI M1 (j + 1) → va_P G vwCl ((xC T ad1 sc1 M1 ++ [(o0, .inl (T 4, 1, .inr (.inl h1)))]) ++ (xD T bd thr1 M1)) H1 → va_D (fun q : Nat => s.heap.size ≤ q) ((xC T ad1 sc1 M1 ++ [(o0, .inl (T 4, 1, .inr (.inl h1)))]) ++ (xD T bd thr1 M1)) → va_S (fun q : Nat => s.heap.size ≤ q) s.heap H1 locs1 → ∀ ls1 : Array Slot, lv_has ls1 9 [(0, .ref b), (1, .ref (ad 0)), (2, .ref (bd 0)), (3, .ref o0), (4, .int (nI i))] → W p l e room_1 s m #[Value.ref b] below meth c H1 locs1 (ce + 90) (sl + 547) (lw_Z below #[Value.ref b] s) (F0 m 1431 ls1 [])) : W p l e room_1 s m #[Value.ref b] below meth c H locs ce sl (lw_Z below #[Value.ref b] s) (F0 m 992 ls []) := by
  obtain ⟨hx, hb, hr, hml, hown, hts, hX, hbl, hlocks, hK, hXB, hZ, hL9, hsl⟩ := C0
  have hA : ∀ q : Nat, s.heap.size ≤ q → (fun q : Nat => s.heap.size ≤ q) q := fun _ h => h
  have hbA : ¬ (fun q : Nat => s.heap.size ≤ q) b := Nat.not_le.mpr hbl
  obtain ⟨hn4, hm4, hpk, hsur, hsh, hth, hz0, hhb, hle, hta, hj5⟩ := id hI
  generalize hAe : (fun q : Nat => s.heap.size ≤ q) = A at hA hbA hZ hD hS kk
  refine lv_aload_n hx hb dL_law_992 rfl (lv_at hl 1 rfl) ?_
  refine lv_aload_n hx hb dL_law_993 rfl (lv_at hl 0 rfl) ?_
  refine lv_iload hx hb dL_law_994 (lv_at hl 4 rfl) ?_
  refine lv_iconst (v := nI 1) hx hb dL_law_996 (by decide) ?_
  refine lv_iadd hx hb dL_law_997 ?_
  refine x_topi (y := nI (i + 1)) (nI_add _ _) ?_
  refine va_sld hx hb hX hbl hbA hS (vp_in_nI (n := i + 1) (N := L) (by omega) (by omega)) dL_law_998 ?_
  refine x_topi (y := (xs (i + 1))) (by rw [nI_clamp (by omega)]) ?_
  refine lv_aload_n hx hb dL_law_999 rfl (lv_at hl 0 rfl) ?_
  refine lv_iload hx hb dL_law_1000 (lv_at hl 4 rfl) ?_
  refine lv_iconst (v := nI 2) hx hb dL_law_1002 (by decide) ?_
  refine lv_iadd hx hb dL_law_1003 ?_
  refine x_topi (y := nI (i + 2)) (nI_add _ _) ?_
  refine va_sld hx hb hX hbl hbA hS (vp_in_nI (n := i + 2) (N := L) (by omega) (by omega)) dL_law_1004 ?_
  refine x_topi (y := (xs (i + 2))) (by rw [nI_clamp (by omega)]) ?_
  refine lv_aload_n hx hb dL_law_1005 rfl (lv_at hl 3 rfl) ?_
  refine x_calliA (vx_runSW (As := [.ref (ad 0), .int (xs (i + 1)), .int (xs (i + 2)), .ref o0]) (rest := []) ⟨hx, hb, hml, hown, hts⟩ (c_L_force l hsl G T _ ad sc M o0 h (xs (i + 1)) (xs (i + 2)) hn4 hm4) (vx_cwSW 4 hts gL_law_L_force rfl rfl rfl (by decide +kernel) ⟨Nat.le_of_ble_eq_true rfl, Nat.le_of_ble_eq_true rfl⟩) (x_preSA (wc := (xC T ad sc M ++ [(o0, .inl (T 4, 1, .inr (.inl h)))])) (wr := (xD T bd thr M)) hK hP hD hS hA hXB hZ _) rfl rfl hl.1 rfl (lv_room (Nat.le_of_ble_eq_true rfl)) dL_law_1006 ⟨show ce + 2 ≤ 651071 by omega, show sl + 12 ≤ 7142890 by omega⟩) hP hD hS hA (fun _ _ hw => hw.2.2) (fun r1 u1 H locs hw1 hP hD hS => ?_)
  have hP : va_P G vwCl ((xC T u1.1 u1.2.1 M ++ [(o0, .inl (T 4, 1, .inr (.inl u1.2.2)))]) ++ (xD T bd thr M)) H := hP
  have hD : va_D A ((xC T u1.1 u1.2.1 M ++ [(o0, .inl (T 4, 1, .inr (.inl u1.2.2)))]) ++ (xD T bd thr M)) := hD
  refine lv_istore (lv' := [(5, .int r1), (0, .ref b), (1, .ref (ad 0)), (2, .ref (bd 0)), (3, .ref o0), (4, .int (nI i))]) hx hb dL_law_1009 hl (by decide) rfl (fun ls hl => ?_)
  refine lv_aload_n hx hb dL_law_1011 rfl (lv_at hl 3 rfl) ?_
  refine lv_aload_n hx hb dL_law_1012 rfl (lv_at hl 1 rfl) ?_
  refine lv_iload hx hb dL_law_1013 (lv_at hl 5 rfl) ?_
  refine lv_iconst (v := nI 1) hx hb dL_law_1015 (by decide) ?_
  refine lv_iadd hx hb dL_law_1016 ?_
  refine x_topi (y := nI (i + 1)) (nI_add _ _) ?_
  refine va_sld hx hb hX hbl hbA hS (vp_in_nI (n := i + 1) (N := L) (by omega) (by omega)) dL_law_1017 ?_
  refine x_topi (y := (xs (i + 1))) (by rw [nI_clamp (by omega)]) ?_
  refine lv_aload_n hx hb dL_law_1018 rfl (lv_at hl 1 rfl) ?_
  refine lv_iload hx hb dL_law_1019 (lv_at hl 5 rfl) ?_
  refine lv_iconst (v := nI 2) hx hb dL_law_1021 (by decide) ?_
  refine lv_iadd hx hb dL_law_1022 ?_
  refine x_topi (y := nI (i + 2)) (nI_add _ _) ?_
  refine va_sld hx hb hX hbl hbA hS (vp_in_nI (n := i + 2) (N := L) (by omega) (by omega)) dL_law_1023 ?_
  refine x_topi (y := (xs (i + 2))) (by rw [nI_clamp (by omega)]) ?_
  have hP := xp_perm (List.perm_append_comm (l₁ := (xC T u1.1 u1.2.1 M ++ [(o0, .inl (T 4, 1, .inr (.inl u1.2.2)))])) (l₂ := (xD T bd thr M))) hP
  have hD := xd_perm (List.perm_append_comm (l₁ := (xC T u1.1 u1.2.1 M ++ [(o0, .inl (T 4, 1, .inr (.inl u1.2.2)))])) (l₂ := (xD T bd thr M))) hD
  refine x_calliA (va_runV (As := [.int (xs (i + 1)), .int (xs (i + 2))]) (rest := []) ⟨hx, hb, hml, hown, hts⟩ (c_X4_force l G T _ bd thr M (xs (i + 1)) (xs (i + 2)) hm4 hsur) (cwV 2 hts gL_law_X4_force rfl rfl rfl (by decide +kernel) ⟨Nat.le_of_ble_eq_true rfl, Nat.le_of_ble_eq_true rfl⟩) (x_preVA (wc := (xD T bd thr M)) (wr := (xC T u1.1 u1.2.1 M ++ [(o0, .inl (T 4, 1, .inr (.inl u1.2.2)))])) hK hP hD hS hA hXB hZ _ _ 0 4 rfl rfl) rfl rfl hl.1 rfl (lv_room (Nat.le_of_ble_eq_true rfl)) dL_law_1024 ⟨show (ce + 2) + 0 ≤ 651071 by omega, show (sl + 12) + 0 ≤ 7142890 by omega⟩) hP hD hS hA (fun _ _ _ => xd_self rfl (xd_l hD)) (fun r2 u2 H locs hw2 hP hD hS => ?_)
  have hP : va_P G vwCl ((xD T bd u2 M) ++ (xC T u1.1 u1.2.1 M ++ [(o0, .inl (T 4, 1, .inr (.inl u1.2.2)))])) H := hP
  have hD : va_D A ((xD T bd u2 M) ++ (xC T u1.1 u1.2.1 M ++ [(o0, .inl (T 4, 1, .inr (.inl u1.2.2)))])) := hD
  refine lv_istore (lv' := [(6, .int r2), (5, .int r1), (0, .ref b), (1, .ref (ad 0)), (2, .ref (bd 0)), (3, .ref o0), (4, .int (nI i))]) hx hb dL_law_1027 hl (by decide) rfl (fun ls hl => ?_)
  refine lv_aload_n hx hb dL_law_1029 rfl (lv_at hl 4 rfl) ?_
  refine x_calliA (va_runV (As := []) (rest := []) ⟨hx, hb, hml, hown, hts⟩ (c_X4_thrown l G T _ bd u2 M) (cwV 0 hts gL_law_X4_thrown rfl rfl rfl (by decide +kernel) ⟨Nat.le_of_ble_eq_true rfl, Nat.le_of_ble_eq_true rfl⟩) (x_preVA (wc := (xD T bd u2 M)) (wr := (xC T u1.1 u1.2.1 M ++ [(o0, .inl (T 4, 1, .inr (.inl u1.2.2)))])) hK hP hD hS hA hXB hZ _ _ 0 4 rfl rfl) rfl rfl hl.1 rfl (lv_room (Nat.le_of_ble_eq_true rfl)) dL_law_1030 ⟨show ((ce + 2) + 0) + 0 ≤ 651071 by omega, show ((sl + 12) + 0) + 0 ≤ 7142890 by omega⟩) hP hD hS hA (fun _ _ _ => xd_self rfl (xd_l hD)) (fun r3 u3 H locs hw3 hP hD hS => ?_)
  have hP : va_P G vwCl ((xD T bd u2 M) ++ (xC T u1.1 u1.2.1 M ++ [(o0, .inl (T 4, 1, .inr (.inl u1.2.2)))])) H := hP
  have hD : va_D A ((xD T bd u2 M) ++ (xC T u1.1 u1.2.1 M ++ [(o0, .inl (T 4, 1, .inr (.inl u1.2.2)))])) := hD
  refine x_topi (y := u2) (hw3) ?_
  have hP := xp_perm (List.perm_append_comm (l₁ := (xD T bd u2 M)) (l₂ := (xC T u1.1 u1.2.1 M ++ [(o0, .inl (T 4, 1, .inr (.inl u1.2.2)))]))) hP
  have hD := xd_perm (List.perm_append_comm (l₁ := (xD T bd u2 M)) (l₂ := (xC T u1.1 u1.2.1 M ++ [(o0, .inl (T 4, 1, .inr (.inl u1.2.2)))]))) hD
  obtain ⟨hw1, hx1, hy1⟩ := hw1
  refine lv_iload hx hb dL_law_1033 (lv_at hl 1 rfl) ?_
  rcases (show (r1 = nI 0 ∧ u2 = nI 0 ∧ u1.2.2 (nI 0).toNatClampNeg = r2.toInt64) ∨ (r1 = nI 1 ∧ u2 = nI 1) from xmeet1 hw1 hw2) with ⟨rfl, rfl, hk3⟩ | ⟨rfl, rfl⟩
  · refine lv_icmp_eq (tgt := 1040) hx hb dL_law_1035 (by decide) (fun _ => ?_) (fun c_ => absurd (rfl) c_)
    refine lv_iload hx hb dL_law_1040 (lv_at hl 1 rfl) ?_
    refine lv_if_ne (tgt := 1057) hx hb dL_law_1042 (by decide) (fun c_ => absurd (rfl) c_) (fun _ => ?_)
    refine lv_aload_n hx hb dL_law_1045 rfl (lv_at hl 5 rfl) ?_
    refine lv_iconst (v := nI 0) hx hb dL_law_1046 (by decide) ?_
    refine va_lald hx hb hK hP (xC T u1.1 u1.2.1 M).length 4 x_lget2 rfl (vp_in_nI (n := 0) (N := 1) (by decide) (by decide)) dL_law_1047 ?_
    refine x_topl (y := r2.toInt64) (hk3) ?_
    refine lv_iload hx hb dL_law_1048 (lv_at hl 0 rfl) ?_
    refine lv_i2l hx hb dL_law_1050 rfl ?_
    refine x_lcmp0 hx hb dL_law_1051 ?_
    refine lv_if_eq (tgt := 1057) hx hb dL_law_1052 (by decide) (fun _ => ?_) (fun c_ => absurd (rfl) c_)
    refine lv_goto (tgt := 1431) hx hb dL_law_1057 (by decide) ?_
    refine W.widen (k := ce + 90) (n := sl + 547) (by omega) (by omega) ?_
    exact kk _ _ _ _ _ _ _ hx1 (xI_s hI hj) hP hD hS ls (lv_sub hl [2, 3, 4, 5, 6] rfl)
  · refine lv_icmp_eq (tgt := 1040) hx hb dL_law_1035 (by decide) (fun _ => ?_) (fun c_ => absurd (rfl) c_)
    refine lv_iload hx hb dL_law_1040 (lv_at hl 1 rfl) ?_
    refine lv_if_ne (tgt := 1057) hx hb dL_law_1042 (by decide) (fun _ => ?_) (fun c_ => absurd c_ (by decide))
    refine lv_goto (tgt := 1431) hx hb dL_law_1057 (by decide) ?_
    refine W.widen (k := ce + 90) (n := sl + 547) (by omega) (by omega) ?_
    exact kk _ _ _ _ _ _ _ hx1 (xI_s hI hj) hP hD hS ls (lv_sub hl [2, 3, 4, 5, 6] rfl)

set_option maxHeartbeats 4000000 in
set_option maxRecDepth 100000 in
/-- the law: took -/
theorem lc_took {p : Program} {l : Launch} {e : Env} {s : State} {m : MethodId} {below : List Frame} {meth : Method} {c : Code} {G : va_G} {T : Nat → ClassId} {b L : Nat} {xs : Nat → Int32} (C0 : xLC p l s m meth c b L xs G T) (i j : Nat) (hi : i + 4 ≤ L) (hj : j < 512) (ad : Nat → Nat) (sc : Nat → Nat → Int32) (M : XM) (bd : Nat → Nat) (thr : Int32) (o0 : Nat) (h : Nat → Int64) (hI : xI M j) (ce sl : Nat) (hce : ce + 90 ≤ 651071) (hsl9 : sl + 547 ≤ 7142890) (H : Heap) (locs : List Loc) (hP : va_P G vwCl ((xC T ad sc M ++ [(o0, .inl (T 4, 1, .inr (.inl h)))]) ++ (xD T bd thr M)) H) (hD : va_D (fun q : Nat => s.heap.size ≤ q) ((xC T ad sc M ++ [(o0, .inl (T 4, 1, .inr (.inl h)))]) ++ (xD T bd thr M))) (hS : va_S (fun q : Nat => s.heap.size ≤ q) s.heap H locs) (ls : Array Slot) (hl : lv_has ls 9 [(0, .ref b), (1, .ref (ad 0)), (2, .ref (bd 0)), (3, .ref o0), (4, .int (nI i))]) (kk : ∀ (ad1 : Nat → Nat) (sc1 : Nat → Nat → Int32) (M1 : XM) (thr1 : Int32) (h1 : Nat → Int64) (H1 : Heap) (locs1 : List Loc), ad1 0 = ad 0 → xI M1 (j + 1) → va_P G vwCl ((xC T ad1 sc1 M1 ++ [(o0, .inl (T 4, 1, .inr (.inl h1)))]) ++ (xD T bd thr1 M1)) H1 → va_D (fun q : Nat => s.heap.size ≤ q) ((xC T ad1 sc1 M1 ++ [(o0, .inl (T 4, 1, .inr (.inl h1)))]) ++ (xD T bd thr1 M1)) → va_S (fun q : Nat => s.heap.size ≤ q) s.heap H1 locs1 → ∀ ls1 : Array Slot, lv_has ls1 9 [(0, .ref b), (1, .ref (ad 0)), (2, .ref (bd 0)), (3, .ref o0), (4, .int (nI i))] → W p l e room_1 s m #[Value.ref b] below meth c H1 locs1 (ce + 90) (sl + 547) (lw_Z below #[Value.ref b] s) (F0 m 1431 ls1 [])) : W p l e room_1 s m #[Value.ref b] below meth c H locs ce sl (lw_Z below #[Value.ref b] s) (F0 m 1060 ls []) := by
  obtain ⟨hx, hb, hr, hml, hown, hts, hX, hbl, hlocks, hK, hXB, hZ, hL9, hsl⟩ := C0
  have hA : ∀ q : Nat, s.heap.size ≤ q → (fun q : Nat => s.heap.size ≤ q) q := fun _ h => h
  have hbA : ¬ (fun q : Nat => s.heap.size ≤ q) b := Nat.not_le.mpr hbl
  obtain ⟨hn4, hm4, hpk, hsur, hsh, hth, hz0, hhb, hle, hta, hj5⟩ := id hI
  generalize hAe : (fun q : Nat => s.heap.size ≤ q) = A at hA hbA hZ hD hS kk
  refine lv_aload_n hx hb dL_law_1060 rfl (lv_at hl 1 rfl) ?_
  refine lv_aload_n hx hb dL_law_1061 rfl (lv_at hl 0 rfl) ?_
  refine lv_iload hx hb dL_law_1062 (lv_at hl 4 rfl) ?_
  refine lv_iconst (v := nI 1) hx hb dL_law_1064 (by decide) ?_
  refine lv_iadd hx hb dL_law_1065 ?_
  refine x_topi (y := nI (i + 1)) (nI_add _ _) ?_
  refine va_sld hx hb hX hbl hbA hS (vp_in_nI (n := i + 1) (N := L) (by omega) (by omega)) dL_law_1066 ?_
  refine x_topi (y := (xs (i + 1))) (by rw [nI_clamp (by omega)]) ?_
  refine lv_aload_n hx hb dL_law_1067 rfl (lv_at hl 3 rfl) ?_
  refine x_calliA (vx_runSW (As := [.ref (ad 0), .int (xs (i + 1)), .ref o0]) (rest := []) ⟨hx, hb, hml, hown, hts⟩ (c_L_took l hsl G T _ ad sc M o0 h (xs (i + 1)) hn4 hm4) (vx_cwSW 3 hts gL_law_L_took rfl rfl rfl (by decide +kernel) ⟨Nat.le_of_ble_eq_true rfl, Nat.le_of_ble_eq_true rfl⟩) (x_preSA (wc := (xC T ad sc M ++ [(o0, .inl (T 4, 1, .inr (.inl h)))])) (wr := (xD T bd thr M)) hK hP hD hS hA hXB hZ _) rfl rfl hl.1 rfl (lv_room (Nat.le_of_ble_eq_true rfl)) dL_law_1068 ⟨show ce + 1 ≤ 651071 by omega, show sl + 6 ≤ 7142890 by omega⟩) hP hD hS hA (fun _ _ hw => hw.2.2) (fun r1 u1 H locs hw1 hP hD hS => ?_)
  have hP : va_P G vwCl ((xC T u1.1 u1.2.1 M ++ [(o0, .inl (T 4, 1, .inr (.inl u1.2.2)))]) ++ (xD T bd thr M)) H := hP
  have hD : va_D A ((xC T u1.1 u1.2.1 M ++ [(o0, .inl (T 4, 1, .inr (.inl u1.2.2)))]) ++ (xD T bd thr M)) := hD
  refine lv_istore (lv' := [(5, .int r1), (0, .ref b), (1, .ref (ad 0)), (2, .ref (bd 0)), (3, .ref o0), (4, .int (nI i))]) hx hb dL_law_1071 hl (by decide) rfl (fun ls hl => ?_)
  refine lv_aload_n hx hb dL_law_1073 rfl (lv_at hl 3 rfl) ?_
  refine lv_aload_n hx hb dL_law_1074 rfl (lv_at hl 1 rfl) ?_
  refine lv_iload hx hb dL_law_1075 (lv_at hl 5 rfl) ?_
  refine lv_iconst (v := nI 1) hx hb dL_law_1077 (by decide) ?_
  refine lv_iadd hx hb dL_law_1078 ?_
  refine x_topi (y := nI (i + 1)) (nI_add _ _) ?_
  refine va_sld hx hb hX hbl hbA hS (vp_in_nI (n := i + 1) (N := L) (by omega) (by omega)) dL_law_1079 ?_
  refine x_topi (y := (xs (i + 1))) (by rw [nI_clamp (by omega)]) ?_
  have hP := xp_perm (List.perm_append_comm (l₁ := (xC T u1.1 u1.2.1 M ++ [(o0, .inl (T 4, 1, .inr (.inl u1.2.2)))])) (l₂ := (xD T bd thr M))) hP
  have hD := xd_perm (List.perm_append_comm (l₁ := (xC T u1.1 u1.2.1 M ++ [(o0, .inl (T 4, 1, .inr (.inl u1.2.2)))])) (l₂ := (xD T bd thr M))) hD
  refine x_calliA (va_runV (As := [.int (xs (i + 1))]) (rest := []) ⟨hx, hb, hml, hown, hts⟩ (c_X4_took l G T _ bd thr M (xs (i + 1)) hm4) (cwV 1 hts gL_law_X4_took rfl rfl rfl (by decide +kernel) ⟨Nat.le_of_ble_eq_true rfl, Nat.le_of_ble_eq_true rfl⟩) (x_preVA (wc := (xD T bd thr M)) (wr := (xC T u1.1 u1.2.1 M ++ [(o0, .inl (T 4, 1, .inr (.inl u1.2.2)))])) hK hP hD hS hA hXB hZ _ _ 0 4 rfl rfl) rfl rfl hl.1 rfl (lv_room (Nat.le_of_ble_eq_true rfl)) dL_law_1080 ⟨show (ce + 1) + 0 ≤ 651071 by omega, show (sl + 6) + 0 ≤ 7142890 by omega⟩) hP hD hS hA (fun _ _ _ => xd_self rfl (xd_l hD)) (fun r2 u2 H locs hw2 hP hD hS => ?_)
  have hP : va_P G vwCl ((xD T bd u2 M) ++ (xC T u1.1 u1.2.1 M ++ [(o0, .inl (T 4, 1, .inr (.inl u1.2.2)))])) H := hP
  have hD : va_D A ((xD T bd u2 M) ++ (xC T u1.1 u1.2.1 M ++ [(o0, .inl (T 4, 1, .inr (.inl u1.2.2)))])) := hD
  refine lv_istore (lv' := [(6, .int r2), (5, .int r1), (0, .ref b), (1, .ref (ad 0)), (2, .ref (bd 0)), (3, .ref o0), (4, .int (nI i))]) hx hb dL_law_1083 hl (by decide) rfl (fun ls hl => ?_)
  refine lv_aload_n hx hb dL_law_1085 rfl (lv_at hl 4 rfl) ?_
  refine x_calliA (va_runV (As := []) (rest := []) ⟨hx, hb, hml, hown, hts⟩ (c_X4_thrown l G T _ bd u2 M) (cwV 0 hts gL_law_X4_thrown rfl rfl rfl (by decide +kernel) ⟨Nat.le_of_ble_eq_true rfl, Nat.le_of_ble_eq_true rfl⟩) (x_preVA (wc := (xD T bd u2 M)) (wr := (xC T u1.1 u1.2.1 M ++ [(o0, .inl (T 4, 1, .inr (.inl u1.2.2)))])) hK hP hD hS hA hXB hZ _ _ 0 4 rfl rfl) rfl rfl hl.1 rfl (lv_room (Nat.le_of_ble_eq_true rfl)) dL_law_1086 ⟨show ((ce + 1) + 0) + 0 ≤ 651071 by omega, show ((sl + 6) + 0) + 0 ≤ 7142890 by omega⟩) hP hD hS hA (fun _ _ _ => xd_self rfl (xd_l hD)) (fun r3 u3 H locs hw3 hP hD hS => ?_)
  have hP : va_P G vwCl ((xD T bd u2 M) ++ (xC T u1.1 u1.2.1 M ++ [(o0, .inl (T 4, 1, .inr (.inl u1.2.2)))])) H := hP
  have hD : va_D A ((xD T bd u2 M) ++ (xC T u1.1 u1.2.1 M ++ [(o0, .inl (T 4, 1, .inr (.inl u1.2.2)))])) := hD
  refine x_topi (y := u2) (hw3) ?_
  have hP := xp_perm (List.perm_append_comm (l₁ := (xD T bd u2 M)) (l₂ := (xC T u1.1 u1.2.1 M ++ [(o0, .inl (T 4, 1, .inr (.inl u1.2.2)))]))) hP
  have hD := xd_perm (List.perm_append_comm (l₁ := (xD T bd u2 M)) (l₂ := (xC T u1.1 u1.2.1 M ++ [(o0, .inl (T 4, 1, .inr (.inl u1.2.2)))]))) hD
  obtain ⟨hw1, hx1, hy1⟩ := hw1
  refine lv_iload hx hb dL_law_1089 (lv_at hl 1 rfl) ?_
  rcases (show (r1 = nI 0 ∧ u2 = nI 0 ∧ u1.2.2 (nI 0).toNatClampNeg = r2.toInt64) ∨ (r1 = nI 1 ∧ u2 = nI 1) from xmeet1 hw1 hw2) with ⟨rfl, rfl, hk3⟩ | ⟨rfl, rfl⟩
  · refine lv_icmp_eq (tgt := 1096) hx hb dL_law_1091 (by decide) (fun _ => ?_) (fun c_ => absurd (rfl) c_)
    refine lv_iload hx hb dL_law_1096 (lv_at hl 1 rfl) ?_
    refine lv_if_ne (tgt := 1113) hx hb dL_law_1098 (by decide) (fun c_ => absurd (rfl) c_) (fun _ => ?_)
    refine lv_aload_n hx hb dL_law_1101 rfl (lv_at hl 5 rfl) ?_
    refine lv_iconst (v := nI 0) hx hb dL_law_1102 (by decide) ?_
    refine va_lald hx hb hK hP (xC T u1.1 u1.2.1 M).length 4 x_lget2 rfl (vp_in_nI (n := 0) (N := 1) (by decide) (by decide)) dL_law_1103 ?_
    refine x_topl (y := r2.toInt64) (hk3) ?_
    refine lv_iload hx hb dL_law_1104 (lv_at hl 0 rfl) ?_
    refine lv_i2l hx hb dL_law_1106 rfl ?_
    refine x_lcmp0 hx hb dL_law_1107 ?_
    refine lv_if_eq (tgt := 1113) hx hb dL_law_1108 (by decide) (fun _ => ?_) (fun c_ => absurd (rfl) c_)
    refine lv_goto (tgt := 1431) hx hb dL_law_1113 (by decide) ?_
    refine W.widen (k := ce + 90) (n := sl + 547) (by omega) (by omega) ?_
    exact kk _ _ _ _ _ _ _ hx1 (xI_s hI hj) hP hD hS ls (lv_sub hl [2, 3, 4, 5, 6] rfl)
  · refine lv_icmp_eq (tgt := 1096) hx hb dL_law_1091 (by decide) (fun _ => ?_) (fun c_ => absurd (rfl) c_)
    refine lv_iload hx hb dL_law_1096 (lv_at hl 1 rfl) ?_
    refine lv_if_ne (tgt := 1113) hx hb dL_law_1098 (by decide) (fun _ => ?_) (fun c_ => absurd c_ (by decide))
    refine lv_goto (tgt := 1431) hx hb dL_law_1113 (by decide) ?_
    refine W.widen (k := ce + 90) (n := sl + 547) (by omega) (by omega) ?_
    exact kk _ _ _ _ _ _ _ hx1 (xI_s hI hj) hP hD hS ls (lv_sub hl [2, 3, 4, 5, 6] rfl)

set_option maxHeartbeats 4000000 in
set_option maxRecDepth 100000 in
/-- the law: count -/
theorem lc_count {p : Program} {l : Launch} {e : Env} {s : State} {m : MethodId} {below : List Frame} {meth : Method} {c : Code} {G : va_G} {T : Nat → ClassId} {b L : Nat} {xs : Nat → Int32} (C0 : xLC p l s m meth c b L xs G T) (i j : Nat) (hi : i + 4 ≤ L) (hj : j < 512) (ad : Nat → Nat) (sc : Nat → Nat → Int32) (M : XM) (bd : Nat → Nat) (thr : Int32) (o0 : Nat) (h : Nat → Int64) (hI : xI M j) (ce sl : Nat) (hce : ce + 90 ≤ 651071) (hsl9 : sl + 547 ≤ 7142890) (H : Heap) (locs : List Loc) (hP : va_P G vwCl ((xC T ad sc M ++ [(o0, .inl (T 4, 1, .inr (.inl h)))]) ++ (xD T bd thr M)) H) (hD : va_D (fun q : Nat => s.heap.size ≤ q) ((xC T ad sc M ++ [(o0, .inl (T 4, 1, .inr (.inl h)))]) ++ (xD T bd thr M))) (hS : va_S (fun q : Nat => s.heap.size ≤ q) s.heap H locs) (ls : Array Slot) (hl : lv_has ls 9 [(0, .ref b), (1, .ref (ad 0)), (2, .ref (bd 0)), (3, .ref o0), (4, .int (nI i))]) (kk : ∀ (ad1 : Nat → Nat) (sc1 : Nat → Nat → Int32) (M1 : XM) (thr1 : Int32) (h1 : Nat → Int64) (H1 : Heap) (locs1 : List Loc), ad1 0 = ad 0 → xI M1 (j + 1) → va_P G vwCl ((xC T ad1 sc1 M1 ++ [(o0, .inl (T 4, 1, .inr (.inl h1)))]) ++ (xD T bd thr1 M1)) H1 → va_D (fun q : Nat => s.heap.size ≤ q) ((xC T ad1 sc1 M1 ++ [(o0, .inl (T 4, 1, .inr (.inl h1)))]) ++ (xD T bd thr1 M1)) → va_S (fun q : Nat => s.heap.size ≤ q) s.heap H1 locs1 → ∀ ls1 : Array Slot, lv_has ls1 9 [(0, .ref b), (1, .ref (ad 0)), (2, .ref (bd 0)), (3, .ref o0), (4, .int (nI i))] → W p l e room_1 s m #[Value.ref b] below meth c H1 locs1 (ce + 90) (sl + 547) (lw_Z below #[Value.ref b] s) (F0 m 1431 ls1 [])) : W p l e room_1 s m #[Value.ref b] below meth c H locs ce sl (lw_Z below #[Value.ref b] s) (F0 m 1116 ls []) := by
  obtain ⟨hx, hb, hr, hml, hown, hts, hX, hbl, hlocks, hK, hXB, hZ, hL9, hsl⟩ := C0
  have hA : ∀ q : Nat, s.heap.size ≤ q → (fun q : Nat => s.heap.size ≤ q) q := fun _ h => h
  have hbA : ¬ (fun q : Nat => s.heap.size ≤ q) b := Nat.not_le.mpr hbl
  obtain ⟨hn4, hm4, hpk, hsur, hsh, hth, hz0, hhb, hle, hta, hj5⟩ := id hI
  generalize hAe : (fun q : Nat => s.heap.size ≤ q) = A at hA hbA hZ hD hS kk
  refine lv_aload_n hx hb dL_law_1116 rfl (lv_at hl 1 rfl) ?_
  refine lv_aload_n hx hb dL_law_1117 rfl (lv_at hl 0 rfl) ?_
  refine lv_iload hx hb dL_law_1118 (lv_at hl 4 rfl) ?_
  refine lv_iconst (v := nI 1) hx hb dL_law_1120 (by decide) ?_
  refine lv_iadd hx hb dL_law_1121 ?_
  refine x_topi (y := nI (i + 1)) (nI_add _ _) ?_
  refine va_sld hx hb hX hbl hbA hS (vp_in_nI (n := i + 1) (N := L) (by omega) (by omega)) dL_law_1122 ?_
  refine x_topi (y := (xs (i + 1))) (by rw [nI_clamp (by omega)]) ?_
  refine lv_aload_n hx hb dL_law_1123 rfl (lv_at hl 3 rfl) ?_
  refine x_calliA (vx_runSW (As := [.ref (ad 0), .int (xs (i + 1)), .ref o0]) (rest := []) ⟨hx, hb, hml, hown, hts⟩ (c_L_count l hsl G T _ ad sc M o0 h (xs (i + 1)) ) (vx_cwSW 3 hts gL_law_L_count rfl rfl rfl (by decide +kernel) ⟨Nat.le_of_ble_eq_true rfl, Nat.le_of_ble_eq_true rfl⟩) (x_preSA (wc := (xC T ad sc M ++ [(o0, .inl (T 4, 1, .inr (.inl h)))])) (wr := (xD T bd thr M)) hK hP hD hS hA hXB hZ _) rfl rfl hl.1 rfl (lv_room (Nat.le_of_ble_eq_true rfl)) dL_law_1124 ⟨show ce + 1 ≤ 651071 by omega, show sl + 6 ≤ 7142890 by omega⟩) hP hD hS hA (fun _ _ hw => hw.2.2) (fun r1 u1 H locs hw1 hP hD hS => ?_)
  have hP : va_P G vwCl ((xC T u1.1 u1.2.1 M ++ [(o0, .inl (T 4, 1, .inr (.inl u1.2.2)))]) ++ (xD T bd thr M)) H := hP
  have hD : va_D A ((xC T u1.1 u1.2.1 M ++ [(o0, .inl (T 4, 1, .inr (.inl u1.2.2)))]) ++ (xD T bd thr M)) := hD
  refine lv_istore (lv' := [(5, .int r1), (0, .ref b), (1, .ref (ad 0)), (2, .ref (bd 0)), (3, .ref o0), (4, .int (nI i))]) hx hb dL_law_1127 hl (by decide) rfl (fun ls hl => ?_)
  refine lv_aload_n hx hb dL_law_1129 rfl (lv_at hl 3 rfl) ?_
  refine lv_aload_n hx hb dL_law_1130 rfl (lv_at hl 1 rfl) ?_
  refine lv_iload hx hb dL_law_1131 (lv_at hl 5 rfl) ?_
  refine lv_iconst (v := nI 1) hx hb dL_law_1133 (by decide) ?_
  refine lv_iadd hx hb dL_law_1134 ?_
  refine x_topi (y := nI (i + 1)) (nI_add _ _) ?_
  refine va_sld hx hb hX hbl hbA hS (vp_in_nI (n := i + 1) (N := L) (by omega) (by omega)) dL_law_1135 ?_
  refine x_topi (y := (xs (i + 1))) (by rw [nI_clamp (by omega)]) ?_
  have hP := xp_perm (List.perm_append_comm (l₁ := (xC T u1.1 u1.2.1 M ++ [(o0, .inl (T 4, 1, .inr (.inl u1.2.2)))])) (l₂ := (xD T bd thr M))) hP
  have hD := xd_perm (List.perm_append_comm (l₁ := (xC T u1.1 u1.2.1 M ++ [(o0, .inl (T 4, 1, .inr (.inl u1.2.2)))])) (l₂ := (xD T bd thr M))) hD
  refine x_calliA (va_runV (As := [.int (xs (i + 1))]) (rest := []) ⟨hx, hb, hml, hown, hts⟩ (c_X4_count l G T _ bd thr M (xs (i + 1)) ) (cwV 1 hts gL_law_X4_count rfl rfl rfl (by decide +kernel) ⟨Nat.le_of_ble_eq_true rfl, Nat.le_of_ble_eq_true rfl⟩) (x_preVA (wc := (xD T bd thr M)) (wr := (xC T u1.1 u1.2.1 M ++ [(o0, .inl (T 4, 1, .inr (.inl u1.2.2)))])) hK hP hD hS hA hXB hZ _ _ 0 4 rfl rfl) rfl rfl hl.1 rfl (lv_room (Nat.le_of_ble_eq_true rfl)) dL_law_1136 ⟨show (ce + 1) + 1 ≤ 651071 by omega, show (sl + 6) + 7 ≤ 7142890 by omega⟩) hP hD hS hA (fun _ _ _ => xd_self rfl (xd_l hD)) (fun r2 u2 H locs hw2 hP hD hS => ?_)
  have hP : va_P G vwCl ((xD T bd u2 M) ++ (xC T u1.1 u1.2.1 M ++ [(o0, .inl (T 4, 1, .inr (.inl u1.2.2)))])) H := hP
  have hD : va_D A ((xD T bd u2 M) ++ (xC T u1.1 u1.2.1 M ++ [(o0, .inl (T 4, 1, .inr (.inl u1.2.2)))])) := hD
  refine lv_istore (lv' := [(6, .int r2), (5, .int r1), (0, .ref b), (1, .ref (ad 0)), (2, .ref (bd 0)), (3, .ref o0), (4, .int (nI i))]) hx hb dL_law_1139 hl (by decide) rfl (fun ls hl => ?_)
  refine lv_aload_n hx hb dL_law_1141 rfl (lv_at hl 4 rfl) ?_
  refine x_calliA (va_runV (As := []) (rest := []) ⟨hx, hb, hml, hown, hts⟩ (c_X4_thrown l G T _ bd u2 M) (cwV 0 hts gL_law_X4_thrown rfl rfl rfl (by decide +kernel) ⟨Nat.le_of_ble_eq_true rfl, Nat.le_of_ble_eq_true rfl⟩) (x_preVA (wc := (xD T bd u2 M)) (wr := (xC T u1.1 u1.2.1 M ++ [(o0, .inl (T 4, 1, .inr (.inl u1.2.2)))])) hK hP hD hS hA hXB hZ _ _ 0 4 rfl rfl) rfl rfl hl.1 rfl (lv_room (Nat.le_of_ble_eq_true rfl)) dL_law_1142 ⟨show ((ce + 1) + 1) + 0 ≤ 651071 by omega, show ((sl + 6) + 7) + 0 ≤ 7142890 by omega⟩) hP hD hS hA (fun _ _ _ => xd_self rfl (xd_l hD)) (fun r3 u3 H locs hw3 hP hD hS => ?_)
  have hP : va_P G vwCl ((xD T bd u2 M) ++ (xC T u1.1 u1.2.1 M ++ [(o0, .inl (T 4, 1, .inr (.inl u1.2.2)))])) H := hP
  have hD : va_D A ((xD T bd u2 M) ++ (xC T u1.1 u1.2.1 M ++ [(o0, .inl (T 4, 1, .inr (.inl u1.2.2)))])) := hD
  refine x_topi (y := u2) (hw3) ?_
  have hP := xp_perm (List.perm_append_comm (l₁ := (xD T bd u2 M)) (l₂ := (xC T u1.1 u1.2.1 M ++ [(o0, .inl (T 4, 1, .inr (.inl u1.2.2)))]))) hP
  have hD := xd_perm (List.perm_append_comm (l₁ := (xD T bd u2 M)) (l₂ := (xC T u1.1 u1.2.1 M ++ [(o0, .inl (T 4, 1, .inr (.inl u1.2.2)))]))) hD
  obtain ⟨hw1, hx1, hy1⟩ := hw1
  refine lv_iload hx hb dL_law_1145 (lv_at hl 1 rfl) ?_
  rcases (show (r1 = nI 0 ∧ u2 = nI 0 ∧ u1.2.2 (nI 0).toNatClampNeg = r2.toInt64) ∨ (r1 = nI 1 ∧ u2 = nI 1) from xmeet1 hw1 hw2) with ⟨rfl, rfl, hk3⟩ | ⟨rfl, rfl⟩
  · refine lv_icmp_eq (tgt := 1152) hx hb dL_law_1147 (by decide) (fun _ => ?_) (fun c_ => absurd (rfl) c_)
    refine lv_iload hx hb dL_law_1152 (lv_at hl 1 rfl) ?_
    refine lv_if_ne (tgt := 1169) hx hb dL_law_1154 (by decide) (fun c_ => absurd (rfl) c_) (fun _ => ?_)
    refine lv_aload_n hx hb dL_law_1157 rfl (lv_at hl 5 rfl) ?_
    refine lv_iconst (v := nI 0) hx hb dL_law_1158 (by decide) ?_
    refine va_lald hx hb hK hP (xC T u1.1 u1.2.1 M).length 4 x_lget2 rfl (vp_in_nI (n := 0) (N := 1) (by decide) (by decide)) dL_law_1159 ?_
    refine x_topl (y := r2.toInt64) (hk3) ?_
    refine lv_iload hx hb dL_law_1160 (lv_at hl 0 rfl) ?_
    refine lv_i2l hx hb dL_law_1162 rfl ?_
    refine x_lcmp0 hx hb dL_law_1163 ?_
    refine lv_if_eq (tgt := 1169) hx hb dL_law_1164 (by decide) (fun _ => ?_) (fun c_ => absurd (rfl) c_)
    refine lv_goto (tgt := 1431) hx hb dL_law_1169 (by decide) ?_
    refine W.widen (k := ce + 90) (n := sl + 547) (by omega) (by omega) ?_
    exact kk _ _ _ _ _ _ _ hx1 (xI_s hI hj) hP hD hS ls (lv_sub hl [2, 3, 4, 5, 6] rfl)
  · refine lv_icmp_eq (tgt := 1152) hx hb dL_law_1147 (by decide) (fun _ => ?_) (fun c_ => absurd (rfl) c_)
    refine lv_iload hx hb dL_law_1152 (lv_at hl 1 rfl) ?_
    refine lv_if_ne (tgt := 1169) hx hb dL_law_1154 (by decide) (fun _ => ?_) (fun c_ => absurd c_ (by decide))
    refine lv_goto (tgt := 1431) hx hb dL_law_1169 (by decide) ?_
    refine W.widen (k := ce + 90) (n := sl + 547) (by omega) (by omega) ?_
    exact kk _ _ _ _ _ _ _ hx1 (xI_s hI hj) hP hD hS ls (lv_sub hl [2, 3, 4, 5, 6] rfl)

set_option maxHeartbeats 4000000 in
set_option maxRecDepth 100000 in
/-- the law: back -/
theorem lc_back {p : Program} {l : Launch} {e : Env} {s : State} {m : MethodId} {below : List Frame} {meth : Method} {c : Code} {G : va_G} {T : Nat → ClassId} {b L : Nat} {xs : Nat → Int32} (C0 : xLC p l s m meth c b L xs G T) (i j : Nat) (hi : i + 4 ≤ L) (hj : j < 512) (ad : Nat → Nat) (sc : Nat → Nat → Int32) (M : XM) (bd : Nat → Nat) (thr : Int32) (o0 : Nat) (h : Nat → Int64) (hI : xI M j) (ce sl : Nat) (hce : ce + 90 ≤ 651071) (hsl9 : sl + 547 ≤ 7142890) (H : Heap) (locs : List Loc) (hP : va_P G vwCl ((xC T ad sc M ++ [(o0, .inl (T 4, 1, .inr (.inl h)))]) ++ (xD T bd thr M)) H) (hD : va_D (fun q : Nat => s.heap.size ≤ q) ((xC T ad sc M ++ [(o0, .inl (T 4, 1, .inr (.inl h)))]) ++ (xD T bd thr M))) (hS : va_S (fun q : Nat => s.heap.size ≤ q) s.heap H locs) (ls : Array Slot) (hl : lv_has ls 9 [(0, .ref b), (1, .ref (ad 0)), (2, .ref (bd 0)), (3, .ref o0), (4, .int (nI i))]) (kk : ∀ (ad1 : Nat → Nat) (sc1 : Nat → Nat → Int32) (M1 : XM) (thr1 : Int32) (h1 : Nat → Int64) (H1 : Heap) (locs1 : List Loc), ad1 0 = ad 0 → xI M1 (j + 1) → va_P G vwCl ((xC T ad1 sc1 M1 ++ [(o0, .inl (T 4, 1, .inr (.inl h1)))]) ++ (xD T bd thr1 M1)) H1 → va_D (fun q : Nat => s.heap.size ≤ q) ((xC T ad1 sc1 M1 ++ [(o0, .inl (T 4, 1, .inr (.inl h1)))]) ++ (xD T bd thr1 M1)) → va_S (fun q : Nat => s.heap.size ≤ q) s.heap H1 locs1 → ∀ ls1 : Array Slot, lv_has ls1 9 [(0, .ref b), (1, .ref (ad 0)), (2, .ref (bd 0)), (3, .ref o0), (4, .int (nI i))] → W p l e room_1 s m #[Value.ref b] below meth c H1 locs1 (ce + 90) (sl + 547) (lw_Z below #[Value.ref b] s) (F0 m 1431 ls1 [])) : W p l e room_1 s m #[Value.ref b] below meth c H locs ce sl (lw_Z below #[Value.ref b] s) (F0 m 1172 ls []) := by
  obtain ⟨hx, hb, hr, hml, hown, hts, hX, hbl, hlocks, hK, hXB, hZ, hL9, hsl⟩ := C0
  have hA : ∀ q : Nat, s.heap.size ≤ q → (fun q : Nat => s.heap.size ≤ q) q := fun _ h => h
  have hbA : ¬ (fun q : Nat => s.heap.size ≤ q) b := Nat.not_le.mpr hbl
  obtain ⟨hn4, hm4, hpk, hsur, hsh, hth, hz0, hhb, hle, hta, hj5⟩ := id hI
  generalize hAe : (fun q : Nat => s.heap.size ≤ q) = A at hA hbA hZ hD hS kk
  refine lv_aload_n hx hb dL_law_1172 rfl (lv_at hl 1 rfl) ?_
  refine lv_aload_n hx hb dL_law_1173 rfl (lv_at hl 0 rfl) ?_
  refine lv_iload hx hb dL_law_1174 (lv_at hl 4 rfl) ?_
  refine lv_iconst (v := nI 1) hx hb dL_law_1176 (by decide) ?_
  refine lv_iadd hx hb dL_law_1177 ?_
  refine x_topi (y := nI (i + 1)) (nI_add _ _) ?_
  refine va_sld hx hb hX hbl hbA hS (vp_in_nI (n := i + 1) (N := L) (by omega) (by omega)) dL_law_1178 ?_
  refine x_topi (y := (xs (i + 1))) (by rw [nI_clamp (by omega)]) ?_
  refine lv_aload_n hx hb dL_law_1179 rfl (lv_at hl 0 rfl) ?_
  refine lv_iload hx hb dL_law_1180 (lv_at hl 4 rfl) ?_
  refine lv_iconst (v := nI 2) hx hb dL_law_1182 (by decide) ?_
  refine lv_iadd hx hb dL_law_1183 ?_
  refine x_topi (y := nI (i + 2)) (nI_add _ _) ?_
  refine va_sld hx hb hX hbl hbA hS (vp_in_nI (n := i + 2) (N := L) (by omega) (by omega)) dL_law_1184 ?_
  refine x_topi (y := (xs (i + 2))) (by rw [nI_clamp (by omega)]) ?_
  refine lv_aload_n hx hb dL_law_1185 rfl (lv_at hl 3 rfl) ?_
  refine x_calliA (vx_runSW (As := [.ref (ad 0), .int (xs (i + 1)), .int (xs (i + 2)), .ref o0]) (rest := []) ⟨hx, hb, hml, hown, hts⟩ (c_L_back l hsl G T _ ad sc M o0 h (xs (i + 1)) (xs (i + 2)) ) (vx_cwSW 4 hts gL_law_L_back rfl rfl rfl (by decide +kernel) ⟨Nat.le_of_ble_eq_true rfl, Nat.le_of_ble_eq_true rfl⟩) (x_preSA (wc := (xC T ad sc M ++ [(o0, .inl (T 4, 1, .inr (.inl h)))])) (wr := (xD T bd thr M)) hK hP hD hS hA hXB hZ _) rfl rfl hl.1 rfl (lv_room (Nat.le_of_ble_eq_true rfl)) dL_law_1186 ⟨show ce + 1 ≤ 651071 by omega, show sl + 6 ≤ 7142890 by omega⟩) hP hD hS hA (fun _ _ hw => hw.2.2) (fun r1 u1 H locs hw1 hP hD hS => ?_)
  have hP : va_P G vwCl ((xC T u1.1 u1.2.1 M ++ [(o0, .inl (T 4, 1, .inr (.inl u1.2.2)))]) ++ (xD T bd thr M)) H := hP
  have hD : va_D A ((xC T u1.1 u1.2.1 M ++ [(o0, .inl (T 4, 1, .inr (.inl u1.2.2)))]) ++ (xD T bd thr M)) := hD
  refine lv_istore (lv' := [(5, .int r1), (0, .ref b), (1, .ref (ad 0)), (2, .ref (bd 0)), (3, .ref o0), (4, .int (nI i))]) hx hb dL_law_1189 hl (by decide) rfl (fun ls hl => ?_)
  refine lv_aload_n hx hb dL_law_1191 rfl (lv_at hl 3 rfl) ?_
  refine lv_aload_n hx hb dL_law_1192 rfl (lv_at hl 1 rfl) ?_
  refine lv_iload hx hb dL_law_1193 (lv_at hl 5 rfl) ?_
  refine lv_iconst (v := nI 1) hx hb dL_law_1195 (by decide) ?_
  refine lv_iadd hx hb dL_law_1196 ?_
  refine x_topi (y := nI (i + 1)) (nI_add _ _) ?_
  refine va_sld hx hb hX hbl hbA hS (vp_in_nI (n := i + 1) (N := L) (by omega) (by omega)) dL_law_1197 ?_
  refine x_topi (y := (xs (i + 1))) (by rw [nI_clamp (by omega)]) ?_
  refine lv_aload_n hx hb dL_law_1198 rfl (lv_at hl 1 rfl) ?_
  refine lv_iload hx hb dL_law_1199 (lv_at hl 5 rfl) ?_
  refine lv_iconst (v := nI 2) hx hb dL_law_1201 (by decide) ?_
  refine lv_iadd hx hb dL_law_1202 ?_
  refine x_topi (y := nI (i + 2)) (nI_add _ _) ?_
  refine va_sld hx hb hX hbl hbA hS (vp_in_nI (n := i + 2) (N := L) (by omega) (by omega)) dL_law_1203 ?_
  refine x_topi (y := (xs (i + 2))) (by rw [nI_clamp (by omega)]) ?_
  have hP := xp_perm (List.perm_append_comm (l₁ := (xC T u1.1 u1.2.1 M ++ [(o0, .inl (T 4, 1, .inr (.inl u1.2.2)))])) (l₂ := (xD T bd thr M))) hP
  have hD := xd_perm (List.perm_append_comm (l₁ := (xC T u1.1 u1.2.1 M ++ [(o0, .inl (T 4, 1, .inr (.inl u1.2.2)))])) (l₂ := (xD T bd thr M))) hD
  refine x_calliA (va_runV (As := [.int (xs (i + 1)), .int (xs (i + 2))]) (rest := []) ⟨hx, hb, hml, hown, hts⟩ (c_X4_back l G T _ bd thr M (xs (i + 1)) (xs (i + 2)) ) (cwV 2 hts gL_law_X4_back rfl rfl rfl (by decide +kernel) ⟨Nat.le_of_ble_eq_true rfl, Nat.le_of_ble_eq_true rfl⟩) (x_preVA (wc := (xD T bd thr M)) (wr := (xC T u1.1 u1.2.1 M ++ [(o0, .inl (T 4, 1, .inr (.inl u1.2.2)))])) hK hP hD hS hA hXB hZ _ _ 0 4 rfl rfl) rfl rfl hl.1 rfl (lv_room (Nat.le_of_ble_eq_true rfl)) dL_law_1204 ⟨show (ce + 1) + 0 ≤ 651071 by omega, show (sl + 6) + 0 ≤ 7142890 by omega⟩) hP hD hS hA (fun _ _ _ => xd_self rfl (xd_l hD)) (fun r2 u2 H locs hw2 hP hD hS => ?_)
  have hP : va_P G vwCl ((xD T bd u2 M) ++ (xC T u1.1 u1.2.1 M ++ [(o0, .inl (T 4, 1, .inr (.inl u1.2.2)))])) H := hP
  have hD : va_D A ((xD T bd u2 M) ++ (xC T u1.1 u1.2.1 M ++ [(o0, .inl (T 4, 1, .inr (.inl u1.2.2)))])) := hD
  refine lv_istore (lv' := [(6, .int r2), (5, .int r1), (0, .ref b), (1, .ref (ad 0)), (2, .ref (bd 0)), (3, .ref o0), (4, .int (nI i))]) hx hb dL_law_1207 hl (by decide) rfl (fun ls hl => ?_)
  refine lv_aload_n hx hb dL_law_1209 rfl (lv_at hl 4 rfl) ?_
  refine x_calliA (va_runV (As := []) (rest := []) ⟨hx, hb, hml, hown, hts⟩ (c_X4_thrown l G T _ bd u2 M) (cwV 0 hts gL_law_X4_thrown rfl rfl rfl (by decide +kernel) ⟨Nat.le_of_ble_eq_true rfl, Nat.le_of_ble_eq_true rfl⟩) (x_preVA (wc := (xD T bd u2 M)) (wr := (xC T u1.1 u1.2.1 M ++ [(o0, .inl (T 4, 1, .inr (.inl u1.2.2)))])) hK hP hD hS hA hXB hZ _ _ 0 4 rfl rfl) rfl rfl hl.1 rfl (lv_room (Nat.le_of_ble_eq_true rfl)) dL_law_1210 ⟨show ((ce + 1) + 0) + 0 ≤ 651071 by omega, show ((sl + 6) + 0) + 0 ≤ 7142890 by omega⟩) hP hD hS hA (fun _ _ _ => xd_self rfl (xd_l hD)) (fun r3 u3 H locs hw3 hP hD hS => ?_)
  have hP : va_P G vwCl ((xD T bd u2 M) ++ (xC T u1.1 u1.2.1 M ++ [(o0, .inl (T 4, 1, .inr (.inl u1.2.2)))])) H := hP
  have hD : va_D A ((xD T bd u2 M) ++ (xC T u1.1 u1.2.1 M ++ [(o0, .inl (T 4, 1, .inr (.inl u1.2.2)))])) := hD
  refine x_topi (y := u2) (hw3) ?_
  have hP := xp_perm (List.perm_append_comm (l₁ := (xD T bd u2 M)) (l₂ := (xC T u1.1 u1.2.1 M ++ [(o0, .inl (T 4, 1, .inr (.inl u1.2.2)))]))) hP
  have hD := xd_perm (List.perm_append_comm (l₁ := (xD T bd u2 M)) (l₂ := (xC T u1.1 u1.2.1 M ++ [(o0, .inl (T 4, 1, .inr (.inl u1.2.2)))]))) hD
  obtain ⟨hw1, hx1, hy1⟩ := hw1
  refine lv_iload hx hb dL_law_1213 (lv_at hl 1 rfl) ?_
  rcases (show (r1 = nI 0 ∧ u2 = nI 0 ∧ u1.2.2 (nI 0).toNatClampNeg = r2.toInt64) ∨ (r1 = nI 1 ∧ u2 = nI 1) from xmeet1 hw1 hw2) with ⟨rfl, rfl, hk3⟩ | ⟨rfl, rfl⟩
  · refine lv_icmp_eq (tgt := 1220) hx hb dL_law_1215 (by decide) (fun _ => ?_) (fun c_ => absurd (rfl) c_)
    refine lv_iload hx hb dL_law_1220 (lv_at hl 1 rfl) ?_
    refine lv_if_ne (tgt := 1237) hx hb dL_law_1222 (by decide) (fun c_ => absurd (rfl) c_) (fun _ => ?_)
    refine lv_aload_n hx hb dL_law_1225 rfl (lv_at hl 5 rfl) ?_
    refine lv_iconst (v := nI 0) hx hb dL_law_1226 (by decide) ?_
    refine va_lald hx hb hK hP (xC T u1.1 u1.2.1 M).length 4 x_lget2 rfl (vp_in_nI (n := 0) (N := 1) (by decide) (by decide)) dL_law_1227 ?_
    refine x_topl (y := r2.toInt64) (hk3) ?_
    refine lv_iload hx hb dL_law_1228 (lv_at hl 0 rfl) ?_
    refine lv_i2l hx hb dL_law_1230 rfl ?_
    refine x_lcmp0 hx hb dL_law_1231 ?_
    refine lv_if_eq (tgt := 1237) hx hb dL_law_1232 (by decide) (fun _ => ?_) (fun c_ => absurd (rfl) c_)
    refine lv_goto (tgt := 1431) hx hb dL_law_1237 (by decide) ?_
    refine W.widen (k := ce + 90) (n := sl + 547) (by omega) (by omega) ?_
    exact kk _ _ _ _ _ _ _ hx1 (xI_s hI hj) hP hD hS ls (lv_sub hl [2, 3, 4, 5, 6] rfl)
  · refine lv_icmp_eq (tgt := 1220) hx hb dL_law_1215 (by decide) (fun _ => ?_) (fun c_ => absurd (rfl) c_)
    refine lv_iload hx hb dL_law_1220 (lv_at hl 1 rfl) ?_
    refine lv_if_ne (tgt := 1237) hx hb dL_law_1222 (by decide) (fun _ => ?_) (fun c_ => absurd c_ (by decide))
    refine lv_goto (tgt := 1431) hx hb dL_law_1237 (by decide) ?_
    refine W.widen (k := ce + 90) (n := sl + 547) (by omega) (by omega) ?_
    exact kk _ _ _ _ _ _ _ hx1 (xI_s hI hj) hP hD hS ls (lv_sub hl [2, 3, 4, 5, 6] rfl)

set_option maxHeartbeats 4000000 in
set_option maxRecDepth 100000 in
/-- the law: bring -/
theorem lc_bring {p : Program} {l : Launch} {e : Env} {s : State} {m : MethodId} {below : List Frame} {meth : Method} {c : Code} {G : va_G} {T : Nat → ClassId} {b L : Nat} {xs : Nat → Int32} (C0 : xLC p l s m meth c b L xs G T) (i j : Nat) (hi : i + 4 ≤ L) (hj : j < 512) (ad : Nat → Nat) (sc : Nat → Nat → Int32) (M : XM) (bd : Nat → Nat) (thr : Int32) (o0 : Nat) (h : Nat → Int64) (hI : xI M j) (ce sl : Nat) (hce : ce + 90 ≤ 651071) (hsl9 : sl + 547 ≤ 7142890) (H : Heap) (locs : List Loc) (hP : va_P G vwCl ((xC T ad sc M ++ [(o0, .inl (T 4, 1, .inr (.inl h)))]) ++ (xD T bd thr M)) H) (hD : va_D (fun q : Nat => s.heap.size ≤ q) ((xC T ad sc M ++ [(o0, .inl (T 4, 1, .inr (.inl h)))]) ++ (xD T bd thr M))) (hS : va_S (fun q : Nat => s.heap.size ≤ q) s.heap H locs) (ls : Array Slot) (hl : lv_has ls 9 [(0, .ref b), (1, .ref (ad 0)), (2, .ref (bd 0)), (3, .ref o0), (4, .int (nI i))]) (kk : ∀ (ad1 : Nat → Nat) (sc1 : Nat → Nat → Int32) (M1 : XM) (thr1 : Int32) (h1 : Nat → Int64) (H1 : Heap) (locs1 : List Loc), ad1 0 = ad 0 → xI M1 (j + 1) → va_P G vwCl ((xC T ad1 sc1 M1 ++ [(o0, .inl (T 4, 1, .inr (.inl h1)))]) ++ (xD T bd thr1 M1)) H1 → va_D (fun q : Nat => s.heap.size ≤ q) ((xC T ad1 sc1 M1 ++ [(o0, .inl (T 4, 1, .inr (.inl h1)))]) ++ (xD T bd thr1 M1)) → va_S (fun q : Nat => s.heap.size ≤ q) s.heap H1 locs1 → ∀ ls1 : Array Slot, lv_has ls1 9 [(0, .ref b), (1, .ref (ad 0)), (2, .ref (bd 0)), (3, .ref o0), (4, .int (nI i))] → W p l e room_1 s m #[Value.ref b] below meth c H1 locs1 (ce + 90) (sl + 547) (lw_Z below #[Value.ref b] s) (F0 m 1431 ls1 [])) : W p l e room_1 s m #[Value.ref b] below meth c H locs ce sl (lw_Z below #[Value.ref b] s) (F0 m 1240 ls []) := by
  obtain ⟨hx, hb, hr, hml, hown, hts, hX, hbl, hlocks, hK, hXB, hZ, hL9, hsl⟩ := C0
  have hA : ∀ q : Nat, s.heap.size ≤ q → (fun q : Nat => s.heap.size ≤ q) q := fun _ h => h
  have hbA : ¬ (fun q : Nat => s.heap.size ≤ q) b := Nat.not_le.mpr hbl
  obtain ⟨hn4, hm4, hpk, hsur, hsh, hth, hz0, hhb, hle, hta, hj5⟩ := id hI
  generalize hAe : (fun q : Nat => s.heap.size ≤ q) = A at hA hbA hZ hD hS kk
  refine lv_aload_n hx hb dL_law_1240 rfl (lv_at hl 1 rfl) ?_
  refine lv_aload_n hx hb dL_law_1241 rfl (lv_at hl 0 rfl) ?_
  refine lv_iload hx hb dL_law_1242 (lv_at hl 4 rfl) ?_
  refine lv_iconst (v := nI 1) hx hb dL_law_1244 (by decide) ?_
  refine lv_iadd hx hb dL_law_1245 ?_
  refine x_topi (y := nI (i + 1)) (nI_add _ _) ?_
  refine va_sld hx hb hX hbl hbA hS (vp_in_nI (n := i + 1) (N := L) (by omega) (by omega)) dL_law_1246 ?_
  refine x_topi (y := (xs (i + 1))) (by rw [nI_clamp (by omega)]) ?_
  refine lv_aload_n hx hb dL_law_1247 rfl (lv_at hl 0 rfl) ?_
  refine lv_iload hx hb dL_law_1248 (lv_at hl 4 rfl) ?_
  refine lv_iconst (v := nI 2) hx hb dL_law_1250 (by decide) ?_
  refine lv_iadd hx hb dL_law_1251 ?_
  refine x_topi (y := nI (i + 2)) (nI_add _ _) ?_
  refine va_sld hx hb hX hbl hbA hS (vp_in_nI (n := i + 2) (N := L) (by omega) (by omega)) dL_law_1252 ?_
  refine x_topi (y := (xs (i + 2))) (by rw [nI_clamp (by omega)]) ?_
  refine lv_aload_n hx hb dL_law_1253 rfl (lv_at hl 3 rfl) ?_
  refine x_calliA (vx_runSW (As := [.ref (ad 0), .int (xs (i + 1)), .int (xs (i + 2)), .ref o0]) (rest := []) ⟨hx, hb, hml, hown, hts⟩ (c_L_bring l hsl G T _ ad sc M o0 h (xs (i + 1)) (xs (i + 2)) hsur) (vx_cwSW 4 hts gL_law_L_bring rfl rfl rfl (by decide +kernel) ⟨Nat.le_of_ble_eq_true rfl, Nat.le_of_ble_eq_true rfl⟩) (x_preSA (wc := (xC T ad sc M ++ [(o0, .inl (T 4, 1, .inr (.inl h)))])) (wr := (xD T bd thr M)) hK hP hD hS hA hXB hZ _) rfl rfl hl.1 rfl (lv_room (Nat.le_of_ble_eq_true rfl)) dL_law_1254 ⟨show ce + 2 ≤ 651071 by omega, show sl + 12 ≤ 7142890 by omega⟩) hP hD hS hA (fun _ _ hw => hw.2.2) (fun r1 u1 H locs hw1 hP hD hS => ?_)
  have hP : va_P G vwCl ((xC T u1.1 u1.2.1 M ++ [(o0, .inl (T 4, 1, .inr (.inl u1.2.2)))]) ++ (xD T bd thr M)) H := hP
  have hD : va_D A ((xC T u1.1 u1.2.1 M ++ [(o0, .inl (T 4, 1, .inr (.inl u1.2.2)))]) ++ (xD T bd thr M)) := hD
  refine lv_istore (lv' := [(5, .int r1), (0, .ref b), (1, .ref (ad 0)), (2, .ref (bd 0)), (3, .ref o0), (4, .int (nI i))]) hx hb dL_law_1257 hl (by decide) rfl (fun ls hl => ?_)
  refine lv_aload_n hx hb dL_law_1259 rfl (lv_at hl 3 rfl) ?_
  refine lv_aload_n hx hb dL_law_1260 rfl (lv_at hl 1 rfl) ?_
  refine lv_iload hx hb dL_law_1261 (lv_at hl 5 rfl) ?_
  refine lv_iconst (v := nI 1) hx hb dL_law_1263 (by decide) ?_
  refine lv_iadd hx hb dL_law_1264 ?_
  refine x_topi (y := nI (i + 1)) (nI_add _ _) ?_
  refine va_sld hx hb hX hbl hbA hS (vp_in_nI (n := i + 1) (N := L) (by omega) (by omega)) dL_law_1265 ?_
  refine x_topi (y := (xs (i + 1))) (by rw [nI_clamp (by omega)]) ?_
  refine lv_aload_n hx hb dL_law_1266 rfl (lv_at hl 1 rfl) ?_
  refine lv_iload hx hb dL_law_1267 (lv_at hl 5 rfl) ?_
  refine lv_iconst (v := nI 2) hx hb dL_law_1269 (by decide) ?_
  refine lv_iadd hx hb dL_law_1270 ?_
  refine x_topi (y := nI (i + 2)) (nI_add _ _) ?_
  refine va_sld hx hb hX hbl hbA hS (vp_in_nI (n := i + 2) (N := L) (by omega) (by omega)) dL_law_1271 ?_
  refine x_topi (y := (xs (i + 2))) (by rw [nI_clamp (by omega)]) ?_
  have hP := xp_perm (List.perm_append_comm (l₁ := (xC T u1.1 u1.2.1 M ++ [(o0, .inl (T 4, 1, .inr (.inl u1.2.2)))])) (l₂ := (xD T bd thr M))) hP
  have hD := xd_perm (List.perm_append_comm (l₁ := (xC T u1.1 u1.2.1 M ++ [(o0, .inl (T 4, 1, .inr (.inl u1.2.2)))])) (l₂ := (xD T bd thr M))) hD
  refine x_calliA (va_runV (As := [.int (xs (i + 1)), .int (xs (i + 2))]) (rest := []) ⟨hx, hb, hml, hown, hts⟩ (c_X4_bring l G T _ bd thr M (xs (i + 1)) (xs (i + 2)) hsur) (cwV 2 hts gL_law_X4_bring rfl rfl rfl (by decide +kernel) ⟨Nat.le_of_ble_eq_true rfl, Nat.le_of_ble_eq_true rfl⟩) (x_preVA (wc := (xD T bd thr M)) (wr := (xC T u1.1 u1.2.1 M ++ [(o0, .inl (T 4, 1, .inr (.inl u1.2.2)))])) hK hP hD hS hA hXB hZ _ _ 0 4 rfl rfl) rfl rfl hl.1 rfl (lv_room (Nat.le_of_ble_eq_true rfl)) dL_law_1272 ⟨show (ce + 2) + 0 ≤ 651071 by omega, show (sl + 12) + 0 ≤ 7142890 by omega⟩) hP hD hS hA (fun _ _ _ => xd_self rfl (xd_l hD)) (fun r2 u2 H locs hw2 hP hD hS => ?_)
  have hP : va_P G vwCl ((xD T bd u2 M) ++ (xC T u1.1 u1.2.1 M ++ [(o0, .inl (T 4, 1, .inr (.inl u1.2.2)))])) H := hP
  have hD : va_D A ((xD T bd u2 M) ++ (xC T u1.1 u1.2.1 M ++ [(o0, .inl (T 4, 1, .inr (.inl u1.2.2)))])) := hD
  refine lv_istore (lv' := [(6, .int r2), (5, .int r1), (0, .ref b), (1, .ref (ad 0)), (2, .ref (bd 0)), (3, .ref o0), (4, .int (nI i))]) hx hb dL_law_1275 hl (by decide) rfl (fun ls hl => ?_)
  refine lv_aload_n hx hb dL_law_1277 rfl (lv_at hl 4 rfl) ?_
  refine x_calliA (va_runV (As := []) (rest := []) ⟨hx, hb, hml, hown, hts⟩ (c_X4_thrown l G T _ bd u2 M) (cwV 0 hts gL_law_X4_thrown rfl rfl rfl (by decide +kernel) ⟨Nat.le_of_ble_eq_true rfl, Nat.le_of_ble_eq_true rfl⟩) (x_preVA (wc := (xD T bd u2 M)) (wr := (xC T u1.1 u1.2.1 M ++ [(o0, .inl (T 4, 1, .inr (.inl u1.2.2)))])) hK hP hD hS hA hXB hZ _ _ 0 4 rfl rfl) rfl rfl hl.1 rfl (lv_room (Nat.le_of_ble_eq_true rfl)) dL_law_1278 ⟨show ((ce + 2) + 0) + 0 ≤ 651071 by omega, show ((sl + 12) + 0) + 0 ≤ 7142890 by omega⟩) hP hD hS hA (fun _ _ _ => xd_self rfl (xd_l hD)) (fun r3 u3 H locs hw3 hP hD hS => ?_)
  have hP : va_P G vwCl ((xD T bd u2 M) ++ (xC T u1.1 u1.2.1 M ++ [(o0, .inl (T 4, 1, .inr (.inl u1.2.2)))])) H := hP
  have hD : va_D A ((xD T bd u2 M) ++ (xC T u1.1 u1.2.1 M ++ [(o0, .inl (T 4, 1, .inr (.inl u1.2.2)))])) := hD
  refine x_topi (y := u2) (hw3) ?_
  have hP := xp_perm (List.perm_append_comm (l₁ := (xD T bd u2 M)) (l₂ := (xC T u1.1 u1.2.1 M ++ [(o0, .inl (T 4, 1, .inr (.inl u1.2.2)))]))) hP
  have hD := xd_perm (List.perm_append_comm (l₁ := (xD T bd u2 M)) (l₂ := (xC T u1.1 u1.2.1 M ++ [(o0, .inl (T 4, 1, .inr (.inl u1.2.2)))]))) hD
  obtain ⟨hw1, hx1, hy1⟩ := hw1
  refine lv_iload hx hb dL_law_1281 (lv_at hl 1 rfl) ?_
  rcases (show (r1 = nI 0 ∧ u2 = nI 0 ∧ u1.2.2 (nI 0).toNatClampNeg = r2.toInt64) ∨ (r1 = nI 1 ∧ u2 = nI 1) from xmeet1 hw1 hw2) with ⟨rfl, rfl, hk3⟩ | ⟨rfl, rfl⟩
  · refine lv_icmp_eq (tgt := 1288) hx hb dL_law_1283 (by decide) (fun _ => ?_) (fun c_ => absurd (rfl) c_)
    refine lv_iload hx hb dL_law_1288 (lv_at hl 1 rfl) ?_
    refine lv_if_ne (tgt := 1305) hx hb dL_law_1290 (by decide) (fun c_ => absurd (rfl) c_) (fun _ => ?_)
    refine lv_aload_n hx hb dL_law_1293 rfl (lv_at hl 5 rfl) ?_
    refine lv_iconst (v := nI 0) hx hb dL_law_1294 (by decide) ?_
    refine va_lald hx hb hK hP (xC T u1.1 u1.2.1 M).length 4 x_lget2 rfl (vp_in_nI (n := 0) (N := 1) (by decide) (by decide)) dL_law_1295 ?_
    refine x_topl (y := r2.toInt64) (hk3) ?_
    refine lv_iload hx hb dL_law_1296 (lv_at hl 0 rfl) ?_
    refine lv_i2l hx hb dL_law_1298 rfl ?_
    refine x_lcmp0 hx hb dL_law_1299 ?_
    refine lv_if_eq (tgt := 1305) hx hb dL_law_1300 (by decide) (fun _ => ?_) (fun c_ => absurd (rfl) c_)
    refine lv_goto (tgt := 1431) hx hb dL_law_1305 (by decide) ?_
    refine W.widen (k := ce + 90) (n := sl + 547) (by omega) (by omega) ?_
    exact kk _ _ _ _ _ _ _ hx1 (xI_s hI hj) hP hD hS ls (lv_sub hl [2, 3, 4, 5, 6] rfl)
  · refine lv_icmp_eq (tgt := 1288) hx hb dL_law_1283 (by decide) (fun _ => ?_) (fun c_ => absurd (rfl) c_)
    refine lv_iload hx hb dL_law_1288 (lv_at hl 1 rfl) ?_
    refine lv_if_ne (tgt := 1305) hx hb dL_law_1290 (by decide) (fun _ => ?_) (fun c_ => absurd c_ (by decide))
    refine lv_goto (tgt := 1431) hx hb dL_law_1305 (by decide) ?_
    refine W.widen (k := ce + 90) (n := sl + 547) (by omega) (by omega) ?_
    exact kk _ _ _ _ _ _ _ hx1 (xI_s hI hj) hP hD hS ls (lv_sub hl [2, 3, 4, 5, 6] rfl)

set_option maxHeartbeats 4000000 in
set_option maxRecDepth 100000 in
/-- the law: riffles -/
theorem lc_riffles {p : Program} {l : Launch} {e : Env} {s : State} {m : MethodId} {below : List Frame} {meth : Method} {c : Code} {G : va_G} {T : Nat → ClassId} {b L : Nat} {xs : Nat → Int32} (C0 : xLC p l s m meth c b L xs G T) (i j : Nat) (hi : i + 4 ≤ L) (hj : j < 512) (ad : Nat → Nat) (sc : Nat → Nat → Int32) (M : XM) (bd : Nat → Nat) (thr : Int32) (o0 : Nat) (h : Nat → Int64) (hI : xI M j) (ce sl : Nat) (hce : ce + 90 ≤ 651071) (hsl9 : sl + 547 ≤ 7142890) (H : Heap) (locs : List Loc) (hP : va_P G vwCl ((xC T ad sc M ++ [(o0, .inl (T 4, 1, .inr (.inl h)))]) ++ (xD T bd thr M)) H) (hD : va_D (fun q : Nat => s.heap.size ≤ q) ((xC T ad sc M ++ [(o0, .inl (T 4, 1, .inr (.inl h)))]) ++ (xD T bd thr M))) (hS : va_S (fun q : Nat => s.heap.size ≤ q) s.heap H locs) (ls : Array Slot) (hl : lv_has ls 9 [(0, .ref b), (1, .ref (ad 0)), (2, .ref (bd 0)), (3, .ref o0), (4, .int (nI i))]) (kk : ∀ (ad1 : Nat → Nat) (sc1 : Nat → Nat → Int32) (M1 : XM) (thr1 : Int32) (h1 : Nat → Int64) (H1 : Heap) (locs1 : List Loc), ad1 0 = ad 0 → xI M1 (j + 1) → va_P G vwCl ((xC T ad1 sc1 M1 ++ [(o0, .inl (T 4, 1, .inr (.inl h1)))]) ++ (xD T bd thr1 M1)) H1 → va_D (fun q : Nat => s.heap.size ≤ q) ((xC T ad1 sc1 M1 ++ [(o0, .inl (T 4, 1, .inr (.inl h1)))]) ++ (xD T bd thr1 M1)) → va_S (fun q : Nat => s.heap.size ≤ q) s.heap H1 locs1 → ∀ ls1 : Array Slot, lv_has ls1 9 [(0, .ref b), (1, .ref (ad 0)), (2, .ref (bd 0)), (3, .ref o0), (4, .int (nI i))] → W p l e room_1 s m #[Value.ref b] below meth c H1 locs1 (ce + 90) (sl + 547) (lw_Z below #[Value.ref b] s) (F0 m 1431 ls1 [])) : W p l e room_1 s m #[Value.ref b] below meth c H locs ce sl (lw_Z below #[Value.ref b] s) (F0 m 1308 ls []) := by
  obtain ⟨hx, hb, hr, hml, hown, hts, hX, hbl, hlocks, hK, hXB, hZ, hL9, hsl⟩ := C0
  have hA : ∀ q : Nat, s.heap.size ≤ q → (fun q : Nat => s.heap.size ≤ q) q := fun _ h => h
  have hbA : ¬ (fun q : Nat => s.heap.size ≤ q) b := Nat.not_le.mpr hbl
  obtain ⟨hn4, hm4, hpk, hsur, hsh, hth, hz0, hhb, hle, hta, hj5⟩ := id hI
  generalize hAe : (fun q : Nat => s.heap.size ≤ q) = A at hA hbA hZ hD hS kk
  refine lv_aload_n hx hb dL_law_1308 rfl (lv_at hl 1 rfl) ?_
  refine lv_aload_n hx hb dL_law_1309 rfl (lv_at hl 0 rfl) ?_
  refine lv_iload hx hb dL_law_1310 (lv_at hl 4 rfl) ?_
  refine lv_iconst (v := nI 1) hx hb dL_law_1312 (by decide) ?_
  refine lv_iadd hx hb dL_law_1313 ?_
  refine x_topi (y := nI (i + 1)) (nI_add _ _) ?_
  refine va_sld hx hb hX hbl hbA hS (vp_in_nI (n := i + 1) (N := L) (by omega) (by omega)) dL_law_1314 ?_
  refine x_topi (y := (xs (i + 1))) (by rw [nI_clamp (by omega)]) ?_
  refine lv_aload_n hx hb dL_law_1315 rfl (lv_at hl 0 rfl) ?_
  refine lv_iload hx hb dL_law_1316 (lv_at hl 4 rfl) ?_
  refine lv_iconst (v := nI 2) hx hb dL_law_1318 (by decide) ?_
  refine lv_iadd hx hb dL_law_1319 ?_
  refine x_topi (y := nI (i + 2)) (nI_add _ _) ?_
  refine va_sld hx hb hX hbl hbA hS (vp_in_nI (n := i + 2) (N := L) (by omega) (by omega)) dL_law_1320 ?_
  refine x_topi (y := (xs (i + 2))) (by rw [nI_clamp (by omega)]) ?_
  refine lv_aload_n hx hb dL_law_1321 rfl (lv_at hl 3 rfl) ?_
  refine x_calliA (vx_runSW (As := [.ref (ad 0), .int (xs (i + 1)), .int (xs (i + 2)), .ref o0]) (rest := []) ⟨hx, hb, hml, hown, hts⟩ (c_L_riffles l hsl G T _ ad sc M o0 h (xs (i + 1)) (xs (i + 2)) hsur) (vx_cwSW 4 hts gL_law_L_riffles rfl rfl rfl (by decide +kernel) ⟨Nat.le_of_ble_eq_true rfl, Nat.le_of_ble_eq_true rfl⟩) (x_preSA (wc := (xC T ad sc M ++ [(o0, .inl (T 4, 1, .inr (.inl h)))])) (wr := (xD T bd thr M)) hK hP hD hS hA hXB hZ _) rfl rfl hl.1 rfl (lv_room (Nat.le_of_ble_eq_true rfl)) dL_law_1322 ⟨show ce + 2 ≤ 651071 by omega, show sl + 12 ≤ 7142890 by omega⟩) hP hD hS hA (fun _ _ hw => hw.2.2) (fun r1 u1 H locs hw1 hP hD hS => ?_)
  have hP : va_P G vwCl ((xC T u1.1 u1.2.1 M ++ [(o0, .inl (T 4, 1, .inr (.inl u1.2.2)))]) ++ (xD T bd thr M)) H := hP
  have hD : va_D A ((xC T u1.1 u1.2.1 M ++ [(o0, .inl (T 4, 1, .inr (.inl u1.2.2)))]) ++ (xD T bd thr M)) := hD
  refine lv_istore (lv' := [(5, .int r1), (0, .ref b), (1, .ref (ad 0)), (2, .ref (bd 0)), (3, .ref o0), (4, .int (nI i))]) hx hb dL_law_1325 hl (by decide) rfl (fun ls hl => ?_)
  refine lv_aload_n hx hb dL_law_1327 rfl (lv_at hl 3 rfl) ?_
  refine lv_aload_n hx hb dL_law_1328 rfl (lv_at hl 1 rfl) ?_
  refine lv_iload hx hb dL_law_1329 (lv_at hl 5 rfl) ?_
  refine lv_iconst (v := nI 1) hx hb dL_law_1331 (by decide) ?_
  refine lv_iadd hx hb dL_law_1332 ?_
  refine x_topi (y := nI (i + 1)) (nI_add _ _) ?_
  refine va_sld hx hb hX hbl hbA hS (vp_in_nI (n := i + 1) (N := L) (by omega) (by omega)) dL_law_1333 ?_
  refine x_topi (y := (xs (i + 1))) (by rw [nI_clamp (by omega)]) ?_
  refine lv_aload_n hx hb dL_law_1334 rfl (lv_at hl 1 rfl) ?_
  refine lv_iload hx hb dL_law_1335 (lv_at hl 5 rfl) ?_
  refine lv_iconst (v := nI 2) hx hb dL_law_1337 (by decide) ?_
  refine lv_iadd hx hb dL_law_1338 ?_
  refine x_topi (y := nI (i + 2)) (nI_add _ _) ?_
  refine va_sld hx hb hX hbl hbA hS (vp_in_nI (n := i + 2) (N := L) (by omega) (by omega)) dL_law_1339 ?_
  refine x_topi (y := (xs (i + 2))) (by rw [nI_clamp (by omega)]) ?_
  have hP := xp_perm (List.perm_append_comm (l₁ := (xC T u1.1 u1.2.1 M ++ [(o0, .inl (T 4, 1, .inr (.inl u1.2.2)))])) (l₂ := (xD T bd thr M))) hP
  have hD := xd_perm (List.perm_append_comm (l₁ := (xC T u1.1 u1.2.1 M ++ [(o0, .inl (T 4, 1, .inr (.inl u1.2.2)))])) (l₂ := (xD T bd thr M))) hD
  refine x_calliA (va_runV (As := [.int (xs (i + 1)), .int (xs (i + 2))]) (rest := []) ⟨hx, hb, hml, hown, hts⟩ (c_X4_riffles l G T _ bd thr M (xs (i + 1)) (xs (i + 2)) hsur) (cwV 2 hts gL_law_X4_riffles rfl rfl rfl (by decide +kernel) ⟨Nat.le_of_ble_eq_true rfl, Nat.le_of_ble_eq_true rfl⟩) (x_preVA (wc := (xD T bd thr M)) (wr := (xC T u1.1 u1.2.1 M ++ [(o0, .inl (T 4, 1, .inr (.inl u1.2.2)))])) hK hP hD hS hA hXB hZ _ _ 0 4 rfl rfl) rfl rfl hl.1 rfl (lv_room (Nat.le_of_ble_eq_true rfl)) dL_law_1340 ⟨show (ce + 2) + 5 ≤ 651071 by omega, show (sl + 12) + 80 ≤ 7142890 by omega⟩) hP hD hS hA (fun _ _ _ => xd_self rfl (xd_l hD)) (fun r2 u2 H locs hw2 hP hD hS => ?_)
  have hP : va_P G vwCl ((xD T bd u2 M) ++ (xC T u1.1 u1.2.1 M ++ [(o0, .inl (T 4, 1, .inr (.inl u1.2.2)))])) H := hP
  have hD : va_D A ((xD T bd u2 M) ++ (xC T u1.1 u1.2.1 M ++ [(o0, .inl (T 4, 1, .inr (.inl u1.2.2)))])) := hD
  refine lv_istore (lv' := [(6, .int r2), (5, .int r1), (0, .ref b), (1, .ref (ad 0)), (2, .ref (bd 0)), (3, .ref o0), (4, .int (nI i))]) hx hb dL_law_1343 hl (by decide) rfl (fun ls hl => ?_)
  refine lv_aload_n hx hb dL_law_1345 rfl (lv_at hl 4 rfl) ?_
  refine x_calliA (va_runV (As := []) (rest := []) ⟨hx, hb, hml, hown, hts⟩ (c_X4_thrown l G T _ bd u2 M) (cwV 0 hts gL_law_X4_thrown rfl rfl rfl (by decide +kernel) ⟨Nat.le_of_ble_eq_true rfl, Nat.le_of_ble_eq_true rfl⟩) (x_preVA (wc := (xD T bd u2 M)) (wr := (xC T u1.1 u1.2.1 M ++ [(o0, .inl (T 4, 1, .inr (.inl u1.2.2)))])) hK hP hD hS hA hXB hZ _ _ 0 4 rfl rfl) rfl rfl hl.1 rfl (lv_room (Nat.le_of_ble_eq_true rfl)) dL_law_1346 ⟨show ((ce + 2) + 5) + 0 ≤ 651071 by omega, show ((sl + 12) + 80) + 0 ≤ 7142890 by omega⟩) hP hD hS hA (fun _ _ _ => xd_self rfl (xd_l hD)) (fun r3 u3 H locs hw3 hP hD hS => ?_)
  have hP : va_P G vwCl ((xD T bd u2 M) ++ (xC T u1.1 u1.2.1 M ++ [(o0, .inl (T 4, 1, .inr (.inl u1.2.2)))])) H := hP
  have hD : va_D A ((xD T bd u2 M) ++ (xC T u1.1 u1.2.1 M ++ [(o0, .inl (T 4, 1, .inr (.inl u1.2.2)))])) := hD
  refine x_topi (y := u2) (hw3) ?_
  have hP := xp_perm (List.perm_append_comm (l₁ := (xD T bd u2 M)) (l₂ := (xC T u1.1 u1.2.1 M ++ [(o0, .inl (T 4, 1, .inr (.inl u1.2.2)))]))) hP
  have hD := xd_perm (List.perm_append_comm (l₁ := (xD T bd u2 M)) (l₂ := (xC T u1.1 u1.2.1 M ++ [(o0, .inl (T 4, 1, .inr (.inl u1.2.2)))]))) hD
  obtain ⟨hw1, hx1, hy1⟩ := hw1
  refine lv_iload hx hb dL_law_1349 (lv_at hl 1 rfl) ?_
  rcases (show (r1 = nI 0 ∧ u2 = nI 0 ∧ u1.2.2 (nI 0).toNatClampNeg = r2.toInt64) ∨ (r1 = nI 1 ∧ u2 = nI 1) from xmeet1 hw1 hw2) with ⟨rfl, rfl, hk3⟩ | ⟨rfl, rfl⟩
  · refine lv_icmp_eq (tgt := 1356) hx hb dL_law_1351 (by decide) (fun _ => ?_) (fun c_ => absurd (rfl) c_)
    refine lv_iload hx hb dL_law_1356 (lv_at hl 1 rfl) ?_
    refine lv_if_ne (tgt := 1373) hx hb dL_law_1358 (by decide) (fun c_ => absurd (rfl) c_) (fun _ => ?_)
    refine lv_aload_n hx hb dL_law_1361 rfl (lv_at hl 5 rfl) ?_
    refine lv_iconst (v := nI 0) hx hb dL_law_1362 (by decide) ?_
    refine va_lald hx hb hK hP (xC T u1.1 u1.2.1 M).length 4 x_lget2 rfl (vp_in_nI (n := 0) (N := 1) (by decide) (by decide)) dL_law_1363 ?_
    refine x_topl (y := r2.toInt64) (hk3) ?_
    refine lv_iload hx hb dL_law_1364 (lv_at hl 0 rfl) ?_
    refine lv_i2l hx hb dL_law_1366 rfl ?_
    refine x_lcmp0 hx hb dL_law_1367 ?_
    refine lv_if_eq (tgt := 1373) hx hb dL_law_1368 (by decide) (fun _ => ?_) (fun c_ => absurd (rfl) c_)
    refine lv_goto (tgt := 1431) hx hb dL_law_1373 (by decide) ?_
    refine W.widen (k := ce + 90) (n := sl + 547) (by omega) (by omega) ?_
    exact kk _ _ _ _ _ _ _ hx1 (xI_s hI hj) hP hD hS ls (lv_sub hl [2, 3, 4, 5, 6] rfl)
  · refine lv_icmp_eq (tgt := 1356) hx hb dL_law_1351 (by decide) (fun _ => ?_) (fun c_ => absurd (rfl) c_)
    refine lv_iload hx hb dL_law_1356 (lv_at hl 1 rfl) ?_
    refine lv_if_ne (tgt := 1373) hx hb dL_law_1358 (by decide) (fun _ => ?_) (fun c_ => absurd c_ (by decide))
    refine lv_goto (tgt := 1431) hx hb dL_law_1373 (by decide) ?_
    refine W.widen (k := ce + 90) (n := sl + 547) (by omega) (by omega) ?_
    exact kk _ _ _ _ _ _ _ hx1 (xI_s hI hj) hP hD hS ls (lv_sub hl [2, 3, 4, 5, 6] rfl)
end XLW
