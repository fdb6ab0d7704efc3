section XLW1
/-! THE CLAIM OUT OF ONE WALK OF THE LAW'S BODY. Your part is whole_start (and what it stands on); all else here is the same for every law, but numbers. -/
def R_law : String := "CardFansLaw"
def lw_P (b : Addr) (xs : List Int32) (args : Array Value) (s : State) : Prop := args = #[.ref b] ∧ s.IntsAt b xs ∧ xs.length ≤ 260 ∧ (Jvm.Cond.and given_1 narrow_1).before args s = true
/-- what a walk over the start with the record d0 says of its end, said of the start itself -/
theorem lw_closed {s t : State} {o : Outcome} {d0 : Drawn} {L : List Loc} {k n : Nat} (hd0 : s.drawn.sameBut d0 lw_cs) (hv : ∃ v, o = .returned v) (hW : (s.setDrawn d0).WarmedH t.vm) (hs : (s.setDrawn d0).sameButNew ({ t with vm := s.vm } : State) L k n) : State.butDraws s t lw_cs (fun t1 => Framed s o t1 L k n) := by
  have h2 : t.drawn = d0 := congrArg State.drawn hs.1
  refine ⟨⟨hv, hW, State.sameButNew.setDrawn hs s.drawn⟩, ?_, by decide⟩
  rw [h2]
  exact hd0
def lw_Q (_ : Array Value) (s : State) (o : Outcome) (t : State) : Prop := o = .returned (some (.int 1)) ∧ State.butDraws s t lw_cs (fun t1 => Framed s o t1 [] 600130 7301080)
def lw_Z (below : List Frame) (a : Array Value) (s : State) : State → Prop := fun t => ∃ o, t.status = .running ∧ Ended t below o ∧ lw_Q a s o t
/-- the law's own end, with 1 on the stack, nothing written that was there before, its room as the claim has it; d0: the record of draws at this point (at the entry s.drawn: begin with 'refine W.base ?_' and 'have hd0 := Drawn.sameBut.refl s.drawn lw_cs') -/
theorem lw_ret {p : Program} {l : Launch} {e : Env} {s : State} {m : MethodId} {below : List Frame} {meth : Method} {c : Code} {b : Nat} {d0 : Drawn} (hd0 : s.drawn.sameBut d0 lw_cs) (hx : p.tables.exec = Jvm.exec) (hb : c.code = code) (hr : meth.sig.returnType = ret) (hlocks : meth.locks = false) {pc : Nat} {H : Heap} {ls : Array Slot} (hdg : decode code pc = .ok (.ireturn, 1)) : W p l e room_1 (s.setDrawn d0) m #[Value.ref b] below meth c H [] 600130 7301080 (lw_Z below #[Value.ref b] s) (F0 m pc ls [.int 1]) := by
  intro T hT X
  obtain ⟨fs, hret, hrun, hended, hW, hframe⟩ := X.leave (v := some (.int 1)) (hlocks := hlocks) (fun h => by rw [hr] at h; cases h)
  have hmeth' : T.vm.method? m = some meth := X.method'
  refine ⟨T.setFrames fs, ?_, .returned (some (.int 1)), hrun, hended, rfl, lw_closed hd0 ⟨_, rfl⟩ hW hframe⟩
  jvm_step X.here [X.here.top, hx, hb, hdg, hmeth', hr, ret, narrow_b1]
  (try refine ⟨rfl, ?_⟩); (try refine ⟨rfl, ?_⟩)
  first | (intro acts; rw [hret _ acts rfl rfl rfl]) | rw [hret _ _ rfl rfl rfl]
  exact Steps.refl _
/-- what holds at the law's entry: the machine, the code, the tables' words (any of lw_tbl by 'hts w (by decide +kernel)'), the script of L ints xs at the cell b, what the Statement gives of the start (any of its parts by flat_of_before) -/
def lw_At (p : Program) (s : State) (m : MethodId) (meth : Method) (c : Code) (b L : Nat) (xs : Nat → Int32) : Prop :=
  p.tables.exec = Jvm.exec ∧ c.code = code ∧ meth.sig.returnType = ret ∧ c.maxLocals = 24 ∧ s.vm.findClass R_law = some m.cls ∧ (∀ w ∈ lw_tbl, w.before #[Value.ref b] s = true) ∧ va_X b L xs s s.heap ∧ b < s.heap.size ∧ meth.locks = false ∧ (Jvm.Cond.and given_1 narrow_1).before #[Value.ref b] s = true
section
variable {p : Program} {l : Launch} {e : Env} {R : Room} {s : State} {m : MethodId} {args : Array Value} {below : List Frame} {meth : Method} {c : Code} {H : Heap} {locs : List Loc} {cells slots : Nat} {Q : State → Prop} {pc : Nat} {ls : Array Slot} {rest : List Value}
/-- two equal longs -/
theorem x_lcmp0 {cc : ByteArray} (hexec : p.tables.exec = Jvm.exec) (hb : c.code = cc) {x : Int64} (hdg : decode cc pc = .ok (.lcmp, 1))
    (k : W p l e R s m args below meth c H locs cells slots Q (F0 m (pc + 1) ls (.int 0 :: rest))) : W p l e R s m args below meth c H locs cells slots Q (F0 m pc ls (.long x :: .long x :: rest)) := by
  intro T hT X
  obtain ⟨t, a, b⟩ := k T hT X
  refine ⟨t, ?_, b⟩
  jvm_step X.here [X.here.top, hexec, hb, hdg]
  exact a
end
/-- what stands round the law -/
def xLC (p : Program) (l : Launch) (s : State) (m : MethodId) (meth : Method) (c : Code) (b L : Nat) (xs : Nat → Int32) (G : va_G) (T : Nat → ClassId) : Prop :=
  p.tables.exec = Jvm.exec ∧ c.code = cL_law ∧ meth.sig.returnType = ret ∧ c.maxLocals = 24 ∧ s.vm.findClass RL = some m.cls ∧ (∀ w ∈ wsL_law, w.before #[Value.ref b] s = true) ∧ va_X b L xs s s.heap ∧ b < s.heap.size ∧ meth.locks = false ∧ va_K G vwCl (xT T) s ∧ xB s ∧ xS (fun q : Nat => s.heap.size ≤ q) s s.heap ∧ L ≤ 260 ∧ l.stackTraces = false
theorem xft_00 (M : XM) : xft M 0 = fun _ _ => 0 := funext fun w => if_neg (Nat.not_lt_zero w)
theorem xrow_s (M : XM) (i j : Nat) : va_up (va_up (xft M i) i (xfn j (mth M i))) i (upd (va_up (xft M i) i (xfn j (mth M i)) i) j (mth M i j)) = va_up (xft M i) i (xfn (j + 1) (mth M i)) := by
  rw [xup_up, show va_up (xft M i) i (xfn j (mth M i)) i = xfn j (mth M i) from if_pos rfl, xfn_s]
theorem xrf_bd {s q : Nat} (hs : s < 16) (hq : q < 16) : 0 < xrf s q ∧ xrf s q < 64 := by
  obtain ⟨h1, h2, _⟩ := xrR_ok hs hq
  have h3 : 2 ^ (xrR s q).1 ≤ 2 ^ 4 := Nat.pow_le_pow_right (by decide) h1
  have h4 : 0 < 2 ^ (xrR s q).1 := Nat.two_pow_pos _
  unfold xrf
  omega

set_option maxHeartbeats 4000000 in
set_option maxRecDepth 100000 in
/-- the law: what each watcher thinks, kept -/
theorem L_fill {p : Program} {l : Launch} {e : Env} {s : State} {m : MethodId} {below : List Frame} {meth : Method} {c : Code} {G : va_G} {T : Nat → ClassId} {b L : Nat} {xs : Nat → Int32} (C0 : xLC p l s m meth c b L xs G T) (wn t n : Nat) (xv : Int32) (q : Nat → Nat) (ad : Nat → Nat) (sc : Nat → Nat → Int32) (M : XM) (hJ : xJ M wn n) (ce sl : Nat) (hce : ce + 152 ≤ 600130) (hsl9 : sl + 912 ≤ 7301080) (H : Heap) (locs : List Loc) (hP : va_P G vwCl (xR0 T q (xfn 0 (fun v => xtold M v 1)) (xfn 0 (fun v => xtold M v 2)) (xfn 0 (man M)) (xft M 0) ++ xC T ad sc M) H) (hD : va_D (fun q : Nat => s.heap.size ≤ q) (xR0 T q (xfn 0 (fun v => xtold M v 1)) (xfn 0 (fun v => xtold M v 2)) (xfn 0 (man M)) (xft M 0) ++ xC T ad sc M)) (hS : va_S (fun q : Nat => s.heap.size ≤ q) s.heap H locs) (ls : Array Slot) (hl : lv_has ls 24 [(0, .ref b), (1, .ref (ad 0)), (2, .int (nI wn)), (3, .int (nI t)), (4, .int xv), (5, .ref (q 0)), (6, .ref (q 1)), (7, .ref (q 2)), (8, .ref (q 3)), (9, .int (nI 0))]) (kk : ∀ (H1 : Heap) (locs1 : List Loc), va_P G vwCl (xR0 T q (xfn wn (fun v => xtold M v 1)) (xfn wn (fun v => xtold M v 2)) (xfn wn (man M)) (xft M wn) ++ xC T ad sc M) H1 → va_D (fun q : Nat => s.heap.size ≤ q) (xR0 T q (xfn wn (fun v => xtold M v 1)) (xfn wn (fun v => xtold M v 2)) (xfn wn (man M)) (xft M wn) ++ xC T ad sc M) → va_S (fun q : Nat => s.heap.size ≤ q) s.heap H1 locs1 → ∀ ls1 : Array Slot, lv_has ls1 24 [(0, .ref b), (1, .ref (ad 0)), (2, .int (nI wn)), (3, .int (nI t)), (4, .int xv), (5, .ref (q 0)), (6, .ref (q 1)), (7, .ref (q 2)), (8, .ref (q 3))] → W p l e room_1 s m #[Value.ref b] below meth c H1 locs1 (ce + 152) (sl + 912) (lw_Z below #[Value.ref b] s) (F0 m 236 ls1 [])) : W p l e room_1 s m #[Value.ref b] below meth c H locs ce sl (lw_Z below #[Value.ref b] s) (F0 m 156 ls []) := by
  obtain ⟨hx, hb, hr, hml, hown, hts, hX, hbl, hlocks, hK, hXB, hZ, hL9, hsl⟩ := C0
  have hA : ∀ q : Nat, s.heap.size ≤ q → (fun q : Nat => s.heap.size ≤ q) q := fun _ h => h
  have hbA : ¬ (fun q : Nat => s.heap.size ≤ q) b := Nat.not_le.mpr hbl
  generalize hAe : (fun q : Nat => s.heap.size ≤ q) = A at hA hbA hZ hD hS kk
  have hI := hJ.1
  have hn4 : mnw M ≤ 4 := hI.1
  have hnw : mnw M = wn := hJ.2.1
  have hnp : mnp M = 2 := hJ.2.2.1
  have hsh := hI.2.2.2.2.1
  have hsur := hI.2.2.2.1
  have hm4 : mnp M ≤ 4 := hI.2.1
  have hW4 := xJ_4 hJ
  refine W.widen (k := ce + 38 * 0) (n := sl + 228 * 0) (by omega) (by omega) ?_
  suffices LP1 : ∀ (n1 : Nat) (i : Nat), (i ≤ wn) → (wn < i + n1) → ∀ (H : Heap) (locs : List Loc), va_P G vwCl (xR0 T q (xfn i (fun v => xtold M v 1)) (xfn i (fun v => xtold M v 2)) (xfn i (man M)) (xft M i) ++ xC T ad sc M) H → va_D A (xR0 T q (xfn i (fun v => xtold M v 1)) (xfn i (fun v => xtold M v 2)) (xfn i (man M)) (xft M i) ++ xC T ad sc M) → va_S A s.heap H locs → ∀ (ls : Array Slot), lv_has ls 24 [(0, .ref b), (1, .ref (ad 0)), (2, .int (nI wn)), (3, .int (nI t)), (4, .int xv), (5, .ref (q 0)), (6, .ref (q 1)), (7, .ref (q 2)), (8, .ref (q 3)), (9, .int (nI i))] → W p l e room_1 s m #[Value.ref b] below meth c H locs (ce + 38 * i) (sl + 228 * i) (lw_Z below #[Value.ref b] s) (F0 m 156 ls []) from LP1 (wn + 1) 0 (by omega) (by omega) _ _ hP hD hS ls (lv_sub hl [0, 1, 2, 3, 4, 5, 6, 7, 8, 9] rfl)
  clear hP hD hS hl
  intro n1
  induction n1 with
  | zero => intro i hi hn1 H locs _ _ _ ls _; exfalso; omega
  | succ n1 ih1 =>
    intro i hi hn1 H locs hP hD hS ls hl
    refine lv_iload hx hb dL_law_156 (lv_at hl 9 rfl) ?_
    refine lv_iload_n hx hb dL_law_158 rfl (lv_at hl 2 rfl) ?_
    by_cases hc : i < wn
    · have hi4 : i < 4 := by omega
      have hiw : i < mnw M := by omega
      refine lv_icmp_ge (tgt := 236) hx hb dL_law_159 (by decide) (fun c_ => absurd c_ (nI_ge hc (by omega))) (fun _ => ?_)
      refine lv_aload hx hb dL_law_162 (lv_at hl 5 rfl) ?_
      refine lv_iload hx hb dL_law_164 (lv_at hl 9 rfl) ?_
      refine lv_aload_n hx hb dL_law_166 rfl (lv_at hl 1 rfl) ?_
      refine lv_iload hx hb dL_law_167 (lv_at hl 9 rfl) ?_
      refine lv_iconst (v := nI 1) hx hb dL_law_169 (by decide) ?_
      refine x_calliB (va_runV (As := [.int (nI i), .int (nI 1)]) (rest := [.int (nI i), .ref (q 0)]) ⟨hx, hb, hml, hown, hts⟩ (k_watcher l hsl G T _ ad sc M i 1 hn4 hsh hiw (by decide)) (cwV 2 hts gL_law_X3_watcher rfl rfl rfl (by decide +kernel) ⟨Nat.le_of_ble_eq_true rfl, Nat.le_of_ble_eq_true rfl⟩) (x_preVB (wc := (xC T ad sc M)) (wr := (xR0 T q (xfn i (fun v => xtold M v 1)) (xfn i (fun v => xtold M v 2)) (xfn i (man M)) (xft M i))) hK hP hD hS hA hXB hZ _ _ 0 3 rfl rfl) rfl rfl hl.1 rfl (lv_room (Nat.le_of_ble_eq_true rfl)) dL_law_170 ⟨show ce + 38 * i + 2 ≤ 600130 by omega, show sl + 228 * i + 12 ≤ 7301080 by omega⟩) hP hD hS hA (fun _ _ _ => xd_self (xC_fst T ad sc _ M _ rfl rfl) (xd_r hD)) (fun r1 u1 H locs hw1 hP hD hS => ?_)
      have hP : va_P G vwCl (xR0 T q (xfn i (fun v => xtold M v 1)) (xfn i (fun v => xtold M v 2)) (xfn i (man M)) (xft M i) ++ xC T ad sc M) H := hP
      have hD : va_D A (xR0 T q (xfn i (fun v => xtold M v 1)) (xfn i (fun v => xtold M v 2)) (xfn i (man M)) (xft M i) ++ xC T ad sc M) := hD
      subst hw1
      refine x_iast hx hb hK hP hD hS (0) 0 (f := (xfn i (fun v => xtold M v 1))) (n := 4) rfl rfl hi4 (by decide) dL_law_173 (fun H locs hP hD hS => ?_)
      have hP : va_P G vwCl (xR0 T q (upd (xfn i (fun v => xtold M v 1)) i (xtold M i 1)) (xfn i (fun v => xtold M v 2)) (xfn i (man M)) (xft M i) ++ xC T ad sc M) H := hP
      have hD : va_D A (xR0 T q (upd (xfn i (fun v => xtold M v 1)) i (xtold M i 1)) (xfn i (fun v => xtold M v 2)) (xfn i (man M)) (xft M i) ++ xC T ad sc M) := hD
      rw [xfn_s i (fun v => xtold M v 1)] at hP hD
      refine lv_aload hx hb dL_law_174 (lv_at hl 6 rfl) ?_
      refine lv_iload hx hb dL_law_176 (lv_at hl 9 rfl) ?_
      refine lv_aload_n hx hb dL_law_178 rfl (lv_at hl 1 rfl) ?_
      refine lv_iload hx hb dL_law_179 (lv_at hl 9 rfl) ?_
      refine lv_iconst (v := nI 2) hx hb dL_law_181 (by decide) ?_
      refine x_calliB (va_runV (As := [.int (nI i), .int (nI 2)]) (rest := [.int (nI i), .ref (q 1)]) ⟨hx, hb, hml, hown, hts⟩ (k_watcher l hsl G T _ ad sc M i 2 hn4 hsh hiw (by decide)) (cwV 2 hts gL_law_X3_watcher rfl rfl rfl (by decide +kernel) ⟨Nat.le_of_ble_eq_true rfl, Nat.le_of_ble_eq_true rfl⟩) (x_preVB (wc := (xC T ad sc M)) (wr := (xR0 T q (xfn (i + 1) (fun v => xtold M v 1)) (xfn i (fun v => xtold M v 2)) (xfn i (man M)) (xft M i))) hK hP hD hS hA hXB hZ _ _ 0 3 rfl rfl) rfl rfl hl.1 rfl (lv_room (Nat.le_of_ble_eq_true rfl)) dL_law_182 ⟨show (ce + 38 * i + 2) + 2 ≤ 600130 by omega, show (sl + 228 * i + 12) + 12 ≤ 7301080 by omega⟩) hP hD hS hA (fun _ _ _ => xd_self (xC_fst T ad sc _ M _ rfl rfl) (xd_r hD)) (fun r1 u1 H locs hw1 hP hD hS => ?_)
      have hP : va_P G vwCl (xR0 T q (xfn (i + 1) (fun v => xtold M v 1)) (xfn i (fun v => xtold M v 2)) (xfn i (man M)) (xft M i) ++ xC T ad sc M) H := hP
      have hD : va_D A (xR0 T q (xfn (i + 1) (fun v => xtold M v 1)) (xfn i (fun v => xtold M v 2)) (xfn i (man M)) (xft M i) ++ xC T ad sc M) := hD
      subst hw1
      refine x_iast hx hb hK hP hD hS (1) 0 (f := (xfn i (fun v => xtold M v 2))) (n := 4) rfl rfl hi4 (by decide) dL_law_185 (fun H locs hP hD hS => ?_)
      have hP : va_P G vwCl (xR0 T q (xfn (i + 1) (fun v => xtold M v 1)) (upd (xfn i (fun v => xtold M v 2)) i (xtold M i 2)) (xfn i (man M)) (xft M i) ++ xC T ad sc M) H := hP
      have hD : va_D A (xR0 T q (xfn (i + 1) (fun v => xtold M v 1)) (upd (xfn i (fun v => xtold M v 2)) i (xtold M i 2)) (xfn i (man M)) (xft M i) ++ xC T ad sc M) := hD
      rw [xfn_s i (fun v => xtold M v 2)] at hP hD
      refine lv_aload hx hb dL_law_186 (lv_at hl 7 rfl) ?_
      refine lv_iload hx hb dL_law_188 (lv_at hl 9 rfl) ?_
      refine lv_aload_n hx hb dL_law_190 rfl (lv_at hl 1 rfl) ?_
      refine lv_iload hx hb dL_law_191 (lv_at hl 9 rfl) ?_
      refine lv_iconst (v := nI 4) hx hb dL_law_193 (by decide) ?_
      refine x_calliB (va_runV (As := [.int (nI i), .int (nI 4)]) (rest := [.int (nI i), .ref (q 2)]) ⟨hx, hb, hml, hown, hts⟩ (k_watcher l hsl G T _ ad sc M i 4 hn4 hsh hiw (by decide)) (cwV 2 hts gL_law_X3_watcher rfl rfl rfl (by decide +kernel) ⟨Nat.le_of_ble_eq_true rfl, Nat.le_of_ble_eq_true rfl⟩) (x_preVB (wc := (xC T ad sc M)) (wr := (xR0 T q (xfn (i + 1) (fun v => xtold M v 1)) (xfn (i + 1) (fun v => xtold M v 2)) (xfn i (man M)) (xft M i))) hK hP hD hS hA hXB hZ _ _ 0 3 rfl rfl) rfl rfl hl.1 rfl (lv_room (Nat.le_of_ble_eq_true rfl)) dL_law_194 ⟨show ((ce + 38 * i + 2) + 2) + 2 ≤ 600130 by omega, show ((sl + 228 * i + 12) + 12) + 12 ≤ 7301080 by omega⟩) hP hD hS hA (fun _ _ _ => xd_self (xC_fst T ad sc _ M _ rfl rfl) (xd_r hD)) (fun r1 u1 H locs hw1 hP hD hS => ?_)
      have hP : va_P G vwCl (xR0 T q (xfn (i + 1) (fun v => xtold M v 1)) (xfn (i + 1) (fun v => xtold M v 2)) (xfn i (man M)) (xft M i) ++ xC T ad sc M) H := hP
      have hD : va_D A (xR0 T q (xfn (i + 1) (fun v => xtold M v 1)) (xfn (i + 1) (fun v => xtold M v 2)) (xfn i (man M)) (xft M i) ++ xC T ad sc M) := hD
      have hw1 : r1 = man M i := hw1
      subst hw1
      refine x_iast hx hb hK hP hD hS (2) 0 (f := (xfn i (man M))) (n := 4) rfl rfl hi4 (by decide) dL_law_197 (fun H locs hP hD hS => ?_)
      have hP : va_P G vwCl (xR0 T q (xfn (i + 1) (fun v => xtold M v 1)) (xfn (i + 1) (fun v => xtold M v 2)) (upd (xfn i (man M)) i (man M i)) (xft M i) ++ xC T ad sc M) H := hP
      have hD : va_D A (xR0 T q (xfn (i + 1) (fun v => xtold M v 1)) (xfn (i + 1) (fun v => xtold M v 2)) (upd (xfn i (man M)) i (man M i)) (xft M i) ++ xC T ad sc M) := hD
      rw [xfn_s i (man M), ← xft_0 M i] at hP hD
      refine lv_iconst (v := nI 0) hx hb dL_law_198 (by decide) ?_
      refine lv_istore (lv' := [(10, .int (nI 0)), (0, .ref b), (1, .ref (ad 0)), (2, .int (nI wn)), (3, .int (nI t)), (4, .int xv), (5, .ref (q 0)), (6, .ref (q 1)), (7, .ref (q 2)), (8, .ref (q 3)), (9, .int (nI i))]) hx hb dL_law_199 hl (by decide) rfl (fun ls hl => ?_)
      refine W.widen (k := ce + 38 * i + 6 + 2 * 0) (n := sl + 228 * i + 36 + 12 * 0) (by omega) (by omega) ?_
      suffices LP2 : ∀ (n2 : Nat) (j : Nat), (j ≤ 16) → (16 < j + n2) → ∀ (H : Heap) (locs : List Loc), va_P G vwCl (xR0 T q (xfn (i + 1) (fun v => xtold M v 1)) (xfn (i + 1) (fun v => xtold M v 2)) (xfn (i + 1) (man M)) (va_up (xft M i) i (xfn j (mth M i))) ++ xC T ad sc M) H → va_D A (xR0 T q (xfn (i + 1) (fun v => xtold M v 1)) (xfn (i + 1) (fun v => xtold M v 2)) (xfn (i + 1) (man M)) (va_up (xft M i) i (xfn j (mth M i))) ++ xC T ad sc M) → va_S A s.heap H locs → ∀ (ls : Array Slot), lv_has ls 24 [(0, .ref b), (1, .ref (ad 0)), (2, .int (nI wn)), (3, .int (nI t)), (4, .int xv), (5, .ref (q 0)), (6, .ref (q 1)), (7, .ref (q 2)), (8, .ref (q 3)), (9, .int (nI i)), (10, .int (nI j))] → W p l e room_1 s m #[Value.ref b] below meth c H locs (ce + 38 * i + 6 + 2 * j) (sl + 228 * i + 36 + 12 * j) (lw_Z below #[Value.ref b] s) (F0 m 201 ls []) from LP2 17 0 (by decide) (by decide) _ _ hP hD hS ls (lv_sub hl [1, 2, 3, 4, 5, 6, 7, 8, 9, 10, 0] rfl)
      clear hP hD hS hl
      intro n2
      induction n2 with
      | zero => intro j hj hn2 H locs _ _ _ ls _; exfalso; omega
      | succ n2 ih2 =>
        intro j hj hn2 H locs hP hD hS ls hl
        refine lv_iload hx hb dL_law_201 (lv_at hl 10 rfl) ?_
        refine lv_bipush (v := nI 16) hx hb dL_law_203 (by decide) ?_
        by_cases hc2 : j < 16
        · refine lv_icmp_ge (tgt := 230) hx hb dL_law_205 (by decide) (fun c_ => absurd c_ (nI_ge hc2 (by omega))) (fun _ => ?_)
          refine lv_aload hx hb dL_law_208 (lv_at hl 8 rfl) ?_
          refine lv_iload hx hb dL_law_210 (lv_at hl 9 rfl) ?_
          refine x_aaldA hx hb hK hP 3 3 rfl rfl hi4 (by decide) dL_law_212 (xrow_ref hi4) ?_
          refine lv_iload hx hb dL_law_213 (lv_at hl 10 rfl) ?_
          refine lv_aload_n hx hb dL_law_215 rfl (lv_at hl 1 rfl) ?_
          refine lv_iload hx hb dL_law_216 (lv_at hl 9 rfl) ?_
          refine lv_iload hx hb dL_law_218 (lv_at hl 10 rfl) ?_
          refine x_calliB (va_runV (As := [.int (nI i), .int (nI j)]) (rest := [.int (nI j), .ref (q (4 + i))]) ⟨hx, hb, hml, hown, hts⟩ (k_thinks l hsl G T _ ad sc M i j hn4 hiw hc2) (cwV 2 hts gL_law_X3_thinks rfl rfl rfl (by decide +kernel) ⟨Nat.le_of_ble_eq_true rfl, Nat.le_of_ble_eq_true rfl⟩) (x_preVB (wc := (xC T ad sc M)) (wr := (xR0 T q (xfn (i + 1) (fun v => xtold M v 1)) (xfn (i + 1) (fun v => xtold M v 2)) (xfn (i + 1) (man M)) (va_up (xft M i) i (xfn j (mth M i))))) hK hP hD hS hA hXB hZ _ _ 0 3 rfl rfl) rfl rfl hl.1 rfl (lv_room (Nat.le_of_ble_eq_true rfl)) dL_law_220 ⟨show ce + 38 * i + 6 + 2 * j + 2 ≤ 600130 by omega, show sl + 228 * i + 36 + 12 * j + 12 ≤ 7301080 by omega⟩) hP hD hS hA (fun _ _ _ => xd_self (xC_fst T ad sc _ M _ rfl rfl) (xd_r hD)) (fun r1 u1 H locs hw1 hP hD hS => ?_)
          have hP : va_P G vwCl (xR0 T q (xfn (i + 1) (fun v => xtold M v 1)) (xfn (i + 1) (fun v => xtold M v 2)) (xfn (i + 1) (man M)) (va_up (xft M i) i (xfn j (mth M i))) ++ xC T ad sc M) H := hP
          have hD : va_D A (xR0 T q (xfn (i + 1) (fun v => xtold M v 1)) (xfn (i + 1) (fun v => xtold M v 2)) (xfn (i + 1) (man M)) (va_up (xft M i) i (xfn j (mth M i))) ++ xC T ad sc M) := hD
          subst hw1
          refine x_iast hx hb hK hP hD hS (4 + i) 0 (f := (va_up (xft M i) i (xfn j (mth M i)) i)) (n := 16) (xR0_row hi4) rfl hc2 (by decide) dL_law_223 (fun H locs hP hD hS => ?_)
          rw [xR0_rset hi4, xrow_s] at hP hD
          refine lv_iinc (v := nI (j + 1)) (lv' := [(10, .int (nI (j + 1))), (0, .ref b), (1, .ref (ad 0)), (2, .int (nI wn)), (3, .int (nI t)), (4, .int xv), (5, .ref (q 0)), (6, .ref (q 1)), (7, .ref (q 2)), (8, .ref (q 3)), (9, .int (nI i))]) hx hb dL_law_224 hl (k := 10) rfl (x_inc _) (by decide) rfl (fun ls hl => ?_)
          refine lv_goto (tgt := 201) hx hb dL_law_227 (by decide) ?_
          refine W.widen (k := ce + 38 * i + 6 + 2 * (j + 1)) (n := sl + 228 * i + 36 + 12 * (j + 1)) (by omega) (by omega) ?_
          exact ih2 (j + 1) (by omega) (by omega) _ _ hP hD hS ls (lv_sub hl [1, 2, 3, 4, 5, 6, 7, 8, 9, 10, 0] rfl)
        · refine lv_icmp_ge (tgt := 230) hx hb dL_law_205 (by decide) (fun _ => ?_) (fun c_ => absurd (nI_le (by omega) (by omega)) c_)
          rw [show j = 16 by omega, xft_s] at hP hD
          refine lv_iinc (v := nI (i + 1)) (lv' := [(9, .int (nI (i + 1))), (0, .ref b), (1, .ref (ad 0)), (2, .int (nI wn)), (3, .int (nI t)), (4, .int xv), (5, .ref (q 0)), (6, .ref (q 1)), (7, .ref (q 2)), (8, .ref (q 3)), (10, .int (nI j))]) hx hb dL_law_230 hl (k := 9) rfl (x_inc _) (by decide) rfl (fun ls hl => ?_)
          refine lv_goto (tgt := 156) hx hb dL_law_233 (by decide) ?_
          refine W.widen (k := ce + 38 * (i + 1)) (n := sl + 228 * (i + 1)) (by omega) (by omega) ?_
          exact ih1 (i + 1) (by omega) (by omega) _ _ hP hD hS ls (lv_sub hl [1, 2, 3, 4, 5, 6, 7, 8, 9, 0] rfl)
    · refine lv_icmp_ge (tgt := 236) hx hb dL_law_159 (by decide) (fun _ => ?_) (fun c_ => absurd (nI_le (by omega) (by omega)) c_)
      rw [show i = wn by omega] at hP hD
      refine W.widen (k := ce + 152) (n := sl + 912) (by omega) (by omega) ?_
      exact kk _ _ hP hD hS ls (lv_sub hl [0, 1, 2, 3, 4, 5, 6, 7, 8] rfl)

set_option maxHeartbeats 4000000 in
set_option maxRecDepth 100000 in
/-- the law: the pack, kept -/
theorem L_pack {p : Program} {l : Launch} {e : Env} {s : State} {m : MethodId} {below : List Frame} {meth : Method} {c : Code} {G : va_G} {T : Nat → ClassId} {b L : Nat} {xs : Nat → Int32} (C0 : xLC p l s m meth c b L xs G T) (wn t : Nat) (xv : Int32) (q : Nat → Nat) (pk : Nat) (RR : va_W) (ad : Nat → Nat) (sc : Nat → Nat → Int32) (M : XM)  (ce sl : Nat) (hce : ce + 16 ≤ 600130) (hsl9 : sl + 96 ≤ 7301080) (H : Heap) (locs : List Loc) (hP : va_P G vwCl (((pk, .inl (T 0, 16, .inl (xfn 0 (mpk M)))) :: RR) ++ xC T ad sc M) H) (hD : va_D (fun q : Nat => s.heap.size ≤ q) (((pk, .inl (T 0, 16, .inl (xfn 0 (mpk M)))) :: RR) ++ xC T ad sc M)) (hS : va_S (fun q : Nat => s.heap.size ≤ q) s.heap H locs) (ls : Array Slot) (hl : lv_has ls 24 [(0, .ref b), (1, .ref (ad 0)), (2, .int (nI wn)), (3, .int (nI t)), (4, .int xv), (5, .ref (q 0)), (6, .ref (q 1)), (7, .ref (q 2)), (8, .ref (q 3)), (9, .ref pk), (10, .int (nI 0))]) (kk : ∀ (H1 : Heap) (locs1 : List Loc), va_P G vwCl (((pk, .inl (T 0, 16, .inl (xfn 16 (mpk M)))) :: RR) ++ xC T ad sc M) H1 → va_D (fun q : Nat => s.heap.size ≤ q) (((pk, .inl (T 0, 16, .inl (xfn 16 (mpk M)))) :: RR) ++ xC T ad sc M) → va_S (fun q : Nat => s.heap.size ≤ q) s.heap H1 locs1 → ∀ ls1 : Array Slot, lv_has ls1 24 [(0, .ref b), (1, .ref (ad 0)), (2, .int (nI wn)), (3, .int (nI t)), (4, .int xv), (5, .ref (q 0)), (6, .ref (q 1)), (7, .ref (q 2)), (8, .ref (q 3)), (9, .ref pk)] → W p l e room_1 s m #[Value.ref b] below meth c H1 locs1 (ce + 16) (sl + 96) (lw_Z below #[Value.ref b] s) (F0 m 269 ls1 [])) : W p l e room_1 s m #[Value.ref b] below meth c H locs ce sl (lw_Z below #[Value.ref b] s) (F0 m 245 ls []) := by
  obtain ⟨hx, hb, hr, hml, hown, hts, hX, hbl, hlocks, hK, hXB, hZ, hL9, hsl⟩ := C0
  have hA : ∀ q : Nat, s.heap.size ≤ q → (fun q : Nat => s.heap.size ≤ q) q := fun _ h => h
  have hbA : ¬ (fun q : Nat => s.heap.size ≤ q) b := Nat.not_le.mpr hbl
  generalize hAe : (fun q : Nat => s.heap.size ≤ q) = A at hA hbA hZ hD hS kk
  refine W.widen (k := ce + 1 * 0) (n := sl + 6 * 0) (by omega) (by omega) ?_
  suffices LP1 : ∀ (n1 : Nat) (k : Nat), (k ≤ 16) → (16 < k + n1) → ∀ (H : Heap) (locs : List Loc), va_P G vwCl (((pk, .inl (T 0, 16, .inl (xfn k (mpk M)))) :: RR) ++ xC T ad sc M) H → va_D A (((pk, .inl (T 0, 16, .inl (xfn k (mpk M)))) :: RR) ++ xC T ad sc M) → va_S A s.heap H locs → ∀ (ls : Array Slot), lv_has ls 24 [(0, .ref b), (1, .ref (ad 0)), (2, .int (nI wn)), (3, .int (nI t)), (4, .int xv), (5, .ref (q 0)), (6, .ref (q 1)), (7, .ref (q 2)), (8, .ref (q 3)), (9, .ref pk), (10, .int (nI k))] → W p l e room_1 s m #[Value.ref b] below meth c H locs (ce + 1 * k) (sl + 6 * k) (lw_Z below #[Value.ref b] s) (F0 m 245 ls []) from LP1 17 0 (by decide) (by decide) _ _ hP hD hS ls (lv_sub hl [0, 1, 2, 3, 4, 5, 6, 7, 8, 9, 10] rfl)
  clear hP hD hS hl
  intro n1
  induction n1 with
  | zero => intro k hk hn1 H locs _ _ _ ls _; exfalso; omega
  | succ n1 ih1 =>
    intro k hk hn1 H locs hP hD hS ls hl
    refine lv_iload hx hb dL_law_245 (lv_at hl 10 rfl) ?_
    refine lv_bipush (v := nI 16) hx hb dL_law_247 (by decide) ?_
    by_cases hc : k < 16
    · refine lv_icmp_ge (tgt := 269) hx hb dL_law_249 (by decide) (fun c_ => absurd c_ (nI_ge hc (by omega))) (fun _ => ?_)
      refine lv_aload hx hb dL_law_252 (lv_at hl 9 rfl) ?_
      refine lv_iload hx hb dL_law_254 (lv_at hl 10 rfl) ?_
      refine lv_aload_n hx hb dL_law_256 rfl (lv_at hl 1 rfl) ?_
      refine lv_iload hx hb dL_law_257 (lv_at hl 10 rfl) ?_
      refine x_calliB (va_runV (As := [.int (nI k)]) (rest := [.int (nI k), .ref pk]) ⟨hx, hb, hml, hown, hts⟩ (k_card l hsl G T _ ad sc M k hc) (cwV 1 hts gL_law_X3_card rfl rfl rfl (by decide +kernel) ⟨Nat.le_of_ble_eq_true rfl, Nat.le_of_ble_eq_true rfl⟩) (x_preVB (wc := (xC T ad sc M)) (wr := (((pk, .inl (T 0, 16, .inl (xfn k (mpk M)))) :: RR))) hK hP hD hS hA hXB hZ _ _ 0 3 rfl rfl) rfl rfl hl.1 rfl (lv_room (Nat.le_of_ble_eq_true rfl)) dL_law_259 ⟨show ce + 1 * k + 1 ≤ 600130 by omega, show sl + 6 * k + 6 ≤ 7301080 by omega⟩) hP hD hS hA (fun _ _ _ => xd_self (xC_fst T ad sc _ M _ rfl rfl) (xd_r hD)) (fun r1 u1 H locs hw1 hP hD hS => ?_)
      have hP : va_P G vwCl (((pk, .inl (T 0, 16, .inl (xfn k (mpk M)))) :: RR) ++ xC T ad sc M) H := hP
      have hD : va_D A (((pk, .inl (T 0, 16, .inl (xfn k (mpk M)))) :: RR) ++ xC T ad sc M) := hD
      subst hw1
      refine x_iast hx hb hK hP hD hS (0) 0 (f := (xfn k (mpk M))) (n := 16) rfl rfl hc (by decide) dL_law_262 (fun H locs hP hD hS => ?_)
      have hP : va_P G vwCl (((pk, .inl (T 0, 16, .inl (upd (xfn k (mpk M)) k (mpk M k)))) :: RR) ++ xC T ad sc M) H := hP
      have hD : va_D A (((pk, .inl (T 0, 16, .inl (upd (xfn k (mpk M)) k (mpk M k)))) :: RR) ++ xC T ad sc M) := hD
      rw [xfn_s k (mpk M)] at hP hD
      refine lv_iinc (v := nI (k + 1)) (lv' := [(10, .int (nI (k + 1))), (0, .ref b), (1, .ref (ad 0)), (2, .int (nI wn)), (3, .int (nI t)), (4, .int xv), (5, .ref (q 0)), (6, .ref (q 1)), (7, .ref (q 2)), (8, .ref (q 3)), (9, .ref pk)]) hx hb dL_law_263 hl (k := 10) rfl (x_inc _) (by decide) rfl (fun ls hl => ?_)
      refine lv_goto (tgt := 245) hx hb dL_law_266 (by decide) ?_
      refine W.widen (k := ce + 1 * (k + 1)) (n := sl + 6 * (k + 1)) (by omega) (by omega) ?_
      exact ih1 (k + 1) (by omega) (by omega) _ _ hP hD hS ls (lv_sub hl [1, 2, 3, 4, 5, 6, 7, 8, 9, 10, 0] rfl)
    · refine lv_icmp_ge (tgt := 269) hx hb dL_law_249 (by decide) (fun _ => ?_) (fun c_ => absurd (nI_le (by omega) (by omega)) c_)
      rw [show k = 16 by omega] at hP hD
      refine W.widen (k := ce + 16) (n := sl + 96) (by omega) (by omega) ?_
      exact kk _ _ hP hD hS ls (lv_sub hl [0, 1, 2, 3, 4, 5, 6, 7, 8, 9] rfl)
end XLW1
