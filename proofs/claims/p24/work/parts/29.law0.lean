section XL0
/-! the law's arrays: what was right, what was sure, how often anew, what was thought; and the pack as it was -/
def xR0 (T : Nat → ClassId) (q : Nat → Nat) (fr fs fa : Nat → Int32) (tf : Nat → Nat → Int32) : va_W := [(q 0, .inl (T 0, 4, .inl fr)), (q 1, .inl (T 0, 4, .inl fs)), (q 2, .inl (T 0, 4, .inl fa)), (q 3, .inl (T 3, 4, .inr (.inr (.inr (.inr (fun i => if i < 4 then some (q (4 + i)) else none)))))), (q 4, .inl (T 0, 16, .inl (tf 0))), (q 5, .inl (T 0, 16, .inl (tf 1))), (q 6, .inl (T 0, 16, .inl (tf 2))), (q 7, .inl (T 0, 16, .inl (tf 3)))]
abbrev xR1 (T : Nat → ClassId) (pk : Nat) (fp : Nat → Int32) (q : Nat → Nat) (fr fs fa : Nat → Int32) (tf : Nat → Nat → Int32) : va_W := (pk, .inl (T 0, 16, .inl fp)) :: xR0 T q fr fs fa tf
theorem xR0_row {T : Nat → ClassId} {q : Nat → Nat} {fr fs fa : Nat → Int32} {tf : Nat → Nat → Int32} {X : va_W} {w : Nat} (hw : w < 4) : (xR0 T q fr fs fa tf ++ X)[4 + w]? = some (q (4 + w), .inl (T 0, 16, .inl (tf w))) := by
  rcases (show w = 0 ∨ w = 1 ∨ w = 2 ∨ w = 3 by omega) with rfl | rfl | rfl | rfl <;> rfl
theorem xR0_rset {T : Nat → ClassId} {q : Nat → Nat} {fr fs fa : Nat → Int32} {tf : Nat → Nat → Int32} {X : va_W} {w : Nat} (hw : w < 4) (g : Nat → Int32) : (xR0 T q fr fs fa tf ++ X).set (4 + w) (q (4 + w), .inl (T 0, 16, .inl g)) = xR0 T q fr fs fa (va_up tf w g) ++ X := by
  rcases (show w = 0 ∨ w = 1 ∨ w = 2 ∨ w = 3 by omega) with rfl | rfl | rfl | rfl <;> rfl
theorem xR1_row {T : Nat → ClassId} {pk : Nat} {fp : Nat → Int32} {q : Nat → Nat} {fr fs fa : Nat → Int32} {tf : Nat → Nat → Int32} {X : va_W} {w : Nat} (hw : w < 4) : (xR1 T pk fp q fr fs fa tf ++ X)[5 + w]? = some (q (4 + w), .inl (T 0, 16, .inl (tf w))) := by
  rcases (show w = 0 ∨ w = 1 ∨ w = 2 ∨ w = 3 by omega) with rfl | rfl | rfl | rfl <;> rfl
theorem xrow_ref {q : Nat → Nat} {w : Nat} (hw : w < 4) : va_rf ((fun i => if i < 4 then some (q (4 + i)) else none) w) = .ref (q (4 + w)) := by
  show va_rf (if w < 4 then some (q (4 + w)) else none) = _
  rw [if_pos hw]
  rfl
def xfn (n : Nat) (g : Nat → Int32) : Nat → Int32 := fun j => if j < n then g j else 0
theorem xfn_s (n : Nat) (g : Nat → Int32) : upd (xfn n g) n (g n) = xfn (n + 1) g := by
  funext j
  unfold upd xfn
  by_cases e : j = n
  · subst e
    rw [if_pos rfl, if_pos (Nat.lt_succ_self j)]
  · rw [if_neg e]
    by_cases h : j < n
    · rw [if_pos h, if_pos (by omega)]
    · rw [if_neg h, if_neg (by omega)]
theorem xfn_0 (g : Nat → Int32) : xfn 0 g = fun _ => 0 := rfl
theorem xfn_at {n j : Nat} (g : Nat → Int32) (h : j < n) : xfn n g j = g j := if_pos h
def xft (M : XM) (i : Nat) : Nat → Nat → Int32 := fun w => if w < i then xfn 16 (mth M w) else fun _ => 0
theorem xft_0 (M : XM) (i : Nat) : va_up (xft M i) i (xfn 0 (mth M i)) = xft M i := by
  funext w
  unfold va_up
  by_cases e : w = i
  · subst e
    rw [if_pos rfl]
    unfold xft
    rw [if_neg (Nat.lt_irrefl w)]
    rfl
  · rw [if_neg e]
theorem xft_s (M : XM) (i : Nat) : va_up (xft M i) i (xfn 16 (mth M i)) = xft M (i + 1) := by
  funext w
  unfold va_up xft
  by_cases e : w = i
  · subst e
    rw [if_pos rfl, if_pos (Nat.lt_succ_self w)]
  · rw [if_neg e]
    by_cases h : w < i
    · rw [if_pos h, if_pos (by omega)]
    · rw [if_neg h, if_neg (by omega)]
theorem xup_up (f : Nat → Nat → Int32) (i : Nat) (g h : Nat → Int32) : va_up (va_up f i g) i h = va_up f i h := by
  funext w
  unfold va_up
  by_cases e : w = i
  · rw [if_pos e, if_pos e]
  · rw [if_neg e, if_neg e, if_neg e]
theorem xft_at {M : XM} {i w k : Nat} (h : w < i) (hk : k < 16) : xft M i w k = mth M w k := by
  unfold xft
  rw [if_pos h, xfn_at _ hk]
/-- the start of the law's cell: its script is there -/
def xPreX (G : va_G) (T : Nat → ClassId) (b L : Nat) (xs : Nat → Int32) (sz : Nat) (U : State) : Prop := xPre G T [] sz U ∧ va_X b L xs U U.heap ∧ b < sz
section
variable {p : Program} {l : Launch} {e : Env} {R : Room} {s : State} {m : MethodId} {args : Array Value} {below : List Frame} {meth : Method} {c : Code} {H : Heap} {locs : List Loc} {cells slots : Nat} {Q : State → Prop} {G : va_G} {T : Nat → ClassId} {ws wc wr : va_W} {A : Nat → Prop} {pc : Nat} {ls : Array Slot} {rest st0 : List Value} {a : Array Value} {mc ms : Nat}
theorem x_preX {b L : Nat} {xs : Nat → Int32} (hK : va_K G vwCl (xT T) s) (hP : va_P G vwCl ws H) (hD : va_D A ws) (hS : va_S A s.heap H locs) (hA : ∀ q, s.heap.size ≤ q → A q) (hB : xB s) (hZ : xS A s s.heap) (hX : va_X b L xs s s.heap) (hbl : b < s.heap.size) (hbA : ¬ A b) (av : List Value) : PreS s H (va_Pc av (xPreX G T b L xs H.size)) av :=
  ⟨fun a U g mk h => by
    obtain ⟨h0, h1, h2, h3⟩ := h
    obtain ⟨g0, g1⟩ := x_blind G T [] H.size av a U g mk ⟨h0, h1⟩
    exact ⟨g0, g1, va_X.moved (u := U) (U := U.calling g mk a) (Vm.Alike.refl U.vm) h2, h3⟩, fun U hU hW => ⟨rfl, ((x_preS (wc := []) hK hP hD hS hA hB hZ [] rfl rfl av).2 U hU hW).2, by rw [hU]; exact va_X.moved hW.alike (hX.kept (hS.2.1 b hbl hbA)), Nat.lt_of_lt_of_le hbl hS.1⟩⟩
theorem x_preVB (hK : va_K G vwCl (xT T) s) (hP : va_P G vwCl (wr ++ wc) H) (hD : va_D A (wr ++ wc)) (hS : va_S A s.heap H locs) (hA : ∀ q, s.heap.size ≤ q → A q) (hB : xB s) (hZ : xS A s s.heap) (b : Nat) (As : List Value) (q0 ci : Nat) {fs : List Value} (he : (wc ++ wr)[q0]? = some (b, .inr (ci, fs))) {C : vw_C} (hc : vwCl[ci]? = some C) : PreV s H C.1 b (va_Pc (.ref b :: As) (xPre G T wc H.size)) As :=
  x_preVA hK (xp_perm List.perm_append_comm hP) (xd_perm List.perm_append_comm hD) hS hA hB hZ b As q0 ci he hc

theorem x_calliB {S : Type} {post : Int32 → S → Prop} {wv : S → va_W} (hr : va_Run p l e R s m args below meth c H locs cells slots mc ms (F0 m pc ls st0) rest (va_Qi post (fun u t => va_P G vwCl (wv u) t.heap) (va_A wc H.size) a) (va_A wc H.size)) (hP : va_P G vwCl (wr ++ wc) H) (hD : va_D A (wr ++ wc)) (hS : va_S A s.heap H locs) (hA : ∀ q, s.heap.size ≤ q → A q) (hf : ∀ (r : Int32) (u : S), post r u → va_D (va_A wc H.size) (wv u))
    (kk : ∀ (r : Int32) (u : S) (H1 : Heap) (locs1 : List Loc), post r u → va_P G vwCl (wr ++ wv u) H1 → va_D A (wr ++ wv u) → va_S A s.heap H1 locs1 → W p l e R s m args below meth c H1 locs1 (cells + mc) (slots + ms) Q (F0 m (pc + 3) ls (.int r :: rest))) : W p l e R s m args below meth c H locs cells slots Q (F0 m pc ls st0) :=
  x_calliA (wr := wr) hr (xp_perm List.perm_append_comm hP) (xd_perm List.perm_append_comm hD) hS hA hf (fun r u H1 locs1 h1 h2 h3 h4 => kk r u H1 locs1 h1 (xp_perm List.perm_append_comm h2) (xd_perm List.perm_append_comm h3) h4)
theorem x_calllB {S : Type} {post : Int64 → S → Prop} {wv : S → va_W} (hr : va_Run p l e R s m args below meth c H locs cells slots mc ms (F0 m pc ls st0) rest (va_Ql post (fun u t => va_P G vwCl (wv u) t.heap) (va_A wc H.size) a) (va_A wc H.size)) (hP : va_P G vwCl (wr ++ wc) H) (hD : va_D A (wr ++ wc)) (hS : va_S A s.heap H locs) (hA : ∀ q, s.heap.size ≤ q → A q) (hf : ∀ (r : Int64) (u : S), post r u → va_D (va_A wc H.size) (wv u))
    (kk : ∀ (r : Int64) (u : S) (H1 : Heap) (locs1 : List Loc), post r u → va_P G vwCl (wr ++ wv u) H1 → va_D A (wr ++ wv u) → va_S A s.heap H1 locs1 → W p l e R s m args below meth c H1 locs1 (cells + mc) (slots + ms) Q (F0 m (pc + 3) ls (.long r :: rest))) : W p l e R s m args below meth c H locs cells slots Q (F0 m pc ls st0) :=
  x_calllA (wr := wr) hr (xp_perm List.perm_append_comm hP) (xd_perm List.perm_append_comm hD) hS hA hf (fun r u H1 locs1 h1 h2 h3 h4 => kk r u H1 locs1 h1 (xp_perm List.perm_append_comm h2) (xd_perm List.perm_append_comm h3) h4)
theorem x_calldB {S : Type} {post : UInt64 → S → Prop} {wv : S → va_W} (hr : va_Run p l e R s m args below meth c H locs cells slots mc ms (F0 m pc ls st0) rest (va_Qd post (fun u t => va_P G vwCl (wv u) t.heap) (va_A wc H.size) a) (va_A wc H.size)) (hP : va_P G vwCl (wr ++ wc) H) (hD : va_D A (wr ++ wc)) (hS : va_S A s.heap H locs) (hA : ∀ q, s.heap.size ≤ q → A q) (hf : ∀ (r : UInt64) (u : S), post r u → va_D (va_A wc H.size) (wv u))
    (kk : ∀ (r : UInt64) (u : S) (H1 : Heap) (locs1 : List Loc), post r u → va_P G vwCl (wr ++ wv u) H1 → va_D A (wr ++ wv u) → va_S A s.heap H1 locs1 → W p l e R s m args below meth c H1 locs1 (cells + mc) (slots + ms) Q (F0 m (pc + 3) ls (.double r :: rest))) : W p l e R s m args below meth c H locs cells slots Q (F0 m pc ls st0) :=
  x_calldA (wr := wr) hr (xp_perm List.perm_append_comm hP) (xd_perm List.perm_append_comm hD) hS hA hf (fun r u H1 locs1 h1 h2 h3 h4 => kk r u H1 locs1 h1 (xp_perm List.perm_append_comm h2) (xd_perm List.perm_append_comm h3) h4)
end
set_option maxHeartbeats 4000000 in
set_option maxRecDepth 100000 in
/-- cell -/
theorem c_L_cell (l : Launch) (G : va_G) (T : Nat → ClassId) (sz : Nat) (b L k : Nat) (xs : Nat → Int32) (hL : L < 2 ^ 30) (hk : k < 2 ^ 30) : Met l yL_cell wsL_cell ({ frames := 0, cells := 0, slots := 0, locals := 0 }) (va_Pc [.ref b, .int (nI k)] (xPreX G T b L xs sz)) (va_Qi (fun (r : Int32) (u : Unit) => True) (fun u t => va_P G vwCl ([]) t.heap) (va_A ([]) sz)) 0 0 (va_A ([]) sz) := by
  refine Met.ofW (cc := cL_cell) (maxL := 2) (ret := (some .int)) (by decide +kernel) rfl ?_
  intro p e s m args below meth c s₁ B hml hv
  obtain ⟨rfl, ⟨hsz, hP, hK, hD0, hXB, hZ⟩, hX, hbl⟩ := hv
  have hx := B.exec
  have hb := B.bytes
  have hr := B.returns
  have hts := atoms_spec (ws := wsL_cell) B.pre
  have hown : s.vm.findClass RL = some m.cls := findClass_of_methodNamed B.named
  have hlocks := B.notSynchronized
  subst hsz
  have hD := hD0.self (sz := s.heap.size)
  generalize hAe : va_A ([]) s.heap.size = A at hD hZ ⊢
  have hA : ∀ q : Nat, s.heap.size ≤ q → A q := fun q h => by rw [← hAe]; exact Or.inr h
  have hS : va_S A s.heap s.heap [] := va_S.rf
  have hP : va_P G vwCl ([]) s.heap := hP
  have hl := lv_entry ([.ref b, .int (nI k)]) (n := 2) (Nat.le_of_ble_eq_true rfl)
  rw [lg_entry_eq]
  generalize (lg_sl ([.ref b, .int (nI k)]) ++ List.replicate (2 - (lg_sl ([.ref b, .int (nI k)])).length) Slot.unset).toArray = ls at hl ⊢
  have hl : lv_has ls 2 [(0, .ref b), (1, .int (nI k))] := hl
  have hbA : ¬ A b := by
    rw [← hAe]
    rintro (⟨k9, e9, h9⟩ | h9)
    · cases h9
    · exact absurd h9 (Nat.not_le.mpr hbl)
  refine lv_iload_n hx hb dL_cell_0 rfl (lv_at hl 1 rfl) ?_
  refine lv_aload_n hx hb dL_cell_1 rfl (lv_at hl 0 rfl) ?_
  refine va_slen hx hb hX hbl hbA hS dL_cell_2 ?_
  by_cases hc : k < L
  · refine lv_icmp_ge (tgt := 12) hx hb dL_cell_3 (by decide) (fun c_ => absurd c_ (nI_ge hc (by omega))) (fun _ => ?_)
    refine lv_aload_n hx hb dL_cell_6 rfl (lv_at hl 0 rfl) ?_
    refine lv_iload_n hx hb dL_cell_7 rfl (lv_at hl 1 rfl) ?_
    refine va_sld hx hb hX hbl hbA hS (vp_in_nI (n := k) (N := L) hc (by omega)) dL_cell_8 ?_
    refine lv_goto (tgt := 18) hx hb dL_cell_9 (by decide) ?_
    exact W.iret (v := _) hx hb hr (fun t9_ ht hW => ⟨⟨_, (), rfl, trivial, x_at ht hP⟩, hS.F ht⟩) hS.2.2 dL_cell_18
  · refine lv_icmp_ge (tgt := 12) hx hb dL_cell_3 (by decide) (fun _ => ?_) (fun c_ => absurd (nI_le (by omega) (by omega)) c_)
    refine lv_ldc (v := nI 790386105) hx hb hown (hts (.constant RL 8 (790386105)) (by decide +kernel)) dL_cell_12 ?_
    refine lv_iload_n hx hb dL_cell_14 rfl (lv_at hl 1 rfl) ?_
    refine lv_iconst (v := nI 3) hx hb dL_cell_15 (by decide) ?_
    refine lv_iadd hx hb dL_cell_16 ?_
    refine lv_imul hx hb dL_cell_17 ?_
    exact W.iret (v := _) hx hb hr (fun t9_ ht hW => ⟨⟨_, (), rfl, trivial, x_at ht hP⟩, hS.F ht⟩) hS.2.2 dL_cell_18

set_option maxHeartbeats 4000000 in
set_option maxRecDepth 100000 in
/-- numberOf -/
theorem c_L_numberOf (l : Launch) (G : va_G) (T : Nat → ClassId) (sz : Nat) (kd : Nat) (y : Int32) (hkd : kd < 5) : Met l yL_numberOf wsL_numberOf ({ frames := 1, cells := 0, slots := 0, locals := 21 }) (va_Pc [.int (nI kd), .int y] (xPre G T ([]) sz)) (va_Qi (fun (r : Int32) (u : Unit) => ∃ nm, xwn kd nm = true ∧ r = nI nm) (fun u t => va_P G vwCl ([]) t.heap) (va_A ([]) sz)) 0 0 (va_A ([]) sz) := by
  refine Met.ofW (cc := cL_numberOf) (maxL := 2) (ret := (some .int)) (by decide +kernel) rfl ?_
  intro p e s m args below meth c s₁ B hml hv
  obtain ⟨rfl, hsz, hP, hK, hD0, hXB, hZ⟩ := hv
  have hx := B.exec
  have hb := B.bytes
  have hr := B.returns
  have hts := atoms_spec (ws := wsL_numberOf) B.pre
  have hown : s.vm.findClass RL = some m.cls := findClass_of_methodNamed B.named
  have hlocks := B.notSynchronized
  subst hsz
  have hD := hD0.self (sz := s.heap.size)
  generalize hAe : va_A ([]) s.heap.size = A at hD hZ ⊢
  have hA : ∀ q : Nat, s.heap.size ≤ q → A q := fun q h => by rw [← hAe]; exact Or.inr h
  have hS : va_S A s.heap s.heap [] := va_S.rf
  have hP : va_P G vwCl ([]) s.heap := hP
  have hl := lv_entry ([.int (nI kd), .int y]) (n := 2) (Nat.le_of_ble_eq_true rfl)
  rw [lg_entry_eq]
  generalize (lg_sl ([.int (nI kd), .int y]) ++ List.replicate (2 - (lg_sl ([.int (nI kd), .int y])).length) Slot.unset).toArray = ls at hl ⊢
  have hl : lv_has ls 2 [(0, .int (nI kd)), (1, .int y)] := hl
  rcases (show kd = 0 ∨ kd = 1 ∨ kd = 2 ∨ kd = 3 ∨ kd = 4 by omega) with rfl | rfl | rfl | rfl | rfl
  · refine lv_iload_n hx hb dL_numberOf_0 rfl (lv_at hl 0 rfl) ?_
    refine lv_if_ne (tgt := 15) hx hb dL_numberOf_1 (by decide) (fun c_ => absurd (rfl) c_) (fun _ => ?_)
    refine lv_iconst (v := nI 1) hx hb dL_numberOf_4 (by decide) ?_
    refine lv_iload_n hx hb dL_numberOf_5 rfl (lv_at hl 1 rfl) ?_
    refine lv_bipush (v := nI 15) hx hb dL_numberOf_6 (by decide) ?_
    refine x_calli (va_runS (As := [.int y, .int (nI 15)]) (rest := [.int (nI 1)]) ⟨hx, hb, hml, hown, hts⟩ (c_L_below l G T _ y 15 (by decide) (by decide)) (va_cwS 2 hts gL_numberOf_L_below rfl rfl rfl (by decide +kernel) ⟨Nat.le_of_ble_eq_true rfl, Nat.le_of_ble_eq_true rfl⟩) (x_preS (wc := []) hK hP hD hS hA hXB hZ [] rfl rfl _) rfl rfl hl.1 rfl (lv_room (Nat.le_of_ble_eq_true rfl)) dL_numberOf_8 ⟨Nat.le_of_ble_eq_true rfl, Nat.le_of_ble_eq_true rfl⟩) hP hD hS hA [] rfl (fun _ _ _ => rfl) (fun r1 u1 H locs hw1 hP hD hS => ?_)
    have hP : va_P G vwCl ([]) H := hP
    have hD : va_D A ([]) := hD
    obtain ⟨b1, hb1, rfl⟩ := hw1
    refine lv_iadd hx hb dL_numberOf_11 ?_
    refine lv_goto (tgt := 32) hx hb dL_numberOf_12 (by decide) ?_
    exact W.iret (v := (nI 1 + nI b1)) hx hb hr (fun t9_ ht hW => ⟨⟨(nI 1 + nI b1), (), rfl, ⟨1 + b1, by simp [xwn]; omega, nI_add 1 b1⟩, x_at ht hP⟩, hS.F ht⟩) hS.2.2 dL_numberOf_32
  · refine lv_iload_n hx hb dL_numberOf_0 rfl (lv_at hl 0 rfl) ?_
    refine lv_if_ne (tgt := 15) hx hb dL_numberOf_1 (by decide) (fun _ => ?_) (fun c_ => absurd c_ (show ¬ nI 1 = 0 by decide))
    refine lv_iload_n hx hb dL_numberOf_15 rfl (lv_at hl 0 rfl) ?_
    refine lv_iconst (v := nI 3) hx hb dL_numberOf_16 (by decide) ?_
    refine lv_icmp_ne (tgt := 31) hx hb dL_numberOf_17 (by decide) (fun _ => ?_) (fun c_ => absurd c_ (show ¬ nI 1 = nI 3 by decide))
    refine lv_iconst (v := nI 0) hx hb dL_numberOf_31 (by decide) ?_
    exact W.iret (v := nI 0) hx hb hr (fun t9_ ht hW => ⟨⟨nI 0, (), rfl, ⟨0, rfl, rfl⟩, x_at ht hP⟩, hS.F ht⟩) hS.2.2 dL_numberOf_32
  · refine lv_iload_n hx hb dL_numberOf_0 rfl (lv_at hl 0 rfl) ?_
    refine lv_if_ne (tgt := 15) hx hb dL_numberOf_1 (by decide) (fun _ => ?_) (fun c_ => absurd c_ (show ¬ nI 2 = 0 by decide))
    refine lv_iload_n hx hb dL_numberOf_15 rfl (lv_at hl 0 rfl) ?_
    refine lv_iconst (v := nI 3) hx hb dL_numberOf_16 (by decide) ?_
    refine lv_icmp_ne (tgt := 31) hx hb dL_numberOf_17 (by decide) (fun _ => ?_) (fun c_ => absurd c_ (show ¬ nI 2 = nI 3 by decide))
    refine lv_iconst (v := nI 0) hx hb dL_numberOf_31 (by decide) ?_
    exact W.iret (v := nI 0) hx hb hr (fun t9_ ht hW => ⟨⟨nI 0, (), rfl, ⟨0, rfl, rfl⟩, x_at ht hP⟩, hS.F ht⟩) hS.2.2 dL_numberOf_32
  · refine lv_iload_n hx hb dL_numberOf_0 rfl (lv_at hl 0 rfl) ?_
    refine lv_if_ne (tgt := 15) hx hb dL_numberOf_1 (by decide) (fun _ => ?_) (fun c_ => absurd c_ (show ¬ nI 3 = 0 by decide))
    refine lv_iload_n hx hb dL_numberOf_15 rfl (lv_at hl 0 rfl) ?_
    refine lv_iconst (v := nI 3) hx hb dL_numberOf_16 (by decide) ?_
    refine lv_icmp_ne (tgt := 31) hx hb dL_numberOf_17 (by decide) (fun c_ => absurd (rfl) c_) (fun _ => ?_)
    refine lv_iconst (v := nI 2) hx hb dL_numberOf_20 (by decide) ?_
    refine lv_iload_n hx hb dL_numberOf_21 rfl (lv_at hl 1 rfl) ?_
    refine lv_bipush (v := nI 15) hx hb dL_numberOf_22 (by decide) ?_
    refine x_calli (va_runS (As := [.int y, .int (nI 15)]) (rest := [.int (nI 2)]) ⟨hx, hb, hml, hown, hts⟩ (c_L_below l G T _ y 15 (by decide) (by decide)) (va_cwS 2 hts gL_numberOf_L_below rfl rfl rfl (by decide +kernel) ⟨Nat.le_of_ble_eq_true rfl, Nat.le_of_ble_eq_true rfl⟩) (x_preS (wc := []) hK hP hD hS hA hXB hZ [] rfl rfl _) rfl rfl hl.1 rfl (lv_room (Nat.le_of_ble_eq_true rfl)) dL_numberOf_24 ⟨Nat.le_of_ble_eq_true rfl, Nat.le_of_ble_eq_true rfl⟩) hP hD hS hA [] rfl (fun _ _ _ => rfl) (fun r1 u1 H locs hw1 hP hD hS => ?_)
    have hP : va_P G vwCl ([]) H := hP
    have hD : va_D A ([]) := hD
    obtain ⟨b1, hb1, rfl⟩ := hw1
    refine lv_iadd hx hb dL_numberOf_27 ?_
    refine lv_goto (tgt := 32) hx hb dL_numberOf_28 (by decide) ?_
    exact W.iret (v := (nI 2 + nI b1)) hx hb hr (fun t9_ ht hW => ⟨⟨(nI 2 + nI b1), (), rfl, ⟨2 + b1, by simp [xwn]; omega, nI_add 2 b1⟩, x_at ht hP⟩, hS.F ht⟩) hS.2.2 dL_numberOf_32
  · refine lv_iload_n hx hb dL_numberOf_0 rfl (lv_at hl 0 rfl) ?_
    refine lv_if_ne (tgt := 15) hx hb dL_numberOf_1 (by decide) (fun _ => ?_) (fun c_ => absurd c_ (show ¬ nI 4 = 0 by decide))
    refine lv_iload_n hx hb dL_numberOf_15 rfl (lv_at hl 0 rfl) ?_
    refine lv_iconst (v := nI 3) hx hb dL_numberOf_16 (by decide) ?_
    refine lv_icmp_ne (tgt := 31) hx hb dL_numberOf_17 (by decide) (fun _ => ?_) (fun c_ => absurd c_ (show ¬ nI 4 = nI 3 by decide))
    refine lv_iconst (v := nI 0) hx hb dL_numberOf_31 (by decide) ?_
    exact W.iret (v := nI 0) hx hb hr (fun t9_ ht hW => ⟨⟨nI 0, (), rfl, ⟨0, rfl, rfl⟩, x_at ht hP⟩, hS.F ht⟩) hS.2.2 dL_numberOf_32
end XL0
