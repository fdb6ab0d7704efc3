section XF4
/-- t times a way -/
def xit (k n : Nat) : Nat → Nat → Nat
  | 0, j => j
  | t + 1, j => xit k n t (xpb k n j)
def xitc (k n t : Nat) : Bool := (List.range 16).all (fun j => xit k n t j == j)
/-- after how many times all is as it was -/
def xord (k n : Nat) : Nat := ((List.range 17).find? (fun t => decide (1 ≤ t) && xitc k n t)).getD 0
theorem xord_all : ((List.range 5).all fun k => (List.range 17).all fun n => !xwn k n || (decide (1 ≤ xord k n) && (decide (xord k n ≤ 16) && (xitc k n (xord k n) && (List.range (xord k n)).all fun t => !(decide (1 ≤ t) && xitc k n t))))) = true := by decide +kernel
theorem xord_ok {k n : Nat} (h : xwn k n = true) : 1 ≤ xord k n ∧ xord k n ≤ 16 ∧ xitc k n (xord k n) = true ∧ ∀ t, 1 ≤ t → t < xord k n → xitc k n t = false := by
  have h1 := List.all_eq_true.mp xord_all k (List.mem_range.mpr (xwn_lt h).1)
  have h2 := List.all_eq_true.mp h1 n (List.mem_range.mpr (xwn_lt h).2)
  rw [h] at h2
  simp only [Bool.not_true, Bool.false_or, Bool.and_eq_true, decide_eq_true_eq] at h2
  obtain ⟨a, b, c, d⟩ := h2
  refine ⟨a, b, c, fun t ht hlt => ?_⟩
  have h3 := List.all_eq_true.mp d t (List.mem_range.mpr hlt)
  rw [decide_eq_true ht] at h3
  simpa using h3
theorem xit_lt {k n : Nat} (h : xwn k n = true) : ∀ (t j : Nat), j < 16 → xit k n t j < 16
  | 0, j, hj => hj
  | t + 1, j, hj => xit_lt h t _ (xway h hj).2.1
theorem xct_all {p : Nat → Bool} : ∀ {n : Nat}, xct p n = n ↔ ∀ j, j < n → p j = true
  | 0 => ⟨fun _ j hj => absurd hj (Nat.not_lt_zero j), fun _ => rfl⟩
  | n + 1 => by
    have ih := @xct_all p n
    have hle := xct_le p n
    constructor
    · intro h
      by_cases hp : p n = true
      · rw [xct_t hp] at h
        exact xlt_s (ih.mp (by omega)) hp
      · rw [xct_f hp] at h
        omega
    · intro h
      rw [xct_t (h n (Nat.lt_succ_self n)), ih.mpr (fun j hj => h j (Nat.lt_succ_of_lt hj))]
theorem xitc_ct {k n : Nat} (h : xwn k n = true) (t : Nat) : xct (fun j => decide ((fun j => nI (xit k n t j)) j = nI j)) 16 = 16 ↔ xitc k n t = true := by
  rw [xct_all]
  unfold xitc
  rw [List.all_eq_true]
  constructor
  · intro h1 j hj
    have hj := List.mem_range.mp hj
    have := of_decide_eq_true (h1 j hj)
    have hl := xit_lt h t j hj
    rw [(nI_eq (by omega) (by omega)).mp this]
    exact beq_self_eq_true j
  · intro h1 j hj
    have := eq_of_beq (h1 j (List.mem_range.mpr hj))
    exact decide_eq_true (congrArg nI this)
/-- riffles behind one another -/
def xar (o : Nat) : Nat → Nat → Nat
  | 0, at_ => at_
  | b + 1, at_ => xar o b (xpa (if o / 2 ^ b % 2 = 1 then 2 else 1) 0 at_)
def xprs : List (Nat × Nat) := [(0, 0), (1, 0), (1, 1), (2, 0), (2, 1), (2, 2), (2, 3), (3, 0), (3, 1), (3, 2), (3, 3), (3, 4), (3, 5), (3, 6), (3, 7), (4, 0), (4, 1), (4, 2), (4, 3), (4, 4), (4, 5), (4, 6), (4, 7), (4, 8), (4, 9), (4, 10), (4, 11), (4, 12), (4, 13), (4, 14), (4, 15)]
def xrR (s q : Nat) : Nat × Nat := (xprs.find? (fun r => xar r.2 r.1 s == q)).getD (0, 0)
def xrf (s q : Nat) : Nat := 2 ^ (xrR s q).1 + (xrR s q).2
theorem xrR_all : ((List.range 16).all fun s => (List.range 16).all fun q => decide ((xrR s q).1 ≤ 4) && (decide ((xrR s q).2 < 2 ^ (xrR s q).1) && ((xar (xrR s q).2 (xrR s q).1 s == q) && (((List.range (xrR s q).1).all fun a => (List.range (2 ^ a)).all fun o => !(xar o a s == q)) && (List.range (xrR s q).2).all fun o => !(xar o (xrR s q).1 s == q))))) = true := by decide +kernel
theorem xrR_ok {s q : Nat} (hs : s < 16) (hq : q < 16) : (xrR s q).1 ≤ 4 ∧ (xrR s q).2 < 2 ^ (xrR s q).1 ∧ xar (xrR s q).2 (xrR s q).1 s = q ∧ (∀ a, a < (xrR s q).1 → ∀ o, o < 2 ^ a → ¬ xar o a s = q) ∧ ∀ o, o < (xrR s q).2 → ¬ xar o (xrR s q).1 s = q := by
  have h1 := List.all_eq_true.mp xrR_all s (List.mem_range.mpr hs)
  have h2 := List.all_eq_true.mp h1 q (List.mem_range.mpr hq)
  simp only [Bool.and_eq_true, decide_eq_true_eq] at h2
  obtain ⟨a, b, c, d, e⟩ := h2
  refine ⟨a, b, eq_of_beq c, fun a' ha o ho h => ?_, fun o ho h => ?_⟩
  · have := List.all_eq_true.mp (List.all_eq_true.mp d a' (List.mem_range.mpr ha)) o (List.mem_range.mpr ho)
    rw [h] at this
    simp at this
  · have := List.all_eq_true.mp e o (List.mem_range.mpr ho)
    rw [h] at this
    simp at this
theorem xar_lt (o : Nat) : ∀ (b at_ : Nat), at_ < 16 → xar o b at_ < 16
  | 0, _, h => h
  | b + 1, at_, h => xar_lt o b _ (by split <;> exact (xway (by rfl) h).1)
/-- sets of places -/
def xow1 (m i acc : Nat) : Nat := if m.testBit i then ((((acc ||| 2 ^ xpa 1 0 i) ||| 2 ^ xpa 2 0 i) ||| 2 ^ xpa 4 0 i) ||| 2 ^ xpa 3 8 i) else acc
def xowi (m : Nat) : Nat → Nat
  | 0 => 0
  | i + 1 => xow1 m i (xowi m i)
def xrt (s : Nat) : Nat → Nat
  | 0 => 2 ^ s
  | t + 1 => xrt s t ||| xowi (xrt s t) 16
def xbr (s q : Nat) : Nat := ((List.range 16).find? (fun t => (xrt s t).testBit q)).getD 16
theorem xbr_all : ((List.range 16).all fun s => (List.range 16).all fun q => decide (xbr s q < 16) && ((xrt s (xbr s q)).testBit q && (List.range (xbr s q)).all fun t => !(xrt s t).testBit q)) = true := by decide +kernel
theorem xbr_ok {s q : Nat} (hs : s < 16) (hq : q < 16) : xbr s q < 16 ∧ (xrt s (xbr s q)).testBit q = true ∧ ∀ t, t < xbr s q → (xrt s t).testBit q = false := by
  have h1 := List.all_eq_true.mp xbr_all s (List.mem_range.mpr hs)
  have h2 := List.all_eq_true.mp h1 q (List.mem_range.mpr hq)
  simp only [Bool.and_eq_true, decide_eq_true_eq] at h2
  obtain ⟨a, b, c⟩ := h2
  exact ⟨a, b, fun t ht => by have := List.all_eq_true.mp c t (List.mem_range.mpr ht); simpa using this⟩
theorem x_sl : ∀ n, n < 32 → ((nI n &&& 31).toBitVec.smod 32).toNat = n := by decide +kernel
theorem x_or (a b : Nat) : nI a ||| nI b = nI (a ||| b) := by
  apply Int32.toBitVec_inj.mp
  show BitVec.ofNat 32 a ||| BitVec.ofNat 32 b = BitVec.ofNat 32 (a ||| b)
  apply BitVec.eq_of_toNat_eq
  simp only [BitVec.toNat_or, BitVec.toNat_ofNat]
  rw [Nat.or_mod_two_pow]
theorem x_and (a b : Nat) : nI a &&& nI b = nI (a &&& b) := by
  apply Int32.toBitVec_inj.mp
  show BitVec.ofNat 32 a &&& BitVec.ofNat 32 b = BitVec.ofNat 32 (a &&& b)
  apply BitVec.eq_of_toNat_eq
  simp only [BitVec.toNat_and, BitVec.toNat_ofNat]
  rw [Nat.and_mod_two_pow]
theorem xso_n {k : Nat} (hk : k < 31) : xso (nI k) = nI (2 ^ k) := by
  unfold xso
  have := pk_shlN (n := 1) (nI k &&& 31) k (x_sl k (by omega)) (by rw [Nat.one_mul]; exact Nat.pow_lt_pow_right (by decide) (by omega))
  rw [Nat.one_mul] at this
  exact this
theorem x_bitN (n j : Nat) : n &&& 2 ^ j = 0 ↔ n.testBit j = false := by
  constructor
  · intro h
    have h2 := congrArg (fun x => x.testBit j) h
    simpa [Nat.testBit_and, Nat.testBit_two_pow_self] using h2
  · intro h
    apply Nat.eq_of_testBit_eq
    intro i
    rw [Nat.testBit_and, Nat.testBit_two_pow, Nat.zero_testBit]
    by_cases e : j = i
    · subst e; rw [h, Bool.false_and]
    · rw [decide_eq_false e, Bool.and_false]
theorem x_bit {n j : Nat} (hj : j < 31) : nI n &&& nI (2 ^ j) = 0 ↔ n.testBit j = false := by
  have h2 : 2 ^ j < 2 ^ 31 := Nat.pow_lt_pow_right (by decide) hj
  have h3 : n &&& 2 ^ j ≤ 2 ^ j := Nat.and_le_right
  rw [x_and, ← x_bitN]
  exact nI_eq (a := n &&& 2 ^ j) (b := 0) (by omega) (by decide)
theorem x_bit1 {n j : Nat} (hn : n < 2 ^ 31) (hj : j < 31) : (nI n >>> (nI j &&& 31)) &&& nI 1 = nI (n / 2 ^ j % 2) := by
  rw [pk_shrN hn (nI j &&& 31) j (x_sl j (by omega)), pk_andN (n := n / 2 ^ j) (Nat.lt_of_le_of_lt (Nat.div_le_self _ _) (by omega)) 1 (by decide)]

set_option maxHeartbeats 4000000 in
set_option maxRecDepth 100000 in
/-- placeAfterRiffles -/
theorem c_X3_placeAfterRiffles (l : Launch) (G : va_G) (T : Nat → ClassId) (sz : Nat) (s0 o a : Nat) (hs : s0 < 16) (ha : a < 16) (ho : o < 2 ^ 31) : Met l yX3_placeAfterRiffles wsX3_placeAfterRiffles ({ frames := 2, cells := 0, slots := 0, locals := 45 }) (va_Pc [.int (nI s0), .int (nI o), .int (nI a)] (xPre G T ([]) sz)) (va_Qi (fun (r : Int32) (u : Unit) => r = nI (xar o a s0)) (fun u t => va_P G vwCl ([]) t.heap) (va_A ([]) sz)) 0 0 (va_A ([]) sz) := by
  refine Met.ofW (cc := cX3_placeAfterRiffles) (maxL := 6) (ret := (some .int)) (by decide +kernel) rfl ?_
  intro p e s m args below meth c s₁ B hml hv
  obtain ⟨rfl, hsz, hP, hK, hD0, hXB, hZ⟩ := hv
  have hx := B.exec
  have hb := B.bytes
  have hr := B.returns
  have hts := atoms_spec (ws := wsX3_placeAfterRiffles) B.pre
  have hown : s.vm.findClass RX3 = some m.cls := findClass_of_methodNamed B.named
  have hlocks := B.notSynchronized
  subst hsz
  have hD := hD0.self (sz := s.heap.size)
  generalize hAe : va_A ([]) s.heap.size = A at hD hZ ⊢
  have hA : ∀ q : Nat, s.heap.size ≤ q → A q := fun q h => by rw [← hAe]; exact Or.inr h
  have hS : va_S A s.heap s.heap [] := va_S.rf
  have hP : va_P G vwCl ([]) s.heap := hP
  have hl := lv_entry ([.int (nI s0), .int (nI o), .int (nI a)]) (n := 6) (Nat.le_of_ble_eq_true rfl)
  rw [lg_entry_eq]
  generalize (lg_sl ([.int (nI s0), .int (nI o), .int (nI a)]) ++ List.replicate (6 - (lg_sl ([.int (nI s0), .int (nI o), .int (nI a)])).length) Slot.unset).toArray = ls at hl ⊢
  have hl : lv_has ls 6 [(0, .int (nI s0)), (1, .int (nI o)), (2, .int (nI a))] := hl
  refine lv_iload_n hx hb dX3_placeAfterRiffles_0 rfl (lv_at hl 0 rfl) ?_
  refine lv_istore_n (lv' := [(3, .int (nI s0)), (0, .int (nI s0)), (1, .int (nI o)), (2, .int (nI a))]) hx hb dX3_placeAfterRiffles_1 rfl hl (by decide) rfl (fun ls hl => ?_)
  refine lv_iload_n hx hb dX3_placeAfterRiffles_2 rfl (lv_at hl 3 rfl) ?_
  refine lv_iconst (v := nI 1) hx hb dX3_placeAfterRiffles_3 (by decide) ?_
  refine lv_isub hx hb dX3_placeAfterRiffles_4 ?_
  refine lv_istore (lv' := [(4, .int (nI a - nI 1)), (3, .int (nI s0)), (0, .int (nI s0)), (1, .int (nI o)), (2, .int (nI a))]) hx hb dX3_placeAfterRiffles_5 hl (by decide) rfl (fun ls hl => ?_)
  suffices LP : ∀ (n : Nat) (q : Nat) (b : Nat), (q < 16) → (b < 16) → (b < n) → (xar o b q = xar o a s0) → ∀ (H : Heap) (locs : List Loc), va_P G vwCl ([]) H → va_D A ([]) → va_S A s.heap H locs → ∀ (ls : Array Slot), lv_has ls 6 [(4, .int (nI b - nI 1)), (3, .int (nI q)), (0, .int (nI s0)), (1, .int (nI o)), (2, .int (nI a))] → W p l e (headSpec wsX3_placeAfterRiffles ({ frames := 2, cells := 0, slots := 0, locals := 45 })).room s m ([.int (nI s0), .int (nI o), .int (nI a)] : List Value).toArray below meth c H locs 0 0 (MQ below (va_Qi (fun (r : Int32) (u : Unit) => r = nI (xar o a s0)) (fun u t => va_P G vwCl ([]) t.heap) A) ([.int (nI s0), .int (nI o), .int (nI a)] : List Value).toArray s 0 0 A) (F0 m 7 ls []) from LP 16 s0 a hs ha (by omega) rfl _ _ hP hD hS ls (lv_sub hl [0, 1, 2, 3, 4] rfl)
  clear hP hD hS hl
  intro n
  induction n with
  | zero => intro q b hq hb16 hn hv H locs _ _ _ ls _; exfalso; omega
  | succ n ih =>
    intro q b hq hb16 hn hv H locs hP hD hS ls hl
    refine lv_iload hx hb dX3_placeAfterRiffles_7 (lv_at hl 0 rfl) ?_
    by_cases hc : b = 0
    · obtain rfl : b = 0 := by omega
      refine lv_if_lt (tgt := 51) hx hb dX3_placeAfterRiffles_9 (by decide) (fun _ => ?_) (fun c_ => absurd (by decide) c_)
      refine lv_iload_n hx hb dX3_placeAfterRiffles_51 rfl (lv_at hl 1 rfl) ?_
      exact W.iret (v := nI q) hx hb hr (fun t9_ ht hW => ⟨⟨nI q, (), rfl, congrArg nI hv, x_at ht hP⟩, hS.F ht⟩) hS.2.2 dX3_placeAfterRiffles_52
    · obtain ⟨b, rfl⟩ : ∃ c, b = c + 1 := ⟨b - 1, by omega⟩
      have eb : nI (b + 1) - nI 1 = nI b := pk_sub (by omega)
      rw [eb] at hl
      rw [eb]
      refine lv_if_lt (tgt := 51) hx hb dX3_placeAfterRiffles_9 (by decide) (fun c_ => absurd c_ (nI_pos (by omega))) (fun _ => ?_)
      refine lv_iload_n hx hb dX3_placeAfterRiffles_12 rfl (lv_at hl 3 rfl) ?_
      refine lv_iload hx hb dX3_placeAfterRiffles_13 (lv_at hl 0 rfl) ?_
      refine lv_ishr hx hb dX3_placeAfterRiffles_15 ?_
      refine lv_iconst (v := nI 1) hx hb dX3_placeAfterRiffles_16 (by decide) ?_
      refine lv_iand hx hb dX3_placeAfterRiffles_17 ?_
      refine x_topi (y := nI (o / 2 ^ b % 2)) (x_bit1 ho (by omega)) ?_
      refine lv_iconst (v := nI 1) hx hb dX3_placeAfterRiffles_18 (by decide) ?_
      by_cases hbo : o / 2 ^ b % 2 = 1
      · refine lv_icmp_ne (tgt := 26) hx hb dX3_placeAfterRiffles_19 (by decide) (fun c_ => absurd (by rw [hbo]) c_) (fun _ => ?_)
        refine lv_iconst (v := nI 1) hx hb dX3_placeAfterRiffles_22 (by decide) ?_
        refine lv_goto (tgt := 27) hx hb dX3_placeAfterRiffles_23 (by decide) ?_
        refine lv_istore (lv' := [(5, .int (nI 1)), (4, .int (nI b)), (3, .int (nI q)), (0, .int (nI s0)), (1, .int (nI o)), (2, .int (nI a))]) hx hb dX3_placeAfterRiffles_27 hl (by decide) rfl (fun ls hl => ?_)
        refine lv_iload hx hb dX3_placeAfterRiffles_29 (lv_at hl 0 rfl) ?_
        refine lv_if_eq (tgt := 38) hx hb dX3_placeAfterRiffles_31 (by decide) (fun c_ => absurd c_ (by decide)) (fun _ => ?_)
        refine lv_iconst (v := nI 2) hx hb dX3_placeAfterRiffles_34 (by decide) ?_
        refine lv_goto (tgt := 39) hx hb dX3_placeAfterRiffles_35 (by decide) ?_
        refine lv_iconst (v := nI 0) hx hb dX3_placeAfterRiffles_39 (by decide) ?_
        refine lv_iload_n hx hb dX3_placeAfterRiffles_40 rfl (lv_at hl 2 rfl) ?_
        refine x_calli (va_runS (As := [.int (nI 2), .int (nI 0), .int (nI q)]) (rest := []) ⟨hx, hb, hml, hown, hts⟩ (c_X3_placeAfter l G T _ 2 0 q rfl hq) (va_cwS 3 hts gX3_placeAfterRiffles_X3_placeAfter rfl rfl rfl (by decide +kernel) ⟨Nat.le_of_ble_eq_true rfl, Nat.le_of_ble_eq_true rfl⟩) (x_preS (wc := []) hK hP hD hS hA hXB hZ [] rfl rfl _) rfl rfl hl.1 rfl (lv_room (Nat.le_of_ble_eq_true rfl)) dX3_placeAfterRiffles_41 ⟨Nat.le_of_ble_eq_true rfl, Nat.le_of_ble_eq_true rfl⟩) hP hD hS hA [] rfl (fun _ _ _ => rfl) (fun r1 u H locs hw1 hP hD hS => ?_)
        have hP : va_P G vwCl ([]) H := hP
        have hD : va_D A ([]) := hD
        refine x_topi (y := nI (xpa 2 0 q)) (hw1) ?_
        refine lv_istore_n (lv' := [(3, .int (nI (xpa 2 0 q))), (5, .int (nI 1)), (4, .int (nI b)), (0, .int (nI s0)), (1, .int (nI o)), (2, .int (nI a))]) hx hb dX3_placeAfterRiffles_44 rfl hl (by decide) rfl (fun ls hl => ?_)
        refine lv_iinc (v := nI b - nI 1) (lv' := [(4, .int (nI b - nI 1)), (3, .int (nI (xpa 2 0 q))), (5, .int (nI 1)), (0, .int (nI s0)), (1, .int (nI o)), (2, .int (nI a))]) hx hb dX3_placeAfterRiffles_45 hl (k := 2) rfl (by rw [Int32.sub_eq_add_neg]; rfl) (by decide) rfl (fun ls hl => ?_)
        refine lv_goto (tgt := 7) hx hb dX3_placeAfterRiffles_48 (by decide) ?_
        exact ih (xpa 2 0 q) b ((xway rfl hq).1) (by omega) (by omega) (by rw [← hv]; show _ = xar o b (xpa (if o / 2 ^ b % 2 = 1 then 2 else 1) 0 q); rw [if_pos hbo]) _ _ hP hD hS ls (lv_sub hl [0, 1, 3, 4, 5] rfl)
      · refine lv_icmp_ne (tgt := 26) hx hb dX3_placeAfterRiffles_19 (by decide) (fun _ => ?_) (fun c_ => absurd c_ (fun h => hbo ((nI_eq (by omega) (by decide)).mp h)))
        refine lv_iconst (v := nI 0) hx hb dX3_placeAfterRiffles_26 (by decide) ?_
        refine lv_istore (lv' := [(5, .int (nI 0)), (4, .int (nI b)), (3, .int (nI q)), (0, .int (nI s0)), (1, .int (nI o)), (2, .int (nI a))]) hx hb dX3_placeAfterRiffles_27 hl (by decide) rfl (fun ls hl => ?_)
        refine lv_iload hx hb dX3_placeAfterRiffles_29 (lv_at hl 0 rfl) ?_
        refine lv_if_eq (tgt := 38) hx hb dX3_placeAfterRiffles_31 (by decide) (fun _ => ?_) (fun c_ => absurd (by decide) c_)
        refine lv_iconst (v := nI 1) hx hb dX3_placeAfterRiffles_38 (by decide) ?_
        refine lv_iconst (v := nI 0) hx hb dX3_placeAfterRiffles_39 (by decide) ?_
        refine lv_iload_n hx hb dX3_placeAfterRiffles_40 rfl (lv_at hl 2 rfl) ?_
        refine x_calli (va_runS (As := [.int (nI 1), .int (nI 0), .int (nI q)]) (rest := []) ⟨hx, hb, hml, hown, hts⟩ (c_X3_placeAfter l G T _ 1 0 q rfl hq) (va_cwS 3 hts gX3_placeAfterRiffles_X3_placeAfter rfl rfl rfl (by decide +kernel) ⟨Nat.le_of_ble_eq_true rfl, Nat.le_of_ble_eq_true rfl⟩) (x_preS (wc := []) hK hP hD hS hA hXB hZ [] rfl rfl _) rfl rfl hl.1 rfl (lv_room (Nat.le_of_ble_eq_true rfl)) dX3_placeAfterRiffles_41 ⟨Nat.le_of_ble_eq_true rfl, Nat.le_of_ble_eq_true rfl⟩) hP hD hS hA [] rfl (fun _ _ _ => rfl) (fun r1 u H locs hw1 hP hD hS => ?_)
        have hP : va_P G vwCl ([]) H := hP
        have hD : va_D A ([]) := hD
        refine x_topi (y := nI (xpa 1 0 q)) (hw1) ?_
        refine lv_istore_n (lv' := [(3, .int (nI (xpa 1 0 q))), (5, .int (nI 0)), (4, .int (nI b)), (0, .int (nI s0)), (1, .int (nI o)), (2, .int (nI a))]) hx hb dX3_placeAfterRiffles_44 rfl hl (by decide) rfl (fun ls hl => ?_)
        refine lv_iinc (v := nI b - nI 1) (lv' := [(4, .int (nI b - nI 1)), (3, .int (nI (xpa 1 0 q))), (5, .int (nI 0)), (0, .int (nI s0)), (1, .int (nI o)), (2, .int (nI a))]) hx hb dX3_placeAfterRiffles_45 hl (k := 2) rfl (by rw [Int32.sub_eq_add_neg]; rfl) (by decide) rfl (fun ls hl => ?_)
        refine lv_goto (tgt := 7) hx hb dX3_placeAfterRiffles_48 (by decide) ?_
        exact ih (xpa 1 0 q) b ((xway rfl hq).1) (by omega) (by omega) (by rw [← hv]; show _ = xar o b (xpa (if o / 2 ^ b % 2 = 1 then 2 else 1) 0 q); rw [if_neg hbo]) _ _ hP hD hS ls (lv_sub hl [0, 1, 3, 4, 5] rfl)

set_option maxHeartbeats 4000000 in
set_option maxRecDepth 100000 in
/-- placesOneWayFrom -/
theorem c_X3_placesOneWayFrom (l : Launch) (G : va_G) (T : Nat → ClassId) (sz : Nat) (a : Nat) : Met l yX3_placesOneWayFrom wsX3_placesOneWayFrom ({ frames := 2, cells := 0, slots := 0, locals := 45 }) (va_Pc [.int (nI a)] (xPre G T ([]) sz)) (va_Qi (fun (r : Int32) (u : Unit) => r = nI (xowi a 16)) (fun u t => va_P G vwCl ([]) t.heap) (va_A ([]) sz)) 0 0 (va_A ([]) sz) := by
  refine Met.ofW (cc := cX3_placesOneWayFrom) (maxL := 3) (ret := (some .int)) (by decide +kernel) rfl ?_
  intro p e s m args below meth c s₁ B hml hv
  obtain ⟨rfl, hsz, hP, hK, hD0, hXB, hZ⟩ := hv
  have hx := B.exec
  have hb := B.bytes
  have hr := B.returns
  have hts := atoms_spec (ws := wsX3_placesOneWayFrom) B.pre
  have hown : s.vm.findClass RX3 = some m.cls := findClass_of_methodNamed B.named
  have hlocks := B.notSynchronized
  subst hsz
  have hD := hD0.self (sz := s.heap.size)
  generalize hAe : va_A ([]) s.heap.size = A at hD hZ ⊢
  have hA : ∀ q : Nat, s.heap.size ≤ q → A q := fun q h => by rw [← hAe]; exact Or.inr h
  have hS : va_S A s.heap s.heap [] := va_S.rf
  have hP : va_P G vwCl ([]) s.heap := hP
  have hl := lv_entry ([.int (nI a)]) (n := 3) (Nat.le_of_ble_eq_true rfl)
  rw [lg_entry_eq]
  generalize (lg_sl ([.int (nI a)]) ++ List.replicate (3 - (lg_sl ([.int (nI a)])).length) Slot.unset).toArray = ls at hl ⊢
  have hl : lv_has ls 3 [(0, .int (nI a))] := hl
  refine lv_iconst (v := nI 0) hx hb dX3_placesOneWayFrom_0 (by decide) ?_
  refine lv_istore_n (lv' := [(1, .int (nI 0)), (0, .int (nI a))]) hx hb dX3_placesOneWayFrom_1 rfl hl (by decide) rfl (fun ls hl => ?_)
  refine lv_iconst (v := nI 0) hx hb dX3_placesOneWayFrom_2 (by decide) ?_
  refine lv_istore_n (lv' := [(2, .int (nI 0)), (1, .int (nI 0)), (0, .int (nI a))]) hx hb dX3_placesOneWayFrom_3 rfl hl (by decide) rfl (fun ls hl => ?_)
  suffices LP : ∀ (n : Nat) (i : Nat), (i ≤ 16) → (16 < i + n) → ∀ (H : Heap) (locs : List Loc), va_P G vwCl ([]) H → va_D A ([]) → va_S A s.heap H locs → ∀ (ls : Array Slot), lv_has ls 3 [(2, .int (nI i)), (1, .int (nI (xowi a i))), (0, .int (nI a))] → W p l e (headSpec wsX3_placesOneWayFrom ({ frames := 2, cells := 0, slots := 0, locals := 45 })).room s m ([.int (nI a)] : List Value).toArray below meth c H locs 0 0 (MQ below (va_Qi (fun (r : Int32) (u : Unit) => r = nI (xowi a 16)) (fun u t => va_P G vwCl ([]) t.heap) A) ([.int (nI a)] : List Value).toArray s 0 0 A) (F0 m 4 ls []) from LP 17 0 (by decide) (by decide) _ _ hP hD hS ls (lv_sub hl [0, 1, 2] rfl)
  clear hP hD hS hl
  intro n
  induction n with
  | zero => intro i hi hn H locs _ _ _ ls _; exfalso; omega
  | succ n ih =>
    intro i hi hn H locs hP hD hS ls hl
    refine lv_iload_n hx hb dX3_placesOneWayFrom_4 rfl (lv_at hl 0 rfl) ?_
    refine lv_bipush (v := nI 16) hx hb dX3_placesOneWayFrom_5 (by decide) ?_
    by_cases hc : i < 16
    · refine lv_icmp_ge (tgt := 74) hx hb dX3_placesOneWayFrom_7 (by decide) (fun c_ => absurd c_ (nI_ge hc (by decide))) (fun _ => ?_)
      refine lv_iload_n hx hb dX3_placesOneWayFrom_10 rfl (lv_at hl 2 rfl) ?_
      refine lv_iload_n hx hb dX3_placesOneWayFrom_11 rfl (lv_at hl 0 rfl) ?_
      refine x_calli (va_runS (As := [.int (nI i)]) (rest := [.int (nI a)]) ⟨hx, hb, hml, hown, hts⟩ (c_X3_setOf l G T _ (nI i)) (va_cwS 1 hts gX3_placesOneWayFrom_X3_setOf rfl rfl rfl (by decide +kernel) ⟨Nat.le_of_ble_eq_true rfl, Nat.le_of_ble_eq_true rfl⟩) (x_preS (wc := []) hK hP hD hS hA hXB hZ [] rfl rfl _) rfl rfl hl.1 rfl (lv_room (Nat.le_of_ble_eq_true rfl)) dX3_placesOneWayFrom_12 ⟨Nat.le_of_ble_eq_true rfl, Nat.le_of_ble_eq_true rfl⟩) hP hD hS hA [] rfl (fun _ _ _ => rfl) (fun r1 u H locs hw1 hP hD hS => ?_)
      have hP : va_P G vwCl ([]) H := hP
      have hD : va_D A ([]) := hD
      refine x_topi (y := nI (2 ^ i)) (hw1.trans (xso_n (by omega))) ?_
      refine lv_iand hx hb dX3_placesOneWayFrom_15 ?_
      refine lv_if_eq (tgt := 68) hx hb dX3_placesOneWayFrom_16 (by decide) (fun c1 => ?_) (fun c1 => ?_)
      · have e1 : xowi a (i + 1) = xowi a i := by show xow1 a i _ = _; unfold xow1; rw [(x_bit (by omega)).mp c1]; rfl
        rw [← e1] at hl
        refine lv_iinc (v := nI (i + 1)) (lv' := [(2, .int (nI (i + 1))), (1, .int (nI (xowi a (i + 1)))), (0, .int (nI a))]) hx hb dX3_placesOneWayFrom_68 hl (k := 0) rfl (x_inc _) (by decide) rfl (fun ls hl => ?_)
        refine lv_goto (tgt := 4) hx hb dX3_placesOneWayFrom_71 (by decide) ?_
        exact ih (i + 1) (by omega) (by omega) _ _ hP hD hS ls (lv_sub hl [0, 1, 2] rfl)
      · have hbt : a.testBit i = true := by cases hb9 : a.testBit i with | true => rfl | false => exact absurd ((x_bit (by omega)).mpr hb9) c1
        refine lv_iload_n hx hb dX3_placesOneWayFrom_19 rfl (lv_at hl 1 rfl) ?_
        refine lv_iconst (v := nI 1) hx hb dX3_placesOneWayFrom_20 (by decide) ?_
        refine lv_iconst (v := nI 0) hx hb dX3_placesOneWayFrom_21 (by decide) ?_
        refine lv_iload_n hx hb dX3_placesOneWayFrom_22 rfl (lv_at hl 0 rfl) ?_
        refine x_calli (va_runS (As := [.int (nI 1), .int (nI 0), .int (nI i)]) (rest := [.int (nI (xowi a i))]) ⟨hx, hb, hml, hown, hts⟩ (c_X3_placeAfter l G T _ 1 0 i rfl hc) (va_cwS 3 hts gX3_placesOneWayFrom_X3_placeAfter rfl rfl rfl (by decide +kernel) ⟨Nat.le_of_ble_eq_true rfl, Nat.le_of_ble_eq_true rfl⟩) (x_preS (wc := []) hK hP hD hS hA hXB hZ [] rfl rfl _) rfl rfl hl.1 rfl (lv_room (Nat.le_of_ble_eq_true rfl)) dX3_placesOneWayFrom_23 ⟨Nat.le_of_ble_eq_true rfl, Nat.le_of_ble_eq_true rfl⟩) hP hD hS hA [] rfl (fun _ _ _ => rfl) (fun q0 u H locs hq0 hP hD hS => ?_)
        have hP : va_P G vwCl ([]) H := hP
        have hD : va_D A ([]) := hD
        refine x_topi (y := nI (xpa 1 0 i)) (hq0) ?_
        have hx0 := (xway (k := 1) (n := 0) rfl hc).1
        refine x_calli (va_runS (As := [.int (nI (xpa 1 0 i))]) (rest := [.int (nI (xowi a i))]) ⟨hx, hb, hml, hown, hts⟩ (c_X3_setOf l G T _ (nI (xpa 1 0 i))) (va_cwS 1 hts gX3_placesOneWayFrom_X3_setOf rfl rfl rfl (by decide +kernel) ⟨Nat.le_of_ble_eq_true rfl, Nat.le_of_ble_eq_true rfl⟩) (x_preS (wc := []) hK hP hD hS hA hXB hZ [] rfl rfl _) rfl rfl hl.1 rfl (lv_room (Nat.le_of_ble_eq_true rfl)) dX3_placesOneWayFrom_26 ⟨Nat.le_of_ble_eq_true rfl, Nat.le_of_ble_eq_true rfl⟩) hP hD hS hA [] rfl (fun _ _ _ => rfl) (fun s0 u H locs hs0 hP hD hS => ?_)
        have hP : va_P G vwCl ([]) H := hP
        have hD : va_D A ([]) := hD
        refine x_topi (y := nI (2 ^ xpa 1 0 i)) (hs0.trans (xso_n (by omega))) ?_
        refine lv_ior hx hb dX3_placesOneWayFrom_29 ?_
        refine x_topi (y := nI ((xowi a i) ||| 2 ^ xpa 1 0 i)) (x_or _ _) ?_
        refine lv_istore_n (lv' := [(1, .int (nI ((xowi a i) ||| 2 ^ xpa 1 0 i))), (2, .int (nI i)), (0, .int (nI a))]) hx hb dX3_placesOneWayFrom_30 rfl hl (by decide) rfl (fun ls hl => ?_)
        refine lv_iload_n hx hb dX3_placesOneWayFrom_31 rfl (lv_at hl 0 rfl) ?_
        refine lv_iconst (v := nI 2) hx hb dX3_placesOneWayFrom_32 (by decide) ?_
        refine lv_iconst (v := nI 0) hx hb dX3_placesOneWayFrom_33 (by decide) ?_
        refine lv_iload_n hx hb dX3_placesOneWayFrom_34 rfl (lv_at hl 1 rfl) ?_
        refine x_calli (va_runS (As := [.int (nI 2), .int (nI 0), .int (nI i)]) (rest := [.int (nI ((xowi a i) ||| 2 ^ xpa 1 0 i))]) ⟨hx, hb, hml, hown, hts⟩ (c_X3_placeAfter l G T _ 2 0 i rfl hc) (va_cwS 3 hts gX3_placesOneWayFrom_X3_placeAfter rfl rfl rfl (by decide +kernel) ⟨Nat.le_of_ble_eq_true rfl, Nat.le_of_ble_eq_true rfl⟩) (x_preS (wc := []) hK hP hD hS hA hXB hZ [] rfl rfl _) rfl rfl hl.1 rfl (lv_room (Nat.le_of_ble_eq_true rfl)) dX3_placesOneWayFrom_35 ⟨Nat.le_of_ble_eq_true rfl, Nat.le_of_ble_eq_true rfl⟩) hP hD hS hA [] rfl (fun _ _ _ => rfl) (fun q1 u H locs hq1 hP hD hS => ?_)
        have hP : va_P G vwCl ([]) H := hP
        have hD : va_D A ([]) := hD
        refine x_topi (y := nI (xpa 2 0 i)) (hq1) ?_
        have hx1 := (xway (k := 2) (n := 0) rfl hc).1
        refine x_calli (va_runS (As := [.int (nI (xpa 2 0 i))]) (rest := [.int (nI ((xowi a i) ||| 2 ^ xpa 1 0 i))]) ⟨hx, hb, hml, hown, hts⟩ (c_X3_setOf l G T _ (nI (xpa 2 0 i))) (va_cwS 1 hts gX3_placesOneWayFrom_X3_setOf rfl rfl rfl (by decide +kernel) ⟨Nat.le_of_ble_eq_true rfl, Nat.le_of_ble_eq_true rfl⟩) (x_preS (wc := []) hK hP hD hS hA hXB hZ [] rfl rfl _) rfl rfl hl.1 rfl (lv_room (Nat.le_of_ble_eq_true rfl)) dX3_placesOneWayFrom_38 ⟨Nat.le_of_ble_eq_true rfl, Nat.le_of_ble_eq_true rfl⟩) hP hD hS hA [] rfl (fun _ _ _ => rfl) (fun s1 u H locs hs1 hP hD hS => ?_)
        have hP : va_P G vwCl ([]) H := hP
        have hD : va_D A ([]) := hD
        refine x_topi (y := nI (2 ^ xpa 2 0 i)) (hs1.trans (xso_n (by omega))) ?_
        refine lv_ior hx hb dX3_placesOneWayFrom_41 ?_
        refine x_topi (y := nI (((xowi a i) ||| 2 ^ xpa 1 0 i) ||| 2 ^ xpa 2 0 i)) (x_or _ _) ?_
        refine lv_istore_n (lv' := [(1, .int (nI (((xowi a i) ||| 2 ^ xpa 1 0 i) ||| 2 ^ xpa 2 0 i))), (2, .int (nI i)), (0, .int (nI a))]) hx hb dX3_placesOneWayFrom_42 rfl hl (by decide) rfl (fun ls hl => ?_)
        refine lv_iload_n hx hb dX3_placesOneWayFrom_43 rfl (lv_at hl 0 rfl) ?_
        refine lv_iconst (v := nI 4) hx hb dX3_placesOneWayFrom_44 (by decide) ?_
        refine lv_iconst (v := nI 0) hx hb dX3_placesOneWayFrom_45 (by decide) ?_
        refine lv_iload_n hx hb dX3_placesOneWayFrom_46 rfl (lv_at hl 1 rfl) ?_
        refine x_calli (va_runS (As := [.int (nI 4), .int (nI 0), .int (nI i)]) (rest := [.int (nI (((xowi a i) ||| 2 ^ xpa 1 0 i) ||| 2 ^ xpa 2 0 i))]) ⟨hx, hb, hml, hown, hts⟩ (c_X3_placeAfter l G T _ 4 0 i rfl hc) (va_cwS 3 hts gX3_placesOneWayFrom_X3_placeAfter rfl rfl rfl (by decide +kernel) ⟨Nat.le_of_ble_eq_true rfl, Nat.le_of_ble_eq_true rfl⟩) (x_preS (wc := []) hK hP hD hS hA hXB hZ [] rfl rfl _) rfl rfl hl.1 rfl (lv_room (Nat.le_of_ble_eq_true rfl)) dX3_placesOneWayFrom_47 ⟨Nat.le_of_ble_eq_true rfl, Nat.le_of_ble_eq_true rfl⟩) hP hD hS hA [] rfl (fun _ _ _ => rfl) (fun q2 u H locs hq2 hP hD hS => ?_)
        have hP : va_P G vwCl ([]) H := hP
        have hD : va_D A ([]) := hD
        refine x_topi (y := nI (xpa 4 0 i)) (hq2) ?_
        have hx2 := (xway (k := 4) (n := 0) rfl hc).1
        refine x_calli (va_runS (As := [.int (nI (xpa 4 0 i))]) (rest := [.int (nI (((xowi a i) ||| 2 ^ xpa 1 0 i) ||| 2 ^ xpa 2 0 i))]) ⟨hx, hb, hml, hown, hts⟩ (c_X3_setOf l G T _ (nI (xpa 4 0 i))) (va_cwS 1 hts gX3_placesOneWayFrom_X3_setOf rfl rfl rfl (by decide +kernel) ⟨Nat.le_of_ble_eq_true rfl, Nat.le_of_ble_eq_true rfl⟩) (x_preS (wc := []) hK hP hD hS hA hXB hZ [] rfl rfl _) rfl rfl hl.1 rfl (lv_room (Nat.le_of_ble_eq_true rfl)) dX3_placesOneWayFrom_50 ⟨Nat.le_of_ble_eq_true rfl, Nat.le_of_ble_eq_true rfl⟩) hP hD hS hA [] rfl (fun _ _ _ => rfl) (fun s2 u H locs hs2 hP hD hS => ?_)
        have hP : va_P G vwCl ([]) H := hP
        have hD : va_D A ([]) := hD
        refine x_topi (y := nI (2 ^ xpa 4 0 i)) (hs2.trans (xso_n (by omega))) ?_
        refine lv_ior hx hb dX3_placesOneWayFrom_53 ?_
        refine x_topi (y := nI ((((xowi a i) ||| 2 ^ xpa 1 0 i) ||| 2 ^ xpa 2 0 i) ||| 2 ^ xpa 4 0 i)) (x_or _ _) ?_
        refine lv_istore_n (lv' := [(1, .int (nI ((((xowi a i) ||| 2 ^ xpa 1 0 i) ||| 2 ^ xpa 2 0 i) ||| 2 ^ xpa 4 0 i))), (2, .int (nI i)), (0, .int (nI a))]) hx hb dX3_placesOneWayFrom_54 rfl hl (by decide) rfl (fun ls hl => ?_)
        refine lv_iload_n hx hb dX3_placesOneWayFrom_55 rfl (lv_at hl 0 rfl) ?_
        refine lv_iconst (v := nI 3) hx hb dX3_placesOneWayFrom_56 (by decide) ?_
        refine lv_bipush (v := nI 8) hx hb dX3_placesOneWayFrom_57 (by decide) ?_
        refine lv_iload_n hx hb dX3_placesOneWayFrom_59 rfl (lv_at hl 1 rfl) ?_
        refine x_calli (va_runS (As := [.int (nI 3), .int (nI 8), .int (nI i)]) (rest := [.int (nI ((((xowi a i) ||| 2 ^ xpa 1 0 i) ||| 2 ^ xpa 2 0 i) ||| 2 ^ xpa 4 0 i))]) ⟨hx, hb, hml, hown, hts⟩ (c_X3_placeAfter l G T _ 3 8 i rfl hc) (va_cwS 3 hts gX3_placesOneWayFrom_X3_placeAfter rfl rfl rfl (by decide +kernel) ⟨Nat.le_of_ble_eq_true rfl, Nat.le_of_ble_eq_true rfl⟩) (x_preS (wc := []) hK hP hD hS hA hXB hZ [] rfl rfl _) rfl rfl hl.1 rfl (lv_room (Nat.le_of_ble_eq_true rfl)) dX3_placesOneWayFrom_60 ⟨Nat.le_of_ble_eq_true rfl, Nat.le_of_ble_eq_true rfl⟩) hP hD hS hA [] rfl (fun _ _ _ => rfl) (fun q3 u H locs hq3 hP hD hS => ?_)
        have hP : va_P G vwCl ([]) H := hP
        have hD : va_D A ([]) := hD
        refine x_topi (y := nI (xpa 3 8 i)) (hq3) ?_
        have hx3 := (xway (k := 3) (n := 8) rfl hc).1
        refine x_calli (va_runS (As := [.int (nI (xpa 3 8 i))]) (rest := [.int (nI ((((xowi a i) ||| 2 ^ xpa 1 0 i) ||| 2 ^ xpa 2 0 i) ||| 2 ^ xpa 4 0 i))]) ⟨hx, hb, hml, hown, hts⟩ (c_X3_setOf l G T _ (nI (xpa 3 8 i))) (va_cwS 1 hts gX3_placesOneWayFrom_X3_setOf rfl rfl rfl (by decide +kernel) ⟨Nat.le_of_ble_eq_true rfl, Nat.le_of_ble_eq_true rfl⟩) (x_preS (wc := []) hK hP hD hS hA hXB hZ [] rfl rfl _) rfl rfl hl.1 rfl (lv_room (Nat.le_of_ble_eq_true rfl)) dX3_placesOneWayFrom_63 ⟨Nat.le_of_ble_eq_true rfl, Nat.le_of_ble_eq_true rfl⟩) hP hD hS hA [] rfl (fun _ _ _ => rfl) (fun s3 u H locs hs3 hP hD hS => ?_)
        have hP : va_P G vwCl ([]) H := hP
        have hD : va_D A ([]) := hD
        refine x_topi (y := nI (2 ^ xpa 3 8 i)) (hs3.trans (xso_n (by omega))) ?_
        refine lv_ior hx hb dX3_placesOneWayFrom_66 ?_
        refine x_topi (y := nI (((((xowi a i) ||| 2 ^ xpa 1 0 i) ||| 2 ^ xpa 2 0 i) ||| 2 ^ xpa 4 0 i) ||| 2 ^ xpa 3 8 i)) (x_or _ _) ?_
        have e1 : xowi a (i + 1) = (((((xowi a i) ||| 2 ^ xpa 1 0 i) ||| 2 ^ xpa 2 0 i) ||| 2 ^ xpa 4 0 i) ||| 2 ^ xpa 3 8 i) := by show xow1 a i _ = _; unfold xow1; rw [if_pos hbt]
        refine x_topi (y := nI (xowi a (i + 1))) (by rw [e1]) ?_
        refine lv_istore_n (lv' := [(1, .int (nI (xowi a (i + 1)))), (2, .int (nI i)), (0, .int (nI a))]) hx hb dX3_placesOneWayFrom_67 rfl hl (by decide) rfl (fun ls hl => ?_)
        refine lv_iinc (v := nI (i + 1)) (lv' := [(2, .int (nI (i + 1))), (1, .int (nI (xowi a (i + 1)))), (0, .int (nI a))]) hx hb dX3_placesOneWayFrom_68 hl (k := 1) rfl (x_inc _) (by decide) rfl (fun ls hl => ?_)
        refine lv_goto (tgt := 4) hx hb dX3_placesOneWayFrom_71 (by decide) ?_
        exact ih (i + 1) (by omega) (by omega) _ _ hP hD hS ls (lv_sub hl [0, 1, 2] rfl)
    · refine lv_icmp_ge (tgt := 74) hx hb dX3_placesOneWayFrom_7 (by decide) (fun _ => ?_) (fun c_ => absurd (nI_le (by omega) (by omega)) c_)
      refine lv_iload_n hx hb dX3_placesOneWayFrom_74 rfl (lv_at hl 1 rfl) ?_
      exact W.iret (v := nI (xowi a i)) hx hb hr (fun t9_ ht hW => ⟨⟨nI (xowi a i), (), rfl, by rw [show i = 16 by omega], x_at ht hP⟩, hS.F ht⟩) hS.2.2 dX3_placesOneWayFrom_75

theorem xfp_in {f : Nat → Int32} {x : Int32} (h : ∃ j, j < 16 ∧ f j = x) : ∃ i, i < 16 ∧ xfp f x = nI i ∧ f i = x ∧ ∀ j, j < i → ¬ f j = x := by
  have key : ∀ n, n ≤ 16 → (∃ j, j < n ∧ f j = x) → ∃ i, i < 16 ∧ f i = x ∧ ∀ j, j < i → ¬ f j = x := by
    intro n
    induction n with
    | zero => rintro _ ⟨j, hj, _⟩; exact absurd hj (Nat.not_lt_zero j)
    | succ n ih =>
      intro hn hx
      by_cases h4 : ∃ j, j < n ∧ f j = x
      · exact ih (by omega) h4
      · obtain ⟨j, hj, e⟩ := hx
        have : j = n := by
          rcases Nat.lt_or_ge j n with q | q
          · exact absurd ⟨j, q, e⟩ h4
          · omega
        subst this
        exact ⟨j, by omega, e, fun a ha e2 => h4 ⟨a, ha, e2⟩⟩
  obtain ⟨i, hi, e, h2⟩ := key 16 (Nat.le_refl _) h
  exact ⟨i, hi, xfp_some hi e h2, e, h2⟩

set_option maxHeartbeats 4000000 in
set_option maxRecDepth 100000 in
/-- bring -/
theorem c_X3_bring (l : Launch) (hsl : l.stackTraces = false) (G : va_G) (T : Nat → ClassId) (sz : Nat) (ad : Nat → Nat) (sc : Nat → Nat → Int32) (M : XM) (x y : Int32) (hsur : ∀ c, c < 16 → ∃ j, j < 16 ∧ mpk M j = nI c) : vx_Met l yX3_bring wsX3_bring ({ frames := 7, cells := 2, slots := 12, locals := 102 }) (va_Pc [.ref (ad 0), .int x, .int y] (xPre G T (xC T ad sc M) sz)) (va_Qi (fun (r : Int32) (u : Unit) => (xvb 16 x && xvb 16 y) = true ∧ r = nI (xbr (xka (xfp (mpk M) x)) (xka y))) (fun u t => va_P G vwCl (xC T ad sc M) t.heap) (va_A (xC T ad sc M) sz)) (vx_X (fun _ : Unit => True) (fun E _ t => (fun E => (xvb 16 x && xvb 16 y) = false ∧ E = "java/lang/IndexOutOfBoundsException") E ∧ va_P G vwCl (xC T ad sc M) t.heap) (va_A (xC T ad sc M) sz)) 2 12 (va_A (xC T ad sc M) sz) := by
  refine vx_ofW (cc := cX3_bring) (maxL := 6) (ret := (some .int)) (by decide) rfl ?_
  intro p e s m args below meth c s₁ B hml hx0 hv
  obtain ⟨rfl, hsz, hP, hK, hD0, hXB, hZ⟩ := hv
  have hx := B.exec
  have hb := B.bytes
  have hr := B.returns
  have hts := atoms_spec (ws := wsX3_bring) B.pre
  have hown : s.vm.findClass RX3 = some m.cls := findClass_of_methodNamed B.named
  have hlocks := B.notSynchronized
  subst hsz
  have hD := hD0.self (sz := s.heap.size)
  generalize hAe : va_A (xC T ad sc M) s.heap.size = A at hD hZ ⊢
  have hA : ∀ q : Nat, s.heap.size ≤ q → A q := fun q h => by rw [← hAe]; exact Or.inr h
  have hS : va_S A s.heap s.heap [] := va_S.rf
  have hP : va_P G vwCl (xC T ad sc M) s.heap := hP
  have hiX3 : ∀ w ∈ u_ws RX3 TX3 10, w ∈ wsX3_bring := by decide +kernel
  have hl := lv_entry ([.ref (ad 0), .int x, .int y]) (n := 6) (Nat.le_of_ble_eq_true rfl)
  rw [lg_entry_eq]
  generalize (lg_sl ([.ref (ad 0), .int x, .int y]) ++ List.replicate (6 - (lg_sl ([.ref (ad 0), .int x, .int y])).length) Slot.unset).toArray = ls at hl ⊢
  have hl : lv_has ls 6 [(0, .ref (ad 0)), (1, .int x), (2, .int y)] := hl
  refine lv_iload_n hx hb dX3_bring_0 rfl (lv_at hl 1 rfl) ?_
  refine x_xcallv (vx_runS (As := [.int x]) (rest := []) ⟨hx, hb, hml, hown, hts⟩ (c_X3_requireCard l hsl G T _ x) (va_cwS 1 hts gX3_bring_X3_requireCard rfl rfl rfl (by decide +kernel) ⟨Nat.le_of_ble_eq_true rfl, Nat.le_of_ble_eq_true rfl⟩) (x_preS (wc := []) hK hP hD hS hA hXB hZ [] rfl rfl _) rfl rfl hl.1 rfl (lv_room (Nat.le_of_ble_eq_true rfl)) dX3_bring_1 ⟨Nat.le_of_ble_eq_true rfl, Nat.le_of_ble_eq_true rfl⟩) hP hD hS hA [] rfl rfl (fun _ _ => rfl) (fun E ce q9 H locs hE hP hS c1 c2 c3 => ?_) (fun u1 H locs hv1 hP hD hS => ?_)
  · exact x_out hx0 hlocks (⟨by rw [hE.1, Bool.false_and], hE.2⟩) hP hS c1 c2 c3 (by decide) (by decide)
  have hP : va_P G vwCl (xC T ad sc M) H := hP
  have hD : va_D A (xC T ad sc M) := hD
  refine lv_iload_n hx hb dX3_bring_4 rfl (lv_at hl 2 rfl) ?_
  refine x_xcallv (vx_runS (As := [.int y]) (rest := []) ⟨hx, hb, hml, hown, hts⟩ (c_X3_requirePlace l hsl G T _ y) (va_cwS 1 hts gX3_bring_X3_requirePlace rfl rfl rfl (by decide +kernel) ⟨Nat.le_of_ble_eq_true rfl, Nat.le_of_ble_eq_true rfl⟩) (x_preS (wc := []) hK hP hD hS hA hXB hZ [] rfl rfl _) rfl rfl hl.1 rfl (lv_room (Nat.le_of_ble_eq_true rfl)) dX3_bring_5 ⟨Nat.le_of_ble_eq_true rfl, Nat.le_of_ble_eq_true rfl⟩) hP hD hS hA [] rfl rfl (fun _ _ => rfl) (fun E ce q9 H locs hE hP hS c1 c2 c3 => ?_) (fun u1 H locs hv2 hP hD hS => ?_)
  · exact x_out hx0 hlocks (⟨by rw [hE.1, Bool.and_false], hE.2⟩) hP hS c1 c2 c3 (by decide) (by decide)
  have hP : va_P G vwCl (xC T ad sc M) H := hP
  have hD : va_D A (xC T ad sc M) := hD
  have hv12 : (xvb 16 x && xvb 16 y) = true := by rw [hv1, hv2]; rfl
  obtain ⟨c0, hc0, rfl⟩ := (xvb_iff (n := 16) (by decide)).mp (hv1)
  obtain ⟨q, hq, rfl⟩ := (xvb_iff (n := 16) (by decide)).mp (hv2)
  obtain ⟨s0, hs0, es0, -, -⟩ := xfp_in (hsur c0 hc0)
  rw [es0, xka_n (show s0 < 2 ^ 31 by omega), xka_n (show q < 2 ^ 31 by omega)]
  refine lv_iload_n hx hb dX3_bring_8 rfl (lv_at hl 2 rfl) ?_
  refine x_calli (va_runS (As := [.int (nI q)]) (rest := []) ⟨hx, hb, hml, hown, hts⟩ (c_X3_setOf l G T _ (nI q)) (va_cwS 1 hts gX3_bring_X3_setOf rfl rfl rfl (by decide +kernel) ⟨Nat.le_of_ble_eq_true rfl, Nat.le_of_ble_eq_true rfl⟩) (x_preS (wc := []) hK hP hD hS hA hXB hZ [] rfl rfl _) rfl rfl hl.1 rfl (lv_room (Nat.le_of_ble_eq_true rfl)) dX3_bring_9 ⟨Nat.le_of_ble_eq_true rfl, Nat.le_of_ble_eq_true rfl⟩) hP hD hS hA [] rfl (fun _ _ _ => rfl) (fun r1 u H locs hw1 hP hD hS => ?_)
  have hP : va_P G vwCl (xC T ad sc M) H := hP
  have hD : va_D A (xC T ad sc M) := hD
  refine x_topi (y := nI (2 ^ q)) (hw1.trans (xso_n (by omega))) ?_
  refine lv_istore_n (lv' := [(3, .int (nI (2 ^ q))), (0, .ref (ad 0)), (1, .int (nI c0)), (2, .int (nI q))]) hx hb dX3_bring_12 rfl hl (by decide) rfl (fun ls hl => ?_)
  refine lv_aload_n hx hb dX3_bring_13 rfl (lv_at hl 1 rfl) ?_
  refine va_get (D := G) (ci := 3) (v := .ref (ad 1)) (C := RX3) (T := TX3) (N := 10) hx hb hts hiX3 hown hK hP 0 rfl rfl 0 (by decide) (hts (.fieldLink RX3 12 "CardFans" "pack" "LCardFans$Row;") (by decide +kernel)) (fun _ h9 => h9) rfl dX3_bring_14 ?_
  refine lv_iload_n hx hb dX3_bring_17 rfl (lv_at hl 2 rfl) ?_
  refine x_calli (va_runV (As := [.int (nI c0)]) (rest := []) ⟨hx, hb, hml, hown, hts⟩ (c_X1_firstPlaceOf l G T _ (ad 1) (ad 2) (ad 3) (mpk M) (sc 0) (nI c0)) (cwV 1 hts gX3_bring_X1_firstPlaceOf rfl rfl rfl (by decide +kernel) ⟨Nat.le_of_ble_eq_true rfl, Nat.le_of_ble_eq_true rfl⟩) (x_preV (wc := [(ad 1, .inr (1, [.ref (ad 2), .ref (ad 3)])), (ad 2, .inl (T 0, 16, .inl (mpk M))), (ad 3, .inl (T 0, 16, .inl (sc 0)))]) hK hP hD hS hA hXB hZ [1, 2, 3] rfl rfl _ _ 1 1 rfl rfl) rfl rfl hl.1 rfl (lv_room (Nat.le_of_ble_eq_true rfl)) dX3_bring_18 ⟨Nat.le_of_ble_eq_true rfl, Nat.le_of_ble_eq_true rfl⟩) hP hD hS hA [1, 2, 3] rfl (fun _ _ _ => rfl) (fun r2 u H locs hw2 hP hD hS => ?_)
  have hP : va_P G vwCl (xC T ad sc M) H := hP
  have hD : va_D A (xC T ad sc M) := hD
  refine x_topi (y := nI s0) (hw2.trans es0) ?_
  refine x_calli (va_runS (As := [.int (nI s0)]) (rest := []) ⟨hx, hb, hml, hown, hts⟩ (c_X3_setOf l G T _ (nI s0)) (va_cwS 1 hts gX3_bring_X3_setOf rfl rfl rfl (by decide +kernel) ⟨Nat.le_of_ble_eq_true rfl, Nat.le_of_ble_eq_true rfl⟩) (x_preS (wc := []) hK hP hD hS hA hXB hZ [] rfl rfl _) rfl rfl hl.1 rfl (lv_room (Nat.le_of_ble_eq_true rfl)) dX3_bring_21 ⟨Nat.le_of_ble_eq_true rfl, Nat.le_of_ble_eq_true rfl⟩) hP hD hS hA [] rfl (fun _ _ _ => rfl) (fun r3 u H locs hw3 hP hD hS => ?_)
  have hP : va_P G vwCl (xC T ad sc M) H := hP
  have hD : va_D A (xC T ad sc M) := hD
  refine x_topi (y := nI (2 ^ s0)) (hw3.trans (xso_n (by omega))) ?_
  refine lv_istore (lv' := [(4, .int (nI (2 ^ s0))), (3, .int (nI (2 ^ q))), (0, .ref (ad 0)), (1, .int (nI c0)), (2, .int (nI q))]) hx hb dX3_bring_24 hl (by decide) rfl (fun ls hl => ?_)
  refine lv_iconst (v := nI 0) hx hb dX3_bring_26 (by decide) ?_
  refine lv_istore (lv' := [(5, .int (nI 0)), (4, .int (nI (2 ^ s0))), (3, .int (nI (2 ^ q))), (0, .ref (ad 0)), (1, .int (nI c0)), (2, .int (nI q))]) hx hb dX3_bring_27 hl (by decide) rfl (fun ls hl => ?_)
  obtain ⟨hb1, hb2, hb3⟩ := xbr_ok hs0 hq
  suffices LP : ∀ (n : Nat) (i : Nat), (i ≤ 16) → (16 < i + n) → (∀ t, t < i → (xrt s0 t).testBit q = false) → ∀ (H : Heap) (locs : List Loc), va_P G vwCl (xC T ad sc M) H → va_D A (xC T ad sc M) → va_S A s.heap H locs → ∀ (ls : Array Slot), lv_has ls 6 [(5, .int (nI i)), (4, .int (nI (xrt s0 i))), (3, .int (nI (2 ^ q))), (0, .ref (ad 0)), (1, .int (nI c0)), (2, .int (nI q))] → W p l e (headSpec wsX3_bring ({ frames := 7, cells := 2, slots := 12, locals := 102 })).room s m ([.ref (ad 0), .int (nI c0), .int (nI q)] : List Value).toArray below meth c H locs 2 12 (vx_MQ below (va_Qi (fun (r : Int32) (u : Unit) => (xvb 16 (nI c0) && xvb 16 (nI q)) = true ∧ r = nI (xbr s0 q)) (fun u t => va_P G vwCl (xC T ad sc M) t.heap) A) (vx_X (fun _ : Unit => True) (fun E _ t => (fun E => (xvb 16 (nI c0) && xvb 16 (nI q)) = false ∧ E = "java/lang/IndexOutOfBoundsException") E ∧ va_P G vwCl (xC T ad sc M) t.heap) A) ([.ref (ad 0), .int (nI c0), .int (nI q)] : List Value).toArray s 2 12 A) (F0 m 29 ls []) from LP 17 0 (by decide) (by decide) (fun t ht => absurd ht (Nat.not_lt_zero t)) _ _ hP hD hS ls (lv_sub hl [0, 1, 2, 3, 4, 5] rfl)
  clear hP hD hS hl
  intro n
  induction n with
  | zero => intro i hi hn hf H locs _ _ _ ls _; exfalso; omega
  | succ n ih =>
    intro i hi hn hf H locs hP hD hS ls hl
    refine lv_iload hx hb dX3_bring_29 (lv_at hl 0 rfl) ?_
    refine lv_bipush (v := nI 16) hx hb dX3_bring_31 (by decide) ?_
    by_cases hc : i < 16
    · refine lv_icmp_ge (tgt := 62) hx hb dX3_bring_33 (by decide) (fun c_ => absurd c_ (nI_ge hc (by decide))) (fun _ => ?_)
      refine lv_iload hx hb dX3_bring_36 (lv_at hl 1 rfl) ?_
      refine lv_iload_n hx hb dX3_bring_38 rfl (lv_at hl 2 rfl) ?_
      refine lv_iand hx hb dX3_bring_39 ?_
      refine lv_if_eq (tgt := 46) hx hb dX3_bring_40 (by decide) (fun c1 => ?_) (fun c1 => ?_)
      · refine lv_iload hx hb dX3_bring_46 (lv_at hl 1 rfl) ?_
        refine lv_iload hx hb dX3_bring_48 (lv_at hl 1 rfl) ?_
        refine x_calli (va_runS (As := [.int (nI (xrt s0 i))]) (rest := [.int (nI (xrt s0 i))]) ⟨hx, hb, hml, hown, hts⟩ (c_X3_placesOneWayFrom l G T _ (xrt s0 i)) (va_cwS 1 hts gX3_bring_X3_placesOneWayFrom rfl rfl rfl (by decide +kernel) ⟨Nat.le_of_ble_eq_true rfl, Nat.le_of_ble_eq_true rfl⟩) (x_preS (wc := []) hK hP hD hS hA hXB hZ [] rfl rfl _) rfl rfl hl.1 rfl (lv_room (Nat.le_of_ble_eq_true rfl)) dX3_bring_50 ⟨Nat.le_of_ble_eq_true rfl, Nat.le_of_ble_eq_true rfl⟩) hP hD hS hA [] rfl (fun _ _ _ => rfl) (fun r4 u H locs hw4 hP hD hS => ?_)
        have hP : va_P G vwCl (xC T ad sc M) H := hP
        have hD : va_D A (xC T ad sc M) := hD
        refine x_topi (y := nI (xowi (xrt s0 i) 16)) (hw4) ?_
        refine lv_ior hx hb dX3_bring_53 ?_
        refine x_topi (y := nI (xrt s0 (i + 1))) (x_or _ _) ?_
        refine lv_istore (lv' := [(4, .int (nI (xrt s0 (i + 1)))), (5, .int (nI i)), (3, .int (nI (2 ^ q))), (0, .ref (ad 0)), (1, .int (nI c0)), (2, .int (nI q))]) hx hb dX3_bring_54 hl (by decide) rfl (fun ls hl => ?_)
        refine lv_iinc (v := nI (i + 1)) (lv' := [(5, .int (nI (i + 1))), (4, .int (nI (xrt s0 (i + 1)))), (3, .int (nI (2 ^ q))), (0, .ref (ad 0)), (1, .int (nI c0)), (2, .int (nI q))]) hx hb dX3_bring_56 hl (k := 1) rfl (x_inc _) (by decide) rfl (fun ls hl => ?_)
        refine lv_goto (tgt := 29) hx hb dX3_bring_59 (by decide) ?_
        exact ih (i + 1) (by omega) (by omega) (xlt_s hf ((x_bit (by omega)).mp c1)) _ _ hP hD hS ls (lv_sub hl [0, 1, 2, 3, 4, 5] rfl)
      · have hbt : (xrt s0 i).testBit q = true := by cases hb9 : (xrt s0 i).testBit q with | true => rfl | false => exact absurd ((x_bit (by omega)).mpr hb9) c1
        have ei : i = xbr s0 q := by rcases Nat.lt_trichotomy i (xbr s0 q) with g | g | g; exact absurd (hbt.symm.trans (hb3 i g)) Bool.noConfusion; exact g; exact absurd (hb2.symm.trans (hf _ g)) Bool.noConfusion
        refine lv_iload hx hb dX3_bring_43 (lv_at hl 0 rfl) ?_
        refine vx_ret ?_
        exact W.iret (v := nI i) hx hb hr (fun t9_ ht hW => ⟨⟨nI i, (), rfl, ⟨hv12, congrArg nI ei⟩, x_at ht hP⟩, hS.F ht⟩) hS.2.2 dX3_bring_45
    · have := hf (xbr s0 q) (by omega)
      rw [hb2] at this
      exact absurd this Bool.noConfusion

set_option maxHeartbeats 4000000 in
set_option maxRecDepth 100000 in
/-- riffles -/
theorem c_X3_riffles (l : Launch) (hsl : l.stackTraces = false) (G : va_G) (T : Nat → ClassId) (sz : Nat) (ad : Nat → Nat) (sc : Nat → Nat → Int32) (M : XM) (x y : Int32) (hsur : ∀ c, c < 16 → ∃ j, j < 16 ∧ mpk M j = nI c) : vx_Met l yX3_riffles wsX3_riffles ({ frames := 7, cells := 2, slots := 12, locals := 102 }) (va_Pc [.ref (ad 0), .int x, .int y] (xPre G T (xC T ad sc M) sz)) (va_Qi (fun (r : Int32) (u : Unit) => (xvb 16 x && xvb 16 y) = true ∧ r = nI (xrf (xka (xfp (mpk M) x)) (xka y))) (fun u t => va_P G vwCl (xC T ad sc M) t.heap) (va_A (xC T ad sc M) sz)) (vx_X (fun _ : Unit => True) (fun E _ t => (fun E => (xvb 16 x && xvb 16 y) = false ∧ E = "java/lang/IndexOutOfBoundsException") E ∧ va_P G vwCl (xC T ad sc M) t.heap) (va_A (xC T ad sc M) sz)) 2 12 (va_A (xC T ad sc M) sz) := by
  refine vx_ofW (cc := cX3_riffles) (maxL := 7) (ret := (some .int)) (by decide) rfl ?_
  intro p e s m args below meth c s₁ B hml hx0 hv
  obtain ⟨rfl, hsz, hP, hK, hD0, hXB, hZ⟩ := hv
  have hx := B.exec
  have hb := B.bytes
  have hr := B.returns
  have hts := atoms_spec (ws := wsX3_riffles) B.pre
  have hown : s.vm.findClass RX3 = some m.cls := findClass_of_methodNamed B.named
  have hlocks := B.notSynchronized
  subst hsz
  have hD := hD0.self (sz := s.heap.size)
  generalize hAe : va_A (xC T ad sc M) s.heap.size = A at hD hZ ⊢
  have hA : ∀ q : Nat, s.heap.size ≤ q → A q := fun q h => by rw [← hAe]; exact Or.inr h
  have hS : va_S A s.heap s.heap [] := va_S.rf
  have hP : va_P G vwCl (xC T ad sc M) s.heap := hP
  have hiX3 : ∀ w ∈ u_ws RX3 TX3 10, w ∈ wsX3_riffles := by decide +kernel
  have hl := lv_entry ([.ref (ad 0), .int x, .int y]) (n := 7) (Nat.le_of_ble_eq_true rfl)
  rw [lg_entry_eq]
  generalize (lg_sl ([.ref (ad 0), .int x, .int y]) ++ List.replicate (7 - (lg_sl ([.ref (ad 0), .int x, .int y])).length) Slot.unset).toArray = ls at hl ⊢
  have hl : lv_has ls 7 [(0, .ref (ad 0)), (1, .int x), (2, .int y)] := hl
  refine lv_iload_n hx hb dX3_riffles_0 rfl (lv_at hl 1 rfl) ?_
  refine x_xcallv (vx_runS (As := [.int x]) (rest := []) ⟨hx, hb, hml, hown, hts⟩ (c_X3_requireCard l hsl G T _ x) (va_cwS 1 hts gX3_riffles_X3_requireCard rfl rfl rfl (by decide +kernel) ⟨Nat.le_of_ble_eq_true rfl, Nat.le_of_ble_eq_true rfl⟩) (x_preS (wc := []) hK hP hD hS hA hXB hZ [] rfl rfl _) rfl rfl hl.1 rfl (lv_room (Nat.le_of_ble_eq_true rfl)) dX3_riffles_1 ⟨Nat.le_of_ble_eq_true rfl, Nat.le_of_ble_eq_true rfl⟩) hP hD hS hA [] rfl rfl (fun _ _ => rfl) (fun E ce q9 H locs hE hP hS c1 c2 c3 => ?_) (fun u1 H locs hv1 hP hD hS => ?_)
  · exact x_out hx0 hlocks (⟨by rw [hE.1, Bool.false_and], hE.2⟩) hP hS c1 c2 c3 (by decide) (by decide)
  have hP : va_P G vwCl (xC T ad sc M) H := hP
  have hD : va_D A (xC T ad sc M) := hD
  refine lv_iload_n hx hb dX3_riffles_4 rfl (lv_at hl 2 rfl) ?_
  refine x_xcallv (vx_runS (As := [.int y]) (rest := []) ⟨hx, hb, hml, hown, hts⟩ (c_X3_requirePlace l hsl G T _ y) (va_cwS 1 hts gX3_riffles_X3_requirePlace rfl rfl rfl (by decide +kernel) ⟨Nat.le_of_ble_eq_true rfl, Nat.le_of_ble_eq_true rfl⟩) (x_preS (wc := []) hK hP hD hS hA hXB hZ [] rfl rfl _) rfl rfl hl.1 rfl (lv_room (Nat.le_of_ble_eq_true rfl)) dX3_riffles_5 ⟨Nat.le_of_ble_eq_true rfl, Nat.le_of_ble_eq_true rfl⟩) hP hD hS hA [] rfl rfl (fun _ _ => rfl) (fun E ce q9 H locs hE hP hS c1 c2 c3 => ?_) (fun u1 H locs hv2 hP hD hS => ?_)
  · exact x_out hx0 hlocks (⟨by rw [hE.1, Bool.and_false], hE.2⟩) hP hS c1 c2 c3 (by decide) (by decide)
  have hP : va_P G vwCl (xC T ad sc M) H := hP
  have hD : va_D A (xC T ad sc M) := hD
  have hv12 : (xvb 16 x && xvb 16 y) = true := by rw [hv1, hv2]; rfl
  obtain ⟨c0, hc0, rfl⟩ := (xvb_iff (n := 16) (by decide)).mp (hv1)
  obtain ⟨q, hq, rfl⟩ := (xvb_iff (n := 16) (by decide)).mp (hv2)
  obtain ⟨s0, hs0, es0, -, -⟩ := xfp_in (hsur c0 hc0)
  rw [es0, xka_n (show s0 < 2 ^ 31 by omega), xka_n (show q < 2 ^ 31 by omega)]
  refine lv_aload_n hx hb dX3_riffles_8 rfl (lv_at hl 0 rfl) ?_
  refine va_get (D := G) (ci := 3) (v := .ref (ad 1)) (C := RX3) (T := TX3) (N := 10) hx hb hts hiX3 hown hK hP 0 rfl rfl 0 (by decide) (hts (.fieldLink RX3 12 "CardFans" "pack" "LCardFans$Row;") (by decide +kernel)) (fun _ h9 => h9) rfl dX3_riffles_9 ?_
  refine lv_iload_n hx hb dX3_riffles_12 rfl (lv_at hl 1 rfl) ?_
  refine x_calli (va_runV (As := [.int (nI c0)]) (rest := []) ⟨hx, hb, hml, hown, hts⟩ (c_X1_firstPlaceOf l G T _ (ad 1) (ad 2) (ad 3) (mpk M) (sc 0) (nI c0)) (cwV 1 hts gX3_riffles_X1_firstPlaceOf rfl rfl rfl (by decide +kernel) ⟨Nat.le_of_ble_eq_true rfl, Nat.le_of_ble_eq_true rfl⟩) (x_preV (wc := [(ad 1, .inr (1, [.ref (ad 2), .ref (ad 3)])), (ad 2, .inl (T 0, 16, .inl (mpk M))), (ad 3, .inl (T 0, 16, .inl (sc 0)))]) hK hP hD hS hA hXB hZ [1, 2, 3] rfl rfl _ _ 1 1 rfl rfl) rfl rfl hl.1 rfl (lv_room (Nat.le_of_ble_eq_true rfl)) dX3_riffles_13 ⟨Nat.le_of_ble_eq_true rfl, Nat.le_of_ble_eq_true rfl⟩) hP hD hS hA [1, 2, 3] rfl (fun _ _ _ => rfl) (fun r2 u H locs hw2 hP hD hS => ?_)
  have hP : va_P G vwCl (xC T ad sc M) H := hP
  have hD : va_D A (xC T ad sc M) := hD
  refine x_topi (y := nI s0) (hw2.trans es0) ?_
  refine lv_istore_n (lv' := [(3, .int (nI s0)), (0, .ref (ad 0)), (1, .int (nI c0)), (2, .int (nI q))]) hx hb dX3_riffles_16 rfl hl (by decide) rfl (fun ls hl => ?_)
  refine lv_iconst (v := nI 0) hx hb dX3_riffles_17 (by decide) ?_
  refine lv_istore (lv' := [(4, .int (nI 0)), (3, .int (nI s0)), (0, .ref (ad 0)), (1, .int (nI c0)), (2, .int (nI q))]) hx hb dX3_riffles_18 hl (by decide) rfl (fun ls hl => ?_)
  obtain ⟨hb1, hb2, hb3, hb4, hb5⟩ := xrR_ok hs0 hq
  suffices LP1 : ∀ (n1 : Nat) (i : Nat), (i ≤ 16) → (16 < i + n1) → (∀ a, a < i → ∀ o, o < 2 ^ a → ¬ xar o a s0 = q) → ∀ (H : Heap) (locs : List Loc), va_P G vwCl (xC T ad sc M) H → va_D A (xC T ad sc M) → va_S A s.heap H locs → ∀ (ls : Array Slot), lv_has ls 7 [(4, .int (nI i)), (3, .int (nI s0)), (0, .ref (ad 0)), (1, .int (nI c0)), (2, .int (nI q))] → W p l e (headSpec wsX3_riffles ({ frames := 7, cells := 2, slots := 12, locals := 102 })).room s m ([.ref (ad 0), .int (nI c0), .int (nI q)] : List Value).toArray below meth c H locs 2 12 (vx_MQ below (va_Qi (fun (r : Int32) (u : Unit) => (xvb 16 (nI c0) && xvb 16 (nI q)) = true ∧ r = nI (xrf s0 q)) (fun u t => va_P G vwCl (xC T ad sc M) t.heap) A) (vx_X (fun _ : Unit => True) (fun E _ t => (fun E => (xvb 16 (nI c0) && xvb 16 (nI q)) = false ∧ E = "java/lang/IndexOutOfBoundsException") E ∧ va_P G vwCl (xC T ad sc M) t.heap) A) ([.ref (ad 0), .int (nI c0), .int (nI q)] : List Value).toArray s 2 12 A) (F0 m 20 ls []) from LP1 17 0 (by decide) (by decide) (fun t ht => absurd ht (Nat.not_lt_zero t)) _ _ hP hD hS ls (lv_sub hl [0, 1, 2, 3, 4] rfl)
  clear hP hD hS hl
  intro n1
  induction n1 with
  | zero => intro i hi hn hf H locs _ _ _ ls _; exfalso; omega
  | succ n1 ih1 =>
    intro i hi hn hf H locs hP hD hS ls hl
    refine lv_iload hx hb dX3_riffles_20 (lv_at hl 0 rfl) ?_
    refine lv_bipush (v := nI 16) hx hb dX3_riffles_22 (by decide) ?_
    by_cases hc : i < 16
    · refine lv_icmp_ge (tgt := 73) hx hb dX3_riffles_24 (by decide) (fun c_ => absurd c_ (nI_ge hc (by decide))) (fun _ => ?_)
      refine lv_iconst (v := nI 1) hx hb dX3_riffles_27 (by decide) ?_
      refine lv_iload hx hb dX3_riffles_28 (lv_at hl 0 rfl) ?_
      refine lv_ishl hx hb dX3_riffles_30 ?_
      refine x_topi (y := nI (2 ^ i)) (show xso (nI i) = _ from xso_n (by omega)) ?_
      refine lv_istore (lv' := [(5, .int (nI (2 ^ i))), (4, .int (nI i)), (3, .int (nI s0)), (0, .ref (ad 0)), (1, .int (nI c0)), (2, .int (nI q))]) hx hb dX3_riffles_31 hl (by decide) rfl (fun ls hl => ?_)
      refine lv_iconst (v := nI 0) hx hb dX3_riffles_33 (by decide) ?_
      refine lv_istore (lv' := [(6, .int (nI 0)), (5, .int (nI (2 ^ i))), (4, .int (nI i)), (3, .int (nI s0)), (0, .ref (ad 0)), (1, .int (nI c0)), (2, .int (nI q))]) hx hb dX3_riffles_34 hl (by decide) rfl (fun ls hl => ?_)
      have hp15 : 2 ^ i ≤ 2 ^ 15 := Nat.pow_le_pow_right (by decide) (by omega)
      suffices LP2 : ∀ (n2 : Nat) (o : Nat), (o ≤ 2 ^ i) → (2 ^ i < o + n2) → (∀ o1, o1 < o → ¬ xar o1 i s0 = q) → ∀ (H : Heap) (locs : List Loc), va_P G vwCl (xC T ad sc M) H → va_D A (xC T ad sc M) → va_S A s.heap H locs → ∀ (ls : Array Slot), lv_has ls 7 [(6, .int (nI o)), (5, .int (nI (2 ^ i))), (4, .int (nI i)), (3, .int (nI s0)), (0, .ref (ad 0)), (1, .int (nI c0)), (2, .int (nI q))] → W p l e (headSpec wsX3_riffles ({ frames := 7, cells := 2, slots := 12, locals := 102 })).room s m ([.ref (ad 0), .int (nI c0), .int (nI q)] : List Value).toArray below meth c H locs 2 12 (vx_MQ below (va_Qi (fun (r : Int32) (u : Unit) => (xvb 16 (nI c0) && xvb 16 (nI q)) = true ∧ r = nI (xrf s0 q)) (fun u t => va_P G vwCl (xC T ad sc M) t.heap) A) (vx_X (fun _ : Unit => True) (fun E _ t => (fun E => (xvb 16 (nI c0) && xvb 16 (nI q)) = false ∧ E = "java/lang/IndexOutOfBoundsException") E ∧ va_P G vwCl (xC T ad sc M) t.heap) A) ([.ref (ad 0), .int (nI c0), .int (nI q)] : List Value).toArray s 2 12 A) (F0 m 36 ls []) from LP2 (2 ^ i + 1) 0 (Nat.zero_le _) (by omega) (fun t ht => absurd ht (Nat.not_lt_zero t)) _ _ hP hD hS ls (lv_sub hl [0, 1, 2, 3, 4, 5, 6] rfl)
      clear hP hD hS hl
      intro n2
      induction n2 with
      | zero => intro o ho hn2 hf2 H locs _ _ _ ls _; exfalso; omega
      | succ n2 ih2 =>
        intro o ho hn2 hf2 H locs hP hD hS ls hl
        refine lv_iload hx hb dX3_riffles_36 (lv_at hl 0 rfl) ?_
        refine lv_iload hx hb dX3_riffles_38 (lv_at hl 1 rfl) ?_
        by_cases hc2 : o < 2 ^ i
        · refine lv_icmp_ge (tgt := 67) hx hb dX3_riffles_40 (by decide) (fun c_ => absurd c_ (nI_ge hc2 (by omega))) (fun _ => ?_)
          refine lv_iload_n hx hb dX3_riffles_43 rfl (lv_at hl 3 rfl) ?_
          refine lv_iload hx hb dX3_riffles_44 (lv_at hl 0 rfl) ?_
          refine lv_iload hx hb dX3_riffles_46 (lv_at hl 2 rfl) ?_
          refine x_calli (va_runS (As := [.int (nI s0), .int (nI o), .int (nI i)]) (rest := []) ⟨hx, hb, hml, hown, hts⟩ (c_X3_placeAfterRiffles l G T _ s0 o i hs0 hc (by omega)) (va_cwS 3 hts gX3_riffles_X3_placeAfterRiffles rfl rfl rfl (by decide +kernel) ⟨Nat.le_of_ble_eq_true rfl, Nat.le_of_ble_eq_true rfl⟩) (x_preS (wc := []) hK hP hD hS hA hXB hZ [] rfl rfl _) rfl rfl hl.1 rfl (lv_room (Nat.le_of_ble_eq_true rfl)) dX3_riffles_48 ⟨Nat.le_of_ble_eq_true rfl, Nat.le_of_ble_eq_true rfl⟩) hP hD hS hA [] rfl (fun _ _ _ => rfl) (fun r3 u H locs hw3 hP hD hS => ?_)
          have hP : va_P G vwCl (xC T ad sc M) H := hP
          have hD : va_D A (xC T ad sc M) := hD
          refine x_topi (y := nI (xar o i s0)) (hw3) ?_
          refine lv_iload_n hx hb dX3_riffles_51 rfl (lv_at hl 6 rfl) ?_
          have hlt := xar_lt o i s0 hs0
          by_cases he : xar o i s0 = q
          · refine lv_icmp_ne (tgt := 61) hx hb dX3_riffles_52 (by decide) (fun c_ => absurd (congrArg nI he) c_) (fun _ => ?_)
            refine lv_iload hx hb dX3_riffles_55 (lv_at hl 1 rfl) ?_
            refine lv_iload hx hb dX3_riffles_57 (lv_at hl 0 rfl) ?_
            refine lv_iadd hx hb dX3_riffles_59 ?_
            refine x_topi (y := nI (2 ^ i + o)) (nI_add _ _) ?_
            have ei : i = (xrR s0 q).1 := by
                            rcases Nat.lt_trichotomy i (xrR s0 q).1 with g | g | g
                            · exact absurd he (hb4 i g o hc2)
                            · exact g
                            · exact absurd hb3 (hf _ g _ hb2)
            subst ei
            have eo : o = (xrR s0 q).2 := by
                            rcases Nat.lt_trichotomy o (xrR s0 q).2 with g | g | g
                            · exact absurd he (hb5 o g)
                            · exact g
                            · exact absurd hb3 (hf2 _ g)
            refine vx_ret ?_
            exact W.iret (v := nI (2 ^ ((xrR s0 q).1) + o)) hx hb hr (fun t9_ ht hW => ⟨⟨nI (2 ^ ((xrR s0 q).1) + o), (), rfl, ⟨hv12, by rw [eo]; rfl⟩, x_at ht hP⟩, hS.F ht⟩) hS.2.2 dX3_riffles_60
          · refine lv_icmp_ne (tgt := 61) hx hb dX3_riffles_52 (by decide) (fun _ => ?_) (fun c_ => absurd c_ (fun h => he ((nI_eq (by omega) (by omega)).mp h)))
            refine lv_iinc (v := nI (o + 1)) (lv' := [(6, .int (nI (o + 1))), (5, .int (nI (2 ^ i))), (4, .int (nI i)), (3, .int (nI s0)), (0, .ref (ad 0)), (1, .int (nI c0)), (2, .int (nI q))]) hx hb dX3_riffles_61 hl (k := 0) rfl (x_inc _) (by decide) rfl (fun ls hl => ?_)
            refine lv_goto (tgt := 36) hx hb dX3_riffles_64 (by decide) ?_
            exact ih2 (o + 1) (by omega) (by omega) (xlt_s hf2 he) _ _ hP hD hS ls (lv_sub hl [0, 1, 2, 3, 4, 5, 6] rfl)
        · refine lv_icmp_ge (tgt := 67) hx hb dX3_riffles_40 (by decide) (fun _ => ?_) (fun c_ => absurd (nI_le (by omega) (by omega)) c_)
          refine lv_iinc (v := nI (i + 1)) (lv' := [(4, .int (nI (i + 1))), (6, .int (nI o)), (5, .int (nI (2 ^ i))), (3, .int (nI s0)), (0, .ref (ad 0)), (1, .int (nI c0)), (2, .int (nI q))]) hx hb dX3_riffles_67 hl (k := 2) rfl (x_inc _) (by decide) rfl (fun ls hl => ?_)
          refine lv_goto (tgt := 20) hx hb dX3_riffles_70 (by decide) ?_
          exact ih1 (i + 1) (by omega) (by omega) (xlt_s (P := fun a => ∀ o, o < 2 ^ a → ¬ xar o a s0 = q) hf (fun o ho => hf2 o (by omega))) _ _ hP hD hS ls (lv_sub hl [0, 3, 4, 5, 6] rfl)
    · exact absurd hb3 (hf _ (by omega) _ hb2)

set_option maxHeartbeats 4000000 in
set_option maxRecDepth 100000 in
/-- back -/
theorem c_X3_back (l : Launch) (hsl : l.stackTraces = false) (G : va_G) (T : Nat → ClassId) (sz : Nat) (ad : Nat → Nat) (sc : Nat → Nat → Int32) (M : XM) (a b : Int32) : vx_Met l yX3_back wsX3_back ({ frames := 7, cells := 1, slots := 6, locals := 103 }) (va_Pc [.ref (ad 0), .int a, .int b] (xPre G T (xC T ad sc M) sz)) (va_Qi (fun (r : Int32) (u : Nat → Nat → Int32) => xwb a b = true ∧ r = nI (xord (xka a) (xka b))) (fun u t => va_P G vwCl (xC T ad u M) t.heap) (va_A (xC T ad sc M) sz)) (vx_X (fun _ : Unit => True) (fun E _ t => (fun E => xwb a b = false ∧ E = "java/lang/IllegalArgumentException") E ∧ va_P G vwCl (xC T ad sc M) t.heap) (va_A (xC T ad sc M) sz)) 1 6 (va_A (xC T ad sc M) sz) := by
  refine vx_ofW (cc := cX3_back) (maxL := 4) (ret := (some .int)) (by decide) rfl ?_
  intro p e s m args below meth c s₁ B hml hx0 hv
  obtain ⟨rfl, hsz, hP, hK, hD0, hXB, hZ⟩ := hv
  have hx := B.exec
  have hb := B.bytes
  have hr := B.returns
  have hts := atoms_spec (ws := wsX3_back) B.pre
  have hown : s.vm.findClass RX3 = some m.cls := findClass_of_methodNamed B.named
  have hlocks := B.notSynchronized
  subst hsz
  have hD := hD0.self (sz := s.heap.size)
  generalize hAe : va_A (xC T ad sc M) s.heap.size = A at hD hZ ⊢
  have hA : ∀ q : Nat, s.heap.size ≤ q → A q := fun q h => by rw [← hAe]; exact Or.inr h
  have hS : va_S A s.heap s.heap [] := va_S.rf
  have hP : va_P G vwCl (xC T ad sc M) s.heap := hP
  have hiX3 : ∀ w ∈ u_ws RX3 TX3 10, w ∈ wsX3_back := by decide +kernel
  have hl := lv_entry ([.ref (ad 0), .int a, .int b]) (n := 4) (Nat.le_of_ble_eq_true rfl)
  rw [lg_entry_eq]
  generalize (lg_sl ([.ref (ad 0), .int a, .int b]) ++ List.replicate (4 - (lg_sl ([.ref (ad 0), .int a, .int b])).length) Slot.unset).toArray = ls at hl ⊢
  have hl : lv_has ls 4 [(0, .ref (ad 0)), (1, .int a), (2, .int b)] := hl
  refine lv_iload_n hx hb dX3_back_0 rfl (lv_at hl 1 rfl) ?_
  refine lv_iload_n hx hb dX3_back_1 rfl (lv_at hl 2 rfl) ?_
  refine x_xcallv (vx_runS (As := [.int a, .int b]) (rest := []) ⟨hx, hb, hml, hown, hts⟩ (c_X3_requireWay l hsl G T _ a b) (va_cwS 2 hts gX3_back_X3_requireWay rfl rfl rfl (by decide +kernel) ⟨Nat.le_of_ble_eq_true rfl, Nat.le_of_ble_eq_true rfl⟩) (x_preS (wc := []) hK hP hD hS hA hXB hZ [] rfl rfl _) rfl rfl hl.1 rfl (lv_room (Nat.le_of_ble_eq_true rfl)) dX3_back_2 ⟨Nat.le_of_ble_eq_true rfl, Nat.le_of_ble_eq_true rfl⟩) hP hD hS hA [] rfl rfl (fun _ _ => rfl) (fun E ce q9 H locs hE hP hS c1 c2 c3 => ?_) (fun u1 H locs hv1 hP hD hS => ?_)
  · exact x_out hx0 hlocks (hE) hP hS c1 c2 c3 (by decide) (by decide)
  have hP : va_P G vwCl (xC T ad sc M) H := hP
  have hD : va_D A (xC T ad sc M) := hD
  obtain ⟨k, n, hkn, rfl, rfl⟩ := xwb_iff.mp hv1
  have hb5 := xwn_lt hkn
  rw [xka_n (show k < 2 ^ 31 by omega), xka_n (show n < 2 ^ 31 by omega)]
  refine lv_aload_n hx hb dX3_back_5 rfl (lv_at hl 0 rfl) ?_
  refine va_get (D := G) (ci := 3) (v := .ref (ad 4)) (C := RX3) (T := TX3) (N := 10) hx hb hts hiX3 hown hK hP 0 rfl rfl 1 (by decide) (hts (.fieldLink RX3 16 "CardFans" "trial" "LCardFans$Row;") (by decide +kernel)) (fun _ h9 => h9) rfl dX3_back_6 ?_
  obtain ⟨hb1, hb2, hb3, hb4⟩ := xord_ok hkn
  refine x_callv (va_runV (As := []) (rest := []) ⟨hx, hb, hml, hown, hts⟩ (c_X1_putInOrder l G T _ (ad 4) (ad 5) (ad 6) (sc 1) (sc 2)) (cwV 0 hts gX3_back_X1_putInOrder rfl rfl rfl (by decide +kernel) ⟨Nat.le_of_ble_eq_true rfl, Nat.le_of_ble_eq_true rfl⟩) (x_preV (wc := [(ad 4, .inr (1, [.ref (ad 5), .ref (ad 6)])), (ad 5, .inl (T 0, 16, .inl (sc 1))), (ad 6, .inl (T 0, 16, .inl (sc 2)))]) hK hP hD hS hA hXB hZ [4, 5, 6] rfl rfl _ _ 4 1 rfl rfl) rfl rfl hl.1 rfl (lv_room (Nat.le_of_ble_eq_true rfl)) dX3_back_9 ⟨Nat.le_of_ble_eq_true rfl, Nat.le_of_ble_eq_true rfl⟩) hP hD hS hA [4, 5, 6] rfl (fun _ _ => rfl) (fun u1 H locs _ hP hD hS => ?_)
  have hP : va_P G vwCl (xC T ad (va_up sc 1 (fun j => nI j)) M) H := hP
  have hD : va_D A (xC T ad (va_up sc 1 (fun j => nI j)) M) := hD
  refine lv_iconst (v := nI 0) hx hb dX3_back_12 (by decide) ?_
  refine lv_istore_n (lv' := [(3, .int (nI 0)), (0, .ref (ad 0)), (1, .int (nI k)), (2, .int (nI n))]) hx hb dX3_back_13 rfl hl (by decide) rfl (fun ls hl => ?_)
  have hP : va_P G vwCl (xC T ad (va_up (va_up sc 1 (fun j => nI (xit k n 0 j))) 2 (sc 2)) M) H := hP
  have hD : va_D A (xC T ad (va_up (va_up sc 1 (fun j => nI (xit k n 0 j))) 2 (sc 2)) M) := hD
  suffices LP1 : ∀ (n1 : Nat) (t : Nat) (g : Nat → Int32), (t ≤ 16) → (16 < t + n1) → (∀ t1, 1 ≤ t1 → t1 ≤ t → xitc k n t1 = false) → ∀ (H : Heap) (locs : List Loc), va_P G vwCl (xC T ad (va_up (va_up sc 1 (fun j => nI (xit k n t j))) 2 g) M) H → va_D A (xC T ad (va_up (va_up sc 1 (fun j => nI (xit k n t j))) 2 g) M) → va_S A s.heap H locs → ∀ (ls : Array Slot), lv_has ls 4 [(3, .int (nI t)), (0, .ref (ad 0)), (1, .int (nI k)), (2, .int (nI n))] → W p l e (headSpec wsX3_back ({ frames := 7, cells := 1, slots := 6, locals := 103 })).room s m ([.ref (ad 0), .int (nI k), .int (nI n)] : List Value).toArray below meth c H locs 1 6 (vx_MQ below (va_Qi (fun (r : Int32) (u : Nat → Nat → Int32) => xwb (nI k) (nI n) = true ∧ r = nI (xord k n)) (fun u t => va_P G vwCl (xC T ad u M) t.heap) A) (vx_X (fun _ : Unit => True) (fun E _ t => (fun E => xwb (nI k) (nI n) = false ∧ E = "java/lang/IllegalArgumentException") E ∧ va_P G vwCl (xC T ad sc M) t.heap) A) ([.ref (ad 0), .int (nI k), .int (nI n)] : List Value).toArray s 1 6 A) (F0 m 14 ls []) from LP1 17 0 (sc 2) (by decide) (by decide) (fun t1 h1 h2 => absurd h1 (by omega)) _ _ hP hD hS ls (lv_sub hl [0, 1, 2, 3] rfl)
  clear hP hD hS hl
  intro n1
  induction n1 with
  | zero => intro t g ht hn1 hf H locs _ _ _ ls _; exfalso; omega
  | succ n1 ih1 =>
    intro t g ht hn1 hf H locs hP hD hS ls hl
    refine lv_aload_n hx hb dX3_back_14 rfl (lv_at hl 1 rfl) ?_
    refine va_get (D := G) (ci := 3) (v := .ref (ad 4)) (C := RX3) (T := TX3) (N := 10) hx hb hts hiX3 hown hK hP 0 rfl rfl 1 (by decide) (hts (.fieldLink RX3 16 "CardFans" "trial" "LCardFans$Row;") (by decide +kernel)) (fun _ h9 => h9) rfl dX3_back_15 ?_
    refine lv_iload_n hx hb dX3_back_18 rfl (lv_at hl 2 rfl) ?_
    refine lv_iload_n hx hb dX3_back_19 rfl (lv_at hl 3 rfl) ?_
    refine x_callv (va_runV (As := [.int (nI k), .int (nI n)]) (rest := []) ⟨hx, hb, hml, hown, hts⟩ (c_X1_carry l G T _ (ad 4) (ad 5) (ad 6) (fun j => nI (xit k n t j)) g k n hkn) (cwV 2 hts gX3_back_X1_carry rfl rfl rfl (by decide +kernel) ⟨Nat.le_of_ble_eq_true rfl, Nat.le_of_ble_eq_true rfl⟩) (x_preV (wc := [(ad 4, .inr (1, [.ref (ad 5), .ref (ad 6)])), (ad 5, .inl (T 0, 16, .inl ((va_up (va_up sc 1 (fun j => nI (xit k n t j))) 2 g) 1))), (ad 6, .inl (T 0, 16, .inl ((va_up (va_up sc 1 (fun j => nI (xit k n t j))) 2 g) 2)))]) hK hP hD hS hA hXB hZ [4, 5, 6] rfl rfl _ _ 4 1 rfl rfl) rfl rfl hl.1 rfl (lv_room (Nat.le_of_ble_eq_true rfl)) dX3_back_20 ⟨Nat.le_of_ble_eq_true rfl, Nat.le_of_ble_eq_true rfl⟩) hP hD hS hA [4, 5, 6] rfl (fun _ _ => rfl) (fun u2 H locs _ hP hD hS => ?_)
    have hP : va_P G vwCl (xC T ad (va_up (va_up sc 1 (fun j => nI (xit k n (t + 1) j))) 2 u2) M) H := hP
    have hD : va_D A (xC T ad (va_up (va_up sc 1 (fun j => nI (xit k n (t + 1) j))) 2 u2) M) := hD
    refine lv_iinc (v := nI (t + 1)) (lv' := [(3, .int (nI (t + 1))), (0, .ref (ad 0)), (1, .int (nI k)), (2, .int (nI n))]) hx hb dX3_back_23 hl (k := 0) rfl (x_inc _) (by decide) rfl (fun ls hl => ?_)
    refine lv_aload_n hx hb dX3_back_26 rfl (lv_at hl 1 rfl) ?_
    refine va_get (D := G) (ci := 3) (v := .ref (ad 4)) (C := RX3) (T := TX3) (N := 10) hx hb hts hiX3 hown hK hP 0 rfl rfl 1 (by decide) (hts (.fieldLink RX3 16 "CardFans" "trial" "LCardFans$Row;") (by decide +kernel)) (fun _ h9 => h9) rfl dX3_back_27 ?_
    refine x_calli (va_runV (As := []) (rest := []) ⟨hx, hb, hml, hown, hts⟩ (c_X1_placesInOrder l G T _ (ad 4) (ad 5) (ad 6) (fun j => nI (xit k n (t + 1) j)) u2) (cwV 0 hts gX3_back_X1_placesInOrder rfl rfl rfl (by decide +kernel) ⟨Nat.le_of_ble_eq_true rfl, Nat.le_of_ble_eq_true rfl⟩) (x_preV (wc := [(ad 4, .inr (1, [.ref (ad 5), .ref (ad 6)])), (ad 5, .inl (T 0, 16, .inl ((va_up (va_up sc 1 (fun j => nI (xit k n (t + 1) j))) 2 u2) 1))), (ad 6, .inl (T 0, 16, .inl ((va_up (va_up sc 1 (fun j => nI (xit k n (t + 1) j))) 2 u2) 2)))]) hK hP hD hS hA hXB hZ [4, 5, 6] rfl rfl _ _ 4 1 rfl rfl) rfl rfl hl.1 rfl (lv_room (Nat.le_of_ble_eq_true rfl)) dX3_back_30 ⟨Nat.le_of_ble_eq_true rfl, Nat.le_of_ble_eq_true rfl⟩) hP hD hS hA [4, 5, 6] rfl (fun _ _ _ => rfl) (fun r1 u3 H locs hw1 hP hD hS => ?_)
    have hP : va_P G vwCl (xC T ad (va_up (va_up sc 1 (fun j => nI (xit k n (t + 1) j))) 2 u2) M) H := hP
    have hD : va_D A (xC T ad (va_up (va_up sc 1 (fun j => nI (xit k n (t + 1) j))) 2 u2) M) := hD
    refine x_topi (y := nI (xct (fun j => decide ((fun j => nI (xit k n (t + 1) j)) j = nI j)) 16)) (hw1) ?_
    refine lv_bipush (v := nI 16) hx hb dX3_back_33 (by decide) ?_
    have hle := xct_le (fun j => decide ((fun j => nI (xit k n (t + 1) j)) j = nI j)) 16
    have hiff := xitc_ct hkn (t + 1)
    by_cases hx9 : xitc k n (t + 1) = true
    · refine lv_icmp_ge (tgt := 45) hx hb dX3_back_35 (by decide) (fun _ => ?_) (fun c_ => absurd (nI_le (by rw [hiff.mpr hx9]; exact Nat.le_refl _) (by omega)) c_)
      have et : t + 1 = xord k n := by
                rcases Nat.lt_trichotomy (t + 1) (xord k n) with g9 | g9 | g9
                · exact absurd (hx9.symm.trans (hb4 (t + 1) (by omega) g9)) Bool.noConfusion
                · exact g9
                · exact absurd (hb3.symm.trans (hf _ hb1 (by omega))) Bool.noConfusion
      refine lv_iload_n hx hb dX3_back_45 rfl (lv_at hl 0 rfl) ?_
      refine vx_ret ?_
      exact W.iret (v := nI (t + 1)) hx hb hr (fun t9_ ht hW => ⟨⟨nI (t + 1), (va_up (va_up sc 1 (fun j => nI (xit k n (t + 1) j))) 2 u2), rfl, ⟨hv1, congrArg nI et⟩, x_at ht hP⟩, hS.F ht⟩) hS.2.2 dX3_back_46
    · have hne : xct (fun j => decide ((fun j => nI (xit k n (t + 1) j)) j = nI j)) 16 ≠ 16 := fun h => hx9 (hiff.mp h)
      refine lv_icmp_ge (tgt := 45) hx hb dX3_back_35 (by decide) (fun c_ => absurd c_ (nI_ge (by omega) (by decide))) (fun _ => ?_)
      refine lv_iload_n hx hb dX3_back_38 rfl (lv_at hl 0 rfl) ?_
      refine lv_sipush (v := nI 1000) hx hb dX3_back_39 (by decide) ?_
      have hx0 : xitc k n (t + 1) = false := by cases hb9 : xitc k n (t + 1) with | false => rfl | true => exact absurd hb9 hx9
      have ht16 : t + 1 < xord k n := by rcases Nat.lt_trichotomy (t + 1) (xord k n) with g9 | g9 | g9; exact g9; exact absurd (hb3.symm.trans (g9 ▸ hx0)) Bool.noConfusion; exact absurd (hb3.symm.trans (hf _ hb1 (by omega))) Bool.noConfusion
      refine lv_icmp_lt (tgt := 14) hx hb dX3_back_42 (by decide) (fun _ => ?_) (fun c_ => absurd (nI_lt (by omega) (by decide)) c_)
      exact ih1 (t + 1) u2 (by omega) (by omega) (fun t1 h1 h2 => by rcases Nat.lt_or_ge t1 (t + 1) with g9 | g9; exact hf t1 h1 (by omega); rw [show t1 = t + 1 by omega]; exact hx0) _ _ hP hD hS ls (lv_sub hl [0, 1, 2, 3] rfl)
end XF4
