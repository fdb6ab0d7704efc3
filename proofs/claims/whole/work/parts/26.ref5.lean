section XR5
/-! how many cards are thought of: falls with each round that strikes -/
def xbt1 (x : Int32) : Nat := xct (fun b => x.toBitVec.getLsbD b) 16
def xbt (f : Nat → Int32) : Nat → Nat
  | 0 => 0
  | n + 1 => xbt f n + xbt1 (f n)
theorem xct_mono {a b : Nat → Bool} (h : ∀ j, a j = true → b j = true) : ∀ n, xct a n ≤ xct b n
  | 0 => Nat.le_refl 0
  | n + 1 => by
    have ih := xct_mono h n
    by_cases ha : a n = true
    · rw [xct_t ha, xct_t (h n ha)]; omega
    · rw [xct_f ha]
      by_cases hb : b n = true
      · rw [xct_t hb]; omega
      · rw [xct_f hb]; omega
theorem xct_lt {a b : Nat → Bool} (h : ∀ j, a j = true → b j = true) {i : Nat} (h1 : a i = false) (h2 : b i = true) : ∀ n, i < n → xct a n < xct b n
  | 0, hi => absurd hi (Nat.not_lt_zero i)
  | n + 1, hi => by
    by_cases e : i = n
    · subst e
      rw [xct_f (by rw [h1]; exact Bool.false_ne_true), xct_t h2]
      exact Nat.lt_succ_of_le (xct_mono h i)
    · have ih := xct_lt h h1 h2 n (by omega)
      by_cases ha : a n = true
      · rw [xct_t ha, xct_t (h n ha)]; omega
      · rw [xct_f ha]
        by_cases hb : b n = true
        · rw [xct_t hb]; omega
        · rw [xct_f hb]; omega
theorem xand_bit (x v : Int32) (b : Nat) : (x &&& (v ^^^ (-1))).toBitVec.getLsbD b = true → x.toBitVec.getLsbD b = true := by
  intro h
  rw [Int32.toBitVec_and, BitVec.getLsbD_and, Bool.and_eq_true] at h
  exact h.1
theorem xand_lt {x v : Int32} (hv : v.toBitVec.toNat < 65536) (h : ¬ x &&& v = 0) : xbt1 (x &&& (v ^^^ (-1))) < xbt1 x := by
  have h1 : ∃ b, x.toBitVec.getLsbD b = true ∧ v.toBitVec.getLsbD b = true := by
    apply Classical.byContradiction
    intro hn
    apply h
    apply Int32.toBitVec_inj.mp
    apply BitVec.eq_of_getLsbD_eq
    intro b hb
    rw [Int32.toBitVec_and, BitVec.getLsbD_and]
    have hz : (0 : Int32).toBitVec.getLsbD b = false := by
      show (BitVec.ofNat 32 0).getLsbD b = false
      simp
    rw [hz]
    cases hx : x.toBitVec.getLsbD b with
    | false => rfl
    | true =>
      cases hy : v.toBitVec.getLsbD b with
      | false => rfl
      | true => exact absurd ⟨b, hx, hy⟩ hn
  obtain ⟨b, h2, h3⟩ := h1
  have hb : b < 16 := by
    rcases Nat.lt_or_ge b 16 with q | q
    · exact q
    · exfalso
      have h4 : v.toBitVec.toNat.testBit b = true := h3
      rw [Nat.testBit_lt_two_pow (Nat.lt_of_lt_of_le hv (Nat.pow_le_pow_right (n := 2) (by decide) q))] at h4
      exact Bool.false_ne_true h4
  refine xct_lt (i := b) (fun j => xand_bit x v j) ?_ h2 16 hb
  show (x &&& (v ^^^ (-1))).toBitVec.getLsbD b = false
  rw [Int32.toBitVec_and, BitVec.getLsbD_and, Int32.toBitVec_xor, BitVec.getLsbD_xor, h3]
  have : ((-1 : Int32)).toBitVec.getLsbD b = true := by
    have : ∀ c, c < 16 → ((-1 : Int32)).toBitVec.getLsbD c = true := by decide
    exact this b hb
  rw [this]
  simp
theorem xbt_up {f : Nat → Int32} {j : Nat} {x : Int32} (h : xbt1 x ≤ xbt1 (f j)) : ∀ n, xbt (upd f j x) n ≤ xbt f n ∧ (j < n → xbt1 x < xbt1 (f j) → xbt (upd f j x) n < xbt f n)
  | 0 => ⟨Nat.le_refl 0, fun h => absurd h (Nat.not_lt_zero j)⟩
  | n + 1 => by
    obtain ⟨i1, i2⟩ := xbt_up h n
    show xbt (upd f j x) n + xbt1 (upd f j x n) ≤ xbt f n + xbt1 (f n) ∧ (_ → _ → xbt (upd f j x) n + xbt1 (upd f j x n) < xbt f n + xbt1 (f n))
    by_cases e : n = j
    · subst e
      rw [pk_us]
      exact ⟨by omega, fun _ h2 => by omega⟩
    · rw [pk_un e]
      exact ⟨by omega, fun h1 h2 => by have := i2 (by omega) h2; omega⟩
def xrg (f : Nat → Int32) : Prop := ∀ j, j < 16 → (f j).toBitVec.toNat < 65536
theorem xrg_and {x v : Int32} (h : x.toBitVec.toNat < 65536) : (x &&& v).toBitVec.toNat < 65536 := by
  rw [Int32.toBitVec_and, BitVec.toNat_and]
  exact Nat.lt_of_le_of_lt Nat.and_le_left h
theorem xsk_rg {f : Nat → Int32} (h : xrg f) (k : Nat) (v : Int32) (j : Nat) : xrg (xsk f k v j) := by
  intro a ha
  unfold xsk
  split
  · by_cases e : a = j
    · subst e; rw [pk_us]; exact xrg_and (h a ha)
    · rw [pk_un e]; exact h a ha
  · exact h a ha
theorem xse_rg {f : Nat → Int32} (h : xrg f) (k : Nat) (v : Int32) : ∀ n, xrg (xse f k v n)
  | 0 => h
  | n + 1 => xsk_rg (xse_rg h k v n) k v n
theorem xrp_rg {f : Nat → Int32} (h : xrg f) : ∀ n, xrg (xrp f n)
  | 0 => h
  | n + 1 => by
    show xrg (if _ then _ else _)
    split
    · exact xse_rg (xrp_rg h n) _ _ _
    · exact xrp_rg h n
theorem xsk_bt (f : Nat → Int32) (k : Nat) {v : Int32} (hv : v.toBitVec.toNat < 65536) {j : Nat} (hj : j < 16) : xbt (xsk f k v j) 16 ≤ xbt f 16 ∧ (j ≠ k ∧ ¬ f j &&& v = 0 → xbt (xsk f k v j) 16 < xbt f 16) := by
  by_cases h : j ≠ k ∧ ¬ f j &&& v = 0
  · have h1 := xand_lt hv h.2
    rw [xsk_t h.1 h.2]
    have := (xbt_up (f := f) (j := j) (Nat.le_of_lt h1) 16).2 hj h1
    exact ⟨Nat.le_of_lt this, fun _ => this⟩
  · rw [xsk_f h]
    exact ⟨Nat.le_refl _, fun h2 => absurd h2 h⟩
theorem xse_bt (f : Nat → Int32) (k : Nat) {v : Int32} (hv : v.toBitVec.toNat < 65536) : ∀ n, n ≤ 16 → xbt (xse f k v n) 16 ≤ xbt f 16 ∧ (xsc f k v n = true → xbt (xse f k v n) 16 < xbt f 16)
  | 0, _ => ⟨Nat.le_refl _, fun h => absurd h Bool.false_ne_true⟩
  | n + 1, hn => by
    obtain ⟨i1, i2⟩ := xse_bt f k hv n (by omega)
    obtain ⟨j1, j2⟩ := xsk_bt (xse f k v n) k hv (j := n) (by omega)
    refine ⟨Nat.le_trans j1 i1, fun h => ?_⟩
    have h : (xsc f k v n || decide (n ≠ k ∧ ¬ xse f k v n n &&& v = 0)) = true := h
    rw [Bool.or_eq_true] at h
    rcases h with h | h
    · exact Nat.lt_of_le_of_lt j1 (i2 h)
    · exact Nat.lt_of_lt_of_le (j2 (of_decide_eq_true h)) i1
theorem xrp_bt {f : Nat → Int32} (hf : xrg f) : ∀ n, n ≤ 16 → xbt (xrp f n) 16 ≤ xbt f 16 ∧ (xrc f n = true → xbt (xrp f n) 16 < xbt f 16)
  | 0, _ => ⟨Nat.le_refl _, fun h => absurd h Bool.false_ne_true⟩
  | n + 1, hn => by
    obtain ⟨i1, i2⟩ := xrp_bt hf n (by omega)
    have hv := xrp_rg hf n n (by omega)
    obtain ⟨j1, j2⟩ := xse_bt (xrp f n) n hv 16 (Nat.le_refl 16)
    show xbt (if xone (xrp f n n) then _ else _) 16 ≤ _ ∧ ((xrc f n || (xone (xrp f n n) && _)) = true → xbt (if xone (xrp f n n) then _ else _) 16 < _)
    by_cases h1 : xone (xrp f n n) = true
    · rw [if_pos h1, h1, Bool.true_and]
      refine ⟨Nat.le_trans j1 i1, fun h => ?_⟩
      rw [Bool.or_eq_true] at h
      rcases h with h | h
      · exact Nat.lt_of_le_of_lt j1 (i2 h)
      · exact Nat.lt_of_lt_of_le (j2 h) i1
    · rw [if_neg h1, eq_false_of_ne_true h1, Bool.false_and, Bool.or_false]
      exact ⟨i1, i2⟩
theorem xbt_le (f : Nat → Int32) : ∀ n, xbt f n ≤ 16 * n
  | 0 => Nat.le_refl 0
  | n + 1 => by
    have h1 := xbt_le f n
    have h2 : xbt1 (f n) ≤ 16 := xct_le _ 16
    show xbt f n + xbt1 (f n) ≤ _
    omega
theorem xse_self (f : Nat → Int32) (k : Nat) (v : Int32) : ∀ n, xse f k v n k = f k
  | 0 => rfl
  | n + 1 => by
    show xsk (xse f k v n) k v n k = f k
    unfold xsk
    split
    · rename_i h
      rw [pk_un (fun e => h.1 e.symm)]
      exact xse_self f k v n
    · exact xse_self f k v n
theorem xsk_z {f : Nat → Int32} {k j a : Nat} {v : Int32} (h : f a = 0) : xsk f k v j a = 0 := by
  unfold xsk
  split
  · by_cases e : a = j
    · subst e; rw [pk_us, h]; exact Int32.zero_and
    · rw [pk_un e]; exact h
  · exact h
theorem xse_z {f : Nat → Int32} {k a : Nat} {v : Int32} {m : Nat} (h : xse f k v m a = 0) : ∀ n, m ≤ n → xse f k v n a = 0
  | 0, hn => by rw [show (0 : Nat) = m by omega]; exact h
  | n + 1, hn => by
    rcases Nat.lt_or_ge n m with q | q
    · rw [show n + 1 = m by omega]; exact h
    · exact xsk_z (xse_z h n q)
theorem xrp_z {f : Nat → Int32} {a m : Nat} (h : xrp f m a = 0) : ∀ n, m ≤ n → xrp f n a = 0
  | 0, hn => by rw [show (0 : Nat) = m by omega]; exact h
  | n + 1, hn => by
    rcases Nat.lt_or_ge n m with q | q
    · rw [show n + 1 = m by omega]; exact h
    · show (if _ then _ else _ : Nat → Int32) a = 0
      split
      · exact xse_z (m := 0) (xrp_z h n q) 16 (Nat.zero_le _)
      · exact xrp_z h n q

set_option maxHeartbeats 4000000 in
set_option maxRecDepth 100000 in
/-- isLeft -/
theorem c_X4_isLeft (l : Launch) (G : va_G) (T : Nat → ClassId) (sz : Nat) (N : Nat) (hN : N = 257) (a0 : Nat) (f : Nat → Int32) (hR : xrg f) (hnz : ∀ j, j < 16 → ¬ f j = 0) : Met l yX4_isLeft wsX4_isLeft ({ frames := 2, cells := 0, slots := 0, locals := 40 }) (va_Pc [.ref a0] (xPre G T ([(a0, .inl (T 0, 16, .inl f))]) sz)) (va_Qi (fun (r : Int32) (u : Nat → Int32) => r = xb (xcl N f).1 ∧ ((xcl N f).1 = true → u = (xcl N f).2)) (fun u t => va_P G vwCl ([(a0, .inl (T 0, 16, .inl u))]) t.heap) (va_A ([(a0, .inl (T 0, 16, .inl f))]) sz)) 0 0 (va_A ([(a0, .inl (T 0, 16, .inl f))]) sz) := by
  refine Met.ofW (cc := cX4_isLeft) (maxL := 4) (ret := (some .boolean)) (by decide +kernel) rfl ?_
  intro p e s m args below meth c s₁ B hml hv
  obtain ⟨rfl, hsz, hP, hK, hD0, hXB, hZ⟩ := hv
  have hx := B.exec
  have hb := B.bytes
  have hr := B.returns
  have hts := atoms_spec (ws := wsX4_isLeft) B.pre
  have hown : s.vm.findClass RX4 = some m.cls := findClass_of_methodNamed B.named
  have hlocks := B.notSynchronized
  subst hsz
  have hD := hD0.self (sz := s.heap.size)
  generalize hAe : va_A ([(a0, .inl (T 0, 16, .inl f))]) s.heap.size = A at hD hZ ⊢
  have hA : ∀ q : Nat, s.heap.size ≤ q → A q := fun q h => by rw [← hAe]; exact Or.inr h
  have hS : va_S A s.heap s.heap [] := va_S.rf
  have hP : va_P G vwCl ([(a0, .inl (T 0, 16, .inl f))]) s.heap := hP
  have hl := lv_entry ([.ref a0]) (n := 4) (Nat.le_of_ble_eq_true rfl)
  rw [lg_entry_eq]
  generalize (lg_sl ([.ref a0]) ++ List.replicate (4 - (lg_sl ([.ref a0])).length) Slot.unset).toArray = ls at hl ⊢
  have hl : lv_has ls 4 [(0, .ref a0)] := hl
  refine lv_iconst (v := nI 1) hx hb dX4_isLeft_0 (by decide) ?_
  refine lv_istore_n (lv' := [(1, .int (nI 1)), (0, .ref a0)]) hx hb dX4_isLeft_1 rfl hl (by decide) rfl (fun ls hl => ?_)
  suffices LP1 : ∀ (n1 : Nat) (f1 : Nat → Int32) (ch : Bool) (rd : Nat), (rd ≤ 257) → (257 < rd + n1) → (xrg f1) → (∀ j, j < 16 → ¬ f1 j = 0) → (ch = true → xbt f1 16 + rd ≤ 256) → ((if ch then xcl (N - rd) f1 else (true, f1)) = xcl N f) → ∀ (H : Heap) (locs : List Loc), va_P G vwCl ([(a0, .inl (T 0, 16, .inl f1))]) H → va_D A ([(a0, .inl (T 0, 16, .inl f1))]) → va_S A s.heap H locs → ∀ (ls : Array Slot), lv_has ls 4 [(1, .int (xb ch)), (0, .ref a0)] → W p l e (headSpec wsX4_isLeft ({ frames := 2, cells := 0, slots := 0, locals := 40 })).room s m ([.ref a0] : List Value).toArray below meth c H locs 0 0 (MQ below (va_Qi (fun (r : Int32) (u : Nat → Int32) => r = xb (xcl N f).1 ∧ ((xcl N f).1 = true → u = (xcl N f).2)) (fun u t => va_P G vwCl ([(a0, .inl (T 0, 16, .inl u))]) t.heap) A) ([.ref a0] : List Value).toArray s 0 0 A) (F0 m 2 ls []) from LP1 258 f true 0 (by omega) (by omega) hR hnz (fun _ => xbt_le f 16) rfl _ _ hP hD hS ls (lv_sub hl [0, 1] rfl)
  clear hP hD hS hl
  intro n1
  induction n1 with
  | zero => intro f1 ch rd hrd hn hR1 hnz1 hm hv H locs _ _ _ ls _; exfalso; omega
  | succ n1 ih1 =>
    intro f1 ch rd hrd hn hR1 hnz1 hm hv H locs hP hD hS ls hl
    refine lv_iload_n hx hb dX4_isLeft_2 rfl (lv_at hl 0 rfl) ?_
    cases ch with
    | false =>
      rw [if_neg Bool.false_ne_true] at hv
      refine lv_if_eq (tgt := 87) hx hb dX4_isLeft_3 (by decide) (fun _ => ?_) (fun c_ => absurd (rfl) c_)
      refine lv_iconst (v := nI 1) hx hb dX4_isLeft_87 (by decide) ?_
      exact W.zret (v := nI 1) hx hb hr rfl (fun t9_ ht hW => ⟨⟨nI 1, f1, rfl, ⟨by rw [← hv]; rfl, fun _ => by rw [← hv]⟩, x_at ht hP⟩, hS.F ht⟩) hS.2.2 dX4_isLeft_88
    | true =>
      rw [if_pos rfl] at hv
      have hm := hm rfl
      obtain ⟨z, hz2⟩ : ∃ z, N - rd = z + 1 := ⟨N - rd - 1, by omega⟩
      rw [hz2, xcl_s] at hv
      refine lv_if_eq (tgt := 87) hx hb dX4_isLeft_3 (by decide) (fun c_ => absurd c_ (by decide)) (fun _ => ?_)
      refine lv_iconst (v := nI 0) hx hb dX4_isLeft_6 (by decide) ?_
      refine lv_istore_n (lv' := [(1, .int (nI 0)), (0, .ref a0)]) hx hb dX4_isLeft_7 rfl hl (by decide) rfl (fun ls hl => ?_)
      refine lv_iconst (v := nI 0) hx hb dX4_isLeft_8 (by decide) ?_
      refine lv_istore_n (lv' := [(2, .int (nI 0)), (1, .int (nI 0)), (0, .ref a0)]) hx hb dX4_isLeft_9 rfl hl (by decide) rfl (fun ls hl => ?_)
      suffices LP2 : ∀ (n2 : Nat) (i : Nat), (i ≤ 16) → (16 < i + n2) → (∀ a, a < 16 → ¬ xrp f1 i a = 0) → ∀ (H : Heap) (locs : List Loc), va_P G vwCl ([(a0, .inl (T 0, 16, .inl (xrp f1 i)))]) H → va_D A ([(a0, .inl (T 0, 16, .inl (xrp f1 i)))]) → va_S A s.heap H locs → ∀ (ls : Array Slot), lv_has ls 4 [(2, .int (nI i)), (1, .int (xb (xrc f1 i))), (0, .ref a0)] → W p l e (headSpec wsX4_isLeft ({ frames := 2, cells := 0, slots := 0, locals := 40 })).room s m ([.ref a0] : List Value).toArray below meth c H locs 0 0 (MQ below (va_Qi (fun (r : Int32) (u : Nat → Int32) => r = xb (xcl N f).1 ∧ ((xcl N f).1 = true → u = (xcl N f).2)) (fun u t => va_P G vwCl ([(a0, .inl (T 0, 16, .inl u))]) t.heap) A) ([.ref a0] : List Value).toArray s 0 0 A) (F0 m 10 ls []) from LP2 17 0 (by decide) (by decide) hnz1 _ _ hP hD hS ls (lv_sub hl [0, 1, 2] rfl)
      clear hP hD hS hl
      intro n2
      induction n2 with
      | zero => intro i hi hn2 hnz2 H locs _ _ _ ls _; exfalso; omega
      | succ n2 ih2 =>
        intro i hi hn2 hnz2 H locs hP hD hS ls hl
        refine lv_iload_n hx hb dX4_isLeft_10 rfl (lv_at hl 0 rfl) ?_
        refine lv_bipush (v := nI 16) hx hb dX4_isLeft_11 (by decide) ?_
        by_cases hc : i < 16
        · refine lv_icmp_ge (tgt := 84) hx hb dX4_isLeft_13 (by decide) (fun c_ => absurd c_ (nI_ge hc (by decide))) (fun _ => ?_)
          refine lv_iconst (v := nI 0) hx hb dX4_isLeft_16 (by decide) ?_
          refine lv_istore_n (lv' := [(3, .int (nI 0)), (2, .int (nI i)), (1, .int (xb (xrc f1 i))), (0, .ref a0)]) hx hb dX4_isLeft_17 rfl hl (by decide) rfl (fun ls hl => ?_)
          by_cases h1 : xone (xrp f1 i i) = true
          · have e0 : xb (xrc f1 i) = xb (xrc f1 i || xsc (xrp f1 i) i (xrp f1 i i) 0) := by rw [show xsc (xrp f1 i) i (xrp f1 i i) 0 = false from rfl, Bool.or_false]
            rw [e0] at hl
            have ee1 : xrp f1 (i + 1) = (xse (xrp f1 i) i (xrp f1 i i) 16) := by show (if _ then _ else _) = _; rw [h1]; rfl
            have ee2 : xb (xrc f1 (i + 1)) = xb (xrc f1 i || xsc (xrp f1 i) i (xrp f1 i i) 16) := by show xb (_ || (_ && _)) = _; rw [h1, Bool.true_and]
            suffices LP3 : ∀ (n3 : Nat) (j : Nat), (j ≤ 16) → (16 < j + n3) → (∀ a, a < 16 → ¬ (xse (xrp f1 i) i (xrp f1 i i) j) a = 0) → ∀ (H : Heap) (locs : List Loc), va_P G vwCl ([(a0, .inl (T 0, 16, .inl (xse (xrp f1 i) i (xrp f1 i i) j)))]) H → va_D A ([(a0, .inl (T 0, 16, .inl (xse (xrp f1 i) i (xrp f1 i i) j)))]) → va_S A s.heap H locs → ∀ (ls : Array Slot), lv_has ls 4 [(3, .int (nI j)), (1, .int (xb (xrc f1 i || xsc (xrp f1 i) i (xrp f1 i i) j))), (2, .int (nI i)), (0, .ref a0)] → W p l e (headSpec wsX4_isLeft ({ frames := 2, cells := 0, slots := 0, locals := 40 })).room s m ([.ref a0] : List Value).toArray below meth c H locs 0 0 (MQ below (va_Qi (fun (r : Int32) (u : Nat → Int32) => r = xb (xcl N f).1 ∧ ((xcl N f).1 = true → u = (xcl N f).2)) (fun u t => va_P G vwCl ([(a0, .inl (T 0, 16, .inl u))]) t.heap) A) ([.ref a0] : List Value).toArray s 0 0 A) (F0 m 18 ls []) from LP3 17 0 (by decide) (by decide) hnz2 _ _ hP hD hS ls (lv_sub hl [0, 2, 1, 3] rfl)
            clear hP hD hS hl
            intro n3
            induction n3 with
            | zero => intro j hj hn3 hnz3 H locs _ _ _ ls _; exfalso; omega
            | succ n3 ih3 =>
              intro j hj hn3 hnz3 H locs hP hD hS ls hl
              refine lv_iload_n hx hb dX4_isLeft_18 rfl (lv_at hl 0 rfl) ?_
              refine lv_bipush (v := nI 16) hx hb dX4_isLeft_19 (by decide) ?_
              by_cases hcj : j < 16
              · refine lv_icmp_ge (tgt := 78) hx hb dX4_isLeft_21 (by decide) (fun c_ => absurd c_ (nI_ge hcj (by decide))) (fun _ => ?_)
                refine lv_aload_n hx hb dX4_isLeft_24 rfl (lv_at hl 3 rfl) ?_
                refine lv_iload_n hx hb dX4_isLeft_25 rfl (lv_at hl 2 rfl) ?_
                refine x_iald hx hb hK hP 0 0 (f := (xse (xrp f1 i) i (xrp f1 i i) j)) (n := 16) rfl rfl hc (by decide) dX4_isLeft_26 ?_
                refine x_topi (y := (xrp f1 i i)) (xse_self _ _ _ _) ?_
                refine x_calli (va_runS (As := [.int (xrp f1 i i)]) (rest := []) ⟨hx, hb, hml, hown, hts⟩ (c_X4_isOne l G T _ (xrp f1 i i)) (va_cwS 1 hts gX4_isLeft_X4_isOne rfl rfl rfl (by decide +kernel) ⟨Nat.le_of_ble_eq_true rfl, Nat.le_of_ble_eq_true rfl⟩) (x_preS (wc := []) hK hP hD hS hA hXB hZ [] rfl rfl _) rfl rfl hl.1 rfl (lv_room (Nat.le_of_ble_eq_true rfl)) dX4_isLeft_27 ⟨Nat.le_of_ble_eq_true rfl, Nat.le_of_ble_eq_true rfl⟩) hP hD hS hA [] rfl (fun _ _ _ => rfl) (fun r1 u1 H locs hw1 hP hD hS => ?_)
                have hP : va_P G vwCl ([(a0, .inl (T 0, 16, .inl (xse (xrp f1 i) i (xrp f1 i i) j)))]) H := hP
                have hD : va_D A ([(a0, .inl (T 0, 16, .inl (xse (xrp f1 i) i (xrp f1 i i) j)))]) := hD
                refine lv_if_eq (tgt := 78) hx hb dX4_isLeft_30 (by decide) (fun c_ => absurd c_ (xb_ne hw1 h1)) (fun _ => ?_)
                refine lv_iload_n hx hb dX4_isLeft_33 rfl (lv_at hl 0 rfl) ?_
                refine lv_iload_n hx hb dX4_isLeft_34 rfl (lv_at hl 2 rfl) ?_
                by_cases he : j = i
                · refine lv_icmp_eq (tgt := 72) hx hb dX4_isLeft_35 (by decide) (fun _ => ?_) (fun c_ => absurd (congrArg nI he) c_)
                  refine lv_iinc (v := nI (j + 1)) (lv' := [(3, .int (nI (j + 1))), (1, .int (xb (xrc f1 i || xsc (xrp f1 i) i (xrp f1 i i) j))), (2, .int (nI i)), (0, .ref a0)]) hx hb dX4_isLeft_72 hl (k := 0) rfl (x_inc _) (by decide) rfl (fun ls hl => ?_)
                  refine lv_goto (tgt := 18) hx hb dX4_isLeft_75 (by decide) ?_
                  have ej1 : (xse (xrp f1 i) i (xrp f1 i i) (j + 1)) = (xse (xrp f1 i) i (xrp f1 i i) j) := by show xsk _ i _ j = _; exact xsk_f (fun h => h.1 he)
                  rw [← ej1] at hP hD
                  have ej2 : xb (xrc f1 i || xsc (xrp f1 i) i (xrp f1 i i) (j + 1)) = xb (xrc f1 i || xsc (xrp f1 i) i (xrp f1 i i) j) := by show xb (_ || (_ || _)) = _; rw [decide_eq_false (fun h => h.1 he), Bool.or_false]
                  rw [← ej2] at hl
                  exact ih3 (j + 1) (by omega) (by omega) (by rw [ej1]; exact hnz3) _ _ hP hD hS ls (lv_sub hl [0, 1, 2, 3] rfl)
                · refine lv_icmp_eq (tgt := 72) hx hb dX4_isLeft_35 (by decide) (fun c_ => absurd c_ (fun h => he ((nI_eq (by omega) (by omega)).mp h))) (fun _ => ?_)
                  refine lv_aload_n hx hb dX4_isLeft_38 rfl (lv_at hl 3 rfl) ?_
                  refine lv_iload_n hx hb dX4_isLeft_39 rfl (lv_at hl 0 rfl) ?_
                  refine x_iald hx hb hK hP 0 0 (f := (xse (xrp f1 i) i (xrp f1 i i) j)) (n := 16) rfl rfl hcj (by decide) dX4_isLeft_40 ?_
                  refine lv_aload_n hx hb dX4_isLeft_41 rfl (lv_at hl 3 rfl) ?_
                  refine lv_iload_n hx hb dX4_isLeft_42 rfl (lv_at hl 2 rfl) ?_
                  refine x_iald hx hb hK hP 0 0 (f := (xse (xrp f1 i) i (xrp f1 i i) j)) (n := 16) rfl rfl hc (by decide) dX4_isLeft_43 ?_
                  refine x_topi (y := (xrp f1 i i)) (xse_self _ _ _ _) ?_
                  refine lv_iand hx hb dX4_isLeft_44 ?_
                  refine lv_if_ne (tgt := 51) hx hb dX4_isLeft_45 (by decide) (fun c2 => ?_) (fun c2 => ?_)
                  · refine lv_aload_n hx hb dX4_isLeft_51 rfl (lv_at hl 3 rfl) ?_
                    refine lv_iload_n hx hb dX4_isLeft_52 rfl (lv_at hl 0 rfl) ?_
                    refine lv_dup2_11 hx hb dX4_isLeft_53 rfl rfl ?_
                    refine x_iald hx hb hK hP 0 0 (f := (xse (xrp f1 i) i (xrp f1 i i) j)) (n := 16) rfl rfl hcj (by decide) dX4_isLeft_54 ?_
                    refine lv_aload_n hx hb dX4_isLeft_55 rfl (lv_at hl 3 rfl) ?_
                    refine lv_iload_n hx hb dX4_isLeft_56 rfl (lv_at hl 2 rfl) ?_
                    refine x_iald hx hb hK hP 0 0 (f := (xse (xrp f1 i) i (xrp f1 i i) j)) (n := 16) rfl rfl hc (by decide) dX4_isLeft_57 ?_
                    refine x_topi (y := (xrp f1 i i)) (xse_self _ _ _ _) ?_
                    refine lv_iconst (v := (-1)) hx hb dX4_isLeft_58 (by decide) ?_
                    refine lv_ixor hx hb dX4_isLeft_59 ?_
                    refine lv_iand hx hb dX4_isLeft_60 ?_
                    refine x_iast hx hb hK hP hD hS 0 0 (f := (xse (xrp f1 i) i (xrp f1 i i) j)) (n := 16) rfl rfl hcj (by decide) dX4_isLeft_61 (fun H locs hP hD hS => ?_)
                    have hP : va_P G vwCl ([(a0, .inl (T 0, 16, .inl (upd (xse (xrp f1 i) i (xrp f1 i i) j) j ((xse (xrp f1 i) i (xrp f1 i i) j) j &&& ((xrp f1 i i) ^^^ (-1))))))]) H := hP
                    have hD : va_D A ([(a0, .inl (T 0, 16, .inl (upd (xse (xrp f1 i) i (xrp f1 i i) j) j ((xse (xrp f1 i) i (xrp f1 i i) j) j &&& ((xrp f1 i i) ^^^ (-1))))))]) := hD
                    have ev : upd (xse (xrp f1 i) i (xrp f1 i i) j) j ((xse (xrp f1 i) i (xrp f1 i i) j) j &&& ((xrp f1 i i) ^^^ (-1))) j = (xse (xrp f1 i) i (xrp f1 i i) j) j &&& ((xrp f1 i i) ^^^ (-1)) := pk_us
                    refine lv_iconst (v := nI 1) hx hb dX4_isLeft_62 (by decide) ?_
                    refine lv_istore_n (lv' := [(1, .int (nI 1)), (3, .int (nI j)), (2, .int (nI i)), (0, .ref a0)]) hx hb dX4_isLeft_63 rfl hl (by decide) rfl (fun ls hl => ?_)
                    refine lv_aload_n hx hb dX4_isLeft_64 rfl (lv_at hl 3 rfl) ?_
                    refine lv_iload_n hx hb dX4_isLeft_65 rfl (lv_at hl 1 rfl) ?_
                    refine x_iald hx hb hK hP 0 0 (f := (upd (xse (xrp f1 i) i (xrp f1 i i) j) j ((xse (xrp f1 i) i (xrp f1 i i) j) j &&& ((xrp f1 i i) ^^^ (-1))))) (n := 16) rfl rfl hcj (by decide) dX4_isLeft_66 ?_
                    have ex9 : (xse (xrp f1 i) i (xrp f1 i i) (j + 1)) = upd (xse (xrp f1 i) i (xrp f1 i i) j) j ((xse (xrp f1 i) i (xrp f1 i i) j) j &&& ((xrp f1 i i) ^^^ (-1))) := by show xsk _ i _ j = _; exact xsk_t he c2
                    refine lv_if_ne (tgt := 72) hx hb dX4_isLeft_67 (by decide) (fun c3 => ?_) (fun c3 => ?_)
                    · refine lv_iinc (v := nI (j + 1)) (lv' := [(3, .int (nI (j + 1))), (1, .int (nI 1)), (2, .int (nI i)), (0, .ref a0)]) hx hb dX4_isLeft_72 hl (k := 1) rfl (x_inc _) (by decide) rfl (fun ls hl => ?_)
                      refine lv_goto (tgt := 18) hx hb dX4_isLeft_75 (by decide) ?_
                      have ej1 : (xse (xrp f1 i) i (xrp f1 i i) (j + 1)) = (upd (xse (xrp f1 i) i (xrp f1 i i) j) j ((xse (xrp f1 i) i (xrp f1 i i) j) j &&& ((xrp f1 i i) ^^^ (-1)))) := ex9
                      rw [← ej1] at hP hD
                      have ej2 : xb (xrc f1 i || xsc (xrp f1 i) i (xrp f1 i i) (j + 1)) = nI 1 := by show xb (_ || (_ || _)) = _; rw [decide_eq_true ⟨he, c2⟩, Bool.or_true, Bool.or_true]; rfl
                      rw [← ej2] at hl
                      exact ih3 (j + 1) (by omega) (by omega) (fun a ha => by rw [ex9]; by_cases e : a = j; rw [e]; exact c3; rw [pk_un e]; exact hnz3 a ha) _ _ hP hD hS ls (lv_sub hl [0, 1, 2, 3] rfl)
                    · have hzt : xz (xrp f1 16) = true := xz_iff.mpr ⟨j, hcj, xrp_z (m := i + 1) (by rw [ee1]; exact xse_z (m := j + 1) (by rw [ex9]; exact c3) 16 (by omega)) 16 (by omega)⟩
                      rw [hzt, if_pos rfl] at hv
                      refine lv_iconst (v := nI 0) hx hb dX4_isLeft_70 (by decide) ?_
                      exact W.zret (v := nI 0) hx hb hr rfl (fun t9_ ht hW => ⟨⟨nI 0, _, rfl, ⟨by rw [← hv]; rfl, fun h => by rw [← hv] at h; exact absurd h Bool.false_ne_true⟩, x_at ht hP⟩, hS.F ht⟩) hS.2.2 dX4_isLeft_71
                  · refine lv_goto (tgt := 72) hx hb dX4_isLeft_48 (by decide) ?_
                    refine lv_iinc (v := nI (j + 1)) (lv' := [(3, .int (nI (j + 1))), (1, .int (xb (xrc f1 i || xsc (xrp f1 i) i (xrp f1 i i) j))), (2, .int (nI i)), (0, .ref a0)]) hx hb dX4_isLeft_72 hl (k := 0) rfl (x_inc _) (by decide) rfl (fun ls hl => ?_)
                    refine lv_goto (tgt := 18) hx hb dX4_isLeft_75 (by decide) ?_
                    have ej1 : (xse (xrp f1 i) i (xrp f1 i i) (j + 1)) = (xse (xrp f1 i) i (xrp f1 i i) j) := by show xsk _ i _ j = _; exact xsk_f (fun h => h.2 c2)
                    rw [← ej1] at hP hD
                    have ej2 : xb (xrc f1 i || xsc (xrp f1 i) i (xrp f1 i i) (j + 1)) = xb (xrc f1 i || xsc (xrp f1 i) i (xrp f1 i i) j) := by show xb (_ || (_ || _)) = _; rw [decide_eq_false (fun h => h.2 c2), Bool.or_false]
                    rw [← ej2] at hl
                    exact ih3 (j + 1) (by omega) (by omega) (by rw [ej1]; exact hnz3) _ _ hP hD hS ls (lv_sub hl [0, 1, 2, 3] rfl)
              · obtain rfl : j = 16 := by omega
                refine lv_icmp_ge (tgt := 78) hx hb dX4_isLeft_21 (by decide) (fun _ => ?_) (fun c_ => absurd (nI_le (by omega) (by omega)) c_)
                have e1 := ee1
                have e2 := ee2
                refine lv_iinc (v := nI (i + 1)) (lv' := [(2, .int (nI (i + 1))), (3, .int (nI 16)), (1, .int (xb (xrc f1 i || xsc (xrp f1 i) i (xrp f1 i i) 16))), (0, .ref a0)]) hx hb dX4_isLeft_78 hl (k := 2) rfl (x_inc _) (by decide) rfl (fun ls hl => ?_)
                refine lv_goto (tgt := 10) hx hb dX4_isLeft_81 (by decide) ?_
                rw [← e1] at hP hD; rw [← e2] at hl
                exact ih2 (i + 1) (by omega) (by omega) (by rw [e1]; exact hnz3) _ _ hP hD hS ls (lv_sub hl [0, 2, 3] rfl)
          · refine lv_iload_n hx hb dX4_isLeft_18 rfl (lv_at hl 0 rfl) ?_
            refine lv_bipush (v := nI 16) hx hb dX4_isLeft_19 (by decide) ?_
            refine lv_icmp_ge (tgt := 78) hx hb dX4_isLeft_21 (by decide) (fun c_ => absurd c_ (by decide)) (fun _ => ?_)
            refine lv_aload_n hx hb dX4_isLeft_24 rfl (lv_at hl 3 rfl) ?_
            refine lv_iload_n hx hb dX4_isLeft_25 rfl (lv_at hl 1 rfl) ?_
            refine x_iald hx hb hK hP 0 0 (f := (xrp f1 i)) (n := 16) rfl rfl hc (by decide) dX4_isLeft_26 ?_
            refine x_calli (va_runS (As := [.int ((xrp f1 i) i)]) (rest := []) ⟨hx, hb, hml, hown, hts⟩ (c_X4_isOne l G T _ (xrp f1 i i)) (va_cwS 1 hts gX4_isLeft_X4_isOne rfl rfl rfl (by decide +kernel) ⟨Nat.le_of_ble_eq_true rfl, Nat.le_of_ble_eq_true rfl⟩) (x_preS (wc := []) hK hP hD hS hA hXB hZ [] rfl rfl _) rfl rfl hl.1 rfl (lv_room (Nat.le_of_ble_eq_true rfl)) dX4_isLeft_27 ⟨Nat.le_of_ble_eq_true rfl, Nat.le_of_ble_eq_true rfl⟩) hP hD hS hA [] rfl (fun _ _ _ => rfl) (fun r1 u1 H locs hw1 hP hD hS => ?_)
            have hP : va_P G vwCl ([(a0, .inl (T 0, 16, .inl (xrp f1 i)))]) H := hP
            have hD : va_D A ([(a0, .inl (T 0, 16, .inl (xrp f1 i)))]) := hD
            refine lv_if_eq (tgt := 78) hx hb dX4_isLeft_30 (by decide) (fun _ => ?_) (fun c_ => absurd (xb_eq hw1 (by simpa using h1)) c_)
            have e1 : xrp f1 (i + 1) = xrp f1 i := by show (if _ then _ else _) = _; rw [if_neg h1]
            have e2 : xb (xrc f1 (i + 1)) = xb (xrc f1 i) := by show xb (_ || (_ && _)) = _; rw [eq_false_of_ne_true h1, Bool.false_and, Bool.or_false]
            refine lv_iinc (v := nI (i + 1)) (lv' := [(2, .int (nI (i + 1))), (3, .int (nI 0)), (1, .int (xb (xrc f1 i))), (0, .ref a0)]) hx hb dX4_isLeft_78 hl (k := 1) rfl (x_inc _) (by decide) rfl (fun ls hl => ?_)
            refine lv_goto (tgt := 10) hx hb dX4_isLeft_81 (by decide) ?_
            rw [← e1] at hP hD; rw [← e2] at hl
            exact ih2 (i + 1) (by omega) (by omega) (by rw [e1]; exact hnz2) _ _ hP hD hS ls (lv_sub hl [0, 2, 3] rfl)
        · obtain rfl : i = 16 := by omega
          refine lv_icmp_ge (tgt := 84) hx hb dX4_isLeft_13 (by decide) (fun _ => ?_) (fun c_ => absurd (nI_le (by omega) (by omega)) c_)
          have hzf : xz (xrp f1 16) = false := by cases h9 : xz (xrp f1 16) with | false => rfl | true => obtain ⟨j, hj, e⟩ := xz_iff.mp h9; exact absurd e (hnz2 j hj)
          rw [hzf, if_neg Bool.false_ne_true] at hv
          refine lv_goto (tgt := 2) hx hb dX4_isLeft_84 (by decide) ?_
          exact ih1 (xrp f1 16) (xrc f1 16) (rd + 1) (by omega) (by omega) (xrp_rg hR1 16) hnz2 (fun h => by have := (xrp_bt hR1 16 (Nat.le_refl 16)).2 h; omega) (by rw [show N - (rd + 1) = z by omega]; exact hv) _ _ hP hD hS ls (lv_sub hl [1, 2] rfl)
end XR5
