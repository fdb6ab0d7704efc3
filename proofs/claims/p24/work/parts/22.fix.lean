section XR5
/-! how many cards are thought of: falls with each round that strikes -/
def xbt1 (x : Int32) : Nat := xct (fun b => x.toBitVec.getLsbD b) 16
def xbt (f : Nat → Int32) : Nat → Nat
  | 0 => 0
  | n + 1 => xbt f n + xbt1 (f n)
theorem xct_mono {a b : Nat → Bool} (h : ∀ j, a j = true → b j = true) : ∀ n, xct a n ≤ xct b n
  | 0 => Nat.le_refl 0
  | n + 1 => by
    have ih := xct_mono h n
    by_cases ha : a n = true
    · rw [xct_t ha, xct_t (h n ha)]; omega
    · rw [xct_f ha]
      by_cases hb : b n = true
      · rw [xct_t hb]; omega
      · rw [xct_f hb]; omega
theorem xct_lt {a b : Nat → Bool} (h : ∀ j, a j = true → b j = true) {i : Nat} (h1 : a i = false) (h2 : b i = true) : ∀ n, i < n → xct a n < xct b n
  | 0, hi => absurd hi (Nat.not_lt_zero i)
  | n + 1, hi => by
    by_cases e : i = n
    · subst e
      rw [xct_f (by rw [h1]; exact Bool.false_ne_true), xct_t h2]
      exact Nat.lt_succ_of_le (xct_mono h i)
    · have ih := xct_lt h h1 h2 n (by omega)
      by_cases ha : a n = true
      · rw [xct_t ha, xct_t (h n ha)]; omega
      · rw [xct_f ha]
        by_cases hb : b n = true
        · rw [xct_t hb]; omega
        · rw [xct_f hb]; omega
theorem xand_bit (x v : Int32) (b : Nat) : (x &&& (v ^^^ (-1))).toBitVec.getLsbD b = true → x.toBitVec.getLsbD b = true := by
  intro h
  rw [Int32.toBitVec_and, BitVec.getLsbD_and, Bool.and_eq_true] at h
  exact h.1
theorem xand_lt {x v : Int32} (hv : v.toBitVec.toNat < 65536) (h : ¬ x &&& v = 0) : xbt1 (x &&& (v ^^^ (-1))) < xbt1 x := by
  have h1 : ∃ b, x.toBitVec.getLsbD b = true ∧ v.toBitVec.getLsbD b = true := by
    apply Classical.byContradiction
    intro hn
    apply h
    apply Int32.toBitVec_inj.mp
    apply BitVec.eq_of_getLsbD_eq
    intro b hb
    rw [Int32.toBitVec_and, BitVec.getLsbD_and]
    have hz : (0 : Int32).toBitVec.getLsbD b = false := by
      show (BitVec.ofNat 32 0).getLsbD b = false
      simp
    rw [hz]
    cases hx : x.toBitVec.getLsbD b with
    | false => rfl
    | true =>
      cases hy : v.toBitVec.getLsbD b with
      | false => rfl
      | true => exact absurd ⟨b, hx, hy⟩ hn
  obtain ⟨b, h2, h3⟩ := h1
  have hb : b < 16 := by
    rcases Nat.lt_or_ge b 16 with q | q
    · exact q
    · exfalso
      have h4 : v.toBitVec.toNat.testBit b = true := h3
      rw [Nat.testBit_lt_two_pow (Nat.lt_of_lt_of_le hv (Nat.pow_le_pow_right (n := 2) (by decide) q))] at h4
      exact Bool.false_ne_true h4
  refine xct_lt (i := b) (fun j => xand_bit x v j) ?_ h2 16 hb
  show (x &&& (v ^^^ (-1))).toBitVec.getLsbD b = false
  rw [Int32.toBitVec_and, BitVec.getLsbD_and, Int32.toBitVec_xor, BitVec.getLsbD_xor, h3]
  have : ((-1 : Int32)).toBitVec.getLsbD b = true := by
    have : ∀ c, c < 16 → ((-1 : Int32)).toBitVec.getLsbD c = true := by decide
    exact this b hb
  rw [this]
  simp
theorem xbt_up {f : Nat → Int32} {j : Nat} {x : Int32} (h : xbt1 x ≤ xbt1 (f j)) : ∀ n, xbt (upd f j x) n ≤ xbt f n ∧ (j < n → xbt1 x < xbt1 (f j) → xbt (upd f j x) n < xbt f n)
  | 0 => ⟨Nat.le_refl 0, fun h => absurd h (Nat.not_lt_zero j)⟩
  | n + 1 => by
    obtain ⟨i1, i2⟩ := xbt_up h n
    show xbt (upd f j x) n + xbt1 (upd f j x n) ≤ xbt f n + xbt1 (f n) ∧ (_ → _ → xbt (upd f j x) n + xbt1 (upd f j x n) < xbt f n + xbt1 (f n))
    by_cases e : n = j
    · subst e
      rw [pk_us]
      exact ⟨by omega, fun _ h2 => by omega⟩
    · rw [pk_un e]
      exact ⟨by omega, fun h1 h2 => by have := i2 (by omega) h2; omega⟩
def xrg (f : Nat → Int32) : Prop := ∀ j, j < 16 → (f j).toBitVec.toNat < 65536
theorem xrg_and {x v : Int32} (h : x.toBitVec.toNat < 65536) : (x &&& v).toBitVec.toNat < 65536 := by
  rw [Int32.toBitVec_and, BitVec.toNat_and]
  exact Nat.lt_of_le_of_lt Nat.and_le_left h
theorem xsk_rg {f : Nat → Int32} (h : xrg f) (k : Nat) (v : Int32) (j : Nat) : xrg (xsk f k v j) := by
  intro a ha
  unfold xsk
  split
  · by_cases e : a = j
    · subst e; rw [pk_us]; exact xrg_and (h a ha)
    · rw [pk_un e]; exact h a ha
  · exact h a ha
theorem xse_rg {f : Nat → Int32} (h : xrg f) (k : Nat) (v : Int32) : ∀ n, xrg (xse f k v n)
  | 0 => h
  | n + 1 => xsk_rg (xse_rg h k v n) k v n
theorem xrp_rg {f : Nat → Int32} (h : xrg f) : ∀ n, xrg (xrp f n)
  | 0 => h
  | n + 1 => by
    show xrg (if _ then _ else _)
    split
    · exact xse_rg (xrp_rg h n) _ _ _
    · exact xrp_rg h n
theorem xsk_bt (f : Nat → Int32) (k : Nat) {v : Int32} (hv : v.toBitVec.toNat < 65536) {j : Nat} (hj : j < 16) : xbt (xsk f k v j) 16 ≤ xbt f 16 ∧ (j ≠ k ∧ ¬ f j &&& v = 0 → xbt (xsk f k v j) 16 < xbt f 16) := by
  by_cases h : j ≠ k ∧ ¬ f j &&& v = 0
  · have h1 := xand_lt hv h.2
    rw [xsk_t h.1 h.2]
    have := (xbt_up (f := f) (j := j) (Nat.le_of_lt h1) 16).2 hj h1
    exact ⟨Nat.le_of_lt this, fun _ => this⟩
  · rw [xsk_f h]
    exact ⟨Nat.le_refl _, fun h2 => absurd h2 h⟩
theorem xse_bt (f : Nat → Int32) (k : Nat) {v : Int32} (hv : v.toBitVec.toNat < 65536) : ∀ n, n ≤ 16 → xbt (xse f k v n) 16 ≤ xbt f 16 ∧ (xsc f k v n = true → xbt (xse f k v n) 16 < xbt f 16)
  | 0, _ => ⟨Nat.le_refl _, fun h => absurd h Bool.false_ne_true⟩
  | n + 1, hn => by
    obtain ⟨i1, i2⟩ := xse_bt f k hv n (by omega)
    obtain ⟨j1, j2⟩ := xsk_bt (xse f k v n) k hv (j := n) (by omega)
    refine ⟨Nat.le_trans j1 i1, fun h => ?_⟩
    have h : (xsc f k v n || decide (n ≠ k ∧ ¬ xse f k v n n &&& v = 0)) = true := h
    rw [Bool.or_eq_true] at h
    rcases h with h | h
    · exact Nat.lt_of_le_of_lt j1 (i2 h)
    · exact Nat.lt_of_lt_of_le (j2 (of_decide_eq_true h)) i1
theorem xrp_bt {f : Nat → Int32} (hf : xrg f) : ∀ n, n ≤ 16 → xbt (xrp f n) 16 ≤ xbt f 16 ∧ (xrc f n = true → xbt (xrp f n) 16 < xbt f 16)
  | 0, _ => ⟨Nat.le_refl _, fun h => absurd h Bool.false_ne_true⟩
  | n + 1, hn => by
    obtain ⟨i1, i2⟩ := xrp_bt hf n (by omega)
    have hv := xrp_rg hf n n (by omega)
    obtain ⟨j1, j2⟩ := xse_bt (xrp f n) n hv 16 (Nat.le_refl 16)
    show xbt (if xone (xrp f n n) then _ else _) 16 ≤ _ ∧ ((xrc f n || (xone (xrp f n n) && _)) = true → xbt (if xone (xrp f n n) then _ else _) 16 < _)
    by_cases h1 : xone (xrp f n n) = true
    · rw [if_pos h1, h1, Bool.true_and]
      refine ⟨Nat.le_trans j1 i1, fun h => ?_⟩
      rw [Bool.or_eq_true] at h
      rcases h with h | h
      · exact Nat.lt_of_le_of_lt j1 (i2 h)
      · exact Nat.lt_of_lt_of_le (j2 h) i1
    · rw [if_neg h1, eq_false_of_ne_true h1, Bool.false_and, Bool.or_false]
      exact ⟨i1, i2⟩
theorem xbt_le (f : Nat → Int32) : ∀ n, xbt f n ≤ 16 * n
  | 0 => Nat.le_refl 0
  | n + 1 => by
    have h1 := xbt_le f n
    have h2 : xbt1 (f n) ≤ 16 := xct_le _ 16
    show xbt f n + xbt1 (f n) ≤ _
    omega
theorem xse_self (f : Nat → Int32) (k : Nat) (v : Int32) : ∀ n, xse f k v n k = f k
  | 0 => rfl
  | n + 1 => by
    show xsk (xse f k v n) k v n k = f k
    unfold xsk
    split
    · rename_i h
      rw [pk_un (fun e => h.1 e.symm)]
      exact xse_self f k v n
    · exact xse_self f k v n
theorem xsk_z {f : Nat → Int32} {k j a : Nat} {v : Int32} (h : f a = 0) : xsk f k v j a = 0 := by
  unfold xsk
  split
  · by_cases e : a = j
    · subst e; rw [pk_us, h]; exact Int32.zero_and
    · rw [pk_un e]; exact h
  · exact h
theorem xse_z {f : Nat → Int32} {k a : Nat} {v : Int32} {m : Nat} (h : xse f k v m a = 0) : ∀ n, m ≤ n → xse f k v n a = 0
  | 0, hn => by rw [show (0 : Nat) = m by omega]; exact h
  | n + 1, hn => by
    rcases Nat.lt_or_ge n m with q | q
    · rw [show n + 1 = m by omega]; exact h
    · exact xsk_z (xse_z h n q)
theorem xrp_z {f : Nat → Int32} {a m : Nat} (h : xrp f m a = 0) : ∀ n, m ≤ n → xrp f n a = 0
  | 0, hn => by rw [show (0 : Nat) = m by omega]; exact h
  | n + 1, hn => by
    rcases Nat.lt_or_ge n m with q | q
    · rw [show n + 1 = m by omega]; exact h
    · show (if _ then _ else _ : Nat → Int32) a = 0
      split
      · exact xse_z (m := 0) (xrp_z h n q) 16 (Nat.zero_le _)
      · exact xrp_z h n q

end XR5
