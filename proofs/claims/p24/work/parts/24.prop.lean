section XPR
/-! what the property speaks of, of the state alone: sets of cards as bits, counts under a way, what a glimpse leaves -/
def xss (a b : Int32) : Prop := ∀ i, a.toBitVec.getLsbD i = true → b.toBitVec.getLsbD i = true
theorem xss_rf (a : Int32) : xss a a := fun _ h => h
theorem xss_tr {a b d : Int32} (h : xss a b) (g : xss b d) : xss a d := fun i q => g i (h i q)
theorem xss_and (a v : Int32) : xss (a &&& v) a := fun i h => by
  rw [Int32.toBitVec_and, BitVec.getLsbD_and, Bool.and_eq_true] at h
  exact h.1
theorem xm1_bit (b : Nat) (hb : b < 32) : ((-1 : Int32)).toBitVec.getLsbD b = true := by
  have : ∀ c, c < 32 → ((-1 : Int32)).toBitVec.getLsbD c = true := by decide
  exact this b hb
theorem x0_bit (b : Nat) : (0 : Int32).toBitVec.getLsbD b = false := by
  show (BitVec.ofNat 32 0).getLsbD b = false
  simp
theorem xss_no {a b : Int32} (h : xss a b) : a &&& (b ^^^ (-1)) = 0 := by
  apply Int32.toBitVec_inj.mp
  apply BitVec.eq_of_getLsbD_eq
  intro i hi
  rw [x0_bit, Int32.toBitVec_and, BitVec.getLsbD_and, Int32.toBitVec_xor, BitVec.getLsbD_xor, xm1_bit i hi]
  cases ha : a.toBitVec.getLsbD i with
  | false => rfl
  | true => rw [h i ha]; rfl
theorem xp2_bit {c : Nat} (hc : c < 16) (i : Nat) : (nI (2 ^ c)).toBitVec.getLsbD i = decide (i = c) := by
  show (BitVec.ofNat 32 (2 ^ c)).getLsbD i = decide (i = c)
  rw [BitVec.getLsbD_ofNat, Nat.testBit_two_pow]
  by_cases e : i = c
  · subst e
    rw [decide_eq_true (show i < 32 by omega), decide_eq_true rfl, Bool.and_true]
  · rw [decide_eq_false (p := c = i) (fun h => e h.symm), Bool.and_false, decide_eq_false e]
theorem xss_p2 {a : Int32} {c : Nat} (hc : c < 16) (h : xss a (nI (2 ^ c))) (h0 : ¬ a = 0) : a = nI (2 ^ c) := by
  have hb : a.toBitVec.getLsbD c = true := by
    cases hq : a.toBitVec.getLsbD c with
    | true => rfl
    | false =>
      exfalso
      apply h0
      apply Int32.toBitVec_inj.mp
      apply BitVec.eq_of_getLsbD_eq
      intro i hi
      rw [x0_bit]
      cases ha : a.toBitVec.getLsbD i with
      | false => rfl
      | true =>
        have h3 := h i ha
        rw [xp2_bit hc, decide_eq_true_iff] at h3
        subst h3
        rw [hq] at ha
        exact ha.symm
  apply Int32.toBitVec_inj.mp
  apply BitVec.eq_of_getLsbD_eq
  intro i hi
  rw [xp2_bit hc]
  by_cases e : i = c
  · subst e
    rw [hb, decide_eq_true rfl]
  · rw [decide_eq_false e]
    cases ha : a.toBitVec.getLsbD i with
    | false => rfl
    | true =>
      have h3 := h i ha
      rw [xp2_bit hc, decide_eq_true_iff] at h3
      exact absurd h3 e
theorem xsk_ss (f : Nat → Int32) (k : Nat) (v : Int32) (j a : Nat) : xss (xsk f k v j a) (f a) := by
  unfold xsk
  split
  · by_cases e : a = j
    · subst e; rw [pk_us]; exact xss_and _ _
    · rw [pk_un e]; exact xss_rf _
  · exact xss_rf _
theorem xse_ss (f : Nat → Int32) (k : Nat) (v : Int32) : ∀ n a, xss (xse f k v n a) (f a)
  | 0, a => xss_rf _
  | n + 1, a => xss_tr (xsk_ss (xse f k v n) k v n a) (xse_ss f k v n a)
theorem xrp_ss (f : Nat → Int32) : ∀ n a, xss (xrp f n a) (f a)
  | 0, a => xss_rf _
  | n + 1, a => by
    show xss ((if xone (xrp f n n) then xse (xrp f n) n (xrp f n n) 16 else xrp f n) a) (f a)
    split
    · exact xss_tr (xse_ss _ _ _ 16 a) (xrp_ss f n a)
    · exact xrp_ss f n a
theorem xcl_ss : ∀ (m : Nat) (f : Nat → Int32) (a : Nat), xss ((xcl m f).2 a) (f a)
  | 0, f, a => xss_rf _
  | m + 1, f, a => by
    rw [xcl_s]
    by_cases h1 : xz (xrp f 16) = true
    · rw [if_pos h1]; exact xrp_ss f 16 a
    · rw [if_neg h1]
      by_cases h2 : xrc f 16 = true
      · rw [if_pos h2]; exact xss_tr (xcl_ss m _ a) (xrp_ss f 16 a)
      · rw [if_neg h2]; exact xrp_ss f 16 a
theorem xsc_no {f : Nat → Int32} {k : Nat} {v : Int32} : ∀ n, xsc f k v n = false → xse f k v n = f ∧ ∀ j, j < n → j ≠ k → f j &&& v = 0
  | 0, _ => ⟨rfl, fun j h => absurd h (Nat.not_lt_zero j)⟩
  | n + 1, h => by
    have h : (xsc f k v n || decide (n ≠ k ∧ ¬ xse f k v n n &&& v = 0)) = false := h
    rw [Bool.or_eq_false_iff] at h
    obtain ⟨i1, i2⟩ := xsc_no n h.1
    have h3 := of_decide_eq_false h.2
    rw [i1] at h3
    refine ⟨?_, fun j hj hk => ?_⟩
    · show xsk (xse f k v n) k v n = f
      rw [i1]; exact xsk_f h3
    · rcases Nat.lt_or_ge j n with q | q
      · exact i2 j q hk
      · have e : j = n := by omega
        subst e
        exact Classical.byContradiction fun q => h3 ⟨hk, q⟩
theorem xrc_no {f : Nat → Int32} : ∀ n, n ≤ 16 → xrc f n = false → xrp f n = f ∧ ∀ i, i < n → xone (f i) = true → ∀ j, j < 16 → j ≠ i → f j &&& f i = 0
  | 0, _, _ => ⟨rfl, fun i h => absurd h (Nat.not_lt_zero i)⟩
  | n + 1, hn, h => by
    have h : (xrc f n || (xone (xrp f n n) && xsc (xrp f n) n (xrp f n n) 16)) = false := h
    rw [Bool.or_eq_false_iff] at h
    obtain ⟨i1, i2⟩ := xrc_no n (by omega) h.1
    have h3 := h.2
    rw [i1] at h3
    refine ⟨?_, fun i hi ho j hj hji => ?_⟩
    · show (if xone (xrp f n n) then xse (xrp f n) n (xrp f n n) 16 else xrp f n) = f
      rw [i1]
      split
      · rename_i ho
        rw [ho, Bool.true_and] at h3
        exact (xsc_no 16 h3).1
      · rfl
    · rcases Nat.lt_or_ge i n with q | q
      · exact i2 i q ho j hj hji
      · have e : i = n := by omega
        subst e
        rw [ho, Bool.true_and] at h3
        exact (xsc_no 16 h3).2 j hj hji
theorem xcl_fix : ∀ (m : Nat) {f : Nat → Int32}, xrg f → xbt f 16 < m → (xcl m f).1 = true → (∀ j, j < 16 → ¬ (xcl m f).2 j = 0) ∧ ∀ i, i < 16 → xone ((xcl m f).2 i) = true → ∀ j, j < 16 → j ≠ i → (xcl m f).2 j &&& (xcl m f).2 i = 0
  | 0, f, _, hb, _ => absurd hb (Nat.not_lt_zero _)
  | m + 1, f, hr, hb, h => by
    rw [xcl_s] at h ⊢
    by_cases h1 : xz (xrp f 16) = true
    · rw [if_pos h1] at h; exact absurd h Bool.false_ne_true
    · rw [if_neg h1] at h ⊢
      by_cases h2 : xrc f 16 = true
      · rw [if_pos h2] at h ⊢
        have h4 := (xrp_bt hr 16 (Nat.le_refl 16)).2 h2
        exact xcl_fix m (xrp_rg hr 16) (by omega) h
      · rw [if_neg h2]
        obtain ⟨i1, i2⟩ := xrc_no 16 (Nat.le_refl 16) (eq_false_of_ne_true h2)
        show (∀ j, j < 16 → ¬ xrp f 16 j = 0) ∧ ∀ i, i < 16 → xone (xrp f 16 i) = true → ∀ j, j < 16 → j ≠ i → xrp f 16 j &&& xrp f 16 i = 0
        refine ⟨fun j hj e => h1 (xz_iff.mpr ⟨j, hj, e⟩), ?_⟩
        rw [i1]; exact i2
theorem xall_d : ((List.range 16).all fun c => !(nI 65535 &&& (nI (2 ^ c) ^^^ (-1)) == nI (2 ^ c)) && (!(nI (2 ^ c) &&& nI (2 ^ c) == 0) && decide (nI (2 ^ c) = nI 1 <<< (nI c &&& 31)))) = true := by decide +kernel
theorem xall_d1 {c : Nat} (hc : c < 16) : ¬ nI 65535 &&& (nI (2 ^ c) ^^^ (-1)) = nI (2 ^ c) ∧ ¬ nI (2 ^ c) &&& nI (2 ^ c) = 0 ∧ nI (2 ^ c) = nI 1 <<< (nI c &&& 31) := by
  have hk := List.all_eq_true.mp xall_d c (List.mem_range.mpr hc)
  simp only [Bool.and_eq_true, Bool.not_eq_true', beq_eq_false_iff_ne, decide_eq_true_eq] at hk
  exact hk
theorem xp2_rg {c : Nat} (hc : c < 16) : (nI (2 ^ c)).toBitVec.toNat < 65536 := by
  have hk := List.all_eq_true.mp xall_c c (List.mem_range.mpr hc)
  simp only [Bool.and_eq_true, Bool.not_eq_true', beq_eq_false_iff_ne, decide_eq_true_eq] at hk
  exact hk.2.2.1
/-- what is thought behind a glimpse -/
theorem xgl_ok {N : Nat} (hN : N = 257) {f : Nat → Int32} (hr : ∀ j, j < 16 → (f j).toBitVec.toNat < 65536) {p : Nat} (hp : p < 16) {c : Nat} (hc : c < 16) :
    xgl N f p (nI (2 ^ c)) p = nI (2 ^ c) ∧ (∀ j, j < 16 → j ≠ p → ¬ xgl N f p (nI (2 ^ c)) j = nI (2 ^ c)) ∧ ((xcl N (upd f p (nI (2 ^ c)))).1 = true → ∀ j, j < 16 → j ≠ p → xgl N f p (nI (2 ^ c)) j &&& (f j ^^^ (-1)) = 0) := by
  unfold xgl
  by_cases h : (xcl N (upd f p (nI (2 ^ c)))).1 = true
  · rw [if_pos h]
    have hrg : xrg (upd f p (nI (2 ^ c))) := fun j hj => by
      by_cases e : j = p
      · subst e; rw [pk_us]; exact xp2_rg hc
      · rw [pk_un e]; exact hr j hj
    have hb : xbt (upd f p (nI (2 ^ c))) 16 < N := by
      have := xbt_le (upd f p (nI (2 ^ c))) 16
      omega
    obtain ⟨a, b⟩ := xcl_fix N hrg hb h
    have hp1 : (xcl N (upd f p (nI (2 ^ c)))).2 p = nI (2 ^ c) := xss_p2 hc (by
      have h3 := xcl_ss N (upd f p (nI (2 ^ c))) p
      rw [pk_us] at h3
      exact h3) (a p hp)
    refine ⟨hp1, fun j hj hjp e => ?_, fun _ j hj hjp => ?_⟩
    · have ho : xone ((xcl N (upd f p (nI (2 ^ c)))).2 p) = true := by
        rw [hp1]; exact (xone_iff (xp2_rg hc)).mpr ⟨c, hc, rfl⟩
      have h3 := b p hp ho j hj hjp
      rw [e, hp1] at h3
      exact (xall_d1 hc).2.1 h3
    · have h3 := xcl_ss N (upd f p (nI (2 ^ c))) j
      rw [pk_un hjp] at h3
      exact xss_no h3
  · rw [if_neg h]
    refine ⟨pk_us, fun j hj hjp e => ?_, fun h2 => absurd h2 h⟩
    rw [pk_un hjp] at e
    exact (xall_d1 hc).1 e
/-! counts -/
theorem xperm_all : ((List.range 5).all fun k => (List.range 17).all fun n => !xwn k n || ((List.range 16).map (xpb k n)).isPerm (List.range 16)) = true := by decide +kernel
theorem xct_count (p : Nat → Bool) : ∀ n, xct p n = (List.range n).countP p
  | 0 => rfl
  | n + 1 => by
    rw [List.range_succ, List.countP_append, ← xct_count p n]
    by_cases h : p n = true
    · rw [xct_t h]; simp [h]
    · rw [xct_f h]; simp [h]
theorem xct_perm {k n : Nat} (h : xwn k n = true) (p : Nat → Bool) : xct (fun j => p (xpb k n j)) 16 = xct p 16 := by
  have h1 := List.all_eq_true.mp xperm_all k (List.mem_range.mpr (xwn_lt h).1)
  have h2 := List.all_eq_true.mp h1 n (List.mem_range.mpr (xwn_lt h).2)
  rw [h, Bool.not_true, Bool.false_or] at h2
  have h3 := (List.isPerm_iff.mp h2).countP_eq p
  rw [List.countP_map] at h3
  rw [xct_count, xct_count]
  exact h3
theorem xct_le2 {a b : Nat → Bool} : ∀ n, (∀ j, j < n → a j = true → b j = true) → xct a n ≤ xct b n
  | 0, _ => Nat.le_refl 0
  | n + 1, h => by
    have ih := xct_le2 n (fun j hj => h j (by omega))
    by_cases ha : a n = true
    · rw [xct_t ha, xct_t (h n (by omega) ha)]; omega
    · rw [xct_f ha]
      by_cases hb : b n = true
      · rw [xct_t hb]; omega
      · rw [xct_f hb]; omega
theorem xct_max {p : Nat → Bool} {m : Nat} (h : ∀ j, p j = true → j < m) : ∀ n, xct p n ≤ m
  | 0 => Nat.zero_le m
  | n + 1 => by
    have ih := xct_max h n
    by_cases ha : p n = true
    · rw [xct_t ha]
      have := h n ha
      have := xct_le p n
      omega
    · rw [xct_f ha]; exact ih
/-! floorMod of a difference -/
theorem xfmn_all : ((List.range 1024).all fun d => decide (xfm (nI 0 - nI d) = nI ((1024 - d) % 16))) = true := by decide +kernel
theorem xsub_lt {a b : Nat} (h : a < b) (hb : b < 2 ^ 31) : nI a - nI b = nI 0 - nI (b - a) := by
  apply Int32.toBitVec_inj.mp
  show BitVec.ofNat 32 a - BitVec.ofNat 32 b = BitVec.ofNat 32 0 - BitVec.ofNat 32 (b - a)
  apply BitVec.eq_of_toNat_eq
  simp only [BitVec.toNat_sub, BitVec.toNat_ofNat]
  omega
theorem xsub2 (a b d : Nat) : nI a - nI b - nI d = nI a - nI (b + d) := by
  apply Int32.toBitVec_inj.mp
  show BitVec.ofNat 32 a - BitVec.ofNat 32 b - BitVec.ofNat 32 d = BitVec.ofNat 32 a - BitVec.ofNat 32 (b + d)
  apply BitVec.eq_of_toNat_eq
  simp only [BitVec.toNat_sub, BitVec.toNat_ofNat]
  omega
theorem xfm_sub {a b : Nat} (ha : a < 1024) (hb : b < 1024) : xfm (nI a - nI b) = nI ((a + 1024 - b) % 16) := by
  rcases Nat.lt_or_ge a b with h | h
  · rw [xsub_lt h (by omega)]
    have h1 := List.all_eq_true.mp xfmn_all (b - a) (List.mem_range.mpr (by omega))
    rw [of_decide_eq_true h1]
    congr 1
    omega
  · rw [pk_sub h, xfm_n (by omega)]
    congr 1
    omega
/-! all cards, set by set -/
def xorl (f : Nat → Int32) : Nat → Int32
  | 0 => nI 0
  | k + 1 => xorl f k ||| (nI 1 <<< (f k &&& 31))
theorem xorl_n {f : Nat → Int32} (h1 : ∀ j, j < 16 → ∃ c, c < 16 ∧ f j = nI c) : ∀ n, n ≤ 16 → ∃ g : Nat, xorl f n = nI g ∧ g < 2 ^ 16 ∧ ∀ i, i < 16 → (g.testBit i = true ↔ ∃ j, j < n ∧ f j = nI i)
  | 0, _ => ⟨0, rfl, by decide, fun i _ => ⟨fun h => by rw [Nat.zero_testBit] at h; exact absurd h Bool.false_ne_true, fun ⟨j, hj, _⟩ => absurd hj (Nat.not_lt_zero j)⟩⟩
  | n + 1, hn => by
    obtain ⟨g, e, hg, hb⟩ := xorl_n h1 n (by omega)
    obtain ⟨c, hc, ec⟩ := h1 n (by omega)
    refine ⟨g ||| 2 ^ c, ?_, Nat.or_lt_two_pow hg (Nat.pow_lt_pow_right (by decide) hc), fun i hi => ?_⟩
    · show xorl f n ||| (nI 1 <<< (f n &&& 31)) = _
      rw [e, ec, ← (xall_d1 hc).2.2, x_or]
    · rw [Nat.testBit_or, Nat.testBit_two_pow, Bool.or_eq_true, hb i hi, decide_eq_true_iff]
      constructor
      · rintro (⟨j, hj, ej⟩ | rfl)
        · exact ⟨j, by omega, ej⟩
        · exact ⟨n, by omega, ec⟩
      · rintro ⟨j, hj, ej⟩
        rcases Nat.lt_or_ge j n with q | q
        · exact Or.inl ⟨j, q, ej⟩
        · right
          have : j = n := by omega
          subst this
          exact (nI_eq (by omega) (by omega)).mp (ec.symm.trans ej)
theorem xorl_all {f : Nat → Int32} (h1 : ∀ j, j < 16 → ∃ c, c < 16 ∧ f j = nI c) (h2 : ∀ c, c < 16 → ∃ j, j < 16 ∧ f j = nI c) : xorl f 16 = nI 65535 := by
  obtain ⟨g, e, hg, hb⟩ := xorl_n h1 16 (Nat.le_refl 16)
  rw [e]
  congr 1
  apply Nat.eq_of_testBit_eq
  intro i
  rw [show (65535 : Nat) = 2 ^ 16 - 1 from rfl, Nat.testBit_two_pow_sub_one]
  rcases Nat.lt_or_ge i 16 with q | q
  · rw [decide_eq_true q, (hb i q).mpr (h2 i q)]
  · rw [decide_eq_false (by omega)]
    exact Nat.testBit_lt_two_pow (Nat.lt_of_lt_of_le hg (Nat.pow_le_pow_right (by decide) q))
end XPR
