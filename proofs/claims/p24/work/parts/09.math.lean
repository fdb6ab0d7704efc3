/-! the numbers that both sides speak of -/
section XMA
/-- an argument that is one of 0 .. n - 1 -/
def xvb (n : Nat) (x : Int32) : Bool := decide (0 ≤ x) && decide (x < nI n)
def xb (b : Bool) : Int32 := if b then nI 1 else nI 0
theorem xb_t {b : Bool} (h : b = true) : xb b = nI 1 := by rw [h]; rfl
theorem xb_f {b : Bool} (h : b = false) : xb b = nI 0 := by rw [h]; rfl
theorem xb_ne {b : Bool} {r : Int32} (hr : r = xb b) (h : b = true) : ¬ r = 0 := by rw [hr, h]; decide
theorem xb_eq {b : Bool} {r : Int32} (hr : r = xb b) (h : b = false) : r = 0 := by rw [hr, h]; decide
theorem xb_of_ne {b : Bool} {r : Int32} (hr : r = xb b) (h : ¬ r = 0) : b = true := by
  cases b
  · exact absurd (by rw [hr]; decide) h
  · rfl
theorem xb_of_eq {b : Bool} {r : Int32} (hr : r = xb b) (h : r = 0) : b = false := by
  cases b
  · rfl
  · exact absurd (hr.symm.trans h) (by decide)
theorem xb_nar (b : Bool) : narrow .boolean (.int (xb b)) = .int (xb b) := by cases b <;> rfl
theorem xI0 (x : Int32) : x < 0 ↔ x.toInt < 0 := by rw [Int32.lt_iff_toInt_lt]; rfl
theorem xIle (x y : Int32) : x ≤ y ↔ x.toInt ≤ y.toInt := Int32.le_iff_toInt_le
theorem xIlt (x y : Int32) : x < y ↔ x.toInt < y.toInt := Int32.lt_iff_toInt_lt
theorem xvb_lt {n : Nat} {x : Int32} (h : x < 0) : xvb n x = false := by
  unfold xvb
  rw [xIlt] at h
  rw [decide_eq_false (by rw [xIle]; have : (0 : Int32).toInt = 0 := rfl; omega)]
  rfl
theorem xvb_ge {n : Nat} {x : Int32} (h : nI n ≤ x) : xvb n x = false := by
  unfold xvb
  rw [xIle] at h
  rw [decide_eq_false (p := x < nI n) (by rw [xIlt]; omega), Bool.and_false]
theorem xvb_in {n : Nat} {x : Int32} (h : ¬ x < 0) (h2 : ¬ nI n ≤ x) : xvb n x = true := by
  unfold xvb
  rw [xIlt] at h
  rw [xIle] at h2
  rw [decide_eq_true (by rw [xIle]; omega), decide_eq_true (by rw [xIlt]; omega)]
  rfl
theorem xvb_iff {n : Nat} (hn : n < 2 ^ 31) {x : Int32} : xvb n x = true ↔ ∃ k, k < n ∧ x = nI k := by
  constructor
  · intro h
    unfold xvb at h
    simp only [Bool.and_eq_true, decide_eq_true_eq] at h
    obtain ⟨h1, h2⟩ := h
    obtain ⟨j, hj, rfl⟩ := nI_of (x := x) (by rw [xIle] at h1; rw [xIlt]; omega)
    exact ⟨j, (nI_ltI hj hn).mp h2, rfl⟩
  · rintro ⟨k, hk, rfl⟩
    exact xvb_in (nI_pos (by omega)) (nI_ge hk hn)
theorem xvb_k {n k : Nat} (hk : k < n) (hn : n < 2 ^ 31) : xvb n (nI k) = true := (xvb_iff hn).mpr ⟨k, hk, rfl⟩
/-- where a way brings a place -/
def xpa (k n p : Nat) : Nat := match k with
  | 0 => (p + 16 - n) % 16
  | 1 => if p < 8 then 2 * p else 2 * p - 15
  | 2 => if p < 8 then 2 * p + 1 else 2 * p - 16
  | 3 => if p < n then n - 1 - p else p
  | _ => xDt p
def xwn (k n : Nat) : Bool := match k with
  | 0 => decide (1 ≤ n) && decide (n ≤ 15)
  | 1 => decide (n = 0)
  | 2 => decide (n = 0)
  | 3 => decide (2 ≤ n) && decide (n ≤ 16)
  | 4 => decide (n = 0)
  | _ => false
/-- from where -/
def xDi (j : Nat) : Nat := [0, 8, 12, 4, 14, 10, 6, 2, 15, 13, 11, 9, 7, 5, 3, 1].getD j 0
def xpb (k n j : Nat) : Nat := match k with
  | 0 => (j + n) % 16
  | 1 => if j % 2 = 0 then j / 2 else 8 + j / 2
  | 2 => if j % 2 = 1 then j / 2 else 8 + j / 2
  | 3 => if j < n then n - 1 - j else j
  | _ => xDi j
theorem xwn_lt {k n : Nat} (h : xwn k n = true) : k < 5 ∧ n < 17 := by
  unfold xwn at h
  split at h <;> simp at h <;> omega
theorem xway_all : ((List.range 5).all fun k => (List.range 17).all fun n => !xwn k n || (List.range 16).all fun j => decide (xpa k n j < 16) && (decide (xpb k n j < 16) && (decide (xpa k n (xpb k n j) = j) && decide (xpb k n (xpa k n j) = j)))) = true := by decide +kernel
theorem xway {k n : Nat} (h : xwn k n = true) {j : Nat} (hj : j < 16) : xpa k n j < 16 ∧ xpb k n j < 16 ∧ xpa k n (xpb k n j) = j ∧ xpb k n (xpa k n j) = j := by
  have h1 := List.all_eq_true.mp xway_all k (List.mem_range.mpr (xwn_lt h).1)
  have h2 := List.all_eq_true.mp h1 n (List.mem_range.mpr (xwn_lt h).2)
  rw [h] at h2
  have h3 : ∀ (x : Nat), x < 16 → xpa k n x < 16 ∧ xpb k n x < 16 ∧ xpa k n (xpb k n x) = x ∧ xpb k n (xpa k n x) = x := by simpa using h2
  exact h3 j hj
def xwb (x y : Int32) : Bool := (decide (x = 0) && (decide (1 ≤ y) && decide (y < 16))) || ((decide (x = 3) && (decide (2 ≤ y) && decide (y ≤ 16))) || ((decide (x = 1) || (decide (x = 2) || decide (x = 4))) && decide (y = 0)))
theorem xwb_iff {x y : Int32} : xwb x y = true ↔ ∃ k n, xwn k n = true ∧ x = nI k ∧ y = nI n := by
  constructor
  · intro h
    unfold xwb at h
    simp only [Bool.or_eq_true, Bool.and_eq_true, decide_eq_true_eq] at h
    rcases h with ⟨h, h1, h2⟩ | ⟨h, h1, h2⟩ | ⟨h, h1⟩
    · rw [xIle] at h1
      rw [xIlt] at h2
      have e1 : (1 : Int32).toInt = 1 := rfl
      have e2 : (16 : Int32).toInt = 16 := rfl
      have e0 : (0 : Int32).toInt = 0 := rfl
      obtain ⟨j, hj, rfl⟩ := nI_of (x := y) (by rw [xIlt]; omega)
      rw [nI_toInt hj] at h1 h2
      refine ⟨0, j, ?_, h, rfl⟩
      simp [xwn]; omega
    · rw [xIle] at h1 h2
      have e1 : (2 : Int32).toInt = 2 := rfl
      have e2 : (16 : Int32).toInt = 16 := rfl
      have e0 : (0 : Int32).toInt = 0 := rfl
      obtain ⟨j, hj, rfl⟩ := nI_of (x := y) (by rw [xIlt]; omega)
      rw [nI_toInt hj] at h1 h2
      refine ⟨3, j, ?_, h, rfl⟩
      simp [xwn]; omega
    · rcases h with h | h | h
      · exact ⟨1, 0, rfl, h, h1⟩
      · exact ⟨2, 0, rfl, h, h1⟩
      · exact ⟨4, 0, rfl, h, h1⟩
  · rintro ⟨k, n, h, rfl, rfl⟩
    have hk := xwn_lt h
    have key : ((List.range 5).all fun k => (List.range 17).all fun n => !xwn k n || xwb (nI k) (nI n)) = true := by decide +kernel
    have h1 := List.all_eq_true.mp key k (List.mem_range.mpr hk.1)
    have h2 := List.all_eq_true.mp h1 n (List.mem_range.mpr hk.2)
    rw [h] at h2
    simpa using h2
def xso (x : Int32) : Int32 := nI 1 <<< (x &&& 31)
/-- Integer.bitCount, step by step -/
def xus (x : Int32) (k : Nat) : Int32 := (x.toUInt32 >>> ((nI k).toUInt32 &&& Int32.toUInt32 31)).toInt32
def xbc1 (x : Int32) : Int32 := x - (xus x 1 &&& nI 1431655765)
def xbc2 (x : Int32) : Int32 := (x &&& nI 858993459) + (xus x 2 &&& nI 858993459)
def xbc3 (x : Int32) : Int32 := (x + xus x 4) &&& nI 252645135
def xbc4 (x : Int32) : Int32 := x + xus x 8
def xbc5 (x : Int32) : Int32 := x + xus x 16
def xbc (x : Int32) : Int32 := xbc5 (xbc4 (xbc3 (xbc2 (xbc1 x)))) &&& nI 63
def xone (x : Int32) : Bool := decide (xbc x = nI 1)
/-- placeAfterDeal's loop -/
def xdl : Nat → Nat → Nat → Nat → Nat
  | 0, a, d, _ => 15 - d - a / 2
  | f + 1, a, d, l => if 1 < l ∧ a % 2 = 0 then xdl f (a / 2) (d + l / 2) (l / 2) else 15 - d - a / 2
theorem xdl_ok : ∀ p, p < 16 → xdl 4 p 0 16 = xDt p := by decide +kernel
/-- Math.floorMod by 16 -/
def xfm (x : Int32) : Int32 := if 0 ≤ x ^^^ nI 16 then x - x / nI 16 * nI 16 else if x - x / nI 16 * nI 16 = 0 then x - x / nI 16 * nI 16 else x - x / nI 16 * nI 16 + nI 16
theorem xfm_n {n : Nat} (h : n < 2 ^ 31) : xfm (nI n) = nI (n % 16) := by
  have e : nI n ^^^ nI 16 = nI (n ^^^ 16) := by
    apply Int32.toBitVec_inj.mp
    show BitVec.ofNat 32 n ^^^ BitVec.ofNat 32 16 = BitVec.ofNat 32 (n ^^^ 16)
    apply BitVec.eq_of_toNat_eq
    simp only [BitVec.toNat_xor, BitVec.toNat_ofNat]
    rw [Nat.xor_mod_two_pow]
  have h2 : n ^^^ 16 < 2 ^ 31 := Nat.xor_lt_two_pow h (by decide)
  unfold xfm
  rw [e, if_pos (by rw [xIle, nI_toInt h2]; have : (0 : Int32).toInt = 0 := rfl; omega), pk_rem h (by decide) (by decide)]
theorem nI1 : nI 1 = 1 := rfl
theorem nI16 : nI 16 = 16 := rfl
end XMA
