section XPP
theorem xus_n {n : Nat} (hn : n < 2 ^ 32) : xus (nI n) 1 = nI (n / 2 ^ 1) ∧ xus (nI n) 2 = nI (n / 2 ^ 2) ∧ xus (nI n) 4 = nI (n / 2 ^ 4) ∧ xus (nI n) 8 = nI (n / 2 ^ 8) ∧ xus (nI n) 16 = nI (n / 2 ^ 16) :=
  ⟨pk_ushrN hn (nI 1) 1 (by decide), pk_ushrN hn (nI 2) 2 (by decide), pk_ushrN hn (nI 4) 4 (by decide), pk_ushrN hn (nI 8) 8 (by decide), pk_ushrN hn (nI 16) 16 (by decide)⟩
def xbn1 (n : Nat) : Nat := n - (n / 2 ^ 1 &&& 1431655765)
def xbn2 (n : Nat) : Nat := (n &&& 858993459) + (n / 2 ^ 2 &&& 858993459)
def xbn3 (n : Nat) : Nat := (n + n / 2 ^ 4) &&& 252645135
def xbn4 (n : Nat) : Nat := n + n / 2 ^ 8
def xbn5 (n : Nat) : Nat := n + n / 2 ^ 16
def xbn (n : Nat) : Nat := xbn5 (xbn4 (xbn3 (xbn2 (xbn1 n)))) &&& 63
theorem xbc_n {n : Nat} (hn : n < 65536) : xbc (nI n) = nI (xbn n) := by
  have a1 : n / 2 ^ 1 &&& 1431655765 ≤ n / 2 ^ 1 := Nat.and_le_left
  have b1 : xbn1 n < 65536 := by unfold xbn1; omega
  have e1 : xbc1 (nI n) = nI (xbn1 n) := by unfold xbc1 xbn1; rw [(xus_n (by omega)).1, x_and, pk_sub (by omega)]
  have a2 : xbn1 n &&& 858993459 ≤ xbn1 n := Nat.and_le_left
  have a3 : xbn1 n / 2 ^ 2 &&& 858993459 ≤ xbn1 n / 2 ^ 2 := Nat.and_le_left
  have b2 : xbn2 (xbn1 n) < 131072 := by unfold xbn2; omega
  have e2 : xbc2 (nI (xbn1 n)) = nI (xbn2 (xbn1 n)) := by unfold xbc2 xbn2; rw [(xus_n (by omega)).2.1, x_and, x_and, nI_add]
  have a4 : (xbn2 (xbn1 n) + xbn2 (xbn1 n) / 2 ^ 4) &&& 252645135 ≤ xbn2 (xbn1 n) + xbn2 (xbn1 n) / 2 ^ 4 := Nat.and_le_left
  have b3 : xbn3 (xbn2 (xbn1 n)) < 262144 := by unfold xbn3; omega
  have e3 : xbc3 (nI (xbn2 (xbn1 n))) = nI (xbn3 (xbn2 (xbn1 n))) := by unfold xbc3 xbn3; rw [(xus_n (by omega)).2.2.1, nI_add, x_and]
  have b4 : xbn4 (xbn3 (xbn2 (xbn1 n))) < 524288 := by unfold xbn4; omega
  have e4 : xbc4 (nI (xbn3 (xbn2 (xbn1 n)))) = nI (xbn4 (xbn3 (xbn2 (xbn1 n)))) := by unfold xbc4 xbn4; rw [(xus_n (by omega)).2.2.2.1, nI_add]
  have e5 : xbc5 (nI (xbn4 (xbn3 (xbn2 (xbn1 n))))) = nI (xbn5 (xbn4 (xbn3 (xbn2 (xbn1 n))))) := by unfold xbc5 xbn5; rw [(xus_n (by omega)).2.2.2.2, nI_add]
  unfold xbc xbn
  rw [e1, e2, e3, e4, e5, x_and]
def xbnR (n : Nat) : Nat :=
  (fun n => Nat.land (Nat.add n (Nat.div n 65536)) 63) ((fun n => Nat.add n (Nat.div n 256)) ((fun n => Nat.land (Nat.add n (Nat.div n 16)) 252645135) ((fun n => Nat.add (Nat.land n 858993459) (Nat.land (Nat.div n 4) 858993459)) ((fun n => Nat.sub n (Nat.land (Nat.div n 2) 1431655765)) n))))
theorem xbnR_eq (n : Nat) : xbnR n = xbn n := rfl
def xbchk (n : Nat) : Bool := (fun k => and (Nat.ble k 16) (match Nat.beq k 1 with | true => Nat.beq n (Nat.pow 2 (Nat.log2 n)) | false => not (Nat.beq n (Nat.pow 2 (Nat.log2 n))))) (xbnR n)
def xall (f : Nat → Bool) : Nat → Bool
  | 0 => true
  | n + 1 => and (f n) (xall f n)
theorem xall_t {f : Nat → Bool} : ∀ {n : Nat}, xall f n = true → ∀ j, j < n → f j = true
  | 0, _, j, hj => absurd hj (Nat.not_lt_zero j)
  | n + 1, h, j, hj => by
    have h2 : (f n && xall f n) = true := h
    rw [Bool.and_eq_true] at h2
    rcases Nat.lt_or_ge j n with q | q
    · exact xall_t h2.2 j q
    · rw [show j = n by omega]; exact h2.1
theorem xbn_all0 : xall (fun a => xall (fun b => xbchk (Nat.add (Nat.mul 256 (Nat.add 0 a)) b)) 256) 8 = true := by decide +kernel
theorem xbn_all1 : xall (fun a => xall (fun b => xbchk (Nat.add (Nat.mul 256 (Nat.add 8 a)) b)) 256) 8 = true := by decide +kernel
theorem xbn_all2 : xall (fun a => xall (fun b => xbchk (Nat.add (Nat.mul 256 (Nat.add 16 a)) b)) 256) 8 = true := by decide +kernel
theorem xbn_all3 : xall (fun a => xall (fun b => xbchk (Nat.add (Nat.mul 256 (Nat.add 24 a)) b)) 256) 8 = true := by decide +kernel
theorem xbn_all4 : xall (fun a => xall (fun b => xbchk (Nat.add (Nat.mul 256 (Nat.add 32 a)) b)) 256) 8 = true := by decide +kernel
theorem xbn_all5 : xall (fun a => xall (fun b => xbchk (Nat.add (Nat.mul 256 (Nat.add 40 a)) b)) 256) 8 = true := by decide +kernel
theorem xbn_all6 : xall (fun a => xall (fun b => xbchk (Nat.add (Nat.mul 256 (Nat.add 48 a)) b)) 256) 8 = true := by decide +kernel
theorem xbn_all7 : xall (fun a => xall (fun b => xbchk (Nat.add (Nat.mul 256 (Nat.add 56 a)) b)) 256) 8 = true := by decide +kernel
theorem xbn_all8 : xall (fun a => xall (fun b => xbchk (Nat.add (Nat.mul 256 (Nat.add 64 a)) b)) 256) 8 = true := by decide +kernel
theorem xbn_all9 : xall (fun a => xall (fun b => xbchk (Nat.add (Nat.mul 256 (Nat.add 72 a)) b)) 256) 8 = true := by decide +kernel
theorem xbn_all10 : xall (fun a => xall (fun b => xbchk (Nat.add (Nat.mul 256 (Nat.add 80 a)) b)) 256) 8 = true := by decide +kernel
theorem xbn_all11 : xall (fun a => xall (fun b => xbchk (Nat.add (Nat.mul 256 (Nat.add 88 a)) b)) 256) 8 = true := by decide +kernel
theorem xbn_all12 : xall (fun a => xall (fun b => xbchk (Nat.add (Nat.mul 256 (Nat.add 96 a)) b)) 256) 8 = true := by decide +kernel
theorem xbn_all13 : xall (fun a => xall (fun b => xbchk (Nat.add (Nat.mul 256 (Nat.add 104 a)) b)) 256) 8 = true := by decide +kernel
theorem xbn_all14 : xall (fun a => xall (fun b => xbchk (Nat.add (Nat.mul 256 (Nat.add 112 a)) b)) 256) 8 = true := by decide +kernel
theorem xbn_all15 : xall (fun a => xall (fun b => xbchk (Nat.add (Nat.mul 256 (Nat.add 120 a)) b)) 256) 8 = true := by decide +kernel
theorem xbn_all16 : xall (fun a => xall (fun b => xbchk (Nat.add (Nat.mul 256 (Nat.add 128 a)) b)) 256) 8 = true := by decide +kernel
theorem xbn_all17 : xall (fun a => xall (fun b => xbchk (Nat.add (Nat.mul 256 (Nat.add 136 a)) b)) 256) 8 = true := by decide +kernel
theorem xbn_all18 : xall (fun a => xall (fun b => xbchk (Nat.add (Nat.mul 256 (Nat.add 144 a)) b)) 256) 8 = true := by decide +kernel
theorem xbn_all19 : xall (fun a => xall (fun b => xbchk (Nat.add (Nat.mul 256 (Nat.add 152 a)) b)) 256) 8 = true := by decide +kernel
theorem xbn_all20 : xall (fun a => xall (fun b => xbchk (Nat.add (Nat.mul 256 (Nat.add 160 a)) b)) 256) 8 = true := by decide +kernel
theorem xbn_all21 : xall (fun a => xall (fun b => xbchk (Nat.add (Nat.mul 256 (Nat.add 168 a)) b)) 256) 8 = true := by decide +kernel
theorem xbn_all22 : xall (fun a => xall (fun b => xbchk (Nat.add (Nat.mul 256 (Nat.add 176 a)) b)) 256) 8 = true := by decide +kernel
theorem xbn_all23 : xall (fun a => xall (fun b => xbchk (Nat.add (Nat.mul 256 (Nat.add 184 a)) b)) 256) 8 = true := by decide +kernel
theorem xbn_all24 : xall (fun a => xall (fun b => xbchk (Nat.add (Nat.mul 256 (Nat.add 192 a)) b)) 256) 8 = true := by decide +kernel
theorem xbn_all25 : xall (fun a => xall (fun b => xbchk (Nat.add (Nat.mul 256 (Nat.add 200 a)) b)) 256) 8 = true := by decide +kernel
theorem xbn_all26 : xall (fun a => xall (fun b => xbchk (Nat.add (Nat.mul 256 (Nat.add 208 a)) b)) 256) 8 = true := by decide +kernel
theorem xbn_all27 : xall (fun a => xall (fun b => xbchk (Nat.add (Nat.mul 256 (Nat.add 216 a)) b)) 256) 8 = true := by decide +kernel
theorem xbn_all28 : xall (fun a => xall (fun b => xbchk (Nat.add (Nat.mul 256 (Nat.add 224 a)) b)) 256) 8 = true := by decide +kernel
theorem xbn_all29 : xall (fun a => xall (fun b => xbchk (Nat.add (Nat.mul 256 (Nat.add 232 a)) b)) 256) 8 = true := by decide +kernel
theorem xbn_all30 : xall (fun a => xall (fun b => xbchk (Nat.add (Nat.mul 256 (Nat.add 240 a)) b)) 256) 8 = true := by decide +kernel
theorem xbn_all31 : xall (fun a => xall (fun b => xbchk (Nat.add (Nat.mul 256 (Nat.add 248 a)) b)) 256) 8 = true := by decide +kernel
theorem xbn_chk0 {n : Nat} (hn : n < 65536) : xbchk n = true := by
  have key : ∀ c a b, (xall (fun a => xall (fun b => xbchk (Nat.add (Nat.mul 256 (Nat.add (8 * c) a)) b)) 256) 8 = true) → a < 8 → b < 256 → n = 256 * (8 * c + a) + b → xbchk n = true := fun c a b h ha hb e => by
    have h2 := xall_t (xall_t h a ha) b hb
    rw [e]
    exact h2
  have hc : n / 2048 < 32 := by omega
  have ha : n / 256 % 8 < 8 := by omega
  have hb : n % 256 < 256 := by omega
  have e : n = 256 * (8 * (n / 2048) + n / 256 % 8) + n % 256 := by omega
  generalize hq : n / 2048 = c at hc e
  rcases (show c = 0 ∨ c = 1 ∨ c = 2 ∨ c = 3 ∨ c = 4 ∨ c = 5 ∨ c = 6 ∨ c = 7 ∨ c = 8 ∨ c = 9 ∨ c = 10 ∨ c = 11 ∨ c = 12 ∨ c = 13 ∨ c = 14 ∨ c = 15 ∨ c = 16 ∨ c = 17 ∨ c = 18 ∨ c = 19 ∨ c = 20 ∨ c = 21 ∨ c = 22 ∨ c = 23 ∨ c = 24 ∨ c = 25 ∨ c = 26 ∨ c = 27 ∨ c = 28 ∨ c = 29 ∨ c = 30 ∨ c = 31 by omega) with rfl | rfl | rfl | rfl | rfl | rfl | rfl | rfl | rfl | rfl | rfl | rfl | rfl | rfl | rfl | rfl | rfl | rfl | rfl | rfl | rfl | rfl | rfl | rfl | rfl | rfl | rfl | rfl | rfl | rfl | rfl | rfl
  · exact key 0 _ _ xbn_all0 ha hb e
  · exact key 1 _ _ xbn_all1 ha hb e
  · exact key 2 _ _ xbn_all2 ha hb e
  · exact key 3 _ _ xbn_all3 ha hb e
  · exact key 4 _ _ xbn_all4 ha hb e
  · exact key 5 _ _ xbn_all5 ha hb e
  · exact key 6 _ _ xbn_all6 ha hb e
  · exact key 7 _ _ xbn_all7 ha hb e
  · exact key 8 _ _ xbn_all8 ha hb e
  · exact key 9 _ _ xbn_all9 ha hb e
  · exact key 10 _ _ xbn_all10 ha hb e
  · exact key 11 _ _ xbn_all11 ha hb e
  · exact key 12 _ _ xbn_all12 ha hb e
  · exact key 13 _ _ xbn_all13 ha hb e
  · exact key 14 _ _ xbn_all14 ha hb e
  · exact key 15 _ _ xbn_all15 ha hb e
  · exact key 16 _ _ xbn_all16 ha hb e
  · exact key 17 _ _ xbn_all17 ha hb e
  · exact key 18 _ _ xbn_all18 ha hb e
  · exact key 19 _ _ xbn_all19 ha hb e
  · exact key 20 _ _ xbn_all20 ha hb e
  · exact key 21 _ _ xbn_all21 ha hb e
  · exact key 22 _ _ xbn_all22 ha hb e
  · exact key 23 _ _ xbn_all23 ha hb e
  · exact key 24 _ _ xbn_all24 ha hb e
  · exact key 25 _ _ xbn_all25 ha hb e
  · exact key 26 _ _ xbn_all26 ha hb e
  · exact key 27 _ _ xbn_all27 ha hb e
  · exact key 28 _ _ xbn_all28 ha hb e
  · exact key 29 _ _ xbn_all29 ha hb e
  · exact key 30 _ _ xbn_all30 ha hb e
  · exact key 31 _ _ xbn_all31 ha hb e
theorem xbn_chk {n : Nat} (hn : n < 65536) : xbn n ≤ 16 ∧ (xbn n = 1 ↔ ∃ c, c < 16 ∧ n = 2 ^ c) := by
  have h1 := xbn_chk0 hn
  have h2 : (Nat.ble (xbn n) 16 && (match Nat.beq (xbn n) 1 with | true => Nat.beq n (2 ^ Nat.log2 n) | false => !(Nat.beq n (2 ^ Nat.log2 n)))) = true := h1
  rw [Bool.and_eq_true] at h2
  obtain ⟨h3, h4⟩ := h2
  refine ⟨Nat.le_of_ble_eq_true h3, ?_⟩
  constructor
  · intro h
    rw [h] at h4
    have h5 : Nat.beq n (2 ^ Nat.log2 n) = true := h4
    have h6 := Nat.eq_of_beq_eq_true h5
    refine ⟨Nat.log2 n, ?_, h6⟩
    rcases Nat.lt_or_ge (Nat.log2 n) 16 with q | q
    · exact q
    · have : 2 ^ 16 ≤ 2 ^ Nat.log2 n := Nat.pow_le_pow_right (by decide) q
      omega
  · rintro ⟨c, hc, rfl⟩
    have e : Nat.log2 (2 ^ c) = c := Nat.log2_two_pow
    rw [e] at h4
    cases hb : Nat.beq (xbn (2 ^ c)) 1 with
    | true => exact Nat.eq_of_beq_eq_true hb
    | false =>
      rw [hb] at h4
      have h5 : (!(Nat.beq (2 ^ c) (2 ^ c))) = true := h4
      have h6 : Nat.beq (2 ^ c) (2 ^ c) = true := Nat.beq_refl (2 ^ c)
      rw [h6] at h5
      exact absurd h5 Bool.noConfusion
theorem x_ofn (x : Int32) : x = nI x.toBitVec.toNat := by
  apply Int32.toBitVec_inj.mp
  show x.toBitVec = BitVec.ofNat 32 x.toBitVec.toNat
  rw [BitVec.ofNat_toNat, BitVec.setWidth_eq]
theorem xbc_le {x : Int32} (h : x.toBitVec.toNat < 65536) : ∃ b, b ≤ 16 ∧ xbc x = nI b := ⟨xbn x.toBitVec.toNat, (xbn_chk h).1, by rw [x_ofn x, xbc_n h, ← x_ofn x]⟩
theorem xone_iff {x : Int32} (h : x.toBitVec.toNat < 65536) : xone x = true ↔ ∃ c, c < 16 ∧ x = nI (2 ^ c) := by
  have hx := x_ofn x
  unfold xone
  rw [decide_eq_true_iff]
  have h1 := xbn_chk h
  have e : xbc x = nI (xbn x.toBitVec.toNat) := by rw [← xbc_n h, ← hx]
  rw [e, nI_eq (by omega) (by decide), h1.2]
  constructor
  · rintro ⟨c, hc, e2⟩
    exact ⟨c, hc, by rw [← e2]; exact hx⟩
  · rintro ⟨c, hc, e2⟩
    refine ⟨c, hc, ?_⟩
    have h2 : 2 ^ c < 2 ^ 16 := Nat.pow_lt_pow_right (by decide) hc
    have h3 : nI x.toBitVec.toNat = nI (2 ^ c) := hx.symm.trans e2
    exact (nI_eq (by omega) (by omega)).mp h3
theorem xsm_le {f : Nat → Int32} (h : ∀ j, j < 16 → (f j).toBitVec.toNat < 65536) : ∀ n, n ≤ 16 → ∃ b, b ≤ 16 * n ∧ xsm f n = nI b
  | 0, _ => ⟨0, Nat.le_refl _, rfl⟩
  | n + 1, hn => by
    obtain ⟨b, hb, e⟩ := xsm_le h n (by omega)
    obtain ⟨b2, hb2, e2⟩ := xbc_le (h n (by omega))
    exact ⟨b + b2, by omega, by show xsm f n + xbc (f n) = _; rw [e, e2, nI_add]⟩
theorem xfp_all : ((List.range 5).all fun n => (List.range 1025).all fun t => n == 0 || decide (FP.ddiv (FP.i2d (nI t)) (FP.i2d (nI (n * 16))) &&& 0x7fffffffffffffff ≤ 0x7ff0000000000000)) = true := by decide +kernel
theorem xfp_n64 {t n : Nat} (ht : t ≤ 1024) (hn : 0 < n) (hn4 : n ≤ 4) : vf_n64 (FP.ddiv (FP.i2d (nI t)) (FP.i2d (nI (n * 16)))) := by
  have h1 := List.all_eq_true.mp (List.all_eq_true.mp xfp_all n (List.mem_range.mpr (by omega))) t (List.mem_range.mpr (by omega))
  rw [Bool.or_eq_true] at h1
  rcases h1 with h1 | h1
  · have := eq_of_beq h1; omega
  · unfold vf_n64
    exact of_decide_eq_true h1
end XPP
