section XPM
/-! the mean lies between 1 and 16 -/
def xbch0 (n : Nat) : Bool := or (Nat.beq n 0) (not (Nat.beq (xbnR n) 0))
theorem xbz_all0 : xall (fun a => xall (fun b => xbch0 (Nat.add (Nat.mul 256 (Nat.add 0 a)) b)) 256) 8 = true := by decide +kernel
theorem xbz_all1 : xall (fun a => xall (fun b => xbch0 (Nat.add (Nat.mul 256 (Nat.add 8 a)) b)) 256) 8 = true := by decide +kernel
theorem xbz_all2 : xall (fun a => xall (fun b => xbch0 (Nat.add (Nat.mul 256 (Nat.add 16 a)) b)) 256) 8 = true := by decide +kernel
theorem xbz_all3 : xall (fun a => xall (fun b => xbch0 (Nat.add (Nat.mul 256 (Nat.add 24 a)) b)) 256) 8 = true := by decide +kernel
theorem xbz_all4 : xall (fun a => xall (fun b => xbch0 (Nat.add (Nat.mul 256 (Nat.add 32 a)) b)) 256) 8 = true := by decide +kernel
theorem xbz_all5 : xall (fun a => xall (fun b => xbch0 (Nat.add (Nat.mul 256 (Nat.add 40 a)) b)) 256) 8 = true := by decide +kernel
theorem xbz_all6 : xall (fun a => xall (fun b => xbch0 (Nat.add (Nat.mul 256 (Nat.add 48 a)) b)) 256) 8 = true := by decide +kernel
theorem xbz_all7 : xall (fun a => xall (fun b => xbch0 (Nat.add (Nat.mul 256 (Nat.add 56 a)) b)) 256) 8 = true := by decide +kernel
theorem xbz_all8 : xall (fun a => xall (fun b => xbch0 (Nat.add (Nat.mul 256 (Nat.add 64 a)) b)) 256) 8 = true := by decide +kernel
theorem xbz_all9 : xall (fun a => xall (fun b => xbch0 (Nat.add (Nat.mul 256 (Nat.add 72 a)) b)) 256) 8 = true := by decide +kernel
theorem xbz_all10 : xall (fun a => xall (fun b => xbch0 (Nat.add (Nat.mul 256 (Nat.add 80 a)) b)) 256) 8 = true := by decide +kernel
theorem xbz_all11 : xall (fun a => xall (fun b => xbch0 (Nat.add (Nat.mul 256 (Nat.add 88 a)) b)) 256) 8 = true := by decide +kernel
theorem xbz_all12 : xall (fun a => xall (fun b => xbch0 (Nat.add (Nat.mul 256 (Nat.add 96 a)) b)) 256) 8 = true := by decide +kernel
theorem xbz_all13 : xall (fun a => xall (fun b => xbch0 (Nat.add (Nat.mul 256 (Nat.add 104 a)) b)) 256) 8 = true := by decide +kernel
theorem xbz_all14 : xall (fun a => xall (fun b => xbch0 (Nat.add (Nat.mul 256 (Nat.add 112 a)) b)) 256) 8 = true := by decide +kernel
theorem xbz_all15 : xall (fun a => xall (fun b => xbch0 (Nat.add (Nat.mul 256 (Nat.add 120 a)) b)) 256) 8 = true := by decide +kernel
theorem xbz_all16 : xall (fun a => xall (fun b => xbch0 (Nat.add (Nat.mul 256 (Nat.add 128 a)) b)) 256) 8 = true := by decide +kernel
theorem xbz_all17 : xall (fun a => xall (fun b => xbch0 (Nat.add (Nat.mul 256 (Nat.add 136 a)) b)) 256) 8 = true := by decide +kernel
theorem xbz_all18 : xall (fun a => xall (fun b => xbch0 (Nat.add (Nat.mul 256 (Nat.add 144 a)) b)) 256) 8 = true := by decide +kernel
theorem xbz_all19 : xall (fun a => xall (fun b => xbch0 (Nat.add (Nat.mul 256 (Nat.add 152 a)) b)) 256) 8 = true := by decide +kernel
theorem xbz_all20 : xall (fun a => xall (fun b => xbch0 (Nat.add (Nat.mul 256 (Nat.add 160 a)) b)) 256) 8 = true := by decide +kernel
theorem xbz_all21 : xall (fun a => xall (fun b => xbch0 (Nat.add (Nat.mul 256 (Nat.add 168 a)) b)) 256) 8 = true := by decide +kernel
theorem xbz_all22 : xall (fun a => xall (fun b => xbch0 (Nat.add (Nat.mul 256 (Nat.add 176 a)) b)) 256) 8 = true := by decide +kernel
theorem xbz_all23 : xall (fun a => xall (fun b => xbch0 (Nat.add (Nat.mul 256 (Nat.add 184 a)) b)) 256) 8 = true := by decide +kernel
theorem xbz_all24 : xall (fun a => xall (fun b => xbch0 (Nat.add (Nat.mul 256 (Nat.add 192 a)) b)) 256) 8 = true := by decide +kernel
theorem xbz_all25 : xall (fun a => xall (fun b => xbch0 (Nat.add (Nat.mul 256 (Nat.add 200 a)) b)) 256) 8 = true := by decide +kernel
theorem xbz_all26 : xall (fun a => xall (fun b => xbch0 (Nat.add (Nat.mul 256 (Nat.add 208 a)) b)) 256) 8 = true := by decide +kernel
theorem xbz_all27 : xall (fun a => xall (fun b => xbch0 (Nat.add (Nat.mul 256 (Nat.add 216 a)) b)) 256) 8 = true := by decide +kernel
theorem xbz_all28 : xall (fun a => xall (fun b => xbch0 (Nat.add (Nat.mul 256 (Nat.add 224 a)) b)) 256) 8 = true := by decide +kernel
theorem xbz_all29 : xall (fun a => xall (fun b => xbch0 (Nat.add (Nat.mul 256 (Nat.add 232 a)) b)) 256) 8 = true := by decide +kernel
theorem xbz_all30 : xall (fun a => xall (fun b => xbch0 (Nat.add (Nat.mul 256 (Nat.add 240 a)) b)) 256) 8 = true := by decide +kernel
theorem xbz_all31 : xall (fun a => xall (fun b => xbch0 (Nat.add (Nat.mul 256 (Nat.add 248 a)) b)) 256) 8 = true := by decide +kernel
theorem xbz_chk {n : Nat} (hn : n < 65536) : xbch0 n = true := by
  have key : ∀ c a b, (xall (fun a => xall (fun b => xbch0 (Nat.add (Nat.mul 256 (Nat.add (8 * c) a)) b)) 256) 8 = true) → a < 8 → b < 256 → n = 256 * (8 * c + a) + b → xbch0 n = true := fun c a b h ha hb e => by
    have h2 := xall_t (xall_t h a ha) b hb
    rw [e]
    exact h2
  have hc : n / 2048 < 32 := by omega
  have ha : n / 256 % 8 < 8 := by omega
  have hb : n % 256 < 256 := by omega
  have e : n = 256 * (8 * (n / 2048) + n / 256 % 8) + n % 256 := by omega
  generalize hq : n / 2048 = c at hc e
  rcases (show c = 0 ∨ c = 1 ∨ c = 2 ∨ c = 3 ∨ c = 4 ∨ c = 5 ∨ c = 6 ∨ c = 7 ∨ c = 8 ∨ c = 9 ∨ c = 10 ∨ c = 11 ∨ c = 12 ∨ c = 13 ∨ c = 14 ∨ c = 15 ∨ c = 16 ∨ c = 17 ∨ c = 18 ∨ c = 19 ∨ c = 20 ∨ c = 21 ∨ c = 22 ∨ c = 23 ∨ c = 24 ∨ c = 25 ∨ c = 26 ∨ c = 27 ∨ c = 28 ∨ c = 29 ∨ c = 30 ∨ c = 31 by omega) with rfl | rfl | rfl | rfl | rfl | rfl | rfl | rfl | rfl | rfl | rfl | rfl | rfl | rfl | rfl | rfl | rfl | rfl | rfl | rfl | rfl | rfl | rfl | rfl | rfl | rfl | rfl | rfl | rfl | rfl | rfl | rfl
  · exact key 0 _ _ xbz_all0 ha hb e
  · exact key 1 _ _ xbz_all1 ha hb e
  · exact key 2 _ _ xbz_all2 ha hb e
  · exact key 3 _ _ xbz_all3 ha hb e
  · exact key 4 _ _ xbz_all4 ha hb e
  · exact key 5 _ _ xbz_all5 ha hb e
  · exact key 6 _ _ xbz_all6 ha hb e
  · exact key 7 _ _ xbz_all7 ha hb e
  · exact key 8 _ _ xbz_all8 ha hb e
  · exact key 9 _ _ xbz_all9 ha hb e
  · exact key 10 _ _ xbz_all10 ha hb e
  · exact key 11 _ _ xbz_all11 ha hb e
  · exact key 12 _ _ xbz_all12 ha hb e
  · exact key 13 _ _ xbz_all13 ha hb e
  · exact key 14 _ _ xbz_all14 ha hb e
  · exact key 15 _ _ xbz_all15 ha hb e
  · exact key 16 _ _ xbz_all16 ha hb e
  · exact key 17 _ _ xbz_all17 ha hb e
  · exact key 18 _ _ xbz_all18 ha hb e
  · exact key 19 _ _ xbz_all19 ha hb e
  · exact key 20 _ _ xbz_all20 ha hb e
  · exact key 21 _ _ xbz_all21 ha hb e
  · exact key 22 _ _ xbz_all22 ha hb e
  · exact key 23 _ _ xbz_all23 ha hb e
  · exact key 24 _ _ xbz_all24 ha hb e
  · exact key 25 _ _ xbz_all25 ha hb e
  · exact key 26 _ _ xbz_all26 ha hb e
  · exact key 27 _ _ xbz_all27 ha hb e
  · exact key 28 _ _ xbz_all28 ha hb e
  · exact key 29 _ _ xbz_all29 ha hb e
  · exact key 30 _ _ xbz_all30 ha hb e
  · exact key 31 _ _ xbz_all31 ha hb e
theorem xbn_pos {n : Nat} (hn : n < 65536) (h0 : ¬ n = 0) : 1 ≤ xbn n := by
  have h1 : (Nat.beq n 0 || !(Nat.beq (xbn n) 0)) = true := xbz_chk hn
  rw [Bool.or_eq_true] at h1
  rcases h1 with h1 | h1
  · exact absurd (Nat.eq_of_beq_eq_true h1) h0
  · rcases Nat.eq_zero_or_pos (xbn n) with q | q
    · rw [q] at h1
      exact absurd h1 (by decide)
    · exact q
theorem xnz_nat {x : Int32} (h : ¬ x = 0) : ¬ x.toBitVec.toNat = 0 := fun e => h (by rw [x_ofn x, e]; rfl)
theorem xsm_bd {f : Nat → Int32} (h : ∀ j, j < 16 → (f j).toBitVec.toNat < 65536 ∧ ¬ f j = 0) : ∀ n, n ≤ 16 → ∃ b, n ≤ b ∧ b ≤ 16 * n ∧ xsm f n = nI b
  | 0, _ => ⟨0, Nat.le_refl _, Nat.le_refl _, rfl⟩
  | n + 1, hn => by
    obtain ⟨b, hb0, hb, e⟩ := xsm_bd h n (by omega)
    obtain ⟨h1, h2⟩ := h n (by omega)
    have e2 : xbc (f n) = nI (xbn (f n).toBitVec.toNat) := by rw [← xbc_n h1, ← x_ofn]
    have h3 := (xbn_chk h1).1
    have h4 := xbn_pos h1 (xnz_nat h2)
    exact ⟨b + xbn (f n).toBitVec.toNat, by omega, by omega, by show xsm f n + xbc (f n) = _; rw [e, e2, nI_add]⟩
theorem xsu_bd {M : XM} (h : ∀ w, w < mnw M → ∀ j, j < 16 → (mth M w j).toBitVec.toNat < 65536 ∧ ¬ mth M w j = 0) : ∀ i, ∃ b, 16 * min i (mnw M) ≤ b ∧ b ≤ 256 * min i (mnw M) ∧ xsu M i = nI b
  | 0 => ⟨0, by omega, by omega, rfl⟩
  | i + 1 => by
    obtain ⟨b, hb0, hb, e⟩ := xsu_bd h i
    by_cases hi : i < mnw M
    · obtain ⟨b2, hb1, hb2, e2⟩ := xsm_bd (h i hi) 16 (Nat.le_refl _)
      exact ⟨b + b2, by omega, by omega, by show (if i < mnw M then _ else _) = _; rw [if_pos hi, e, e2, nI_add]⟩
    · exact ⟨b, by omega, by omega, by show (if i < mnw M then _ else _) = _; rw [if_neg hi, e]⟩
theorem xmn_all : ((List.range 5).all fun n => (List.range 1025).all fun t => n == 0 || (!(decide (16 * n ≤ t) && decide (t ≤ 256 * n)) || (decide (¬ Op.cmpValue (FP.dcmp (FP.ddiv (FP.i2d (nI t)) (FP.i2d (nI (n * 16)))) FP.dconst1) .g < 0) && decide (Op.cmpValue (FP.dcmp (FP.ddiv (FP.i2d (nI t)) (FP.i2d (nI (n * 16)))) 4625196817309499392) .l ≤ 0)))) = true := by decide +kernel
theorem xmean_bd {M : XM} (hn4 : mnw M ≤ 4) (hn1 : 1 ≤ mnw M) (h : ∀ w, w < mnw M → ∀ j, j < 16 → (mth M w j).toBitVec.toNat < 65536 ∧ ¬ mth M w j = 0) :
    ¬ Op.cmpValue (FP.dcmp (xmean M) FP.dconst1) .g < 0 ∧ Op.cmpValue (FP.dcmp (xmean M) 4625196817309499392) .l ≤ 0 := by
  unfold xmean
  rw [if_neg (by omega)]
  obtain ⟨t, h1, h2, e⟩ := xsu_bd h 4
  rw [e]
  have h3 := List.all_eq_true.mp xmn_all (mnw M) (List.mem_range.mpr (by omega))
  have h4 := List.all_eq_true.mp h3 t (List.mem_range.mpr (by omega))
  rw [Bool.or_eq_true, Bool.or_eq_true] at h4
  rcases h4 with h4 | h4 | h4
  · have := eq_of_beq h4; omega
  · rw [decide_eq_true (show 16 * mnw M ≤ t by omega), decide_eq_true (show t ≤ 256 * mnw M by omega)] at h4
    exact absurd h4 (by decide)
  · rw [Bool.and_eq_true] at h4
    exact ⟨of_decide_eq_true h4.1, of_decide_eq_true h4.2⟩
end XPM
