section XIV
/-! the invariant of the pack's state, kept by each call -/
theorem xI_s {M : XM} {n : Nat} (h : xI M n) (hn : n < 512) : xI M (n + 1) := by
  obtain ⟨h1, h2, h3, h4, h5, h6, h7, h8, h9, h10, h11⟩ := h
  exact ⟨h1, h2, h3, h4, h5, h6, h7, h8, h9, by omega, by omega⟩
theorem xI_go {M : XM} {n : Nat} (h : xI M n) (hn : n < 512) {a b : Int32} (hw : xwb a b = true) (o : Int32) : xI (xMgo M (xka a) (xka b) o) (n + 1) := by
  obtain ⟨h1, h2, h3, h4, h5, h6, h7, h8, h9, h10, h11⟩ := h
  obtain ⟨k, q, hkq, rfl, rfl⟩ := xwb_iff.mp hw
  have hb := xwn_lt hkq
  rw [xka_n (by omega), xka_n (by omega)]
  refine ⟨h1, h2, fun j hj => h3 _ (xway hkq hj).2.1, fun c hc => ?_, h5, fun w hw j hj => ?_, h7, h8, h9, (show mta M ≤ n + 1 by omega), by omega⟩
  · obtain ⟨j, hj, e⟩ := h4 c hc
    obtain ⟨p1, p2, p3, p4⟩ := xway hkq hj
    exact ⟨xpa k q j, p1, (show mpk M (xpb k q (xpa k q j)) = nI c by rw [p4]; exact e)⟩
  · show ((if o = 0 then mth M else xmv M k q (fun w => decide (w < mnw M))) w j).toBitVec.toNat < 65536 ∧ ¬ (if o = 0 then mth M else xmv M k q (fun w => decide (w < mnw M))) w j = 0
    split
    · exact h6 w hw j hj
    · unfold xmv
      split
      · exact h6 w hw _ (xway hkq hj).2.1
      · exact h6 w hw j hj
theorem xI_fc {M : XM} {n : Nat} (h : xI M n) (hn : n < 512) {a : Int32} (hw : xwb (nI 0) a = true) : xI (xMfc M (xka a)) (n + 1) := by
  obtain ⟨h1, h2, h3, h4, h5, h6, h7, h8, h9, h10, h11⟩ := h
  obtain ⟨k, q, hkq, ek, rfl⟩ := xwb_iff.mp hw
  have hb := xwn_lt hkq
  obtain rfl : 0 = k := (nI_eq (by decide) (by omega)).mp ek
  rw [xka_n (by omega)]
  refine ⟨h1, h2, h3, h4, h5, fun w hw j hj => ?_, h7, h8, h9, (show mta M ≤ n + 1 by omega), by omega⟩
  show (xmv M 0 q (fun w => decide (w < mnw M) && decide (msh M w = 0)) w j).toBitVec.toNat < 65536 ∧ ¬ xmv M 0 q (fun w => decide (w < mnw M) && decide (msh M w = 0)) w j = 0
  unfold xmv
  split
  · exact h6 w hw _ (xway hkq hj).2.1
  · exact h6 w hw j hj
theorem xI_watch {M : XM} {n : Nat} (h : xI M n) (hn : n < 512) (hw : mnw M < 4) {sh1 : Int32} (hs : sh1 = nI 0 ∨ sh1 = nI 1) : xI (xmk (mpk M) (va_up (mth M) (mnw M) (fun _ => nI 65535)) (upd (msh M) (mnw M) sh1) (man M) (mgl M) (mhb M) (mtk M) (mnw M + 1) (mnp M) (mle M) (mwy M) (mfc M) (mta M)) (n + 1) := by
  obtain ⟨h1, h2, h3, h4, h5, h6, h7, h8, h9, h10, h11⟩ := h
  refine ⟨(show mnw M + 1 ≤ 4 by omega), h2, h3, h4, fun w hw => ?_, fun w hw j hj => ?_, fun w hw => h7 w (by have : mnw M + 1 ≤ w := hw; omega), h8, h9, (show mta M ≤ n + 1 by omega), by omega⟩
  · show upd (msh M) (mnw M) sh1 w = nI 0 ∨ upd (msh M) (mnw M) sh1 w = nI 1
    by_cases e : w = mnw M
    · subst e; rw [pk_us]; exact hs
    · rw [pk_un e]; exact h5 w (by have : w < mnw M + 1 := hw; omega)
  · show (va_up (mth M) (mnw M) (fun _ => nI 65535) w j).toBitVec.toNat < 65536 ∧ ¬ va_up (mth M) (mnw M) (fun _ => nI 65535) w j = 0
    unfold va_up
    by_cases e : w = mnw M
    · rw [if_pos e]; exact ⟨by decide, by decide⟩
    · rw [if_neg e]; exact h6 w (by have : w < mnw M + 1 := hw; omega) j hj
theorem xI_sit {M : XM} {n : Nat} (h : xI M n) (hn : n < 512) {x : Int32} (hx : xvb 16 x = true) (hw : mnp M < 4) : xI (xmk (mpk M) (mth M) (msh M) (man M) (mgl M) (upd (mhb M) (mnp M) x) (upd (mtk M) (mnp M) (-1)) (mnw M) (mnp M + 1) (mle M) (mwy M) (mfc M) (mta M)) (n + 1) := by
  obtain ⟨h1, h2, h3, h4, h5, h6, h7, h8, h9, h10, h11⟩ := h
  refine ⟨h1, (show mnp M + 1 ≤ 4 by omega), h3, h4, h5, h6, h7, fun q hq => ?_, h9, (show mta M ≤ n + 1 by omega), by omega⟩
  show ∃ h, h < 16 ∧ upd (mhb M) (mnp M) x q = nI h
  by_cases e : q = mnp M
  · subst e; rw [pk_us]; exact (xvb_iff (by decide)).mp hx
  · rw [pk_un e]; exact h8 q (by have : q < mnp M + 1 := hq; omega)
theorem xI_fan {M : XM} {n : Nat} (h : xI M n) (hn : n < 512) {x : Int32} (hx : xvb 16 x = true) : xI (xmk (mpk M) (mth M) (msh M) (man M) (mgl M) (mhb M) (mtk M) (mnw M) (mnp M) x (mwy M) (mfc M) (mta M)) (n + 1) := by
  obtain ⟨h1, h2, h3, h4, h5, h6, h7, h8, h9, h10, h11⟩ := h
  exact ⟨h1, h2, h3, h4, h5, h6, h7, h8, (xvb_iff (by decide)).mp hx, (show mta M ≤ n + 1 by omega), by omega⟩
theorem xI_take {M : XM} {n : Nat} (h : xI M n) (hn : n < 512) (k : Nat) : xI (xMt M k) (n + 1) := by
  obtain ⟨h1, h2, h3, h4, h5, h6, h7, h8, h9, h10, h11⟩ := h
  exact ⟨h1, h2, h3, h4, h5, h6, h7, h8, h9, (show mta M + 1 ≤ n + 1 by omega), by omega⟩
theorem xcl_rg : ∀ (m : Nat) {f : Nat → Int32}, xrg f → (∀ j, j < 16 → ¬ f j = 0) → (xcl m f).1 = true → xrg (xcl m f).2 ∧ ∀ j, j < 16 → ¬ (xcl m f).2 j = 0
  | 0, f, hr, hz, _ => ⟨hr, hz⟩
  | m + 1, f, hr, hz, h => by
    rw [xcl_s] at h ⊢
    by_cases h1 : xz (xrp f 16) = true
    · rw [if_pos h1] at h; exact absurd h Bool.false_ne_true
    · rw [if_neg h1] at h ⊢
      have hz2 : ∀ j, j < 16 → ¬ xrp f 16 j = 0 := fun j hj e => h1 (xz_iff.mpr ⟨j, hj, e⟩)
      by_cases h2 : xrc f 16 = true
      · rw [if_pos h2] at h ⊢; exact xcl_rg m (xrp_rg hr 16) hz2 h
      · rw [if_neg h2]; exact ⟨xrp_rg hr 16, hz2⟩
theorem xall_c : ((List.range 16).all fun c => !(nI 65535 &&& (nI (2 ^ c) ^^^ (-1)) == 0) && (decide ((nI 65535 &&& (nI (2 ^ c) ^^^ (-1))).toBitVec.toNat < 65536) && (decide ((nI (2 ^ c)).toBitVec.toNat < 65536) && !(nI (2 ^ c) == 0)))) = true := by decide +kernel
theorem xgl_rg {N : Nat} {f : Nat → Int32} (hr : ∀ j, j < 16 → (f j).toBitVec.toNat < 65536 ∧ ¬ f j = 0) {p : Nat} (hp : p < 16) {v : Int32} (hv : ∃ c, c < 16 ∧ v = nI c) : ∀ j, j < 16 → (xgl N f p (xso v) j).toBitVec.toNat < 65536 ∧ ¬ xgl N f p (xso v) j = 0 := by
  obtain ⟨c, hc, rfl⟩ := hv
  rw [xso_n (by omega)]
  have hk := List.all_eq_true.mp xall_c c (List.mem_range.mpr hc)
  simp only [Bool.and_eq_true, Bool.not_eq_true', beq_eq_false_iff_ne, decide_eq_true_eq] at hk
  obtain ⟨k1, k2, k3, k4⟩ := hk
  unfold xgl
  by_cases h : (xcl N (upd f p (nI (2 ^ c)))).1 = true
  · rw [if_pos h]
    obtain ⟨a, b⟩ := xcl_rg N (f := upd f p (nI (2 ^ c))) (fun j hj => by
      by_cases e : j = p
      · subst e; rw [pk_us]; exact k3
      · rw [pk_un e]; exact (hr j hj).1) (fun j hj => by
      by_cases e : j = p
      · subst e; rw [pk_us]; exact k4
      · rw [pk_un e]; exact (hr j hj).2) h
    exact fun j hj => ⟨a j hj, b j hj⟩
  · rw [if_neg h]
    intro j hj
    by_cases e : j = p
    · subst e; rw [pk_us]; exact ⟨k3, k4⟩
    · rw [pk_un e]; exact ⟨k2, k1⟩
theorem xI_glimpse {M : XM} {n : Nat} (h : xI M n) (hn : n < 512) (N : Nat) {x y : Int32} (hw : (xvb (mnw M) x && xvb 16 y) = true) : xI (xMg N M (xka x) (xka y)) (n + 1) := by
  obtain ⟨h1, h2, h3, h4, h5, h6, h7, h8, h9, h10, h11⟩ := h
  rw [Bool.and_eq_true] at hw
  obtain ⟨k, hk, rfl⟩ := (xvb_iff (n := mnw M) (by omega)).mp hw.1
  obtain ⟨j, hj, rfl⟩ := (xvb_iff (n := 16) (by decide)).mp hw.2
  rw [xka_n (by omega), xka_n (by omega)]
  refine ⟨h1, h2, h3, h4, h5, fun w hw j2 hj2 => ?_, fun w hw => ?_, h8, h9, (show mta M ≤ n + 1 by omega), by omega⟩
  · show (va_up (mth M) k (xgl N (mth M k) j (xso (mpk M j))) w j2).toBitVec.toNat < 65536 ∧ ¬ va_up (mth M) k (xgl N (mth M k) j (xso (mpk M j))) w j2 = 0
    unfold va_up
    by_cases e : w = k
    · rw [if_pos e]; exact xgl_rg (h6 k hk) hj (h3 j hj) j2 hj2
    · rw [if_neg e]; exact h6 w hw j2 hj2
  · have hwk : w ≠ k := by have : mnw M ≤ w := hw; omega
    exact ⟨(pk_un hwk).trans (h7 w hw).1, (pk_un hwk).trans (h7 w hw).2⟩
theorem xI_0 : xI xM0 0 := by
  refine ⟨by decide, by decide, fun j hj => ⟨j, hj, rfl⟩, fun c hc => ⟨c, hc, rfl⟩, fun w hw => absurd hw (Nat.not_lt_zero w), fun w hw => absurd hw (Nat.not_lt_zero w), fun w _ => ⟨rfl, rfl⟩, fun q hq => absurd hq (Nat.not_lt_zero q), ⟨0, by decide, rfl⟩, Nat.le_refl 0, by decide⟩
end XIV
