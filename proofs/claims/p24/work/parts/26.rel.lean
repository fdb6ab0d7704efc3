section XJR
/-! the invariant of the law's state (W watchers, two players, n calls), and what each way of a round leaves -/
def xJ (M : XM) (W n : Nat) : Prop := xI M n ∧ mnw M = W ∧ mnp M = 2 ∧ (∀ i j, i < 16 → j < 16 → mpk M i = mpk M j → i = j) ∧ ∀ w, w < W → ∃ a, a ≤ n ∧ man M w = nI a
theorem xJ_s {M : XM} {W n : Nat} (h : xJ M W n) (hn : n < 512) : xJ M W (n + 1) := by
  obtain ⟨h1, h2, h3, h4, h5⟩ := h
  exact ⟨xI_s h1 hn, h2, h3, h4, fun w hw => by obtain ⟨a, ha, e⟩ := h5 w hw; exact ⟨a, by omega, e⟩⟩
theorem xJ_go {M : XM} {W n : Nat} (h : xJ M W n) (hn : n < 512) {k q : Nat} (hw : xwn k q = true) (o : Int32) : xJ (xMgo M k q o) W (n + 1) := by
  obtain ⟨h1, h2, h3, h4, h5⟩ := h
  have hb := xwn_lt hw
  have h6 := xI_go h1 hn (a := nI k) (b := nI q) (xwb_iff.mpr ⟨k, q, hw, rfl, rfl⟩) o
  rw [xka_n (by omega), xka_n (by omega)] at h6
  refine ⟨h6, h2, h3, fun i j hi hj e => ?_, fun w hw => ?_⟩
  · have e2 : xpb k q i = xpb k q j := h4 _ _ (xway hw hi).2.1 (xway hw hj).2.1 e
    have e3 := congrArg (xpa k q) e2
    rw [(xway hw hi).2.2.1, (xway hw hj).2.2.1] at e3
    exact e3
  · obtain ⟨a, ha, e⟩ := h5 w hw
    exact ⟨a, by omega, e⟩
theorem xJ_fc {M : XM} {W n : Nat} (h : xJ M W n) (hn : n < 512) {q : Nat} (hw : xwn 0 q = true) : xJ (xMfc M q) W (n + 1) := by
  obtain ⟨h1, h2, h3, h4, h5⟩ := h
  have hb := xwn_lt hw
  have h6 := xI_fc h1 hn (a := nI q) (xwb_iff.mpr ⟨0, q, hw, rfl, rfl⟩)
  rw [xka_n (by omega)] at h6
  exact ⟨h6, h2, h3, h4, fun w hw => by obtain ⟨a, ha, e⟩ := h5 w hw; exact ⟨a, by omega, e⟩⟩
abbrev xMf (M : XM) (x : Int32) : XM := xmk (mpk M) (mth M) (msh M) (man M) (mgl M) (mhb M) (mtk M) (mnw M) (mnp M) x (mwy M) (mfc M) (mta M)
theorem xJ_fan {M : XM} {W n : Nat} (h : xJ M W n) (hn : n < 512) {v : Nat} (hv : v < 16) : xJ (xMf M (nI v)) W (n + 1) := by
  obtain ⟨h1, h2, h3, h4, h5⟩ := h
  exact ⟨xI_fan h1 hn (xvb_k hv (by decide)), h2, h3, h4, fun w hw => by obtain ⟨a, ha, e⟩ := h5 w hw; exact ⟨a, by omega, e⟩⟩
theorem xJ_take {M : XM} {W n : Nat} (h : xJ M W n) (hn : n < 512) (k : Nat) : xJ (xMt M k) W (n + 1) := by
  obtain ⟨h1, h2, h3, h4, h5⟩ := h
  exact ⟨xI_take h1 hn k, h2, h3, h4, fun w hw => by obtain ⟨a, ha, e⟩ := h5 w hw; exact ⟨a, by omega, e⟩⟩
theorem xJ_gl {M : XM} {W n : Nat} (h : xJ M W n) (hn : n < 512) (N : Nat) {k j : Nat} (hk : k < W) (hj : j < 16) : xJ (xMg N M k j) W (n + 1) := by
  obtain ⟨h1, h2, h3, h4, h5⟩ := h
  have hW : mnw M ≤ 4 := h1.1
  have h6 := xI_glimpse h1 hn N (x := nI k) (y := nI j) (by rw [xvb_k (by omega) (by omega), xvb_k hj (by decide)]; rfl)
  rw [xka_n (by omega), xka_n (by omega)] at h6
  refine ⟨h6, h2, h3, h4, fun w hw => ?_⟩
  obtain ⟨a, ha, e⟩ := h5 w hw
  show ∃ a, a ≤ n + 1 ∧ upd (man M) k (if (xcl N (upd (mth M k) j (xso (mpk M j)))).1 then man M k else man M k + nI 1) w = nI a
  by_cases ek : w = k
  · subst ek
    rw [pk_us, e]
    split
    · exact ⟨a, by omega, rfl⟩
    · exact ⟨a + 1, by omega, nI_add a 1⟩
  · rw [pk_un ek]
    exact ⟨a, by omega, e⟩
/-- what a round's way leaves: by its kind hw, whether all see it, who glimpsed, where, by which way -/
def xRl (hw : Nat) (op : Bool) (sn : Int32) (pl kd nm W : Nat) (M M' : XM) : Prop :=
  (1 < hw → ∀ k, k < 16 → mpk M' k = mpk M k) ∧ ∀ w, w < W →
    (hw < 2 → op = true → xtold M' w 1 = xtold M w 1) ∧
    (hw ≤ 3 → xtold M' w 2 = xtold M w 2 ∧ man M' w = man M w) ∧
    (nI w = sn → ¬ man M w + nI 1 < man M' w) ∧
    ∀ k, k < 16 → (nI w = sn → ¬ man M w < man M' w → k ≠ pl → mth M' w k &&& (mth M w k ^^^ (-1)) = 0) ∧
      ((hw = 3 ∨ (hw < 2 ∧ op = false) ∨ (hw = 2 ∧ msh M' w = nI 1) ∨ (3 < hw ∧ ¬ nI w = sn)) → mth M' w k = mth M w k) ∧
      (hw < 2 → op = true → mth M' w (xpa kd nm k) = mth M w k)
theorem xJ_4 {M : XM} {W n : Nat} (h : xJ M W n) : W ≤ 4 := by
  have h1 := h.1.1
  have h2 := h.2.1
  omega
theorem x_nm1 {w : Nat} (hw : w < 2 ^ 31) : ¬ nI w = -1 := fun e => by
  have h := nI_pos hw
  rw [e] at h
  exact h (by decide)
theorem xR_go {M : XM} {W n : Nat} (h : xJ M W n) {k q : Nat} (hw : xwn k q = true) (op : Bool) {hn : Nat} (h2 : hn < 2) (pl : Nat) : xRl hn op (-1) pl k q W M (xMgo M k q (xb op)) := by
  have hW := xJ_4 h
  have hsn : ∀ w, w < W → ¬ nI w = -1 := fun w hw => x_nm1 (by omega)
  have hth : ∀ w, w < W → op = true → mth (xMgo M k q (xb op)) w = fun j => mth M w (xpb k q j) := fun w hw e => by
    subst e
    show (if xb true = 0 then mth M else xmv M k q (fun w => decide (w < mnw M))) w = _
    rw [if_neg (by decide)]
    unfold xmv
    rw [if_pos (decide_eq_true (by rw [h.2.1]; exact hw))]
  have hth0 : op = false → mth (xMgo M k q (xb op)) = mth M := fun e => by
    subst e
    show (if xb false = 0 then mth M else xmv M k q (fun w => decide (w < mnw M))) = _
    rw [if_pos (by decide)]
  refine ⟨fun h9 => absurd h2 (by omega), fun w hw9 => ⟨fun _ e => ?_, fun _ => ⟨?_, rfl⟩, fun e => absurd e (hsn w hw9), fun j hj => ⟨fun e => absurd e (hsn w hw9), fun e => ?_, fun _ e => ?_⟩⟩⟩
  · show nI (xct (fun j => decide (¬ mth (xMgo M k q (xb op)) w j &&& xso (mpk (xMgo M k q (xb op)) j) = 0)) 16) = nI (xct (fun j => decide (¬ mth M w j &&& xso (mpk M j) = 0)) 16)
    rw [hth w hw9 e]
    exact congrArg nI (xct_perm hw (fun j => decide (¬ mth M w j &&& xso (mpk M j) = 0)))
  · show nI (xct (fun j => xone (mth (xMgo M k q (xb op)) w j)) 16) = nI (xct (fun j => xone (mth M w j)) 16)
    rcases Bool.eq_false_or_eq_true op with e | e
    · rw [hth w hw9 e]
      exact congrArg nI (xct_perm hw (fun j => xone (mth M w j)))
    · rw [hth0 e]
  · rcases e with e | ⟨_, e⟩ | ⟨e, _⟩ | ⟨e, _⟩
    · exfalso; omega
    · rw [hth0 e]
    · exfalso; omega
    · exfalso; omega
  · rw [hth w hw9 e]
    show mth M w (xpb k q (xpa k q j)) = _
    rw [(xway hw hj).2.2.2]
theorem xR_fc {M : XM} {W n : Nat} (h : xJ M W n) {q : Nat} (hw : xwn 0 q = true) (op : Bool) (pl kd nm : Nat) : xRl 2 op (-1) pl kd nm W M (xMfc M q) := by
  have hW := xJ_4 h
  have hsn : ∀ w, w < W → ¬ nI w = -1 := fun w hw => x_nm1 (by omega)
  refine ⟨fun _ _ _ => rfl, fun w hw9 => ⟨fun e => absurd e (by decide), fun _ => ⟨?_, rfl⟩, fun e => absurd e (hsn w hw9), fun j hj => ⟨fun e => absurd e (hsn w hw9), fun e => ?_, fun e => absurd e (by decide)⟩⟩⟩
  · show nI (xct (fun j => xone (xmv M 0 q (fun w => decide (w < mnw M) && decide (msh M w = 0)) w j)) 16) = nI (xct (fun j => xone (mth M w j)) 16)
    unfold xmv
    split
    · exact congrArg nI (xct_perm hw (fun j => xone (mth M w j)))
    · rfl
  · rcases e with e | ⟨e, _⟩ | ⟨_, e⟩ | ⟨e, _⟩
    · exact absurd e (by decide)
    · exact absurd e (by decide)
    · show xmv M 0 q (fun w => decide (w < mnw M) && decide (msh M w = 0)) w j = mth M w j
      unfold xmv
      have e1 : msh M w = nI 1 := e
      rw [if_neg (by show ¬ (decide (w < mnw M) && decide (msh M w = 0)) = true; rw [e1, decide_eq_false (show ¬ nI 1 = 0 by decide), Bool.and_false]; exact Bool.false_ne_true)]
    · exact absurd e (by decide)
theorem xR_tk {M : XM} {W n : Nat} (h : xJ M W n) (v : Int32) (k : Nat) (op : Bool) (pl kd nm : Nat) : xRl 3 op (-1) pl kd nm W M (xMt (xMf M v) k) := by
  have hW := xJ_4 h
  have hsn : ∀ w, w < W → ¬ nI w = -1 := fun w hw => x_nm1 (by omega)
  exact ⟨fun _ _ _ => rfl, fun w hw9 => ⟨fun e => absurd e (by decide), fun _ => ⟨rfl, rfl⟩, fun e => absurd e (hsn w hw9), fun j hj => ⟨fun e => absurd e (hsn w hw9), fun _ => rfl, fun e => absurd e (by decide)⟩⟩⟩
theorem xR_gl {M : XM} {W n N : Nat} (hN : N = 257) (h : xJ M W n) {hn : Nat} (h3 : 3 < hn) {sn p : Nat} (hs : sn < W) (hp : p < 16) (op : Bool) (kd nm : Nat) : xRl hn op (nI sn) p kd nm W M (xMg N M sn p) := by
  have hW := xJ_4 h
  have h5 := h.1.2.1
  have h512 : n ≤ 512 := h.1.2.2.2.2.2.2.2.2.2.2
  have heq : ∀ w, w < W → nI w = nI sn → w = sn := fun w hw e => (nI_eq (by omega) (by omega)).mp e
  obtain ⟨a, ha, ea⟩ := h.2.2.2.2 sn hs
  obtain ⟨c, hc, ec⟩ := h.1.2.2.1 p hp
  have hr : ∀ j, j < 16 → (mth M sn j).toBitVec.toNat < 65536 := fun j hj => (h.1.2.2.2.2.2.1 sn (by have := h.2.1; omega) j hj).1
  have hman : man (xMg N M sn p) sn = (if (xcl N (upd (mth M sn) p (xso (mpk M p)))).1 then man M sn else man M sn + nI 1) := pk_us
  refine ⟨fun _ _ _ => rfl, fun w hw9 => ⟨fun e => absurd e (by omega), fun e => absurd e (by omega), fun e => ?_, fun j hj => ⟨fun e e2 hjp => ?_, fun e => ?_, fun e => absurd e (by omega)⟩⟩⟩
  · have ew := heq w hw9 e
    subst ew
    rw [hman, ea]
    split
    · rw [nI_add]; exact nI_nlt (by omega) (by omega)
    · rw [nI_add]; exact nI_nlt (Nat.le_refl _) (by omega)
  · have ew := heq w hw9 e
    subst ew
    have hq : (xcl N (upd (mth M w) p (xso (mpk M p)))).1 = true := by
      rcases Bool.eq_false_or_eq_true (xcl N (upd (mth M w) p (xso (mpk M p)))).1 with q | q
      · exact q
      · exfalso
        apply e2
        rw [hman, q, ea, if_neg Bool.false_ne_true, nI_add]
        exact nI_lt (by omega) (by omega)
    show va_up (mth M) w (xgl N (mth M w) p (xso (mpk M p))) w j &&& (mth M w j ^^^ (-1)) = 0
    unfold va_up
    rw [if_pos rfl]
    rw [ec, xso_n (by omega)] at hq ⊢
    exact (xgl_ok hN hr hp hc).2.2 hq j hj hjp
  · rcases e with e | ⟨e, _⟩ | ⟨e, _⟩ | ⟨_, e⟩
    · exfalso; omega
    · exfalso; omega
    · exfalso; omega
    · show va_up (mth M) sn (xgl N (mth M sn) p (xso (mpk M p))) w j = mth M w j
      unfold va_up
      rw [if_neg (fun q => e (by rw [q]))]
theorem xG_ok {M : XM} {W n N : Nat} (hN : N = 257) (h : xJ M W n) {sn p : Nat} (hs : sn < W) (hp : p < 16) : mth (xMg N M sn p) sn p = nI 1 <<< (mpk M p &&& 31) ∧ xfp (mth (xMg N M sn p) sn) (xso (mpk M p)) = nI p := by
  obtain ⟨c, hc, ec⟩ := h.1.2.2.1 p hp
  have hr : ∀ j, j < 16 → (mth M sn j).toBitVec.toNat < 65536 := fun j hj => (h.1.2.2.2.2.2.1 sn (by have := h.2.1; omega) j hj).1
  have e0 : mth (xMg N M sn p) sn = xgl N (mth M sn) p (nI (2 ^ c)) := by
    show va_up (mth M) sn (xgl N (mth M sn) p (xso (mpk M p))) sn = _
    unfold va_up
    rw [if_pos rfl, ec, xso_n (by omega)]
  obtain ⟨a, b, _⟩ := xgl_ok hN hr hp hc
  rw [e0, ec, xso_n (by omega), ← (xall_d1 hc).2.2]
  exact ⟨a, xfp_some hp a (fun j hj => b j (by omega) (by omega))⟩
theorem xfind_ok {M : XM} {W n : Nat} (h : xJ M W n) {k : Nat} (hk : k < 16) : xfp (mpk M) (mpk M k) = nI k :=
  xfp_some hk rfl (fun j hj e => by have := h.2.2.2.1 j k (by omega) hk e; omega)
/-- a forced card -/
theorem xF_ok {M : XM} {W n : Nat} (h : xJ M W n) {pl c : Nat} (hp : pl < 2) (hc : c < 16) : ∃ due, due < 16 ∧ xfm (xfp (mpk M) (nI c) - mhb M pl - nI (mta M)) = nI due ∧ xtk (xMf M (nI due)) pl = nI c ∧ xfm (xfp (mpk M) (nI c) - mhb M pl - nI (mta M + 1)) = nI ((due + 15) % 16) := by
  obtain ⟨i, hi, e, ei, _⟩ := xfp_in (h.1.2.2.2.1 c hc)
  obtain ⟨b, hb, eb⟩ := h.1.2.2.2.2.2.2.2.1 pl (by have := h.2.2.1; omega)
  have ht : mta M ≤ n := h.1.2.2.2.2.2.2.2.2.2.1
  have h512 : n ≤ 512 := h.1.2.2.2.2.2.2.2.2.2.2
  refine ⟨(i + 1024 - (b + mta M)) % 16, Nat.mod_lt _ (by decide), ?_, ?_, ?_⟩
  · rw [e, eb, xsub2, xfm_sub (by omega) (by omega)]
  · show mpk M (xka (xfm (mhb M pl + nI ((i + 1024 - (b + mta M)) % 16) + nI (mta M)))) = nI c
    rw [eb, nI_add, nI_add, xfm_n (by omega), xka_n (by omega), show (b + (i + 1024 - (b + mta M)) % 16 + mta M) % 16 = i by omega]
    exact ei
  · rw [e, eb, xsub2, xfm_sub (by omega) (by omega)]
    congr 1
    omega
/-- who is right is so of a place that is settled, and of a card that is held possible -/
theorem xT_31 {M : XM} {W n : Nat} (h : xJ M W n) {w : Nat} (hw : w < W) : ¬ xtold M w 1 < xtold M w 3 ∧ ¬ xtold M w 2 < xtold M w 3 := by
  have hz : ∀ j, j < 16 → decide (mth M w j = xso (mpk M j)) = true → ∃ c, c < 16 ∧ mth M w j = nI (2 ^ c) ∧ xso (mpk M j) = nI (2 ^ c) := fun j hj e => by
    obtain ⟨c, hc, ec⟩ := h.1.2.2.1 j hj
    have e2 := of_decide_eq_true e
    rw [ec, xso_n (by omega)] at e2
    exact ⟨c, hc, e2, by rw [ec, xso_n (by omega)]⟩
  have l1 := xct_le (fun j => decide (¬ mth M w j &&& xso (mpk M j) = 0)) 16
  have l2 := xct_le (fun j => xone (mth M w j)) 16
  constructor
  · refine nI_nlt (xct_le2 16 (fun j hj e => ?_)) (by omega)
    obtain ⟨c, hc, e1, e2⟩ := hz j hj e
    show decide (¬ mth M w j &&& xso (mpk M j) = 0) = true
    rw [e1, e2]
    exact decide_eq_true (xall_d1 hc).2.1
  · refine nI_nlt (xct_le2 16 (fun j hj e => ?_)) (by omega)
    obtain ⟨c, hc, e1, e2⟩ := hz j hj e
    show xone (mth M w j) = true
    rw [e1]
    exact (xone_iff (xp2_rg hc)).mpr ⟨c, hc, rfl⟩
/-- a set of cards is one of 1 to 65535 -/
theorem xset_ok {M : XM} {W n : Nat} (h : xJ M W n) {w k : Nat} (hw : w < W) (hk : k < 16) : ¬ mth M w k = 0 ∧ mth M w k ≤ nI 65535 := by
  obtain ⟨a, b⟩ := h.1.2.2.2.2.2.1 w (by have := h.2.1; omega) k hk
  refine ⟨b, ?_⟩
  rw [x_ofn (mth M w k)]
  exact nI_le (by omega) (by decide)
end XJR
