section XSA
/-! what a state of the pack is: the cards, the thoughts, who is sharp, how often anew, glimpses, habits, taken cards, watchers, players, lean, ways, false cuts, cards taken -/
abbrev XM : Type := (Nat → Int32) × (Nat → Nat → Int32) × (Nat → Int32) × (Nat → Int32) × (Nat → Int32) × (Nat → Int32) × (Nat → Int32) × Nat × Nat × Int32 × Int32 × Int32 × Nat
abbrev mpk (M : XM) : Nat → Int32 := M.1
abbrev mth (M : XM) : Nat → Nat → Int32 := M.2.1
abbrev msh (M : XM) : Nat → Int32 := M.2.2.1
abbrev man (M : XM) : Nat → Int32 := M.2.2.2.1
abbrev mgl (M : XM) : Nat → Int32 := M.2.2.2.2.1
abbrev mhb (M : XM) : Nat → Int32 := M.2.2.2.2.2.1
abbrev mtk (M : XM) : Nat → Int32 := M.2.2.2.2.2.2.1
abbrev mnw (M : XM) : Nat := M.2.2.2.2.2.2.2.1
abbrev mnp (M : XM) : Nat := M.2.2.2.2.2.2.2.2.1
abbrev mle (M : XM) : Int32 := M.2.2.2.2.2.2.2.2.2.1
abbrev mwy (M : XM) : Int32 := M.2.2.2.2.2.2.2.2.2.2.1
abbrev mfc (M : XM) : Int32 := M.2.2.2.2.2.2.2.2.2.2.2.1
abbrev mta (M : XM) : Nat := M.2.2.2.2.2.2.2.2.2.2.2.2
abbrev xmk (pk : Nat → Int32) (th : Nat → Nat → Int32) (sh : Nat → Int32) (an : Nat → Int32) (gl : Nat → Int32) (hb : Nat → Int32) (tk : Nat → Int32) (nw : Nat) (np : Nat) (le : Int32) (wy : Int32) (fc : Int32) (ta : Nat) : XM := (pk, th, sh, an, gl, hb, tk, nw, np, le, wy, fc, ta)
/-- the cells of the class: at the addresses ad, with what is of no account, sc -/
def xC (T : Nat → ClassId) (ad : Nat → Nat) (sc : Nat → Nat → Int32) (M : XM) : va_W := [(ad 0, .inr (3, [.ref (ad 1), .ref (ad 4), .ref (ad 7), .ref (ad 8), .int (nI (mnw M)), .int (nI (mnp M)), .int (mwy M), .int (mfc M), .int (mle M), .int (nI (mta M))])), (ad 1, .inr (1, [.ref (ad 2), .ref (ad 3)])), (ad 2, .inl (T 0, 16, .inl (mpk M))), (ad 3, .inl (T 0, 16, .inl (sc 0))), (ad 4, .inr (1, [.ref (ad 5), .ref (ad 6)])), (ad 5, .inl (T 0, 16, .inl (sc 1))), (ad 6, .inl (T 0, 16, .inl (sc 2))), (ad 7, .inl (T 2, 4, .inr (.inr (.inr (.inr (fun j => if j < mnw M then some (ad (9 + 4 * j)) else none)))))), (ad 8, .inl (T 1, 4, .inr (.inr (.inr (.inr (fun j => if j < mnp M then some (ad (j + 25)) else none))))))] ++ ((List.range (mnw M)).flatMap (fun k => [(ad (9 + 4 * k), .inr (2, [.int (msh M k), .ref (ad (10 + 4 * k)), .int (man M k), .int (mgl M k)])), (ad (10 + 4 * k), .inr (1, [.ref (ad (11 + 4 * k)), .ref (ad (12 + 4 * k))])), (ad (11 + 4 * k), .inl (T 0, 16, .inl (mth M k))), (ad (12 + 4 * k), .inl (T 0, 16, .inl (sc (k + 3))))]) ++ (List.range (mnp M)).map (fun k => (ad (k + 25), .inr (0, [.int (mhb M k), .int (mtk M k)]))))
theorem xC_w0 (T : Nat → ClassId) (ad : Nat → Nat) (sc : Nat → Nat → Int32) (M : XM) {k : Nat} (hn : mnw M ≤ 4) (hk : k < mnw M) : (xC T ad sc M)[9 + 4 * k]? = some (ad (9 + 4 * k), .inr (2, [.int (msh M k), .ref (ad (10 + 4 * k)), .int (man M k), .int (mgl M k)])) := by
  obtain ⟨pk, th, sh, an, gl, hb, tk, nw, np, le, wy, fc, ta⟩ := M
  rcases (show nw = 1 ∨ nw = 2 ∨ nw = 3 ∨ nw = 4 by have h : nw ≤ 4 := hn; have h2 : k < nw := hk; omega) with rfl | rfl | rfl | rfl
  · rcases (show k = 0 by have h2 : k < 1 := hk; omega) with rfl <;> rfl
  · rcases (show k = 0 ∨ k = 1 by have h2 : k < 2 := hk; omega) with rfl | rfl <;> rfl
  · rcases (show k = 0 ∨ k = 1 ∨ k = 2 by have h2 : k < 3 := hk; omega) with rfl | rfl | rfl <;> rfl
  · rcases (show k = 0 ∨ k = 1 ∨ k = 2 ∨ k = 3 by have h2 : k < 4 := hk; omega) with rfl | rfl | rfl | rfl <;> rfl
theorem xC_w1 (T : Nat → ClassId) (ad : Nat → Nat) (sc : Nat → Nat → Int32) (M : XM) {k : Nat} (hn : mnw M ≤ 4) (hk : k < mnw M) : (xC T ad sc M)[10 + 4 * k]? = some (ad (10 + 4 * k), .inr (1, [.ref (ad (11 + 4 * k)), .ref (ad (12 + 4 * k))])) := by
  obtain ⟨pk, th, sh, an, gl, hb, tk, nw, np, le, wy, fc, ta⟩ := M
  rcases (show nw = 1 ∨ nw = 2 ∨ nw = 3 ∨ nw = 4 by have h : nw ≤ 4 := hn; have h2 : k < nw := hk; omega) with rfl | rfl | rfl | rfl
  · rcases (show k = 0 by have h2 : k < 1 := hk; omega) with rfl <;> rfl
  · rcases (show k = 0 ∨ k = 1 by have h2 : k < 2 := hk; omega) with rfl | rfl <;> rfl
  · rcases (show k = 0 ∨ k = 1 ∨ k = 2 by have h2 : k < 3 := hk; omega) with rfl | rfl | rfl <;> rfl
  · rcases (show k = 0 ∨ k = 1 ∨ k = 2 ∨ k = 3 by have h2 : k < 4 := hk; omega) with rfl | rfl | rfl | rfl <;> rfl
theorem xC_w2 (T : Nat → ClassId) (ad : Nat → Nat) (sc : Nat → Nat → Int32) (M : XM) {k : Nat} (hn : mnw M ≤ 4) (hk : k < mnw M) : (xC T ad sc M)[11 + 4 * k]? = some (ad (11 + 4 * k), .inl (T 0, 16, .inl (mth M k))) := by
  obtain ⟨pk, th, sh, an, gl, hb, tk, nw, np, le, wy, fc, ta⟩ := M
  rcases (show nw = 1 ∨ nw = 2 ∨ nw = 3 ∨ nw = 4 by have h : nw ≤ 4 := hn; have h2 : k < nw := hk; omega) with rfl | rfl | rfl | rfl
  · rcases (show k = 0 by have h2 : k < 1 := hk; omega) with rfl <;> rfl
  · rcases (show k = 0 ∨ k = 1 by have h2 : k < 2 := hk; omega) with rfl | rfl <;> rfl
  · rcases (show k = 0 ∨ k = 1 ∨ k = 2 by have h2 : k < 3 := hk; omega) with rfl | rfl | rfl <;> rfl
  · rcases (show k = 0 ∨ k = 1 ∨ k = 2 ∨ k = 3 by have h2 : k < 4 := hk; omega) with rfl | rfl | rfl | rfl <;> rfl
theorem xC_w3 (T : Nat → ClassId) (ad : Nat → Nat) (sc : Nat → Nat → Int32) (M : XM) {k : Nat} (hn : mnw M ≤ 4) (hk : k < mnw M) : (xC T ad sc M)[12 + 4 * k]? = some (ad (12 + 4 * k), .inl (T 0, 16, .inl (sc (k + 3)))) := by
  obtain ⟨pk, th, sh, an, gl, hb, tk, nw, np, le, wy, fc, ta⟩ := M
  rcases (show nw = 1 ∨ nw = 2 ∨ nw = 3 ∨ nw = 4 by have h : nw ≤ 4 := hn; have h2 : k < nw := hk; omega) with rfl | rfl | rfl | rfl
  · rcases (show k = 0 by have h2 : k < 1 := hk; omega) with rfl <;> rfl
  · rcases (show k = 0 ∨ k = 1 by have h2 : k < 2 := hk; omega) with rfl | rfl <;> rfl
  · rcases (show k = 0 ∨ k = 1 ∨ k = 2 by have h2 : k < 3 := hk; omega) with rfl | rfl | rfl <;> rfl
  · rcases (show k = 0 ∨ k = 1 ∨ k = 2 ∨ k = 3 by have h2 : k < 4 := hk; omega) with rfl | rfl | rfl | rfl <;> rfl
theorem xC_wis (T : Nat → ClassId) (ad : Nat → Nat) (sc : Nat → Nat → Int32) (M : XM) {k : Nat} (hn : mnw M ≤ 4) (hk : k < mnw M) : [9 + 4 * k, 10 + 4 * k, 11 + 4 * k, 12 + 4 * k].map (fun i => (xC T ad sc M)[i]?) = ([(ad (9 + 4 * k), .inr (2, [.int (msh M k), .ref (ad (10 + 4 * k)), .int (man M k), .int (mgl M k)])), (ad (10 + 4 * k), .inr (1, [.ref (ad (11 + 4 * k)), .ref (ad (12 + 4 * k))])), (ad (11 + 4 * k), .inl (T 0, 16, .inl (mth M k))), (ad (12 + 4 * k), .inl (T 0, 16, .inl (sc (k + 3))))] : va_W).map some := by
  simp only [List.map_cons, List.map_nil, xC_w0 T ad sc M hn hk, xC_w1 T ad sc M hn hk, xC_w2 T ad sc M hn hk, xC_w3 T ad sc M hn hk]
theorem xC_1 (T : Nat → ClassId) (ad : Nat → Nat) (sc : Nat → Nat → Int32) (M : XM) : (xC T ad sc M)[1]? = some (ad 1, .inr (1, [.ref (ad 2), .ref (ad 3)])) := rfl
theorem xC_2 (T : Nat → ClassId) (ad : Nat → Nat) (sc : Nat → Nat → Int32) (M : XM) : (xC T ad sc M)[2]? = some (ad 2, .inl (T 0, 16, .inl (mpk M))) := rfl
theorem xC_3 (T : Nat → ClassId) (ad : Nat → Nat) (sc : Nat → Nat → Int32) (M : XM) : (xC T ad sc M)[3]? = some (ad 3, .inl (T 0, 16, .inl (sc 0))) := rfl
theorem xC_wis2 (T : Nat → ClassId) (ad : Nat → Nat) (sc : Nat → Nat → Int32) (M : XM) {k : Nat} (hn : mnw M ≤ 4) (hk : k < mnw M) : [9 + 4 * k, 10 + 4 * k, 11 + 4 * k, 12 + 4 * k, 1, 2, 3].map (fun i => (xC T ad sc M)[i]?) = ([(ad (9 + 4 * k), .inr (2, [.int (msh M k), .ref (ad (10 + 4 * k)), .int (man M k), .int (mgl M k)])), (ad (10 + 4 * k), .inr (1, [.ref (ad (11 + 4 * k)), .ref (ad (12 + 4 * k))])), (ad (11 + 4 * k), .inl (T 0, 16, .inl (mth M k))), (ad (12 + 4 * k), .inl (T 0, 16, .inl (sc (k + 3)))), (ad 1, .inr (1, [.ref (ad 2), .ref (ad 3)])), (ad 2, .inl (T 0, 16, .inl (mpk M))), (ad 3, .inl (T 0, 16, .inl (sc 0)))] : va_W).map some := by
  simp only [List.map_cons, List.map_nil, xC_w0 T ad sc M hn hk, xC_w1 T ad sc M hn hk, xC_w2 T ad sc M hn hk, xC_w3 T ad sc M hn hk, xC_1, xC_2, xC_3]
theorem xrep_same : ∀ (is : List Nat) (ws wc : va_W), is.map (fun i => ws[i]?) = wc.map some → xrep ws is wc = ws
  | [], ws, wc, _ => by cases wc <;> rfl
  | i :: is, ws, [], h => by simp at h
  | i :: is, ws, p :: wc, h => by
    simp only [List.map_cons, List.cons.injEq] at h
    have e : ws.set i p = ws := by
      apply List.ext_getElem?
      intro j
      rw [List.getElem?_set]
      split
      · rename_i e
        subst e
        rw [if_pos (List.getElem?_eq_some_iff.mp h.1).1, h.1]
      · rfl
    show xrep (ws.set i p) is wc = ws
    rw [e]
    exact xrep_same is ws wc h.2
theorem xC_wis3 (T : Nat → ClassId) (ad : Nat → Nat) (sc : Nat → Nat → Int32) (M : XM) {k : Nat} (hn : mnw M ≤ 4) (hk : k < mnw M) : [10 + 4 * k, 11 + 4 * k, 12 + 4 * k].map (fun i => (xC T ad sc M)[i]?) = ([(ad (10 + 4 * k), .inr (1, [.ref (ad (11 + 4 * k)), .ref (ad (12 + 4 * k))])), (ad (11 + 4 * k), .inl (T 0, 16, .inl (mth M k))), (ad (12 + 4 * k), .inl (T 0, 16, .inl (sc (k + 3))))] : va_W).map some := by
  simp only [List.map_cons, List.map_nil, xC_w1 T ad sc M hn hk, xC_w2 T ad sc M hn hk, xC_w3 T ad sc M hn hk]
theorem xC_wn3 {k : Nat} (hk : k < 4) : va_nd [10 + 4 * k, 11 + 4 * k, 12 + 4 * k] = true := by
  rcases (show k = 0 ∨ k = 1 ∨ k = 2 ∨ k = 3 by omega) with rfl | rfl | rfl | rfl <;> rfl
theorem xC_wn {k : Nat} (hk : k < 4) : va_nd [9 + 4 * k, 10 + 4 * k, 11 + 4 * k, 12 + 4 * k] = true := by
  rcases (show k = 0 ∨ k = 1 ∨ k = 2 ∨ k = 3 by omega) with rfl | rfl | rfl | rfl <;> rfl
theorem xC_wn2 {k : Nat} (hk : k < 4) : va_nd [9 + 4 * k, 10 + 4 * k, 11 + 4 * k, 12 + 4 * k, 1, 2, 3] = true := by
  rcases (show k = 0 ∨ k = 1 ∨ k = 2 ∨ k = 3 by omega) with rfl | rfl | rfl | rfl <;> rfl
/-- a watcher changes -/
abbrev xMw (M : XM) (k : Nat) (an1 gl1 : Int32) (f1 : Nat → Int32) : XM := xmk (mpk M) (va_up (mth M) k f1) (msh M) (upd (man M) k an1) (upd (mgl M) k gl1) (mhb M) (mtk M) (mnw M) (mnp M) (mle M) (mwy M) (mfc M) (mta M)
theorem xC_wrep (T : Nat → ClassId) (ad : Nat → Nat) (sc : Nat → Nat → Int32) (M : XM) {k : Nat} (hn : mnw M ≤ 4) (hk : k < mnw M) (an1 gl1 : Int32) (f1 g1 : Nat → Int32) : xrep (xC T ad sc M) [9 + 4 * k, 10 + 4 * k, 11 + 4 * k, 12 + 4 * k] [(ad (9 + 4 * k), .inr (2, [.int (msh M k), .ref (ad (10 + 4 * k)), .int an1, .int gl1])), (ad (10 + 4 * k), .inr (1, [.ref (ad (11 + 4 * k)), .ref (ad (12 + 4 * k))])), (ad (11 + 4 * k), .inl (T 0, 16, .inl f1)), (ad (12 + 4 * k), .inl (T 0, 16, .inl g1))] = xC T ad (va_up sc (k + 3) g1) (xMw M k an1 gl1 f1) := by
  obtain ⟨pk, th, sh, an, gl, hb, tk, nw, np, le, wy, fc, ta⟩ := M
  rcases (show nw = 1 ∨ nw = 2 ∨ nw = 3 ∨ nw = 4 by have h : nw ≤ 4 := hn; have h2 : k < nw := hk; omega) with rfl | rfl | rfl | rfl
  · rcases (show k = 0 by have h2 : k < 1 := hk; omega) with rfl <;> rfl
  · rcases (show k = 0 ∨ k = 1 by have h2 : k < 2 := hk; omega) with rfl | rfl <;> rfl
  · rcases (show k = 0 ∨ k = 1 ∨ k = 2 by have h2 : k < 3 := hk; omega) with rfl | rfl | rfl <;> rfl
  · rcases (show k = 0 ∨ k = 1 ∨ k = 2 ∨ k = 3 by have h2 : k < 4 := hk; omega) with rfl | rfl | rfl | rfl <;> rfl
theorem xC_p (T : Nat → ClassId) (ad : Nat → Nat) (sc : Nat → Nat → Int32) (M : XM) {k : Nat} (hn : mnw M ≤ 4) (hm : mnp M ≤ 4) (hk : k < mnp M) : (xC T ad sc M)[9 + 4 * mnw M + k]? = some (ad (k + 25), .inr (0, [.int (mhb M k), .int (mtk M k)])) := by
  obtain ⟨pk, th, sh, an, gl, hb, tk, nw, np, le, wy, fc, ta⟩ := M
  rcases (show nw = 0 ∨ nw = 1 ∨ nw = 2 ∨ nw = 3 ∨ nw = 4 by have h : nw ≤ 4 := hn; omega) with rfl | rfl | rfl | rfl | rfl
  · rcases (show np = 1 ∨ np = 2 ∨ np = 3 ∨ np = 4 by have h : np ≤ 4 := hm; have h2 : k < np := hk; omega) with rfl | rfl | rfl | rfl
    · rcases (show k = 0 by have h2 : k < 1 := hk; omega) with rfl <;> rfl
    · rcases (show k = 0 ∨ k = 1 by have h2 : k < 2 := hk; omega) with rfl | rfl <;> rfl
    · rcases (show k = 0 ∨ k = 1 ∨ k = 2 by have h2 : k < 3 := hk; omega) with rfl | rfl | rfl <;> rfl
    · rcases (show k = 0 ∨ k = 1 ∨ k = 2 ∨ k = 3 by have h2 : k < 4 := hk; omega) with rfl | rfl | rfl | rfl <;> rfl
  · rcases (show np = 1 ∨ np = 2 ∨ np = 3 ∨ np = 4 by have h : np ≤ 4 := hm; have h2 : k < np := hk; omega) with rfl | rfl | rfl | rfl
    · rcases (show k = 0 by have h2 : k < 1 := hk; omega) with rfl <;> rfl
    · rcases (show k = 0 ∨ k = 1 by have h2 : k < 2 := hk; omega) with rfl | rfl <;> rfl
    · rcases (show k = 0 ∨ k = 1 ∨ k = 2 by have h2 : k < 3 := hk; omega) with rfl | rfl | rfl <;> rfl
    · rcases (show k = 0 ∨ k = 1 ∨ k = 2 ∨ k = 3 by have h2 : k < 4 := hk; omega) with rfl | rfl | rfl | rfl <;> rfl
  · rcases (show np = 1 ∨ np = 2 ∨ np = 3 ∨ np = 4 by have h : np ≤ 4 := hm; have h2 : k < np := hk; omega) with rfl | rfl | rfl | rfl
    · rcases (show k = 0 by have h2 : k < 1 := hk; omega) with rfl <;> rfl
    · rcases (show k = 0 ∨ k = 1 by have h2 : k < 2 := hk; omega) with rfl | rfl <;> rfl
    · rcases (show k = 0 ∨ k = 1 ∨ k = 2 by have h2 : k < 3 := hk; omega) with rfl | rfl | rfl <;> rfl
    · rcases (show k = 0 ∨ k = 1 ∨ k = 2 ∨ k = 3 by have h2 : k < 4 := hk; omega) with rfl | rfl | rfl | rfl <;> rfl
  · rcases (show np = 1 ∨ np = 2 ∨ np = 3 ∨ np = 4 by have h : np ≤ 4 := hm; have h2 : k < np := hk; omega) with rfl | rfl | rfl | rfl
    · rcases (show k = 0 by have h2 : k < 1 := hk; omega) with rfl <;> rfl
    · rcases (show k = 0 ∨ k = 1 by have h2 : k < 2 := hk; omega) with rfl | rfl <;> rfl
    · rcases (show k = 0 ∨ k = 1 ∨ k = 2 by have h2 : k < 3 := hk; omega) with rfl | rfl | rfl <;> rfl
    · rcases (show k = 0 ∨ k = 1 ∨ k = 2 ∨ k = 3 by have h2 : k < 4 := hk; omega) with rfl | rfl | rfl | rfl <;> rfl
  · rcases (show np = 1 ∨ np = 2 ∨ np = 3 ∨ np = 4 by have h : np ≤ 4 := hm; have h2 : k < np := hk; omega) with rfl | rfl | rfl | rfl
    · rcases (show k = 0 by have h2 : k < 1 := hk; omega) with rfl <;> rfl
    · rcases (show k = 0 ∨ k = 1 by have h2 : k < 2 := hk; omega) with rfl | rfl <;> rfl
    · rcases (show k = 0 ∨ k = 1 ∨ k = 2 by have h2 : k < 3 := hk; omega) with rfl | rfl | rfl <;> rfl
    · rcases (show k = 0 ∨ k = 1 ∨ k = 2 ∨ k = 3 by have h2 : k < 4 := hk; omega) with rfl | rfl | rfl | rfl <;> rfl
abbrev xMp (M : XM) (k : Nat) (v : Int32) : XM := xmk (mpk M) (mth M) (msh M) (man M) (mgl M) (mhb M) (upd (mtk M) k v) (mnw M) (mnp M) (mle M) (mwy M) (mfc M) (mta M)
theorem xC_pset (T : Nat → ClassId) (ad : Nat → Nat) (sc : Nat → Nat → Int32) (M : XM) {k : Nat} (hn : mnw M ≤ 4) (hm : mnp M ≤ 4) (hk : k < mnp M) (v : Int32) : (xC T ad sc M).set (9 + 4 * mnw M + k) (ad (k + 25), .inr (0, [.int (mhb M k), .int v])) = xC T ad sc (xMp M k v) := by
  obtain ⟨pk, th, sh, an, gl, hb, tk, nw, np, le, wy, fc, ta⟩ := M
  rcases (show nw = 0 ∨ nw = 1 ∨ nw = 2 ∨ nw = 3 ∨ nw = 4 by have h : nw ≤ 4 := hn; omega) with rfl | rfl | rfl | rfl | rfl
  · rcases (show np = 1 ∨ np = 2 ∨ np = 3 ∨ np = 4 by have h : np ≤ 4 := hm; have h2 : k < np := hk; omega) with rfl | rfl | rfl | rfl
    · rcases (show k = 0 by have h2 : k < 1 := hk; omega) with rfl <;> rfl
    · rcases (show k = 0 ∨ k = 1 by have h2 : k < 2 := hk; omega) with rfl | rfl <;> rfl
    · rcases (show k = 0 ∨ k = 1 ∨ k = 2 by have h2 : k < 3 := hk; omega) with rfl | rfl | rfl <;> rfl
    · rcases (show k = 0 ∨ k = 1 ∨ k = 2 ∨ k = 3 by have h2 : k < 4 := hk; omega) with rfl | rfl | rfl | rfl <;> rfl
  · rcases (show np = 1 ∨ np = 2 ∨ np = 3 ∨ np = 4 by have h : np ≤ 4 := hm; have h2 : k < np := hk; omega) with rfl | rfl | rfl | rfl
    · rcases (show k = 0 by have h2 : k < 1 := hk; omega) with rfl <;> rfl
    · rcases (show k = 0 ∨ k = 1 by have h2 : k < 2 := hk; omega) with rfl | rfl <;> rfl
    · rcases (show k = 0 ∨ k = 1 ∨ k = 2 by have h2 : k < 3 := hk; omega) with rfl | rfl | rfl <;> rfl
    · rcases (show k = 0 ∨ k = 1 ∨ k = 2 ∨ k = 3 by have h2 : k < 4 := hk; omega) with rfl | rfl | rfl | rfl <;> rfl
  · rcases (show np = 1 ∨ np = 2 ∨ np = 3 ∨ np = 4 by have h : np ≤ 4 := hm; have h2 : k < np := hk; omega) with rfl | rfl | rfl | rfl
    · rcases (show k = 0 by have h2 : k < 1 := hk; omega) with rfl <;> rfl
    · rcases (show k = 0 ∨ k = 1 by have h2 : k < 2 := hk; omega) with rfl | rfl <;> rfl
    · rcases (show k = 0 ∨ k = 1 ∨ k = 2 by have h2 : k < 3 := hk; omega) with rfl | rfl | rfl <;> rfl
    · rcases (show k = 0 ∨ k = 1 ∨ k = 2 ∨ k = 3 by have h2 : k < 4 := hk; omega) with rfl | rfl | rfl | rfl <;> rfl
  · rcases (show np = 1 ∨ np = 2 ∨ np = 3 ∨ np = 4 by have h : np ≤ 4 := hm; have h2 : k < np := hk; omega) with rfl | rfl | rfl | rfl
    · rcases (show k = 0 by have h2 : k < 1 := hk; omega) with rfl <;> rfl
    · rcases (show k = 0 ∨ k = 1 by have h2 : k < 2 := hk; omega) with rfl | rfl <;> rfl
    · rcases (show k = 0 ∨ k = 1 ∨ k = 2 by have h2 : k < 3 := hk; omega) with rfl | rfl | rfl <;> rfl
    · rcases (show k = 0 ∨ k = 1 ∨ k = 2 ∨ k = 3 by have h2 : k < 4 := hk; omega) with rfl | rfl | rfl | rfl <;> rfl
  · rcases (show np = 1 ∨ np = 2 ∨ np = 3 ∨ np = 4 by have h : np ≤ 4 := hm; have h2 : k < np := hk; omega) with rfl | rfl | rfl | rfl
    · rcases (show k = 0 by have h2 : k < 1 := hk; omega) with rfl <;> rfl
    · rcases (show k = 0 ∨ k = 1 by have h2 : k < 2 := hk; omega) with rfl | rfl <;> rfl
    · rcases (show k = 0 ∨ k = 1 ∨ k = 2 by have h2 : k < 3 := hk; omega) with rfl | rfl | rfl <;> rfl
    · rcases (show k = 0 ∨ k = 1 ∨ k = 2 ∨ k = 3 by have h2 : k < 4 := hk; omega) with rfl | rfl | rfl | rfl <;> rfl
/-- addresses of a new watcher's cells, of a new player's -/
def xadW (ad : Nat → Nat) (n q0 q1 q2 q3 : Nat) : Nat → Nat := fun r => if r = 9 + 4 * n then q0 else if r = 10 + 4 * n then q1 else if r = 11 + 4 * n then q2 else if r = 12 + 4 * n then q3 else ad r
def xadP (ad : Nat → Nat) (n q : Nat) : Nat → Nat := fun r => if r = n + 25 then q else ad r
/-- what holds of a state behind n calls -/
def xI (M : XM) (n : Nat) : Prop := mnw M ≤ 4 ∧ mnp M ≤ 4 ∧ (∀ j, j < 16 → ∃ c, c < 16 ∧ mpk M j = nI c) ∧ (∀ c, c < 16 → ∃ j, j < 16 ∧ mpk M j = nI c) ∧ (∀ w, w < mnw M → msh M w = nI 0 ∨ msh M w = nI 1) ∧ (∀ w, w < mnw M → ∀ j, j < 16 → (mth M w j).toBitVec.toNat < 65536 ∧ ¬ mth M w j = 0) ∧ (∀ w, mnw M ≤ w → man M w = 0 ∧ mgl M w = 0) ∧ (∀ q, q < mnp M → ∃ h, h < 16 ∧ mhb M q = nI h) ∧ (∃ v, v < 16 ∧ mle M = nI v) ∧ mta M ≤ n ∧ n ≤ 512
def xka (x : Int32) : Nat := x.toNatClampNeg
theorem xka_n {n : Nat} (h : n < 2 ^ 31) : xka (nI n) = n := nI_clamp h
/-- what count tells -/
def xcnt (M : XM) : Nat → Int32
  | 0 => mwy M
  | 1 => mfc M
  | 2 => nI (mnw M)
  | 3 => nI (mnp M)
  | 4 => mle M
  | 5 => nI (mta M)
  | _ => nI (xct (fun j => decide (mpk M j = nI j)) 16)
/-- what watcher tells -/
def xtold (M : XM) (w : Nat) : Nat → Int32
  | 0 => msh M w
  | 1 => nI (xct (fun j => decide (¬ mth M w j &&& xso (mpk M j) = 0)) 16)
  | 2 => nI (xct (fun j => xone (mth M w j)) 16)
  | 3 => nI (xct (fun j => decide (mth M w j = xso (mpk M j))) 16)
  | 4 => man M w
  | _ => mgl M w
/-- thoughts moved by a way -/
def xmv (M : XM) (k n : Nat) (c : Nat → Bool) : Nat → Nat → Int32 := fun w => if c w then fun j => mth M w (xpb k n j) else mth M w
theorem xmv_up (M : XM) (k n : Nat) {c c' : Nat → Bool} {i : Nat} (h0 : c i = false) (h1 : c' i = true) (h2 : ∀ j, j ≠ i → c' j = c j) : va_up (xmv M k n c) i (fun j => mth M i (xpb k n j)) = xmv M k n c' := by
  funext w
  unfold va_up xmv
  by_cases e : w = i
  · subst e
    rw [if_pos rfl, if_pos h1]
  · rw [if_neg e, h2 w e]
theorem xmv_at (M : XM) (k n : Nat) {c : Nat → Bool} {i : Nat} (h0 : c i = false) : xmv M k n c i = mth M i := by
  unfold xmv
  rw [if_neg (by rw [h0]; exact Bool.false_ne_true)]
theorem xmv_no (M : XM) (k n : Nat) {c : Nat → Bool} (h0 : ∀ i, c i = false) : xmv M k n c = mth M := by
  funext w
  exact xmv_at M k n (h0 w)
theorem xmv_cong (M : XM) (k n : Nat) {c c' : Nat → Bool} (h0 : ∀ i, c i = c' i) : xmv M k n c = xmv M k n c' := by
  rw [show c = c' from funext h0]
end XSA
