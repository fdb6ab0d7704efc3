/-! MY OWN KIT over the moving worlds: one form of contract for all methods, calls in place. -/
section XKA
/-- the addresses of a world -/
theorem xd_iff {A : Nat → Prop} {ws : va_W} : va_D A ws ↔ (ws.map Prod.fst).Nodup ∧ ∀ q ∈ ws, A q.1 := by
  constructor
  · intro h
    refine ⟨?_, fun q hq => ?_⟩
    · unfold List.Nodup
      rw [List.pairwise_iff_getElem]
      intro i j hi hj hij hh
      have hi' : i < ws.length := by simpa using hi
      have hj' : j < ws.length := by simpa using hj
      simp only [List.getElem_map] at hh
      have := h.1 i j _ _ (List.getElem?_eq_getElem hi') (List.getElem?_eq_getElem hj') hh
      omega
    · obtain ⟨k, hk⟩ := List.getElem?_of_mem hq
      exact h.2 k q hk
  · rintro ⟨h1, h2⟩
    unfold List.Nodup at h1
    rw [List.pairwise_iff_getElem] at h1
    refine ⟨fun i j p q hi hj hpq => ?_, fun k q hk => h2 q (List.mem_of_getElem? hk)⟩
    obtain ⟨hi', ei⟩ := List.getElem?_eq_some_iff.mp hi
    obtain ⟨hj', ej⟩ := List.getElem?_eq_some_iff.mp hj
    rcases Nat.lt_trichotomy i j with g | g | g
    · refine absurd ?_ (h1 i j (by simpa using hi') (by simpa using hj') g)
      simp only [List.getElem_map, ei, ej, hpq]
    · exact g
    · refine absurd ?_ (h1 j i (by simpa using hj') (by simpa using hi') g)
      simp only [List.getElem_map, ei, ej, hpq]
theorem xp_iff {D : va_G} {cl : List vw_C} {ws : va_W} {H : Heap} : va_P D cl ws H ↔ ∀ q ∈ ws, va_at D cl q H :=
  ⟨fun h q hq => by obtain ⟨k, hk⟩ := List.getElem?_of_mem hq; exact h k q hk, fun h k q hk => h q (List.mem_of_getElem? hk)⟩
theorem xp_mem {D : va_G} {cl : List vw_C} {ws ws' : va_W} {H : Heap} (h : va_P D cl ws H) (hm : ∀ q ∈ ws', q ∈ ws) : va_P D cl ws' H := xp_iff.mpr fun q hq => xp_iff.mp h q (hm q hq)
theorem xd_fst {A : Nat → Prop} {ws ws' : va_W} (e : ws'.map Prod.fst = ws.map Prod.fst) (h : va_D A ws) : va_D A ws' := by
  rw [xd_iff] at h ⊢
  refine ⟨by rw [e]; exact h.1, fun q hq => ?_⟩
  have : q.1 ∈ ws.map Prod.fst := by rw [← e]; exact List.mem_map_of_mem hq
  obtain ⟨q', hq', e'⟩ := List.mem_map.mp this
  rw [← e']
  exact h.2 q' hq'
theorem xd_perm {A : Nat → Prop} {ws ws' : va_W} (e : ws.Perm ws') (h : va_D A ws) : va_D A ws' := by
  rw [xd_iff] at h ⊢
  exact ⟨(e.map Prod.fst).nodup_iff.mp h.1, fun q hq => h.2 q (e.mem_iff.mpr hq)⟩
theorem xp_perm {D : va_G} {cl : List vw_C} {ws ws' : va_W} {H : Heap} (e : ws.Perm ws') (h : va_P D cl ws H) : va_P D cl ws' H := xp_mem h fun _ hq => e.mem_iff.mpr hq
/-- cells of a world replaced, at places -/
def xrep : va_W → List Nat → va_W → va_W
  | ws, i :: is, q :: w => xrep (ws.set i q) is w
  | ws, _, _ => ws
theorem xrep_get : ∀ (is : List Nat) (ws w : va_W), is.length = w.length → ∀ (k : Nat) (q : Nat × va_E), (xrep ws is w)[k]? = some q → q ∈ w ∨ (k ∉ is ∧ ws[k]? = some q)
  | [], ws, [], _, k, q, h => Or.inr ⟨List.not_mem_nil, h⟩
  | i :: is, ws, p :: w, hl, k, q, h => by
    rcases xrep_get is (ws.set i p) w (by simpa using hl) k q h with h1 | ⟨h1, h2⟩
    · exact Or.inl (List.mem_cons_of_mem _ h1)
    · by_cases e : i = k
      · subst e
        rw [List.getElem?_set] at h2
        simp only [if_true] at h2
        split at h2
        · cases h2; exact Or.inl List.mem_cons_self
        · cases h2
      · rw [List.getElem?_set_ne e] at h2
        exact Or.inr ⟨fun hm => (List.mem_cons.mp hm).elim (fun z => e z.symm) h1, h2⟩
theorem xrep_fst : ∀ (is : List Nat) (ws w : va_W), is.map (fun i => (ws[i]?).map Prod.fst) = w.map (fun q => some q.1) → (xrep ws is w).map Prod.fst = ws.map Prod.fst
  | [], ws, w, _ => by cases w <;> rfl
  | i :: is, ws, [], _ => rfl
  | i :: is, ws, p :: w, h => by
    simp only [List.map_cons, List.cons.injEq] at h
    have hset : (ws.set i p).map Prod.fst = ws.map Prod.fst := by
      rw [List.map_set]
      apply List.ext_getElem?
      intro k
      rw [List.getElem?_set]
      split
      · rename_i e
        subst e
        split
        · rename_i hl
          rw [List.getElem?_map, h.1]
        · rename_i hl
          rw [List.getElem?_eq_none (by omega)]
      · rfl
    have key : ∀ j, ((ws.set i p)[j]?).map Prod.fst = (ws[j]?).map Prod.fst := fun j => by
      rw [← List.getElem?_map, hset, List.getElem?_map]
    show (xrep (ws.set i p) is w).map Prod.fst = _
    rw [xrep_fst is (ws.set i p) w (by simp only [key]; exact h.2), hset]
theorem xrep_ok {A : Nat → Prop} {D : va_G} {cl : List vw_C} {ws wc w1 : va_W} {H H1 : Heap} (hP : va_P D cl ws H) (hD : va_D A ws) (is : List Nat) (his : is.map (fun i => ws[i]?) = wc.map some) (hf : w1.map Prod.fst = wc.map Prod.fst)
    (hk : ∀ q : Nat, q < H.size → ¬ va_A wc H.size q → H1[q]? = H[q]?) (hP1 : va_P D cl w1 H1) : va_P D cl (xrep ws is w1) H1 ∧ va_D A (xrep ws is w1) := by
  have hlen : is.length = w1.length := by
    have e1 := congrArg List.length his
    have e2 := congrArg List.length hf
    simp only [List.length_map] at e1 e2
    omega
  constructor
  · intro k q hq
    rcases xrep_get is ws w1 hlen k q hq with h | ⟨h, h2⟩
    · exact xp_iff.mp hP1 q h
    · have hlt := (hP k q h2).lt
      refine (hP k q h2).kept (hk q.1 hlt fun ha => ?_)
      rcases ha with ⟨j, e, hj⟩ | ha
      · have h1 : (is.map (fun i => ws[i]?))[j]? = some (some (q.1, e)) := by rw [his, List.getElem?_map, hj]; rfl
        rw [List.getElem?_map] at h1
        cases hi : is[j]? with
        | none => rw [hi] at h1; cases h1
        | some i =>
          rw [hi] at h1
          have hik := hD.1 i k (q.1, e) q (Option.some.inj h1) h2 rfl
          subst hik
          exact h (List.mem_of_getElem? hi)
      · omega
  · refine xd_fst (xrep_fst is ws w1 ?_) hD
    have e1 : is.map (fun i => (ws[i]?).map Prod.fst) = (is.map (fun i => ws[i]?)).map (Option.map Prod.fst) := by simp
    rw [e1, his]
    have e2 : w1.map (fun q => some q.1) = (w1.map Prod.fst).map some := by simp
    rw [e2, hf]
    simp
/-- the callee's part of a world stands ahead of the rest -/
theorem xapp_ok {A : Nat → Prop} {D : va_G} {cl : List vw_C} {wr wc w1 : va_W} {H H1 : Heap} (hP : va_P D cl (wc ++ wr) H) (hD : va_D A (wc ++ wr)) (hF : ∀ q, va_A wc H.size q → A q) (hD1 : va_D (va_A wc H.size) w1)
    (hk : ∀ q : Nat, q < H.size → ¬ va_A wc H.size q → H1[q]? = H[q]?) (hP1 : va_P D cl w1 H1) : va_P D cl (w1 ++ wr) H1 ∧ va_D A (w1 ++ wr) := by
  rw [xd_iff] at hD hD1
  rw [List.map_append, List.nodup_append] at hD
  have hout : ∀ q ∈ wr, q.1 < H.size ∧ ¬ va_A wc H.size q.1 := by
    intro q hq
    have hlt := (xp_iff.mp hP q (List.mem_append_right _ hq)).lt
    refine ⟨hlt, fun ha => ?_⟩
    rcases ha with ⟨j, e, hj⟩ | ha
    · exact hD.1.2.2 _ (List.mem_map_of_mem (List.mem_of_getElem? hj)) _ (List.mem_map_of_mem hq) rfl
    · omega
  constructor
  · refine xp_iff.mpr fun q hq => ?_
    rcases List.mem_append.mp hq with h | h
    · exact xp_iff.mp hP1 q h
    · exact (xp_iff.mp hP q (List.mem_append_right _ h)).kept (hk q.1 (hout q h).1 (hout q h).2)
  · rw [xd_iff, List.map_append, List.nodup_append]
    refine ⟨⟨hD1.1, hD.1.2.1, ?_⟩, ?_⟩
    · intro a ha b hb e
      obtain ⟨x, hx, rfl⟩ := List.mem_map.mp ha
      obtain ⟨y, hy, rfl⟩ := List.mem_map.mp hb
      exact (hout y hy).2 (by rw [← e]; exact hD1.2 x hx)
    · intro q hq
      rcases List.mem_append.mp hq with h | h
      · exact hF q.1 (hD1.2 q h)
      · exact hD.2 q (List.mem_append_right _ h)
theorem xa_self {ws : va_W} {sz : Nat} {q : Nat × va_E} (h : q ∈ ws) : va_A ws sz q.1 := by
  obtain ⟨k, hk⟩ := List.getElem?_of_mem h
  exact va_A.in hk
theorem xd_self {A : Nat → Prop} {ws ws' : va_W} {sz : Nat} (e : ws'.map Prod.fst = ws.map Prod.fst) (h : va_D A ws) : va_D (va_A ws sz) ws' := xd_fst e h.self
theorem xfree {A : Nat → Prop} {ws wc : va_W} {H0 H : Heap} {locs : List Loc} (hD : va_D A ws) (hS : va_S A H0 H locs) (hA : ∀ q, H0.size ≤ q → A q) (hm : ∀ q ∈ wc, q ∈ ws) : ∀ q, va_A wc H.size q → A q := by
  intro q h
  rcases h with ⟨k, e, h⟩ | h
  · exact (xd_iff.mp hD).2 (q, e) (hm _ (List.mem_of_getElem? h))
  · exact hA q (Nat.le_trans hS.1 h)
theorem xis_mem {ws wc : va_W} {is : List Nat} (his : is.map (fun i => ws[i]?) = wc.map some) : ∀ q ∈ wc, q ∈ ws := by
  intro q hq
  have h1 : some q ∈ is.map (fun i => ws[i]?) := by rw [his]; exact List.mem_map_of_mem hq
  obtain ⟨i, -, hi⟩ := List.mem_map.mp h1
  exact List.mem_of_getElem? hi
/-- of an array only its places count -/
theorem xcell_i {cA : ClassId} {n : Nat} {f g : Nat → Int32} (h : ∀ j, j < n → f j = g j) : vp_cell cA (n, .inl f) = vp_cell cA (n, .inl g) := by
  rw [vp_cell_i, vp_cell_i]
  unfold arrV
  congr 1
  apply Array.ext_getElem?
  intro i
  simp only [Array.getElem?_ofFn]
  split
  · rename_i hi
    rw [h i hi]
  · rfl
theorem x_can {D : va_G} {cl : List vw_C} {ws : va_W} {H : Heap} (h : va_P D cl ws H) (q0 : Nat) {a : Nat} {cA : ClassId} {n : Nat} {f : Nat → Int32} (g : Nat → Int32) (he : ws[q0]? = some (a, .inl (cA, n, .inl f))) (hfg : ∀ j, j < n → f j = g j) : va_P D cl (ws.set q0 (a, .inl (cA, n, .inl g))) H := by
  intro k q hq
  by_cases e : q0 = k
  · subst e
    have hl := (List.getElem?_eq_some_iff.mp he).1
    rw [List.getElem?_set_self hl] at hq
    cases hq
    have h1 := h q0 _ he
    show H[a]? = some (vp_cell cA (n, .inl g))
    rw [← xcell_i hfg]
    exact h1
  · rw [List.getElem?_set_ne e] at hq
    exact h k q hq
theorem xd_set {A : Nat → Prop} {ws : va_W} (hD : va_D A ws) (q0 : Nat) {a : Nat} {e e0 : va_E} (he : ws[q0]? = some (a, e0)) : va_D A (ws.set q0 (a, e)) := hD.set he
theorem x_at {D : va_G} {cl : List vw_C} {ws : va_W} {H : Heap} {t : State} (ht : t.heap = H) (hP : va_P D cl ws H) : va_P D cl ws t.heap := by rw [ht]; exact hP
/-- Met.ofW for a method of java.lang.Math that no entry runs in the place of its bytecode -/
theorem x_ofWF {l : Launch} {y : MethodName} {ws ws' : List Cond} {rm : Room} {Pc : Array Value → State → Prop} {Qc : Array Value → State → Outcome → State → Prop} {mc ms : Nat} {free : Addr → Prop} {cc : ByteArray} {maxL : Nat} {ret : Option FieldType}
    (hy : plainFor y = true) (hw : ws = Cond.code y cc maxL ret :: ws')
    (body : ∀ p e s m args below meth c s₁, BodyLoose p l y (headSpec ws rm) cc maxL ret e s m args below meth c s₁ → c.maxLocals = maxL → Pc args s →
      W p l e (headSpec ws rm).room s m args below meth c s.heap [] 0 0 (MQ below Qc args s mc ms free) (entryFrame m args maxL)) : Met l y ws rm Pc Qc mc ms free := by
  refine MetFree.of_bodySF (code := cc) (maxLocals := maxL) (ret := ret) hy ?_ ?_
  · intro args s m h hn
    obtain ⟨meth, c, h1, h2, h3, h4, h5, h6, -, -⟩ := Cond.code_spec hn (atoms_spec (ws := ws) h _ (by rw [hw]; exact List.mem_cons_self))
    exact ⟨meth, c, h1, h2, h3, h4, h5, h6⟩
  · intro p e s m args below meth c s₁ B hml hP _
    obtain ⟨t, a1, o, b1, b2, b3⟩ := body p e s m args below meth c s₁ B hml hP s₁ (by rw [B.state]; rfl) (Stand.of_body B)
    exact ⟨t, o, a1, b1, b2, b3.1, b3.2⟩
theorem x_inc (k : Nat) : nI k + Int32.ofInt 1 = nI (k + 1) := by
  rw [nI_succ]; rfl
theorem x_inc4 (k : Nat) : nI k + Int32.ofInt 4 = nI (k + 4) := by
  rw [show (4 : Nat) = 1 + 1 + 1 + 1 from rfl, ← Nat.add_assoc, ← Nat.add_assoc, ← Nat.add_assoc, nI_succ, nI_succ, nI_succ, nI_succ, Int32.add_assoc, Int32.add_assoc, Int32.add_assoc]; rfl
section XKR
variable {p : Program} {l : Launch} {e : Env} {R : Room} {s : State} {m : MethodId} {args : Array Value} {below : List Frame} {meth : Method} {c : Code} {H : Heap} {locs : List Loc} {cells slots : Nat} {Q : State → Prop}
variable {cc : ByteArray} {pc : Nat} {ls : Array Slot} {rest : List Value} {D : va_G} {cl : List vw_C} {A : Nat → Prop} {a : Nat} {tys : List (ClassId × FieldType)} {ws : va_W} {H0 : Heap}
theorem x_topi {x : Int32} (y : Int32) (h : x = y) (k : W p l e R s m args below meth c H locs cells slots Q (F0 m pc ls (.int y :: rest))) : W p l e R s m args below meth c H locs cells slots Q (F0 m pc ls (.int x :: rest)) := by rw [h]; exact k
theorem x_topl {x : Int64} (y : Int64) (h : x = y) (k : W p l e R s m args below meth c H locs cells slots Q (F0 m pc ls (.long y :: rest))) : W p l e R s m args below meth c H locs cells slots Q (F0 m pc ls (.long x :: rest)) := by rw [h]; exact k
theorem x_topd {x : UInt64} (y : UInt64) (h : x = y) (k : W p l e R s m args below meth c H locs cells slots Q (F0 m pc ls (.double y :: rest))) : W p l e R s m args below meth c H locs cells slots Q (F0 m pc ls (.double x :: rest)) := by rw [h]; exact k
theorem x_iald (hexec : p.tables.exec = Jvm.exec) (hb : c.code = cc) (hK : va_K D cl tys s) (hP : va_P D cl ws H) (q0 t0 : Nat) {cA : ClassId} {n : Nat} {f : Nat → Int32} (ha : ws[q0]? = some (a, .inl (cA, n, .inl f))) (ht : tys[t0]? = some (cA, .int)) {k : Nat} (hk : k < n) (hn : n < 2 ^ 31) (hdg : decode cc pc = .ok (.iaload, 1))
    (kk : W p l e R s m args below meth c H locs cells slots Q (F0 m (pc + 1) ls (.int (f k) :: rest))) : W p l e R s m args below meth c H locs cells slots Q (F0 m pc ls (.int (nI k) :: .ref a :: rest)) :=
  va_iald hexec hb hK hP q0 t0 ha ht (vp_in_nI hk hn) hdg (by rw [nI_clamp (Nat.lt_trans hk hn)]; exact kk)
theorem x_iast (hexec : p.tables.exec = Jvm.exec) (hb : c.code = cc) (hK : va_K D cl tys s) (hP : va_P D cl ws H) (hD : va_D A ws) (hS : va_S A H0 H locs) (q0 t0 : Nat) {cA : ClassId} {n : Nat} {f : Nat → Int32} (ha : ws[q0]? = some (a, .inl (cA, n, .inl f))) (ht : tys[t0]? = some (cA, .int)) {k : Nat} {x : Int32} (hk : k < n) (hn : n < 2 ^ 31) (hdg : decode cc pc = .ok (.iastore, 1))
    (kk : ∀ (H1 : Heap) (locs1 : List Loc), va_P D cl (ws.set q0 (a, .inl (cA, n, .inl (upd f k x)))) H1 → va_D A (ws.set q0 (a, .inl (cA, n, .inl (upd f k x)))) → va_S A H0 H1 locs1 → W p l e R s m args below meth c H1 locs1 cells slots Q (F0 m (pc + 1) ls rest)) : W p l e R s m args below meth c H locs cells slots Q (F0 m pc ls (.int x :: .int (nI k) :: .ref a :: rest)) :=
  va_iast hexec hb hK hP hD hS q0 t0 ha ht (vp_in_nI hk hn) hdg (by rw [nI_clamp (Nat.lt_trans hk hn)]; exact kk)
theorem x_aast (hexec : p.tables.exec = Jvm.exec) (hb : c.code = cc) (hK : va_K D cl tys s) (hP : va_P D cl ws H) (hD : va_D A ws) (hS : va_S A H0 H locs) (q0 t0 qk ci : Nat) {cA : ClassId} {r : vw_C} {n v : Nat} {vs : List Value} {f : Nat → Option Nat} (ha : ws[q0]? = some (a, .inl (cA, n, .inr (.inr (.inr (.inr f)))))) (ht : tys[t0]? = some (cA, .object r.1)) (hv : ws[qk]? = some (v, .inr (ci, vs))) (hc : cl[ci]? = some r) {k : Nat} (hk : k < n) (hn : n < 2 ^ 31) (hdg : decode cc pc = .ok (.aastore, 1))
    (kk : ∀ (H1 : Heap) (locs1 : List Loc), va_P D cl (ws.set q0 (a, .inl (cA, n, .inr (.inr (.inr (.inr (va_up f k (some v)))))))) H1 → va_D A (ws.set q0 (a, .inl (cA, n, .inr (.inr (.inr (.inr (va_up f k (some v)))))))) → va_S A H0 H1 locs1 → W p l e R s m args below meth c H1 locs1 cells slots Q (F0 m (pc + 1) ls rest)) : W p l e R s m args below meth c H locs cells slots Q (F0 m pc ls (.ref v :: .int (nI k) :: .ref a :: rest)) :=
  va_astq hexec hb hK hP hD hS q0 t0 qk ci ha ht hv hc (vp_in_nI hk hn) hdg (by rw [nI_clamp (Nat.lt_trans hk hn)]; exact kk)
theorem x_aald (hexec : p.tables.exec = Jvm.exec) (hb : c.code = cc) (hK : va_K D cl tys s) (hP : va_P D cl ws H) (q0 t0 : Nat) {cA : ClassId} {C : String} {n : Nat} {f : Nat → Option Nat} (ha : ws[q0]? = some (a, .inl (cA, n, .inr (.inr (.inr (.inr f)))))) (ht : tys[t0]? = some (cA, .object C)) {k : Nat} (hk : k < n) (hn : n < 2 ^ 31) (hdg : decode cc pc = .ok (.aaload, 1)) {v : Value} (hv : va_rf (f k) = v)
    (kk : W p l e R s m args below meth c H locs cells slots Q (F0 m (pc + 1) ls (v :: rest))) : W p l e R s m args below meth c H locs cells slots Q (F0 m pc ls (.int (nI k) :: .ref a :: rest)) :=
  va_aldq hexec hb hK hP q0 t0 ha ht (vp_in_nI hk hn) hdg (by rw [nI_clamp (Nat.lt_trans hk hn), hv]; exact kk)
theorem x_aaldA (hexec : p.tables.exec = Jvm.exec) (hb : c.code = cc) (hK : va_K D cl tys s) (hP : va_P D cl ws H) (q0 t0 : Nat) {cA : ClassId} {ty : FieldType} {n : Nat} {f : Nat → Option Nat} (ha : ws[q0]? = some (a, .inl (cA, n, .inr (.inr (.inr (.inr f)))))) (ht : tys[t0]? = some (cA, .array ty)) {k : Nat} (hk : k < n) (hn : n < 2 ^ 31) (hdg : decode cc pc = .ok (.aaload, 1)) {v : Value} (hv : va_rf (f k) = v)
    (kk : W p l e R s m args below meth c H locs cells slots Q (F0 m (pc + 1) ls (v :: rest))) : W p l e R s m args below meth c H locs cells slots Q (F0 m pc ls (.int (nI k) :: .ref a :: rest)) := by
  have hlt : (nI k).toNatClampNeg < n := by rw [nI_clamp (Nat.lt_trans hk hn)]; exact hk
  refine W.aald (v := v) (ty := .array ty) hexec hb (hP q0 _ ha) ((hK.2 t0 _ ht).1 n (fun j => va_rf (f j))) rfl (fun q => by cases q) (by show ¬ (nI k < 0 ∨ (arrV _ _ _).slots.size ≤ _); rw [arrV_size]; exact vp_in_nI hk hn) (by show (arrV _ _ _).slots[_]? = _; rw [arrV_read _ _ hlt, nI_clamp (Nat.lt_trans hk hn), hv]) rfl rfl hdg kk
theorem x_newai (hexec : p.tables.exec = Jvm.exec) (hb : c.code = cc) (harr : (Cond.arrayClass .int).before args s = true) (hK : va_K D cl tys s) (t0 : Nat) {cI : ClassId} (ht : tys[t0]? = some (cI, .int)) (hP : va_P D cl ws H) (hD : va_D A ws) (hS : va_S A H0 H locs) (hA : ∀ q, H0.size ≤ q → A q) {N : Nat} (hN : N < 2 ^ 31) (hbytes : N * 4 ≤ 536870912) (hcells : cells + 1 ≤ R.cells) (hslots : slots + N ≤ R.slots) (hdg : decode cc pc = .ok (.newarray .int, 2))
    (kk : ∀ (q : Nat) (H1 : Heap), va_P D cl (ws ++ [(q, .inl (cI, N, .inl (fun _ => 0)))]) H1 → va_D A (ws ++ [(q, .inl (cI, N, .inl (fun _ => 0)))]) → va_S A H0 H1 locs → W p l e R s m args below meth c H1 locs (cells + 1) (slots + N) Q (F0 m (pc + 2) ls (.ref q :: rest))) : W p l e R s m args below meth c H locs cells slots Q (F0 m pc ls (.int (nI N) :: rest)) := by
  refine va_newa (atype := .int) (ty := .int) (N' := N) (a0 := (N, .inl (fun _ => 0))) hexec hb harr rfl hK hP hD hS hA (fun _ => rfl) (nI_pos hN) (nI_clamp hN) (by rw [show componentBytes .int = 4 from rfl]; exact hbytes) hcells hslots hdg (fun q cA H1 hK1 h1 h2 h3 => ?_)
  have e : cA = cI := by
    have g1 := (hK1.2 tys.length (cA, .int) (by simp)).2
    have g2 := (hK.2 t0 _ ht).2
    exact Option.some.inj (g1.symm.trans g2)
  subst e
  exact kk q H1 h1 h2 h3
theorem x_newaq (hexec : p.tables.exec = Jvm.exec) (hb : c.code = cc) {own C : String} {index : Nat} (hown : s.vm.findClass own = some m.cls) (hclink : (Cond.classLink own index C).before args s = true) (hover : va_AO C s) (hK : va_K D cl tys s) (t0 : Nat) {cI : ClassId} (ht : tys[t0]? = some (cI, .object C)) (hP : va_P D cl ws H) (hD : va_D A ws) (hS : va_S A H0 H locs) (hA : ∀ q, H0.size ≤ q → A q) {N : Nat} (hN : N < 2 ^ 31) (hbytes : N * 4 ≤ 536870912) (hcells : cells + 1 ≤ R.cells) (hslots : slots + N ≤ R.slots) (hdg : decode cc pc = .ok (.anewarray index, 3))
    (kk : ∀ (q : Nat) (H1 : Heap), va_P D cl (ws ++ [(q, .inl (cI, N, .inr (.inr (.inr (.inr (fun _ => none))))))]) H1 → va_D A (ws ++ [(q, .inl (cI, N, .inr (.inr (.inr (.inr (fun _ => none))))))]) → va_S A H0 H1 locs → W p l e R s m args below meth c H1 locs (cells + 1) (slots + N) Q (F0 m (pc + 3) ls (.ref q :: rest))) : W p l e R s m args below meth c H locs cells slots Q (F0 m pc ls (.int (nI N) :: rest)) := by
  refine va_newq (N' := N) hexec hb hown hclink hover hK hP hD hS hA (nI_pos hN) (nI_clamp hN) hbytes hcells hslots hdg (fun q cA H1 hK1 h1 h2 h3 => ?_)
  have e : cA = cI := by
    obtain ⟨_, _, _, _, _, g1⟩ := (hK1.2 tys.length (cA, .object C) (by simp)).2
    obtain ⟨_, _, _, _, _, g2⟩ := (hK.2 t0 _ ht).2
    exact Option.some.inj (g1.symm.trans g2)
  subst e
  exact kk q H1 h1 h2 h3
end XKR
end XKA
section
variable {p : Program} {l : Launch} {e : Env} {R : Room} {s : State} {m : MethodId} {args : Array Value} {below : List Frame} {meth : Method} {c : Code} {H : Heap} {locs : List Loc} {cells slots : Nat} {Q : State → Prop}
variable {mc ms : Nat} {free : Addr → Prop} {A0 A1 : Nat → Prop} {H0 : Heap} {a : Array Value} {pc : Nat} {ls : Array Slot} {st0 rest : List Value}
theorem vx_callq {S SX : Type} {post : Option Nat → S → Prop} {px : SX → Prop} {B : S → State → Prop} {BX : String → SX → State → Prop} {AX : Nat → Prop} (hr : vx_Run p l e R s m args below meth c H locs cells slots mc ms (F0 m pc ls st0) rest (va_Qq post B A1 a) (vx_X px BX AX) free) (hS : va_S A0 H0 H locs) (hA : ∀ q, q < H.size → A1 q → A0 q) (hf : ∀ q, free q → A0 q) (hAX : ∀ q, q < H.size → AX q → A0 q)
    (kx : ∀ (E : String) (ce : Cell) (q9 : Addr) (u : SX) (t : State) (H1 : Heap) (locs1 : List Loc), t.heap = H1 → s.vm.Alike t.vm → px u → BX E u t → H.size ≤ H1.size → (∀ q : Nat, q < H.size → ¬ AX q → H1[q]? = H[q]?) → va_S A0 H0 H1 locs1 → H1[q9]? = some ce → ce.vm = .none → s.vm.findClass E = some ce.cls → vx_W p l e R s m args below meth c H1 locs1 (cells + mc) (slots + ms) Q (F0 m pc ls rest) q9)
    (kk : ∀ (r : Option Nat) (u : S) (t : State) (H1 : Heap) (locs1 : List Loc), t.heap = H1 → s.vm.Alike t.vm → post r u → B u t → H.size ≤ H1.size → (∀ q : Nat, q < H.size → ¬ A1 q → H1[q]? = H[q]?) → va_S A0 H0 H1 locs1 → W p l e R s m args below meth c H1 locs1 (cells + mc) (slots + ms) Q (F0 m (pc + 3) ls (va_rf r :: rest))) : W p l e R s m args below meth c H locs cells slots Q (F0 m pc ls st0) := by
  intro T hT X
  rcases hr T hT X with ⟨v, st₀, t, T', L, h0, X', hL, e1, e2, ⟨⟨r, u, hv, hp, hb⟩, hF⟩, st⟩ | ⟨q, st₀, t, T', L, E, ce, h0, X', hL, e1, e2, ⟨u, hp, hb, hF⟩, hce, hcv, hcl, st⟩
  · cases hv
    obtain ⟨k1, k2, k3⟩ := vx_keep h0 e1 hS hA hf hL hF
    obtain ⟨t2, a1, b1⟩ := kk r u t T'.heap (locs ++ L) e1.symm (by rw [← e2]; exact X'.warmed.alike) hp hb k1 k2 k3 T' rfl X'
    exact ⟨t2, st t2 a1, b1⟩
  · obtain ⟨k1, k2, k3⟩ := vx_keep h0 e1 hS hAX hf hL hF
    obtain ⟨t2, a1, b1⟩ := kx E ce q u t T'.heap (locs ++ L) e1.symm (by rw [← e2]; exact X'.warmed.alike) hp hb k1 k2 k3 (by rw [e1]; exact hce) hcv hcl T' rfl X'
    exact ⟨t2, st.trans a1, b1⟩
end

section XKB
/-- the words of nest mates and others that no list of words carries -/
def xNW : List Cond := [.methodLinkNest RX3 11 yX1_init "CardFans",
  .methodLinkNest RX1 18 yX3_isSixteenth "CardFans",
  .methodLinkNest RX1 26 yX3_mixed "CardFans",
  .methodLinkNest RX2 34 yX3_setOf "CardFans",
  .methodLinkNest RX2 51 yX3_isOneAlone "CardFans",
  .methodLinkNest RX1 22 yX3_placeAfter "CardFans",
  .methodLinkNest RX2 11 yX1_init "CardFans",
  .fieldLinkNest RX3 52 RX2 "isSharp" "Z" "CardFans",
  .fieldLinkNest RX3 93 RX2 "thoughts" "LCardFans$Row;" "CardFans",
  .fieldLinkNest RX3 110 RX2 "timesAnew" "I" "CardFans",
  .fieldLinkNest RX3 113 RX2 "glimpses" "I" "CardFans",
  .fieldLinkNest RX3 138 RX0 "habit" "I" "CardFans",
  .fieldLinkNest RX3 150 RX0 "latestCard" "I" "CardFans",
  .declares ⟨"java/lang/RuntimeException", "<init>", "()V"⟩,
  .declares ⟨"java/lang/RuntimeException", "<init>", "(Ljava/lang/String;)V"⟩,
  .declares ⟨"java/lang/Exception", "<init>", "()V"⟩,
  .declares ⟨"java/lang/Exception", "<init>", "(Ljava/lang/String;)V"⟩,
  .declares ⟨"java/lang/Throwable", "<init>", "()V"⟩,
  .declares ⟨"java/lang/Throwable", "<init>", "(Ljava/lang/String;)V"⟩,
  .castable "java/lang/IndexOutOfBoundsException" "java/lang/IndexOutOfBoundsException",
  .castable "java/lang/IllegalArgumentException" "java/lang/IllegalArgumentException",
  .castable "java/lang/IllegalStateException" "java/lang/IllegalStateException"]
def xStr : List (Nat × String) := [(156, "what is not 0 to 6"), (188, "no such watcher"), (118, "what is not 0 to 5"), (198, "no such way"), (205, "place is not 0 to 15"), (207, "card is not 0 to 15"), (78, "there are 4 watchers"), (209, "number is not 0 to 15"), (127, "there are 4 players"), (190, "no such player")]
def xNc : List (String × String) := []
theorem xNW_ot : ∀ w ∈ xNW, w.onTables = true := by decide +kernel
theorem xNW_warm {s U : State} (hW : s.WarmedH U.vm) (h : ∀ w ∈ xNW, va_Nw w s) : ∀ w ∈ xNW, va_Nw w U := by
  unfold xNW at h ⊢
  obtain ⟨h0, h⟩ := List.forall_mem_cons.mp h
  obtain ⟨h1, h⟩ := List.forall_mem_cons.mp h
  obtain ⟨h2, h⟩ := List.forall_mem_cons.mp h
  obtain ⟨h3, h⟩ := List.forall_mem_cons.mp h
  obtain ⟨h4, h⟩ := List.forall_mem_cons.mp h
  obtain ⟨h5, h⟩ := List.forall_mem_cons.mp h
  obtain ⟨h6, h⟩ := List.forall_mem_cons.mp h
  obtain ⟨h7, h⟩ := List.forall_mem_cons.mp h
  obtain ⟨h8, h⟩ := List.forall_mem_cons.mp h
  obtain ⟨h9, h⟩ := List.forall_mem_cons.mp h
  obtain ⟨h10, h⟩ := List.forall_mem_cons.mp h
  obtain ⟨h11, h⟩ := List.forall_mem_cons.mp h
  obtain ⟨h12, h⟩ := List.forall_mem_cons.mp h
  obtain ⟨h13, h⟩ := List.forall_mem_cons.mp h
  obtain ⟨h14, h⟩ := List.forall_mem_cons.mp h
  obtain ⟨h15, h⟩ := List.forall_mem_cons.mp h
  obtain ⟨h16, h⟩ := List.forall_mem_cons.mp h
  obtain ⟨h17, h⟩ := List.forall_mem_cons.mp h
  obtain ⟨h18, h⟩ := List.forall_mem_cons.mp h
  obtain ⟨h19, h⟩ := List.forall_mem_cons.mp h
  obtain ⟨h20, h⟩ := List.forall_mem_cons.mp h
  obtain ⟨h21, h⟩ := List.forall_mem_cons.mp h
  exact List.forall_mem_cons.mpr ⟨va_Nw.warmM hW h0, List.forall_mem_cons.mpr ⟨va_Nw.warmM hW h1, List.forall_mem_cons.mpr ⟨va_Nw.warmM hW h2, List.forall_mem_cons.mpr ⟨va_Nw.warmM hW h3, List.forall_mem_cons.mpr ⟨va_Nw.warmM hW h4, List.forall_mem_cons.mpr ⟨va_Nw.warmM hW h5, List.forall_mem_cons.mpr ⟨va_Nw.warmM hW h6, List.forall_mem_cons.mpr ⟨va_Nw.warmF hW h7, List.forall_mem_cons.mpr ⟨va_Nw.warmF hW h8, List.forall_mem_cons.mpr ⟨va_Nw.warmF hW h9, List.forall_mem_cons.mpr ⟨va_Nw.warmF hW h10, List.forall_mem_cons.mpr ⟨va_Nw.warmF hW h11, List.forall_mem_cons.mpr ⟨va_Nw.warmF hW h12, List.forall_mem_cons.mpr ⟨va_Nw.warmD hW h13, List.forall_mem_cons.mpr ⟨va_Nw.warmD hW h14, List.forall_mem_cons.mpr ⟨va_Nw.warmD hW h15, List.forall_mem_cons.mpr ⟨va_Nw.warmD hW h16, List.forall_mem_cons.mpr ⟨va_Nw.warmD hW h17, List.forall_mem_cons.mpr ⟨va_Nw.warmD hW h18, List.forall_mem_cons.mpr ⟨va_Nw.warmC hW h19, List.forall_mem_cons.mpr ⟨va_Nw.warmC hW h20, List.forall_mem_cons.mpr ⟨va_Nw.warmC hW h21, fun _ q => nomatch q⟩⟩⟩⟩⟩⟩⟩⟩⟩⟩⟩⟩⟩⟩⟩⟩⟩⟩⟩⟩⟩⟩
/-- what a state's tables say, at every call -/
def xB (U : State) : Prop := (∀ w ∈ xNW, va_Nw w U) ∧ (∀ q ∈ xStr, ∃ a, vk_R RX3 q.1 q.2 a U) ∧ (∀ q ∈ xNc, va_Nc q.1 q.2 U) ∧ va_AO RX0 U ∧ va_AO RX2 U
theorem xB.same {u U : State} (e : u.vm = U.vm) (h : xB u) : xB U := by
  obtain ⟨h1, h2, h3, h4, h5⟩ := h
  refine ⟨fun w hw => va_Nw.same (xNW_ot w hw) e (h1 w hw), fun q hq => ?_, fun q hq => va_Nc.moved (by rw [e]; exact Vm.Alike.refl _) (h3 q hq), va_AO.moved (by rw [e]; exact Vm.Alike.refl _) h4, va_AO.moved (by rw [e]; exact Vm.Alike.refl _) h5⟩
  obtain ⟨a, ha⟩ := h2 q hq
  exact ⟨a, vk_R.same e.symm ha⟩
theorem xB.warm {s U : State} (hW : s.WarmedH U.vm) (h : xB s) : xB U := by
  obtain ⟨h1, h2, h3, h4, h5⟩ := h
  refine ⟨xNW_warm hW h1, fun q hq => ?_, fun q hq => va_Nc.moved hW.alike (h3 q hq), va_AO.moved hW.alike h4, va_AO.moved hW.alike h5⟩
  obtain ⟨a, ha⟩ := h2 q hq
  exact ⟨a, vk_R.warm hW ha⟩
def xDt (j : Nat) : Nat := [0, 15, 7, 14, 3, 13, 6, 12, 1, 11, 5, 10, 2, 9, 4, 8].getD j 0
/-- the statics that lie outside of what a method may change -/
def xS (A : Nat → Prop) (U : State) (H : Heap) : Prop := vx_Zq Bundle.tN "UNASSIGNED_STACK" Bundle.steD A U H ∧ vx_Zq Bundle.tN "SUPPRESSED_SENTINEL" Bundle.listD A U H ∧ True
theorem xS.moved {A : Nat → Prop} {u U : State} {H : Heap} (hvm : u.vm.Alike U.vm) (h : xS A u H) : xS A U H := by
  obtain ⟨h1, h2, -⟩ := h
  exact ⟨vx_Zq.moved hvm h1, vx_Zq.moved hvm h2, trivial⟩
theorem xS.kept {A : Nat → Prop} {U : State} {H H1 : Heap} (h : xS A U H) (hq : ∀ a : Nat, a < H.size → ¬ A a → H1[a]? = H[a]?) : xS A U H1 := by
  obtain ⟨h1, h2, -⟩ := h
  exact ⟨vx_Zq.kept h1 hq, vx_Zq.kept h2 hq, trivial⟩
theorem xS.narrow {A B : Nat → Prop} {U : State} {H : Heap} (h : xS A U H) (hAB : ∀ q, B q → A q) : xS B U H := by
  obtain ⟨h1, h2, -⟩ := h
  exact ⟨vx_Zq.narrow h1 hAB, vx_Zq.narrow h2 hAB, trivial⟩
/-- the array classes -/
abbrev xT (T : Nat → ClassId) : List (ClassId × FieldType) := [(T 0, .int), (T 1, .object RX0), (T 2, .object RX2), (T 3, .array .int)]
/-- a method's start: its world, and what stands round it -/
def xPre (G : va_G) (T : Nat → ClassId) (ws : va_W) (sz : Nat) (U : State) : Prop := U.heap.size = sz ∧ va_P G vwCl ws U.heap ∧ va_K G vwCl (xT T) U ∧ va_D (fun _ => True) ws ∧ xB U ∧ xS (va_A ws sz) U U.heap
theorem x_blind (G : va_G) (T : Nat → ClassId) (ws : va_W) (sz : Nat) (av : List Value) : FrameBlind (va_Pc av (xPre G T ws sz)) := by
  intro a U g mk h
  obtain ⟨h0, h1, h2, h3, h4, h5, h6⟩ := h
  exact ⟨h0, h1, h2, va_K.moved (u := U) (U := U.calling g mk a) (Vm.Alike.refl U.vm) h3, h4, xB.same (u := U) (U := U.calling g mk a) rfl h5, xS.moved (u := U) (U := U.calling g mk a) (Vm.Alike.refl U.vm) h6⟩
section XKC
variable {s : State} {H : Heap} {locs : List Loc} {G : va_G} {T : Nat → ClassId} {ws wc wr : va_W} {A : Nat → Prop}
theorem x_pre (hK : va_K G vwCl (xT T) s) (hP : va_P G vwCl ws H) (hD : va_D A ws) (hS : va_S A s.heap H locs) (hA : ∀ q, s.heap.size ≤ q → A q) (hB : xB s) (hZ : xS A s s.heap) (hm : ∀ q ∈ wc, q ∈ ws) (hDc : va_D A wc) (U : State) (hU : U.heap = H) (hW : s.WarmedH U.vm) : xPre G T wc H.size U := by
  refine ⟨by rw [hU], by rw [hU]; exact xp_mem hP hm, va_K.moved hW.alike hK, hDc.weaken (fun _ _ _ _ => trivial), xB.warm hW hB, ?_⟩
  rw [hU]
  exact xS.moved hW.alike ((hZ.kept hS.2.1).narrow (xfree hD hS hA hm))
theorem x_preS (hK : va_K G vwCl (xT T) s) (hP : va_P G vwCl ws H) (hD : va_D A ws) (hS : va_S A s.heap H locs) (hA : ∀ q, s.heap.size ≤ q → A q) (hB : xB s) (hZ : xS A s s.heap) (is : List Nat) (his : is.map (fun i => ws[i]?) = wc.map some) (hn : va_nd is = true) (av : List Value) : PreS s H (va_Pc av (xPre G T wc H.size)) av :=
  ⟨x_blind G T wc H.size av, fun U hU hW => ⟨rfl, x_pre hK hP hD hS hA hB hZ (xis_mem his) (hD.sub is hn his) U hU hW⟩⟩
theorem x_preSA (hK : va_K G vwCl (xT T) s) (hP : va_P G vwCl (wc ++ wr) H) (hD : va_D A (wc ++ wr)) (hS : va_S A s.heap H locs) (hA : ∀ q, s.heap.size ≤ q → A q) (hB : xB s) (hZ : xS A s s.heap) (av : List Value) : PreS s H (va_Pc av (xPre G T wc H.size)) av :=
  ⟨x_blind G T wc H.size av, fun U hU hW => ⟨rfl, x_pre hK hP hD hS hA hB hZ (fun _ h => List.mem_append_left _ h) (by
    rw [xd_iff] at hD ⊢
    rw [List.map_append, List.nodup_append] at hD
    exact ⟨hD.1.1, fun q hq => hD.2 q (List.mem_append_left _ hq)⟩) U hU hW⟩⟩
theorem x_preV (hK : va_K G vwCl (xT T) s) (hP : va_P G vwCl ws H) (hD : va_D A ws) (hS : va_S A s.heap H locs) (hA : ∀ q, s.heap.size ≤ q → A q) (hB : xB s) (hZ : xS A s s.heap) (is : List Nat) (his : is.map (fun i => ws[i]?) = wc.map some) (hn : va_nd is = true) (b : Nat) (As : List Value) (q0 ci : Nat) {fs : List Value} (he : ws[q0]? = some (b, .inr (ci, fs))) {C : vw_C} (hc : vwCl[ci]? = some C) : PreV s H C.1 b (va_Pc (.ref b :: As) (xPre G T wc H.size)) As :=
  ⟨x_blind G T wc H.size _, va_recv hK hP hc he, fun U hU hW => ⟨rfl, x_pre hK hP hD hS hA hB hZ (xis_mem his) (hD.sub is hn his) U hU hW⟩⟩
theorem x_preVA (hK : va_K G vwCl (xT T) s) (hP : va_P G vwCl (wc ++ wr) H) (hD : va_D A (wc ++ wr)) (hS : va_S A s.heap H locs) (hA : ∀ q, s.heap.size ≤ q → A q) (hB : xB s) (hZ : xS A s s.heap) (b : Nat) (As : List Value) (q0 ci : Nat) {fs : List Value} (he : (wc ++ wr)[q0]? = some (b, .inr (ci, fs))) {C : vw_C} (hc : vwCl[ci]? = some C) : PreV s H C.1 b (va_Pc (.ref b :: As) (xPre G T wc H.size)) As :=
  ⟨x_blind G T wc H.size _, va_recv hK hP hc he, fun U hU hW => ⟨rfl, x_pre hK hP hD hS hA hB hZ (fun _ h => List.mem_append_left _ h) (by
    rw [xd_iff] at hD ⊢
    rw [List.map_append, List.nodup_append] at hD
    exact ⟨hD.1.1, fun q hq => hD.2 q (List.mem_append_left _ hq)⟩) U hU hW⟩⟩
theorem x_preSW (hK : va_K G vwCl (xT T) s) (hP : va_P G vwCl wc H) (hD : va_D A wc) (hS : va_S A s.heap H locs) (hA : ∀ q, s.heap.size ≤ q → A q) (hB : xB s) (hZ : xS A s s.heap) (av : List Value) : PreS s H (va_Pc av (xPre G T wc H.size)) av :=
  ⟨x_blind G T wc H.size av, fun U hU hW => ⟨rfl, x_pre hK hP hD hS hA hB hZ (fun _ h => h) hD U hU hW⟩⟩
theorem x_preVW (hK : va_K G vwCl (xT T) s) (hP : va_P G vwCl wc H) (hD : va_D A wc) (hS : va_S A s.heap H locs) (hA : ∀ q, s.heap.size ≤ q → A q) (hB : xB s) (hZ : xS A s s.heap) (b : Nat) (As : List Value) (q0 ci : Nat) {fs : List Value} (he : wc[q0]? = some (b, .inr (ci, fs))) {C : vw_C} (hc : vwCl[ci]? = some C) : PreV s H C.1 b (va_Pc (.ref b :: As) (xPre G T wc H.size)) As :=
  ⟨x_blind G T wc H.size _, va_recv hK hP hc he, fun U hU hW => ⟨rfl, x_pre hK hP hD hS hA hB hZ (fun _ h => h) hD U hU hW⟩⟩
end XKC
section XKD
variable {p : Program} {l : Launch} {e : Env} {R : Room} {s : State} {m : MethodId} {args : Array Value} {below : List Frame} {meth : Method} {c : Code} {H : Heap} {locs : List Loc} {cells slots : Nat} {Q : State → Prop}
variable {pc : Nat} {ls : Array Slot} {rest st0 : List Value} {a : Array Value} {A : Nat → Prop} {mc ms : Nat} {G : va_G} {ws wc wr : va_W} {pE : String → Prop}
theorem x_calli {S : Type} {post : Int32 → S → Prop} {wv : S → va_W} (hr : va_Run p l e R s m args below meth c H locs cells slots mc ms (F0 m pc ls st0) rest (va_Qi post (fun u t => va_P G vwCl (wv u) t.heap) (va_A wc H.size) a) (va_A wc H.size)) (hP : va_P G vwCl ws H) (hD : va_D A ws) (hS : va_S A s.heap H locs) (hA : ∀ q, s.heap.size ≤ q → A q) (is : List Nat) (his : is.map (fun i => ws[i]?) = wc.map some) (hf : ∀ (r : Int32) (u : S), post r u → (wv u).map Prod.fst = wc.map Prod.fst)
    (kk : ∀ (r : Int32) (u : S) (H1 : Heap) (locs1 : List Loc), post r u → va_P G vwCl (xrep ws is (wv u)) H1 → va_D A (xrep ws is (wv u)) → va_S A s.heap H1 locs1 → W p l e R s m args below meth c H1 locs1 (cells + mc) (slots + ms) Q (F0 m (pc + 3) ls (.int r :: rest))) : W p l e R s m args below meth c H locs cells slots Q (F0 m pc ls st0) :=
  va_calli hr hS (fun q _ h => xfree hD hS hA (xis_mem his) q h) (fun q h => xfree hD hS hA (xis_mem his) q h) (fun r u t H1 locs1 ht _ hw hB _ hk1 hS1 => by
    obtain ⟨h1, h2⟩ := xrep_ok hP hD is his (hf r u hw) hk1 (by rw [← ht]; exact hB)
    exact kk r u H1 locs1 hw h1 h2 hS1)
theorem x_calliA {S : Type} {post : Int32 → S → Prop} {wv : S → va_W} (hr : va_Run p l e R s m args below meth c H locs cells slots mc ms (F0 m pc ls st0) rest (va_Qi post (fun u t => va_P G vwCl (wv u) t.heap) (va_A wc H.size) a) (va_A wc H.size)) (hP : va_P G vwCl (wc ++ wr) H) (hD : va_D A (wc ++ wr)) (hS : va_S A s.heap H locs) (hA : ∀ q, s.heap.size ≤ q → A q) (hf : ∀ (r : Int32) (u : S), post r u → va_D (va_A wc H.size) (wv u))
    (kk : ∀ (r : Int32) (u : S) (H1 : Heap) (locs1 : List Loc), post r u → va_P G vwCl (wv u ++ wr) H1 → va_D A (wv u ++ wr) → va_S A s.heap H1 locs1 → W p l e R s m args below meth c H1 locs1 (cells + mc) (slots + ms) Q (F0 m (pc + 3) ls (.int r :: rest))) : W p l e R s m args below meth c H locs cells slots Q (F0 m pc ls st0) :=
  have hF := xfree hD hS hA (wc := wc) (fun _ h => List.mem_append_left _ h)
  va_calli hr hS (fun q _ h => hF q h) (fun q h => hF q h) (fun r u t H1 locs1 ht _ hw hB _ hk1 hS1 => by
    obtain ⟨h1, h2⟩ := xapp_ok hP hD hF (hf r u hw) hk1 (by rw [← ht]; exact hB)
    exact kk r u H1 locs1 hw h1 h2 hS1)
theorem x_calliW {S : Type} {post : Int32 → S → Prop} {wv : S → va_W} (hr : va_Run p l e R s m args below meth c H locs cells slots mc ms (F0 m pc ls st0) rest (va_Qi post (fun u t => va_P G vwCl (wv u) t.heap) (va_A wc H.size) a) (va_A wc H.size)) (hP : va_P G vwCl wc H) (hD : va_D A wc) (hS : va_S A s.heap H locs) (hA : ∀ q, s.heap.size ≤ q → A q) (hf : ∀ (r : Int32) (u : S), post r u → va_D (va_A wc H.size) (wv u))
    (kk : ∀ (r : Int32) (u : S) (H1 : Heap) (locs1 : List Loc), post r u → va_P G vwCl (wv u) H1 → va_D A (wv u) → va_S A s.heap H1 locs1 → W p l e R s m args below meth c H1 locs1 (cells + mc) (slots + ms) Q (F0 m (pc + 3) ls (.int r :: rest))) : W p l e R s m args below meth c H locs cells slots Q (F0 m pc ls st0) :=
  x_calliA (wr := []) hr (by rw [List.append_nil]; exact hP) (by rw [List.append_nil]; exact hD) hS hA hf (fun r u H1 locs1 hw h1 h2 h3 => kk r u H1 locs1 hw (by rw [List.append_nil] at h1; exact h1) (by rw [List.append_nil] at h2; exact h2) h3)
theorem x_xcalli {S : Type} {post : Int32 → S → Prop} {wv : S → va_W} (hr : vx_Run p l e R s m args below meth c H locs cells slots mc ms (F0 m pc ls st0) rest (va_Qi post (fun u t => va_P G vwCl (wv u) t.heap) (va_A wc H.size) a) (vx_X (fun _ : Unit => True) (fun E _ t => pE E ∧ va_P G vwCl wc t.heap) (va_A wc H.size)) (va_A wc H.size)) (hP : va_P G vwCl ws H) (hD : va_D A ws) (hS : va_S A s.heap H locs) (hA : ∀ q, s.heap.size ≤ q → A q) (is : List Nat) (his : is.map (fun i => ws[i]?) = wc.map some) (hn : va_nd is = true) (hf : ∀ (r : Int32) (u : S), post r u → (wv u).map Prod.fst = wc.map Prod.fst)
    (kx : ∀ (E : String) (ce : Cell) (q9 : Addr) (H1 : Heap) (locs1 : List Loc), pE E → va_P G vwCl ws H1 → va_S A s.heap H1 locs1 → H1[q9]? = some ce → ce.vm = .none → s.vm.findClass E = some ce.cls → vx_W p l e R s m args below meth c H1 locs1 (cells + mc) (slots + ms) Q (F0 m pc ls rest) q9)
    (kk : ∀ (r : Int32) (u : S) (H1 : Heap) (locs1 : List Loc), post r u → va_P G vwCl (xrep ws is (wv u)) H1 → va_D A (xrep ws is (wv u)) → va_S A s.heap H1 locs1 → W p l e R s m args below meth c H1 locs1 (cells + mc) (slots + ms) Q (F0 m (pc + 3) ls (.int r :: rest))) : W p l e R s m args below meth c H locs cells slots Q (F0 m pc ls st0) :=
  vx_calli hr hS (fun q _ h => xfree hD hS hA (xis_mem his) q h) (fun q h => xfree hD hS hA (xis_mem his) q h) (fun q _ h => xfree hD hS hA (xis_mem his) q h) (fun E ce q9 _ t H1 locs1 ht _ _ hB _ hk1 hS1 c1 c2 c3 => by
    refine kx E ce q9 H1 locs1 hB.1 ?_ hS1 c1 c2 c3
    intro k q hq
    by_cases hc : ∃ e, (q.1, e) ∈ wc
    · obtain ⟨e, he⟩ := hc
      have hq2 : q ∈ wc := by
        obtain ⟨k2, hk2⟩ := List.getElem?_of_mem (xis_mem his _ he)
        have := hD.1 k k2 q _ hq hk2 rfl
        subst this
        rw [hq] at hk2
        rw [Option.some.inj hk2]
        exact he
      have := hB.2
      rw [ht] at this
      exact xp_iff.mp this q hq2
    · exact (hP k q hq).kept (hk1 q.1 (hP k q hq).lt (fun ha => by
        rcases ha with ⟨j, e, hj⟩ | ha
        · exact hc ⟨e, List.mem_of_getElem? hj⟩
        · have := (hP k q hq).lt
          omega))) (fun r u t H1 locs1 ht _ hw hB _ hk1 hS1 => by
    obtain ⟨h1, h2⟩ := xrep_ok hP hD is his (hf r u hw) hk1 (by rw [← ht]; exact hB)
    exact kk r u H1 locs1 hw h1 h2 hS1)
theorem x_xcalliA {S : Type} {post : Int32 → S → Prop} {wv : S → va_W} (hr : vx_Run p l e R s m args below meth c H locs cells slots mc ms (F0 m pc ls st0) rest (va_Qi post (fun u t => va_P G vwCl (wv u) t.heap) (va_A wc H.size) a) (vx_X (fun _ : Unit => True) (fun E _ t => pE E ∧ va_P G vwCl wc t.heap) (va_A wc H.size)) (va_A wc H.size)) (hP : va_P G vwCl (wc ++ wr) H) (hD : va_D A (wc ++ wr)) (hS : va_S A s.heap H locs) (hA : ∀ q, s.heap.size ≤ q → A q) (hf : ∀ (r : Int32) (u : S), post r u → va_D (va_A wc H.size) (wv u))
    (kx : ∀ (E : String) (ce : Cell) (q9 : Addr) (H1 : Heap) (locs1 : List Loc), pE E → va_P G vwCl (wc ++ wr) H1 → va_S A s.heap H1 locs1 → H1[q9]? = some ce → ce.vm = .none → s.vm.findClass E = some ce.cls → vx_W p l e R s m args below meth c H1 locs1 (cells + mc) (slots + ms) Q (F0 m pc ls rest) q9)
    (kk : ∀ (r : Int32) (u : S) (H1 : Heap) (locs1 : List Loc), post r u → va_P G vwCl (wv u ++ wr) H1 → va_D A (wv u ++ wr) → va_S A s.heap H1 locs1 → W p l e R s m args below meth c H1 locs1 (cells + mc) (slots + ms) Q (F0 m (pc + 3) ls (.int r :: rest))) : W p l e R s m args below meth c H locs cells slots Q (F0 m pc ls st0) :=
  have hF := xfree hD hS hA (wc := wc) (fun _ h => List.mem_append_left _ h)
  have hDw : va_D A wc := by
    rw [xd_iff] at hD ⊢
    rw [List.map_append, List.nodup_append] at hD
    exact ⟨hD.1.1, fun q hq => hD.2 q (List.mem_append_left _ hq)⟩
  vx_calli hr hS (fun q _ h => hF q h) (fun q h => hF q h) (fun q _ h => hF q h) (fun E ce q9 _ t H1 locs1 ht _ _ hB _ hk1 hS1 c1 c2 c3 => by
    refine kx E ce q9 H1 locs1 hB.1 ?_ hS1 c1 c2 c3
    exact (xapp_ok hP hD hF hDw.self hk1 (by rw [← ht]; exact hB.2)).1) (fun r u t H1 locs1 ht _ hw hB _ hk1 hS1 => by
    obtain ⟨h1, h2⟩ := xapp_ok hP hD hF (hf r u hw) hk1 (by rw [← ht]; exact hB)
    exact kk r u H1 locs1 hw h1 h2 hS1)
theorem x_xcalliW {S : Type} {post : Int32 → S → Prop} {wv : S → va_W} (hr : vx_Run p l e R s m args below meth c H locs cells slots mc ms (F0 m pc ls st0) rest (va_Qi post (fun u t => va_P G vwCl (wv u) t.heap) (va_A wc H.size) a) (vx_X (fun _ : Unit => True) (fun E _ t => pE E ∧ va_P G vwCl wc t.heap) (va_A wc H.size)) (va_A wc H.size)) (hP : va_P G vwCl wc H) (hD : va_D A wc) (hS : va_S A s.heap H locs) (hA : ∀ q, s.heap.size ≤ q → A q) (hf : ∀ (r : Int32) (u : S), post r u → va_D (va_A wc H.size) (wv u))
    (kx : ∀ (E : String) (ce : Cell) (q9 : Addr) (H1 : Heap) (locs1 : List Loc), pE E → va_P G vwCl wc H1 → va_S A s.heap H1 locs1 → H1[q9]? = some ce → ce.vm = .none → s.vm.findClass E = some ce.cls → vx_W p l e R s m args below meth c H1 locs1 (cells + mc) (slots + ms) Q (F0 m pc ls rest) q9)
    (kk : ∀ (r : Int32) (u : S) (H1 : Heap) (locs1 : List Loc), post r u → va_P G vwCl (wv u) H1 → va_D A (wv u) → va_S A s.heap H1 locs1 → W p l e R s m args below meth c H1 locs1 (cells + mc) (slots + ms) Q (F0 m (pc + 3) ls (.int r :: rest))) : W p l e R s m args below meth c H locs cells slots Q (F0 m pc ls st0) :=
  x_xcalliA (wr := []) hr (by rw [List.append_nil]; exact hP) (by rw [List.append_nil]; exact hD) hS hA hf (fun E ce q9 H1 locs1 hE h1 => kx E ce q9 H1 locs1 hE (by rw [List.append_nil] at h1; exact h1)) (fun r u H1 locs1 hw h1 h2 h3 => kk r u H1 locs1 hw (by rw [List.append_nil] at h1; exact h1) (by rw [List.append_nil] at h2; exact h2) h3)
theorem x_calll {S : Type} {post : Int64 → S → Prop} {wv : S → va_W} (hr : va_Run p l e R s m args below meth c H locs cells slots mc ms (F0 m pc ls st0) rest (va_Ql post (fun u t => va_P G vwCl (wv u) t.heap) (va_A wc H.size) a) (va_A wc H.size)) (hP : va_P G vwCl ws H) (hD : va_D A ws) (hS : va_S A s.heap H locs) (hA : ∀ q, s.heap.size ≤ q → A q) (is : List Nat) (his : is.map (fun i => ws[i]?) = wc.map some) (hf : ∀ (r : Int64) (u : S), post r u → (wv u).map Prod.fst = wc.map Prod.fst)
    (kk : ∀ (r : Int64) (u : S) (H1 : Heap) (locs1 : List Loc), post r u → va_P G vwCl (xrep ws is (wv u)) H1 → va_D A (xrep ws is (wv u)) → va_S A s.heap H1 locs1 → W p l e R s m args below meth c H1 locs1 (cells + mc) (slots + ms) Q (F0 m (pc + 3) ls (.long r :: rest))) : W p l e R s m args below meth c H locs cells slots Q (F0 m pc ls st0) :=
  va_calll hr hS (fun q _ h => xfree hD hS hA (xis_mem his) q h) (fun q h => xfree hD hS hA (xis_mem his) q h) (fun r u t H1 locs1 ht _ hw hB _ hk1 hS1 => by
    obtain ⟨h1, h2⟩ := xrep_ok hP hD is his (hf r u hw) hk1 (by rw [← ht]; exact hB)
    exact kk r u H1 locs1 hw h1 h2 hS1)
theorem x_calllA {S : Type} {post : Int64 → S → Prop} {wv : S → va_W} (hr : va_Run p l e R s m args below meth c H locs cells slots mc ms (F0 m pc ls st0) rest (va_Ql post (fun u t => va_P G vwCl (wv u) t.heap) (va_A wc H.size) a) (va_A wc H.size)) (hP : va_P G vwCl (wc ++ wr) H) (hD : va_D A (wc ++ wr)) (hS : va_S A s.heap H locs) (hA : ∀ q, s.heap.size ≤ q → A q) (hf : ∀ (r : Int64) (u : S), post r u → va_D (va_A wc H.size) (wv u))
    (kk : ∀ (r : Int64) (u : S) (H1 : Heap) (locs1 : List Loc), post r u → va_P G vwCl (wv u ++ wr) H1 → va_D A (wv u ++ wr) → va_S A s.heap H1 locs1 → W p l e R s m args below meth c H1 locs1 (cells + mc) (slots + ms) Q (F0 m (pc + 3) ls (.long r :: rest))) : W p l e R s m args below meth c H locs cells slots Q (F0 m pc ls st0) :=
  have hF := xfree hD hS hA (wc := wc) (fun _ h => List.mem_append_left _ h)
  va_calll hr hS (fun q _ h => hF q h) (fun q h => hF q h) (fun r u t H1 locs1 ht _ hw hB _ hk1 hS1 => by
    obtain ⟨h1, h2⟩ := xapp_ok hP hD hF (hf r u hw) hk1 (by rw [← ht]; exact hB)
    exact kk r u H1 locs1 hw h1 h2 hS1)
theorem x_calllW {S : Type} {post : Int64 → S → Prop} {wv : S → va_W} (hr : va_Run p l e R s m args below meth c H locs cells slots mc ms (F0 m pc ls st0) rest (va_Ql post (fun u t => va_P G vwCl (wv u) t.heap) (va_A wc H.size) a) (va_A wc H.size)) (hP : va_P G vwCl wc H) (hD : va_D A wc) (hS : va_S A s.heap H locs) (hA : ∀ q, s.heap.size ≤ q → A q) (hf : ∀ (r : Int64) (u : S), post r u → va_D (va_A wc H.size) (wv u))
    (kk : ∀ (r : Int64) (u : S) (H1 : Heap) (locs1 : List Loc), post r u → va_P G vwCl (wv u) H1 → va_D A (wv u) → va_S A s.heap H1 locs1 → W p l e R s m args below meth c H1 locs1 (cells + mc) (slots + ms) Q (F0 m (pc + 3) ls (.long r :: rest))) : W p l e R s m args below meth c H locs cells slots Q (F0 m pc ls st0) :=
  x_calllA (wr := []) hr (by rw [List.append_nil]; exact hP) (by rw [List.append_nil]; exact hD) hS hA hf (fun r u H1 locs1 hw h1 h2 h3 => kk r u H1 locs1 hw (by rw [List.append_nil] at h1; exact h1) (by rw [List.append_nil] at h2; exact h2) h3)
theorem x_xcalll {S : Type} {post : Int64 → S → Prop} {wv : S → va_W} (hr : vx_Run p l e R s m args below meth c H locs cells slots mc ms (F0 m pc ls st0) rest (va_Ql post (fun u t => va_P G vwCl (wv u) t.heap) (va_A wc H.size) a) (vx_X (fun _ : Unit => True) (fun E _ t => pE E ∧ va_P G vwCl wc t.heap) (va_A wc H.size)) (va_A wc H.size)) (hP : va_P G vwCl ws H) (hD : va_D A ws) (hS : va_S A s.heap H locs) (hA : ∀ q, s.heap.size ≤ q → A q) (is : List Nat) (his : is.map (fun i => ws[i]?) = wc.map some) (hn : va_nd is = true) (hf : ∀ (r : Int64) (u : S), post r u → (wv u).map Prod.fst = wc.map Prod.fst)
    (kx : ∀ (E : String) (ce : Cell) (q9 : Addr) (H1 : Heap) (locs1 : List Loc), pE E → va_P G vwCl ws H1 → va_S A s.heap H1 locs1 → H1[q9]? = some ce → ce.vm = .none → s.vm.findClass E = some ce.cls → vx_W p l e R s m args below meth c H1 locs1 (cells + mc) (slots + ms) Q (F0 m pc ls rest) q9)
    (kk : ∀ (r : Int64) (u : S) (H1 : Heap) (locs1 : List Loc), post r u → va_P G vwCl (xrep ws is (wv u)) H1 → va_D A (xrep ws is (wv u)) → va_S A s.heap H1 locs1 → W p l e R s m args below meth c H1 locs1 (cells + mc) (slots + ms) Q (F0 m (pc + 3) ls (.long r :: rest))) : W p l e R s m args below meth c H locs cells slots Q (F0 m pc ls st0) :=
  vx_calll hr hS (fun q _ h => xfree hD hS hA (xis_mem his) q h) (fun q h => xfree hD hS hA (xis_mem his) q h) (fun q _ h => xfree hD hS hA (xis_mem his) q h) (fun E ce q9 _ t H1 locs1 ht _ _ hB _ hk1 hS1 c1 c2 c3 => by
    refine kx E ce q9 H1 locs1 hB.1 ?_ hS1 c1 c2 c3
    intro k q hq
    by_cases hc : ∃ e, (q.1, e) ∈ wc
    · obtain ⟨e, he⟩ := hc
      have hq2 : q ∈ wc := by
        obtain ⟨k2, hk2⟩ := List.getElem?_of_mem (xis_mem his _ he)
        have := hD.1 k k2 q _ hq hk2 rfl
        subst this
        rw [hq] at hk2
        rw [Option.some.inj hk2]
        exact he
      have := hB.2
      rw [ht] at this
      exact xp_iff.mp this q hq2
    · exact (hP k q hq).kept (hk1 q.1 (hP k q hq).lt (fun ha => by
        rcases ha with ⟨j, e, hj⟩ | ha
        · exact hc ⟨e, List.mem_of_getElem? hj⟩
        · have := (hP k q hq).lt
          omega))) (fun r u t H1 locs1 ht _ hw hB _ hk1 hS1 => by
    obtain ⟨h1, h2⟩ := xrep_ok hP hD is his (hf r u hw) hk1 (by rw [← ht]; exact hB)
    exact kk r u H1 locs1 hw h1 h2 hS1)
theorem x_xcalllA {S : Type} {post : Int64 → S → Prop} {wv : S → va_W} (hr : vx_Run p l e R s m args below meth c H locs cells slots mc ms (F0 m pc ls st0) rest (va_Ql post (fun u t => va_P G vwCl (wv u) t.heap) (va_A wc H.size) a) (vx_X (fun _ : Unit => True) (fun E _ t => pE E ∧ va_P G vwCl wc t.heap) (va_A wc H.size)) (va_A wc H.size)) (hP : va_P G vwCl (wc ++ wr) H) (hD : va_D A (wc ++ wr)) (hS : va_S A s.heap H locs) (hA : ∀ q, s.heap.size ≤ q → A q) (hf : ∀ (r : Int64) (u : S), post r u → va_D (va_A wc H.size) (wv u))
    (kx : ∀ (E : String) (ce : Cell) (q9 : Addr) (H1 : Heap) (locs1 : List Loc), pE E → va_P G vwCl (wc ++ wr) H1 → va_S A s.heap H1 locs1 → H1[q9]? = some ce → ce.vm = .none → s.vm.findClass E = some ce.cls → vx_W p l e R s m args below meth c H1 locs1 (cells + mc) (slots + ms) Q (F0 m pc ls rest) q9)
    (kk : ∀ (r : Int64) (u : S) (H1 : Heap) (locs1 : List Loc), post r u → va_P G vwCl (wv u ++ wr) H1 → va_D A (wv u ++ wr) → va_S A s.heap H1 locs1 → W p l e R s m args below meth c H1 locs1 (cells + mc) (slots + ms) Q (F0 m (pc + 3) ls (.long r :: rest))) : W p l e R s m args below meth c H locs cells slots Q (F0 m pc ls st0) :=
  have hF := xfree hD hS hA (wc := wc) (fun _ h => List.mem_append_left _ h)
  have hDw : va_D A wc := by
    rw [xd_iff] at hD ⊢
    rw [List.map_append, List.nodup_append] at hD
    exact ⟨hD.1.1, fun q hq => hD.2 q (List.mem_append_left _ hq)⟩
  vx_calll hr hS (fun q _ h => hF q h) (fun q h => hF q h) (fun q _ h => hF q h) (fun E ce q9 _ t H1 locs1 ht _ _ hB _ hk1 hS1 c1 c2 c3 => by
    refine kx E ce q9 H1 locs1 hB.1 ?_ hS1 c1 c2 c3
    exact (xapp_ok hP hD hF hDw.self hk1 (by rw [← ht]; exact hB.2)).1) (fun r u t H1 locs1 ht _ hw hB _ hk1 hS1 => by
    obtain ⟨h1, h2⟩ := xapp_ok hP hD hF (hf r u hw) hk1 (by rw [← ht]; exact hB)
    exact kk r u H1 locs1 hw h1 h2 hS1)
theorem x_xcalllW {S : Type} {post : Int64 → S → Prop} {wv : S → va_W} (hr : vx_Run p l e R s m args below meth c H locs cells slots mc ms (F0 m pc ls st0) rest (va_Ql post (fun u t => va_P G vwCl (wv u) t.heap) (va_A wc H.size) a) (vx_X (fun _ : Unit => True) (fun E _ t => pE E ∧ va_P G vwCl wc t.heap) (va_A wc H.size)) (va_A wc H.size)) (hP : va_P G vwCl wc H) (hD : va_D A wc) (hS : va_S A s.heap H locs) (hA : ∀ q, s.heap.size ≤ q → A q) (hf : ∀ (r : Int64) (u : S), post r u → va_D (va_A wc H.size) (wv u))
    (kx : ∀ (E : String) (ce : Cell) (q9 : Addr) (H1 : Heap) (locs1 : List Loc), pE E → va_P G vwCl wc H1 → va_S A s.heap H1 locs1 → H1[q9]? = some ce → ce.vm = .none → s.vm.findClass E = some ce.cls → vx_W p l e R s m args below meth c H1 locs1 (cells + mc) (slots + ms) Q (F0 m pc ls rest) q9)
    (kk : ∀ (r : Int64) (u : S) (H1 : Heap) (locs1 : List Loc), post r u → va_P G vwCl (wv u) H1 → va_D A (wv u) → va_S A s.heap H1 locs1 → W p l e R s m args below meth c H1 locs1 (cells + mc) (slots + ms) Q (F0 m (pc + 3) ls (.long r :: rest))) : W p l e R s m args below meth c H locs cells slots Q (F0 m pc ls st0) :=
  x_xcalllA (wr := []) hr (by rw [List.append_nil]; exact hP) (by rw [List.append_nil]; exact hD) hS hA hf (fun E ce q9 H1 locs1 hE h1 => kx E ce q9 H1 locs1 hE (by rw [List.append_nil] at h1; exact h1)) (fun r u H1 locs1 hw h1 h2 h3 => kk r u H1 locs1 hw (by rw [List.append_nil] at h1; exact h1) (by rw [List.append_nil] at h2; exact h2) h3)
theorem x_calld {S : Type} {post : UInt64 → S → Prop} {wv : S → va_W} (hr : va_Run p l e R s m args below meth c H locs cells slots mc ms (F0 m pc ls st0) rest (va_Qd post (fun u t => va_P G vwCl (wv u) t.heap) (va_A wc H.size) a) (va_A wc H.size)) (hP : va_P G vwCl ws H) (hD : va_D A ws) (hS : va_S A s.heap H locs) (hA : ∀ q, s.heap.size ≤ q → A q) (is : List Nat) (his : is.map (fun i => ws[i]?) = wc.map some) (hf : ∀ (r : UInt64) (u : S), post r u → (wv u).map Prod.fst = wc.map Prod.fst)
    (kk : ∀ (r : UInt64) (u : S) (H1 : Heap) (locs1 : List Loc), post r u → va_P G vwCl (xrep ws is (wv u)) H1 → va_D A (xrep ws is (wv u)) → va_S A s.heap H1 locs1 → W p l e R s m args below meth c H1 locs1 (cells + mc) (slots + ms) Q (F0 m (pc + 3) ls (.double r :: rest))) : W p l e R s m args below meth c H locs cells slots Q (F0 m pc ls st0) :=
  va_calld hr hS (fun q _ h => xfree hD hS hA (xis_mem his) q h) (fun q h => xfree hD hS hA (xis_mem his) q h) (fun r u t H1 locs1 ht _ hw hB _ hk1 hS1 => by
    obtain ⟨h1, h2⟩ := xrep_ok hP hD is his (hf r u hw) hk1 (by rw [← ht]; exact hB)
    exact kk r u H1 locs1 hw h1 h2 hS1)
theorem x_calldA {S : Type} {post : UInt64 → S → Prop} {wv : S → va_W} (hr : va_Run p l e R s m args below meth c H locs cells slots mc ms (F0 m pc ls st0) rest (va_Qd post (fun u t => va_P G vwCl (wv u) t.heap) (va_A wc H.size) a) (va_A wc H.size)) (hP : va_P G vwCl (wc ++ wr) H) (hD : va_D A (wc ++ wr)) (hS : va_S A s.heap H locs) (hA : ∀ q, s.heap.size ≤ q → A q) (hf : ∀ (r : UInt64) (u : S), post r u → va_D (va_A wc H.size) (wv u))
    (kk : ∀ (r : UInt64) (u : S) (H1 : Heap) (locs1 : List Loc), post r u → va_P G vwCl (wv u ++ wr) H1 → va_D A (wv u ++ wr) → va_S A s.heap H1 locs1 → W p l e R s m args below meth c H1 locs1 (cells + mc) (slots + ms) Q (F0 m (pc + 3) ls (.double r :: rest))) : W p l e R s m args below meth c H locs cells slots Q (F0 m pc ls st0) :=
  have hF := xfree hD hS hA (wc := wc) (fun _ h => List.mem_append_left _ h)
  va_calld hr hS (fun q _ h => hF q h) (fun q h => hF q h) (fun r u t H1 locs1 ht _ hw hB _ hk1 hS1 => by
    obtain ⟨h1, h2⟩ := xapp_ok hP hD hF (hf r u hw) hk1 (by rw [← ht]; exact hB)
    exact kk r u H1 locs1 hw h1 h2 hS1)
theorem x_calldW {S : Type} {post : UInt64 → S → Prop} {wv : S → va_W} (hr : va_Run p l e R s m args below meth c H locs cells slots mc ms (F0 m pc ls st0) rest (va_Qd post (fun u t => va_P G vwCl (wv u) t.heap) (va_A wc H.size) a) (va_A wc H.size)) (hP : va_P G vwCl wc H) (hD : va_D A wc) (hS : va_S A s.heap H locs) (hA : ∀ q, s.heap.size ≤ q → A q) (hf : ∀ (r : UInt64) (u : S), post r u → va_D (va_A wc H.size) (wv u))
    (kk : ∀ (r : UInt64) (u : S) (H1 : Heap) (locs1 : List Loc), post r u → va_P G vwCl (wv u) H1 → va_D A (wv u) → va_S A s.heap H1 locs1 → W p l e R s m args below meth c H1 locs1 (cells + mc) (slots + ms) Q (F0 m (pc + 3) ls (.double r :: rest))) : W p l e R s m args below meth c H locs cells slots Q (F0 m pc ls st0) :=
  x_calldA (wr := []) hr (by rw [List.append_nil]; exact hP) (by rw [List.append_nil]; exact hD) hS hA hf (fun r u H1 locs1 hw h1 h2 h3 => kk r u H1 locs1 hw (by rw [List.append_nil] at h1; exact h1) (by rw [List.append_nil] at h2; exact h2) h3)
theorem x_callv {S : Type} {post : S → Prop} {wv : S → va_W} (hr : va_Run p l e R s m args below meth c H locs cells slots mc ms (F0 m pc ls st0) rest (va_Qv post (fun u t => va_P G vwCl (wv u) t.heap) (va_A wc H.size) a) (va_A wc H.size)) (hP : va_P G vwCl ws H) (hD : va_D A ws) (hS : va_S A s.heap H locs) (hA : ∀ q, s.heap.size ≤ q → A q) (is : List Nat) (his : is.map (fun i => ws[i]?) = wc.map some) (hf : ∀ (u : S), post u → (wv u).map Prod.fst = wc.map Prod.fst)
    (kk : ∀ (u : S) (H1 : Heap) (locs1 : List Loc), post u → va_P G vwCl (xrep ws is (wv u)) H1 → va_D A (xrep ws is (wv u)) → va_S A s.heap H1 locs1 → W p l e R s m args below meth c H1 locs1 (cells + mc) (slots + ms) Q (F0 m (pc + 3) ls (rest))) : W p l e R s m args below meth c H locs cells slots Q (F0 m pc ls st0) :=
  va_callv hr hS (fun q _ h => xfree hD hS hA (xis_mem his) q h) (fun q h => xfree hD hS hA (xis_mem his) q h) (fun u t H1 locs1 ht _ hw hB _ hk1 hS1 => by
    obtain ⟨h1, h2⟩ := xrep_ok hP hD is his (hf u hw) hk1 (by rw [← ht]; exact hB)
    exact kk u H1 locs1 hw h1 h2 hS1)
theorem x_callvA {S : Type} {post : S → Prop} {wv : S → va_W} (hr : va_Run p l e R s m args below meth c H locs cells slots mc ms (F0 m pc ls st0) rest (va_Qv post (fun u t => va_P G vwCl (wv u) t.heap) (va_A wc H.size) a) (va_A wc H.size)) (hP : va_P G vwCl (wc ++ wr) H) (hD : va_D A (wc ++ wr)) (hS : va_S A s.heap H locs) (hA : ∀ q, s.heap.size ≤ q → A q) (hf : ∀ (u : S), post u → va_D (va_A wc H.size) (wv u))
    (kk : ∀ (u : S) (H1 : Heap) (locs1 : List Loc), post u → va_P G vwCl (wv u ++ wr) H1 → va_D A (wv u ++ wr) → va_S A s.heap H1 locs1 → W p l e R s m args below meth c H1 locs1 (cells + mc) (slots + ms) Q (F0 m (pc + 3) ls (rest))) : W p l e R s m args below meth c H locs cells slots Q (F0 m pc ls st0) :=
  have hF := xfree hD hS hA (wc := wc) (fun _ h => List.mem_append_left _ h)
  va_callv hr hS (fun q _ h => hF q h) (fun q h => hF q h) (fun u t H1 locs1 ht _ hw hB _ hk1 hS1 => by
    obtain ⟨h1, h2⟩ := xapp_ok hP hD hF (hf u hw) hk1 (by rw [← ht]; exact hB)
    exact kk u H1 locs1 hw h1 h2 hS1)
theorem x_callvW {S : Type} {post : S → Prop} {wv : S → va_W} (hr : va_Run p l e R s m args below meth c H locs cells slots mc ms (F0 m pc ls st0) rest (va_Qv post (fun u t => va_P G vwCl (wv u) t.heap) (va_A wc H.size) a) (va_A wc H.size)) (hP : va_P G vwCl wc H) (hD : va_D A wc) (hS : va_S A s.heap H locs) (hA : ∀ q, s.heap.size ≤ q → A q) (hf : ∀ (u : S), post u → va_D (va_A wc H.size) (wv u))
    (kk : ∀ (u : S) (H1 : Heap) (locs1 : List Loc), post u → va_P G vwCl (wv u) H1 → va_D A (wv u) → va_S A s.heap H1 locs1 → W p l e R s m args below meth c H1 locs1 (cells + mc) (slots + ms) Q (F0 m (pc + 3) ls (rest))) : W p l e R s m args below meth c H locs cells slots Q (F0 m pc ls st0) :=
  x_callvA (wr := []) hr (by rw [List.append_nil]; exact hP) (by rw [List.append_nil]; exact hD) hS hA hf (fun u H1 locs1 hw h1 h2 h3 => kk u H1 locs1 hw (by rw [List.append_nil] at h1; exact h1) (by rw [List.append_nil] at h2; exact h2) h3)
theorem x_xcallv {S : Type} {post : S → Prop} {wv : S → va_W} (hr : vx_Run p l e R s m args below meth c H locs cells slots mc ms (F0 m pc ls st0) rest (va_Qv post (fun u t => va_P G vwCl (wv u) t.heap) (va_A wc H.size) a) (vx_X (fun _ : Unit => True) (fun E _ t => pE E ∧ va_P G vwCl wc t.heap) (va_A wc H.size)) (va_A wc H.size)) (hP : va_P G vwCl ws H) (hD : va_D A ws) (hS : va_S A s.heap H locs) (hA : ∀ q, s.heap.size ≤ q → A q) (is : List Nat) (his : is.map (fun i => ws[i]?) = wc.map some) (hn : va_nd is = true) (hf : ∀ (u : S), post u → (wv u).map Prod.fst = wc.map Prod.fst)
    (kx : ∀ (E : String) (ce : Cell) (q9 : Addr) (H1 : Heap) (locs1 : List Loc), pE E → va_P G vwCl ws H1 → va_S A s.heap H1 locs1 → H1[q9]? = some ce → ce.vm = .none → s.vm.findClass E = some ce.cls → vx_W p l e R s m args below meth c H1 locs1 (cells + mc) (slots + ms) Q (F0 m pc ls rest) q9)
    (kk : ∀ (u : S) (H1 : Heap) (locs1 : List Loc), post u → va_P G vwCl (xrep ws is (wv u)) H1 → va_D A (xrep ws is (wv u)) → va_S A s.heap H1 locs1 → W p l e R s m args below meth c H1 locs1 (cells + mc) (slots + ms) Q (F0 m (pc + 3) ls (rest))) : W p l e R s m args below meth c H locs cells slots Q (F0 m pc ls st0) :=
  vx_callv hr hS (fun q _ h => xfree hD hS hA (xis_mem his) q h) (fun q h => xfree hD hS hA (xis_mem his) q h) (fun q _ h => xfree hD hS hA (xis_mem his) q h) (fun E ce q9 _ t H1 locs1 ht _ _ hB _ hk1 hS1 c1 c2 c3 => by
    refine kx E ce q9 H1 locs1 hB.1 ?_ hS1 c1 c2 c3
    intro k q hq
    by_cases hc : ∃ e, (q.1, e) ∈ wc
    · obtain ⟨e, he⟩ := hc
      have hq2 : q ∈ wc := by
        obtain ⟨k2, hk2⟩ := List.getElem?_of_mem (xis_mem his _ he)
        have := hD.1 k k2 q _ hq hk2 rfl
        subst this
        rw [hq] at hk2
        rw [Option.some.inj hk2]
        exact he
      have := hB.2
      rw [ht] at this
      exact xp_iff.mp this q hq2
    · exact (hP k q hq).kept (hk1 q.1 (hP k q hq).lt (fun ha => by
        rcases ha with ⟨j, e, hj⟩ | ha
        · exact hc ⟨e, List.mem_of_getElem? hj⟩
        · have := (hP k q hq).lt
          omega))) (fun u t H1 locs1 ht _ hw hB _ hk1 hS1 => by
    obtain ⟨h1, h2⟩ := xrep_ok hP hD is his (hf u hw) hk1 (by rw [← ht]; exact hB)
    exact kk u H1 locs1 hw h1 h2 hS1)
theorem x_xcallvA {S : Type} {post : S → Prop} {wv : S → va_W} (hr : vx_Run p l e R s m args below meth c H locs cells slots mc ms (F0 m pc ls st0) rest (va_Qv post (fun u t => va_P G vwCl (wv u) t.heap) (va_A wc H.size) a) (vx_X (fun _ : Unit => True) (fun E _ t => pE E ∧ va_P G vwCl wc t.heap) (va_A wc H.size)) (va_A wc H.size)) (hP : va_P G vwCl (wc ++ wr) H) (hD : va_D A (wc ++ wr)) (hS : va_S A s.heap H locs) (hA : ∀ q, s.heap.size ≤ q → A q) (hf : ∀ (u : S), post u → va_D (va_A wc H.size) (wv u))
    (kx : ∀ (E : String) (ce : Cell) (q9 : Addr) (H1 : Heap) (locs1 : List Loc), pE E → va_P G vwCl (wc ++ wr) H1 → va_S A s.heap H1 locs1 → H1[q9]? = some ce → ce.vm = .none → s.vm.findClass E = some ce.cls → vx_W p l e R s m args below meth c H1 locs1 (cells + mc) (slots + ms) Q (F0 m pc ls rest) q9)
    (kk : ∀ (u : S) (H1 : Heap) (locs1 : List Loc), post u → va_P G vwCl (wv u ++ wr) H1 → va_D A (wv u ++ wr) → va_S A s.heap H1 locs1 → W p l e R s m args below meth c H1 locs1 (cells + mc) (slots + ms) Q (F0 m (pc + 3) ls (rest))) : W p l e R s m args below meth c H locs cells slots Q (F0 m pc ls st0) :=
  have hF := xfree hD hS hA (wc := wc) (fun _ h => List.mem_append_left _ h)
  have hDw : va_D A wc := by
    rw [xd_iff] at hD ⊢
    rw [List.map_append, List.nodup_append] at hD
    exact ⟨hD.1.1, fun q hq => hD.2 q (List.mem_append_left _ hq)⟩
  vx_callv hr hS (fun q _ h => hF q h) (fun q h => hF q h) (fun q _ h => hF q h) (fun E ce q9 _ t H1 locs1 ht _ _ hB _ hk1 hS1 c1 c2 c3 => by
    refine kx E ce q9 H1 locs1 hB.1 ?_ hS1 c1 c2 c3
    exact (xapp_ok hP hD hF hDw.self hk1 (by rw [← ht]; exact hB.2)).1) (fun u t H1 locs1 ht _ hw hB _ hk1 hS1 => by
    obtain ⟨h1, h2⟩ := xapp_ok hP hD hF (hf u hw) hk1 (by rw [← ht]; exact hB)
    exact kk u H1 locs1 hw h1 h2 hS1)
theorem x_xcallvW {S : Type} {post : S → Prop} {wv : S → va_W} (hr : vx_Run p l e R s m args below meth c H locs cells slots mc ms (F0 m pc ls st0) rest (va_Qv post (fun u t => va_P G vwCl (wv u) t.heap) (va_A wc H.size) a) (vx_X (fun _ : Unit => True) (fun E _ t => pE E ∧ va_P G vwCl wc t.heap) (va_A wc H.size)) (va_A wc H.size)) (hP : va_P G vwCl wc H) (hD : va_D A wc) (hS : va_S A s.heap H locs) (hA : ∀ q, s.heap.size ≤ q → A q) (hf : ∀ (u : S), post u → va_D (va_A wc H.size) (wv u))
    (kx : ∀ (E : String) (ce : Cell) (q9 : Addr) (H1 : Heap) (locs1 : List Loc), pE E → va_P G vwCl wc H1 → va_S A s.heap H1 locs1 → H1[q9]? = some ce → ce.vm = .none → s.vm.findClass E = some ce.cls → vx_W p l e R s m args below meth c H1 locs1 (cells + mc) (slots + ms) Q (F0 m pc ls rest) q9)
    (kk : ∀ (u : S) (H1 : Heap) (locs1 : List Loc), post u → va_P G vwCl (wv u) H1 → va_D A (wv u) → va_S A s.heap H1 locs1 → W p l e R s m args below meth c H1 locs1 (cells + mc) (slots + ms) Q (F0 m (pc + 3) ls (rest))) : W p l e R s m args below meth c H locs cells slots Q (F0 m pc ls st0) :=
  x_xcallvA (wr := []) hr (by rw [List.append_nil]; exact hP) (by rw [List.append_nil]; exact hD) hS hA hf (fun E ce q9 H1 locs1 hE h1 => kx E ce q9 H1 locs1 hE (by rw [List.append_nil] at h1; exact h1)) (fun u H1 locs1 hw h1 h2 h3 => kk u H1 locs1 hw (by rw [List.append_nil] at h1; exact h1) (by rw [List.append_nil] at h2; exact h2) h3)
theorem x_callq {S : Type} {post : Option Nat → S → Prop} {wv : S → va_W} (hr : va_Run p l e R s m args below meth c H locs cells slots mc ms (F0 m pc ls st0) rest (va_Qq post (fun u t => va_P G vwCl (wv u) t.heap) (va_A wc H.size) a) (va_A wc H.size)) (hP : va_P G vwCl ws H) (hD : va_D A ws) (hS : va_S A s.heap H locs) (hA : ∀ q, s.heap.size ≤ q → A q) (is : List Nat) (his : is.map (fun i => ws[i]?) = wc.map some) (hf : ∀ (r : Option Nat) (u : S), post r u → (wv u).map Prod.fst = wc.map Prod.fst)
    (kk : ∀ (r : Option Nat) (u : S) (H1 : Heap) (locs1 : List Loc), post r u → va_P G vwCl (xrep ws is (wv u)) H1 → va_D A (xrep ws is (wv u)) → va_S A s.heap H1 locs1 → W p l e R s m args below meth c H1 locs1 (cells + mc) (slots + ms) Q (F0 m (pc + 3) ls (va_rf r :: rest))) : W p l e R s m args below meth c H locs cells slots Q (F0 m pc ls st0) :=
  va_callq hr hS (fun q _ h => xfree hD hS hA (xis_mem his) q h) (fun q h => xfree hD hS hA (xis_mem his) q h) (fun r u t H1 locs1 ht _ hw hB _ hk1 hS1 => by
    obtain ⟨h1, h2⟩ := xrep_ok hP hD is his (hf r u hw) hk1 (by rw [← ht]; exact hB)
    exact kk r u H1 locs1 hw h1 h2 hS1)
theorem x_callqA {S : Type} {post : Option Nat → S → Prop} {wv : S → va_W} (hr : va_Run p l e R s m args below meth c H locs cells slots mc ms (F0 m pc ls st0) rest (va_Qq post (fun u t => va_P G vwCl (wv u) t.heap) (va_A wc H.size) a) (va_A wc H.size)) (hP : va_P G vwCl (wc ++ wr) H) (hD : va_D A (wc ++ wr)) (hS : va_S A s.heap H locs) (hA : ∀ q, s.heap.size ≤ q → A q) (hf : ∀ (r : Option Nat) (u : S), post r u → va_D (va_A wc H.size) (wv u))
    (kk : ∀ (r : Option Nat) (u : S) (H1 : Heap) (locs1 : List Loc), post r u → va_P G vwCl (wv u ++ wr) H1 → va_D A (wv u ++ wr) → va_S A s.heap H1 locs1 → W p l e R s m args below meth c H1 locs1 (cells + mc) (slots + ms) Q (F0 m (pc + 3) ls (va_rf r :: rest))) : W p l e R s m args below meth c H locs cells slots Q (F0 m pc ls st0) :=
  have hF := xfree hD hS hA (wc := wc) (fun _ h => List.mem_append_left _ h)
  va_callq hr hS (fun q _ h => hF q h) (fun q h => hF q h) (fun r u t H1 locs1 ht _ hw hB _ hk1 hS1 => by
    obtain ⟨h1, h2⟩ := xapp_ok hP hD hF (hf r u hw) hk1 (by rw [← ht]; exact hB)
    exact kk r u H1 locs1 hw h1 h2 hS1)
theorem x_callqW {S : Type} {post : Option Nat → S → Prop} {wv : S → va_W} (hr : va_Run p l e R s m args below meth c H locs cells slots mc ms (F0 m pc ls st0) rest (va_Qq post (fun u t => va_P G vwCl (wv u) t.heap) (va_A wc H.size) a) (va_A wc H.size)) (hP : va_P G vwCl wc H) (hD : va_D A wc) (hS : va_S A s.heap H locs) (hA : ∀ q, s.heap.size ≤ q → A q) (hf : ∀ (r : Option Nat) (u : S), post r u → va_D (va_A wc H.size) (wv u))
    (kk : ∀ (r : Option Nat) (u : S) (H1 : Heap) (locs1 : List Loc), post r u → va_P G vwCl (wv u) H1 → va_D A (wv u) → va_S A s.heap H1 locs1 → W p l e R s m args below meth c H1 locs1 (cells + mc) (slots + ms) Q (F0 m (pc + 3) ls (va_rf r :: rest))) : W p l e R s m args below meth c H locs cells slots Q (F0 m pc ls st0) :=
  x_callqA (wr := []) hr (by rw [List.append_nil]; exact hP) (by rw [List.append_nil]; exact hD) hS hA hf (fun r u H1 locs1 hw h1 h2 h3 => kk r u H1 locs1 hw (by rw [List.append_nil] at h1; exact h1) (by rw [List.append_nil] at h2; exact h2) h3)
theorem x_xcallq {S : Type} {post : Option Nat → S → Prop} {wv : S → va_W} (hr : vx_Run p l e R s m args below meth c H locs cells slots mc ms (F0 m pc ls st0) rest (va_Qq post (fun u t => va_P G vwCl (wv u) t.heap) (va_A wc H.size) a) (vx_X (fun _ : Unit => True) (fun E _ t => pE E ∧ va_P G vwCl wc t.heap) (va_A wc H.size)) (va_A wc H.size)) (hP : va_P G vwCl ws H) (hD : va_D A ws) (hS : va_S A s.heap H locs) (hA : ∀ q, s.heap.size ≤ q → A q) (is : List Nat) (his : is.map (fun i => ws[i]?) = wc.map some) (hn : va_nd is = true) (hf : ∀ (r : Option Nat) (u : S), post r u → (wv u).map Prod.fst = wc.map Prod.fst)
    (kx : ∀ (E : String) (ce : Cell) (q9 : Addr) (H1 : Heap) (locs1 : List Loc), pE E → va_P G vwCl ws H1 → va_S A s.heap H1 locs1 → H1[q9]? = some ce → ce.vm = .none → s.vm.findClass E = some ce.cls → vx_W p l e R s m args below meth c H1 locs1 (cells + mc) (slots + ms) Q (F0 m pc ls rest) q9)
    (kk : ∀ (r : Option Nat) (u : S) (H1 : Heap) (locs1 : List Loc), post r u → va_P G vwCl (xrep ws is (wv u)) H1 → va_D A (xrep ws is (wv u)) → va_S A s.heap H1 locs1 → W p l e R s m args below meth c H1 locs1 (cells + mc) (slots + ms) Q (F0 m (pc + 3) ls (va_rf r :: rest))) : W p l e R s m args below meth c H locs cells slots Q (F0 m pc ls st0) :=
  vx_callq hr hS (fun q _ h => xfree hD hS hA (xis_mem his) q h) (fun q h => xfree hD hS hA (xis_mem his) q h) (fun q _ h => xfree hD hS hA (xis_mem his) q h) (fun E ce q9 _ t H1 locs1 ht _ _ hB _ hk1 hS1 c1 c2 c3 => by
    refine kx E ce q9 H1 locs1 hB.1 ?_ hS1 c1 c2 c3
    intro k q hq
    by_cases hc : ∃ e, (q.1, e) ∈ wc
    · obtain ⟨e, he⟩ := hc
      have hq2 : q ∈ wc := by
        obtain ⟨k2, hk2⟩ := List.getElem?_of_mem (xis_mem his _ he)
        have := hD.1 k k2 q _ hq hk2 rfl
        subst this
        rw [hq] at hk2
        rw [Option.some.inj hk2]
        exact he
      have := hB.2
      rw [ht] at this
      exact xp_iff.mp this q hq2
    · exact (hP k q hq).kept (hk1 q.1 (hP k q hq).lt (fun ha => by
        rcases ha with ⟨j, e, hj⟩ | ha
        · exact hc ⟨e, List.mem_of_getElem? hj⟩
        · have := (hP k q hq).lt
          omega))) (fun r u t H1 locs1 ht _ hw hB _ hk1 hS1 => by
    obtain ⟨h1, h2⟩ := xrep_ok hP hD is his (hf r u hw) hk1 (by rw [← ht]; exact hB)
    exact kk r u H1 locs1 hw h1 h2 hS1)
theorem x_xcallqA {S : Type} {post : Option Nat → S → Prop} {wv : S → va_W} (hr : vx_Run p l e R s m args below meth c H locs cells slots mc ms (F0 m pc ls st0) rest (va_Qq post (fun u t => va_P G vwCl (wv u) t.heap) (va_A wc H.size) a) (vx_X (fun _ : Unit => True) (fun E _ t => pE E ∧ va_P G vwCl wc t.heap) (va_A wc H.size)) (va_A wc H.size)) (hP : va_P G vwCl (wc ++ wr) H) (hD : va_D A (wc ++ wr)) (hS : va_S A s.heap H locs) (hA : ∀ q, s.heap.size ≤ q → A q) (hf : ∀ (r : Option Nat) (u : S), post r u → va_D (va_A wc H.size) (wv u))
    (kx : ∀ (E : String) (ce : Cell) (q9 : Addr) (H1 : Heap) (locs1 : List Loc), pE E → va_P G vwCl (wc ++ wr) H1 → va_S A s.heap H1 locs1 → H1[q9]? = some ce → ce.vm = .none → s.vm.findClass E = some ce.cls → vx_W p l e R s m args below meth c H1 locs1 (cells + mc) (slots + ms) Q (F0 m pc ls rest) q9)
    (kk : ∀ (r : Option Nat) (u : S) (H1 : Heap) (locs1 : List Loc), post r u → va_P G vwCl (wv u ++ wr) H1 → va_D A (wv u ++ wr) → va_S A s.heap H1 locs1 → W p l e R s m args below meth c H1 locs1 (cells + mc) (slots + ms) Q (F0 m (pc + 3) ls (va_rf r :: rest))) : W p l e R s m args below meth c H locs cells slots Q (F0 m pc ls st0) :=
  have hF := xfree hD hS hA (wc := wc) (fun _ h => List.mem_append_left _ h)
  have hDw : va_D A wc := by
    rw [xd_iff] at hD ⊢
    rw [List.map_append, List.nodup_append] at hD
    exact ⟨hD.1.1, fun q hq => hD.2 q (List.mem_append_left _ hq)⟩
  vx_callq hr hS (fun q _ h => hF q h) (fun q h => hF q h) (fun q _ h => hF q h) (fun E ce q9 _ t H1 locs1 ht _ _ hB _ hk1 hS1 c1 c2 c3 => by
    refine kx E ce q9 H1 locs1 hB.1 ?_ hS1 c1 c2 c3
    exact (xapp_ok hP hD hF hDw.self hk1 (by rw [← ht]; exact hB.2)).1) (fun r u t H1 locs1 ht _ hw hB _ hk1 hS1 => by
    obtain ⟨h1, h2⟩ := xapp_ok hP hD hF (hf r u hw) hk1 (by rw [← ht]; exact hB)
    exact kk r u H1 locs1 hw h1 h2 hS1)
theorem x_xcallqW {S : Type} {post : Option Nat → S → Prop} {wv : S → va_W} (hr : vx_Run p l e R s m args below meth c H locs cells slots mc ms (F0 m pc ls st0) rest (va_Qq post (fun u t => va_P G vwCl (wv u) t.heap) (va_A wc H.size) a) (vx_X (fun _ : Unit => True) (fun E _ t => pE E ∧ va_P G vwCl wc t.heap) (va_A wc H.size)) (va_A wc H.size)) (hP : va_P G vwCl wc H) (hD : va_D A wc) (hS : va_S A s.heap H locs) (hA : ∀ q, s.heap.size ≤ q → A q) (hf : ∀ (r : Option Nat) (u : S), post r u → va_D (va_A wc H.size) (wv u))
    (kx : ∀ (E : String) (ce : Cell) (q9 : Addr) (H1 : Heap) (locs1 : List Loc), pE E → va_P G vwCl wc H1 → va_S A s.heap H1 locs1 → H1[q9]? = some ce → ce.vm = .none → s.vm.findClass E = some ce.cls → vx_W p l e R s m args below meth c H1 locs1 (cells + mc) (slots + ms) Q (F0 m pc ls rest) q9)
    (kk : ∀ (r : Option Nat) (u : S) (H1 : Heap) (locs1 : List Loc), post r u → va_P G vwCl (wv u) H1 → va_D A (wv u) → va_S A s.heap H1 locs1 → W p l e R s m args below meth c H1 locs1 (cells + mc) (slots + ms) Q (F0 m (pc + 3) ls (va_rf r :: rest))) : W p l e R s m args below meth c H locs cells slots Q (F0 m pc ls st0) :=
  x_xcallqA (wr := []) hr (by rw [List.append_nil]; exact hP) (by rw [List.append_nil]; exact hD) hS hA hf (fun E ce q9 H1 locs1 hE h1 => kx E ce q9 H1 locs1 hE (by rw [List.append_nil] at h1; exact h1)) (fun r u H1 locs1 hw h1 h2 h3 => kk r u H1 locs1 hw (by rw [List.append_nil] at h1; exact h1) (by rw [List.append_nil] at h2; exact h2) h3)
/-- an exception leaves the method, whose world is as it was -/
theorem x_out {Qc : Array Value → State → Outcome → State → Prop} {ws0 : va_W} {q : Addr} {E : String} {ce : Cell} {mc ms : Nat} (hx0 : ∀ x ∈ c.exceptionTable.toList, False) (hlocks : meth.locks = false) (hE : pE E) (hP : va_P G vwCl ws0 H) (hS : va_S A s.heap H locs) (h1 : H[q]? = some ce) (h2 : ce.vm = .none) (h3 : s.vm.findClass E = some ce.cls) (hc : cells ≤ mc) (hs : slots ≤ ms) :
    vx_W p l e R s m args below meth c H locs cells slots (vx_MQ below Qc (vx_X (fun _ : Unit => True) (fun E _ t => pE E ∧ va_P G vwCl ws0 t.heap) A) args s mc ms A) (F0 m pc ls rest) q :=
  vx_out (fun x hx => (hx0 x hx).elim) hlocks h1 h2 h3 (fun t ht _ => ⟨(), trivial, ⟨hE, by rw [ht]; exact hP⟩, hS.F ht⟩) hS.2.2 hc hs
/-- throw new E(text) -/
theorem x_throw {Qc : Array Value → State → Outcome → State → Prop} {ws0 : va_W} {cc : ByteArray} {Ts : List Cond} {cls text : String} {ik is ic : Nat} {mc ms : Nat} (hexec : p.tables.exec = Jvm.exec) (hb : c.code = cc) (hl : l.stackTraces = false) (hown : s.vm.findClass RX3 = some m.cls) (hts : ∀ w ∈ Ts, w.before args s = true) (hcls : Bundle.fit cls = true)
    (hk : Cond.classLink RX3 ik cls ∈ Ts) (hini : Cond.initialized cls ∈ Ts) (hat : ∀ w ∈ (vx_atS RX3 ic cls ["java/lang/RuntimeException", "java/lang/Exception"]).filter goodWord, w ∈ Ts) (hat2 : ∀ w ∈ (vx_atS RX3 ic cls ["java/lang/RuntimeException", "java/lang/Exception"]).filter (fun w => !goodWord w), w ∈ xNW)
    (hgood : ∀ w ∈ Cond.classLink RX3 ik cls :: Cond.initialized cls :: vx_atS RX3 ic cls ["java/lang/RuntimeException", "java/lang/Exception"], vx_ot w = true) (hst : (is, text) ∈ xStr) (hB : xB s) (hZ : xS A s s.heap) (hS : va_S A s.heap H locs) (hsize : ls.size = c.maxLocals) (hx0 : ∀ x ∈ c.exceptionTable.toList, False) (hlocks : meth.locks = false)
    (d0 : decode cc pc = .ok (.new ik, 3)) (d3 : decode cc (pc + 3) = .ok (.dup, 1)) (d4 : decode cc (pc + 4) = .ok (.ldc is, 2)) (d6 : decode cc (pc + 6) = .ok (.invokespecial ic, 3)) (d9 : decode cc (pc + 9) = .ok (.athrow, 1))
    (hRf : 5 < R.frames) (hRl : (rest.map fun v => v.category).sum + 82 ≤ R.locals) (hRc : cells + 1 ≤ R.cells) (hRs : slots + 6 ≤ R.slots) (hc : cells + 1 ≤ mc) (hs : slots + 6 ≤ ms) (hE : pE cls) (hP : va_P G vwCl ws0 H) :
    W p l e R s m args below meth c H locs cells slots (vx_MQ below Qc (vx_X (fun _ : Unit => True) (fun E _ t => pE E ∧ va_P G vwCl ws0 t.heap) A) args s mc ms A) (F0 m pc ls rest) := by
  obtain ⟨sa, hsa⟩ := hB.2.1 _ hst
  refine vx_throwS (names := ["java/lang/RuntimeException", "java/lang/Exception"]) (sa := sa) (A := A) hexec hb hl hown hcls (by decide +kernel) (hts _ hk) (hts _ hini) hsa
    (vx_hat (fun w hw => hts w (hat w hw)) hat2 (fun w hw => va_Nw.use (xNW_ot w hw) (hB.1 w hw))) hgood hZ.1 hZ.2.1 hS hsize d0 d3 d4 d6 d9 (fun x hx => (hx0 x hx).elim) hRf hRl hRc hRs hlocks
    (fun t _ hz hq => ⟨(), trivial, ⟨hE, hP.kept (fun k q hk => hq q.1 (hP k q hk).lt)⟩, ⟨Nat.le_trans hS.1 hz, fun q h1 h2 => by rw [hq q (Nat.lt_of_lt_of_le h1 hS.1)]; exact hS.2.1 q h1 h2⟩⟩) hS.2.2 hc hs
end XKD
end XKB
