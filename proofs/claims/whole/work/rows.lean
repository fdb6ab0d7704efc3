section
-- ===== PART A: goes FIRST, ahead of the names: the tables' words, and 'selects' of the private methods out of them =====
/-- a private method of a class that the tables say can be made, by its rows of tables_1 -/
def lw_okq (q : MethodName × Nat) : Prop := (q.1.cls ≠ "java/lang/invoke/MethodHandle" ∧ q.1.cls ≠ "java/lang/invoke/VarHandle") ∧ Cond.instantiable q.1.cls q.2 ∈ tables_1 ∧ Cond.privateMethod q.1 ∈ tables_1 ∧ Cond.instanceMethod q.1 ∈ tables_1
theorem lw_p0 : lw_okq (⟨"java/lang/Throwable", "fillInStackTrace", "(I)Ljava/lang/Throwable;"⟩, 6) := ⟨⟨by decide +kernel, by decide +kernel⟩, List.mem_of_getElem? (i := 148) (by decide +kernel), List.mem_of_getElem? (i := 146) (by decide +kernel), List.mem_of_getElem? (i := 147) (by decide +kernel)⟩
theorem lw_p1 : lw_okq (⟨"CardFans", "watcherMixedInto", "(JI)J"⟩, 10) := ⟨⟨by decide +kernel, by decide +kernel⟩, List.mem_of_getElem? (i := 15) (by decide +kernel), List.mem_of_getElem? (i := 187) (by decide +kernel), List.mem_of_getElem? (i := 188) (by decide +kernel)⟩
theorem lw_p2 : lw_okq (⟨"CardFans", "watcherOf", "(I)LCardFans$Watcher;"⟩, 10) := ⟨⟨by decide +kernel, by decide +kernel⟩, List.mem_of_getElem? (i := 15) (by decide +kernel), List.mem_of_getElem? (i := 195) (by decide +kernel), List.mem_of_getElem? (i := 196) (by decide +kernel)⟩
theorem lw_p3 : lw_okq (⟨"CardFans$Watcher", "concludes", "()Z"⟩, 4) := ⟨⟨by decide +kernel, by decide +kernel⟩, List.mem_of_getElem? (i := 332) (by decide +kernel), List.mem_of_getElem? (i := 373) (by decide +kernel), List.mem_of_getElem? (i := 374) (by decide +kernel)⟩
theorem lw_p4 : lw_okq (⟨"CardFans$Watcher", "strikesElsewhere", "(I)Z"⟩, 4) := ⟨⟨by decide +kernel, by decide +kernel⟩, List.mem_of_getElem? (i := 332) (by decide +kernel), List.mem_of_getElem? (i := 377) (by decide +kernel), List.mem_of_getElem? (i := 378) (by decide +kernel)⟩
theorem lw_p5 : lw_okq (⟨"CardFans$Watcher", "thinkAnew", "(II)V"⟩, 4) := ⟨⟨by decide +kernel, by decide +kernel⟩, List.mem_of_getElem? (i := 332) (by decide +kernel), List.mem_of_getElem? (i := 382) (by decide +kernel), List.mem_of_getElem? (i := 383) (by decide +kernel)⟩
theorem lw_p6 : lw_okq (⟨"CardFans", "playerOf", "(I)LCardFans$Player;"⟩, 10) := ⟨⟨by decide +kernel, by decide +kernel⟩, List.mem_of_getElem? (i := 15) (by decide +kernel), List.mem_of_getElem? (i := 445) (by decide +kernel), List.mem_of_getElem? (i := 446) (by decide +kernel)⟩
theorem lw_p7 : lw_okq (⟨"CardFansModel", "no", "(I)I"⟩, 14) := ⟨⟨by decide +kernel, by decide +kernel⟩, List.mem_of_getElem? (i := 498) (by decide +kernel), List.mem_of_getElem? (i := 563) (by decide +kernel), List.mem_of_getElem? (i := 564) (by decide +kernel)⟩
theorem lw_p8 : lw_okq (⟨"CardFansModel", "placeOf", "(I)I"⟩, 14) := ⟨⟨by decide +kernel, by decide +kernel⟩, List.mem_of_getElem? (i := 498) (by decide +kernel), List.mem_of_getElem? (i := 601) (by decide +kernel), List.mem_of_getElem? (i := 602) (by decide +kernel)⟩
theorem lw_p9 : lw_okq (⟨"CardFansModel", "isWatcher", "(I)Z"⟩, 14) := ⟨⟨by decide +kernel, by decide +kernel⟩, List.mem_of_getElem? (i := 498) (by decide +kernel), List.mem_of_getElem? (i := 614) (by decide +kernel), List.mem_of_getElem? (i := 615) (by decide +kernel)⟩
theorem lw_p10 : lw_okq (⟨"CardFansModel", "watcherTold", "(II)I"⟩, 14) := ⟨⟨by decide +kernel, by decide +kernel⟩, List.mem_of_getElem? (i := 498) (by decide +kernel), List.mem_of_getElem? (i := 637) (by decide +kernel), List.mem_of_getElem? (i := 638) (by decide +kernel)⟩
theorem lw_p11 : lw_okq (⟨"CardFansModel", "isPlayer", "(I)Z"⟩, 14) := ⟨⟨by decide +kernel, by decide +kernel⟩, List.mem_of_getElem? (i := 498) (by decide +kernel), List.mem_of_getElem? (i := 653) (by decide +kernel), List.mem_of_getElem? (i := 654) (by decide +kernel)⟩
theorem lw_p12 : lw_okq (⟨"CardFansModel", "counted", "(I)I"⟩, 14) := ⟨⟨by decide +kernel, by decide +kernel⟩, List.mem_of_getElem? (i := 498) (by decide +kernel), List.mem_of_getElem? (i := 670) (by decide +kernel), List.mem_of_getElem? (i := 671) (by decide +kernel)⟩
def lw_privs_1 : List (MethodName × Nat) := [(⟨"java/lang/Throwable", "fillInStackTrace", "(I)Ljava/lang/Throwable;"⟩, 6), (⟨"CardFans", "watcherMixedInto", "(JI)J"⟩, 10), (⟨"CardFans", "watcherOf", "(I)LCardFans$Watcher;"⟩, 10), (⟨"CardFans$Watcher", "concludes", "()Z"⟩, 4), (⟨"CardFans$Watcher", "strikesElsewhere", "(I)Z"⟩, 4), (⟨"CardFans$Watcher", "thinkAnew", "(II)V"⟩, 4), (⟨"CardFans", "playerOf", "(I)LCardFans$Player;"⟩, 10), (⟨"CardFansModel", "no", "(I)I"⟩, 14), (⟨"CardFansModel", "placeOf", "(I)I"⟩, 14), (⟨"CardFansModel", "isWatcher", "(I)Z"⟩, 14), (⟨"CardFansModel", "watcherTold", "(II)I"⟩, 14), (⟨"CardFansModel", "isPlayer", "(I)Z"⟩, 14), (⟨"CardFansModel", "counted", "(I)I"⟩, 14)]
theorem lw_r1 : ∀ q ∈ lw_privs_1, lw_okq q := List.forall_mem_cons.mpr ⟨lw_p0, List.forall_mem_cons.mpr ⟨lw_p1, List.forall_mem_cons.mpr ⟨lw_p2, List.forall_mem_cons.mpr ⟨lw_p3, List.forall_mem_cons.mpr ⟨lw_p4, List.forall_mem_cons.mpr ⟨lw_p5, List.forall_mem_cons.mpr ⟨lw_p6, List.forall_mem_cons.mpr ⟨lw_p7, List.forall_mem_cons.mpr ⟨lw_p8, List.forall_mem_cons.mpr ⟨lw_p9, List.forall_mem_cons.mpr ⟨lw_p10, List.forall_mem_cons.mpr ⟨lw_p11, List.forall_mem_cons.mpr ⟨lw_p12, fun _ h => absurd h List.not_mem_nil⟩⟩⟩⟩⟩⟩⟩⟩⟩⟩⟩⟩⟩
def lw_privs : List (MethodName × Nat) := lw_privs_1
def lw_tbl : List Cond := k2_sels lw_privs ++ tables_1
theorem lw_privs_ok : ∀ q ∈ lw_privs, lw_okq q := lw_r1
/-- the streams that the claim lets the run draw from -/
abbrev lw_cs : List Choice := [Jvm.Choice.named "NaN.bits"]
theorem lw_bits : nanBits ∈ lw_cs := by first | decide | exact List.mem_cons_self | simp [lw_cs, nanBits]
-- ===== end of PART A; then your names; then what follows =====
/-! ===== BEGIN words of one list among another's, by their places ===== -/
theorem goodIn_r {big : List Cond} (ws : List Cond) (ps : List Nat) (hp : ws = ps.filterMap (fun i => big[i]?)) (h : ws.all goodWord = true) : GoodIn big ws := by
  intro w hw
  have h1 := List.all_eq_true.mp h w hw
  rw [hp] at hw
  obtain ⟨i, -, hi⟩ := List.mem_filterMap.mp hw
  have hm : w ∈ big := by first | exact List.mem_of_getElem? hi | exact List.getElem?_mem hi
  exact ⟨hm, good_of_word h1⟩
theorem goodIn_app {big a b : List Cond} (ha : GoodIn big a) (hb : GoodIn big b) : GoodIn big (a ++ b) := fun w h => (List.mem_append.mp h).elim (ha w) (hb w)
theorem goodIn_ca {big a b : List Cond} {c : Cond} (ha : GoodIn big (c :: a)) (hb : GoodIn big b) : GoodIn big (c :: (a ++ b)) := fun w h => (List.mem_cons.mp h).elim (fun e => ha w (List.mem_cons.mpr (Or.inl e))) (fun h => (List.mem_append.mp h).elim (fun h => ha w (List.mem_cons.mpr (Or.inr h))) (hb w))
theorem goodIn_sub {big ws : List Cond} (hm : ∀ w ∈ ws, w ∈ big) (h : ws.all goodWord = true) : GoodIn big ws := fun w hw => ⟨hm w hw, good_of_word (List.all_eq_true.mp h w hw)⟩
/-! ===== END ===== -/


/-! ===== BEGIN exceptions that leave a method, and their catching by the caller (launches without stack traces) ===== -/
section VXA
/-! The laws vx_back, vx_callV, vx_callS, vx_callSW, vx_throw0, vx_throwS follow proofs of the library, with one case more: JvmDerived/Free/Laws.lean (Back.of_free), Shelf42/LK1.lean (callV, callS), Shelf/KitTraced.lean (throwNew0V, throwNewS). -/
/-- where a method has thrown q: the class by its name, the cell, what was written, the world -/
def vx_T (XC : String → State → State → Prop) (st : State) (q : Addr) (t : State) (mc ms : Nat) (free : Addr → Prop) : Prop :=
  ∃ (E : String) (ce : Cell) (L : List Loc), XC E st t ∧ t.heap[q]? = some ce ∧ ce.vm = .none ∧ st.vm.findClass E = some ce.cls ∧ st.WarmedH t.vm ∧ st.sameButNew ({ t with vm := st.vm } : State) L mc ms ∧ ∀ z ∈ L, free z.base
def vx_Q (Qc : Array Value → State → Outcome → State → Prop) (XC : String → State → State → Prop) (mc ms : Nat) (free : Addr → Prop) : Array Value → State → Outcome → State → Prop := fun a st o t =>
  (Qc a st o t ∧ ∃ L, FrameEnd st o t L mc ms ∧ ∀ q ∈ L, free q.base) ∨ ∃ q, o = .threw q ∧ vx_T XC st q t mc ms free
/-- a callee that returns or throws -/
def vx_Met (l : Launch) (y : MethodName) (ws : List Cond) (rm : Room) (Pc : Array Value → State → Prop) (Qc : Array Value → State → Outcome → State → Prop) (XC : String → State → State → Prop) (mc ms : Nat) (free : Addr → Prop) : Prop :=
  MetFree l y (headSpec ws rm) Pc (fun _ _ _ _ _ => True) (vx_Q Qc XC mc ms free)
def vx_Post (XC : String → State → State → Prop) (mc ms : Nat) (free : Addr → Prop) : Pt → Array Value → Addr → Pt → Prop := fun A a q B =>
  ∃ (g : JFrame) (mk : MethodId) (t : State) (L : List Loc) (E : String) (ce : Cell), B.U.heap = t.heap ∧ B.U.vm = t.vm ∧ XC E (A.U.calling g mk a) t ∧ t.heap[q]? = some ce ∧ ce.vm = .none ∧ A.U.vm.findClass E = some ce.cls ∧ B.locs = A.locs ++ L ∧ (∀ z ∈ L, free z.base) ∧ B.cells = A.cells + mc ∧ B.slots = A.slots + ms
def vx_Back (l : Launch) (R : Room) (p : Program) (e : Env) (below : List Frame) (s : State) (sargs : Array Value) (y : MethodName) (len W9 : Nat)
    (Pre : Pt → Array Value → Prop) (Post : Pt → Array Value → Option Value → Pt → Prop) (PostX : Pt → Array Value → Addr → Pt → Prop) : Prop :=
  ∀ (m : MethodId) (meth : Method) (c : Code) (A : Pt) (g : JFrame) (ig : Instr) (mk : MethodId) (a : Array Value),
    Stand p l e R s m sargs below meth c A.U A.locs A.cells A.slots → g.method = m → g.locals.size = c.maxLocals → decode c.code g.pc = .ok (ig, len) →
    2 * g.monitorRoom + (g.stack.map fun v => v.category).sum ≤ W9 → A.U.methodNamed? y = some mk → Pre A a →
    (∃ (v : Option Value) (B : Pt), Stand p l e R s m sargs below meth c B.U B.locs B.cells B.slots ∧ Post A a v B ∧
      Steps p.tables e below (doInvoke e (A.U.setTop g) [] mk a).1 (B.U.setTop { g with pc := g.pc + len, stack := v.toList ++ g.stack })) ∨
    (∃ (q : Addr) (B : Pt), Stand p l e R s m sargs below meth c B.U B.locs B.cells B.slots ∧ PostX A a q B ∧
      Steps p.tables e below (doInvoke e (A.U.setTop g) [] mk a).1 ((B.U.setTop g).pushFrame (.throwing q)))
section Payer
variable {l : Launch} {R : Room} {p : Program} {e : Env} {below : List Frame} {s : State} {sargs : Array Value} {y : MethodName} {len W9 : Nat}
theorem vx_back {ws : List Cond} {rm : Room} {Pc : Array Value → State → Prop} {Qc : Array Value → State → Outcome → State → Prop} {XC : String → State → State → Prop} {mc ms : Nat} {free : Addr → Prop} {bytes : ByteArray} {maxL : Nat} {ret : Option FieldType}
    (hM : vx_Met l y ws rm Pc Qc XC mc ms free) (hblind : FrameBlind Pc) (hrc : rm.cells = mc) (hrs : rm.slots = ms)
    (hframes : rm.frames + 1 ≤ R.frames) (hlocals : W9 + (maxL + 11) + rm.locals ≤ R.locals)
    (hws : ∀ w ∈ ws, ∀ a' U, s.WarmedH U.vm → w.before a' U = true) (hcode : Cond.code y bytes maxL ret ∈ ws) (hinit : ∀ a' U, s.WarmedH U.vm → (Cond.initialized y.cls).before a' U = true) :
    vx_Back l R p e below s sargs y len W9 (PreOf R mc ms Pc) (PostOf Qc mc ms free) (vx_Post XC mc ms free) := by
  intro m meth c A g ig mk a X hg hsize hdg hW hn hp
  have h1 : (headSpec ws rm).pre.before a A.U = true := atoms_intro fun w hw => hws w hw _ _ X.warmed
  have h2 : (Cond.code y bytes maxL ret).before a A.U = true := hws _ hcode _ _ X.warmed
  have h3 : (Cond.initialized y.cls).before a A.U = true := hinit _ _ X.warmed
  have h4 : A.cells + (headSpec ws rm).room.cells ≤ R.cells := by rw [show (headSpec ws rm).room.cells = mc from hrc]; exact hp.1
  have h5 : A.slots + (headSpec ws rm).room.slots ≤ R.slots := by rw [show (headSpec ws rm).room.slots = ms from hrs]; exact hp.2.1
  have hPc : Pc a (A.U.calling g mk a) := hblind _ _ _ _ hp.2.2
  obtain ⟨U, Ls, c0, s0⟩ := A
  dsimp only [Pt.U, Pt.locs, Pt.cells, Pt.slots] at h1 h2 h3 h4 h5 X hn hPc ⊢
  obtain ⟨methY, cY, hmY, hcY, -, hlY, -, -, -, -⟩ := Cond.code_spec hn h2
  obtain ⟨kY, hkY, -⟩ := className_of_methodNamed hn
  have hinitY : kY.init = .initialized := Cond.initialized_spec (findClass_of_methodNamed hn) hkY h3
  have h : At U g.method c below := by rw [hg]; exact X.here
  have hlocals9 : W9 + (maxL + 11) + (headSpec ws rm).room.locals ≤ R.locals := hlocals
  have happ : (headSpec ws rm).appliesLoose y e.platform (U.calling g mk a) = true :=
    Spec.appliesLoose_calling (g := g) h hdg hn hkY hinitY
      (X.room_calling (g := g) (R' := (headSpec ws rm).room) hsize hmY hcY hframes (by rw [hlY]; omega) h4 h5) h1
  obtain ⟨mid, hmid⟩ := h.above
  have hfr : (U.setTop g).frames = (.java g :: mid) ++ below := by rw [State.frames_setTop' g h.top, hmid]; rfl
  obtain ⟨o, s₂, hsteps, -, hend, hq⟩ := Steps.callFree hM p X.admits X.cas X.clock (acts := []) hfr happ hPc trivial
  have hq' : vx_Q Qc XC mc ms free a (U.calling g mk a) o s₂ := hq
  rw [State.frames_setTop' g h.top] at hend
  obtain ⟨g₀, hg0⟩ := Option.isSome_iff_exists.mp h.top
  obtain ⟨r, hr⟩ := State.topJava?_eq_some.mp hg0
  have hr' : (({ U with heap := s₂.heap, slotsUsed := s₂.slotsUsed } : State).setVm s₂.vm).frames = .java g₀ :: r := hr
  rcases hq' with ⟨hqc, L, hfe, hL⟩ | ⟨q, rfl, E, ce, L, hx, hce, hcv, hcl, hW₂, hsm, hL⟩
  · obtain ⟨⟨v, rfl⟩, hW₂, e2, q2, q3, q4, q5, q6⟩ := id hfe
    have e3 : s₂ = ({ (U.calling g mk a).setFrames s₂.frames with heap := s₂.heap, slotsUsed := s₂.slotsUsed } : State).setVm s₂.vm := by
      have : s₂ = ({ s₂ with vm := (U.calling g mk a).vm } : State).setVm s₂.vm := rfl
      rw [e2] at this
      exact this
    obtain ⟨c₂, i₂, len₂, hc₂, hd₂, hf₂⟩ := hend
    have hW' : U.WarmedH s₂.vm := hW₂
    have hcc : c₂ = c := by
      have h1 : s₂.code? g.method = U.code? g.method := by
        rw [State.code?_eq, State.code?_eq, hW'.alike.method?]
      exact Option.some.inj (hc₂.symm.trans (h1.trans h.code))
    subst hcc
    have hlen : len₂ = len := by rw [hdg] at hd₂; cases hd₂; rfl
    subst hlen
    have hs₂ : s₂ = (({ U with heap := s₂.heap, slotsUsed := s₂.slotsUsed } : State).setVm s₂.vm).setTop { g with pc := g.pc + len₂, stack := v.toList ++ g.stack } := by
      refine e3.trans ?_
      rw [hf₂, State.calling_eq h.top, State.setFrames_setFrames, State.setTop_of_frames _ hr', hr]
      rfl
    have hsame : U.sameButNew ({ U with heap := s₂.heap, slotsUsed := s₂.slotsUsed } : State) L mc ms := by
      refine ⟨?_, q2, q3, q4, q5, q6⟩
      obtain ⟨t, ht, -⟩ := State.frames_cons hr
      show ({ U with heap := s₂.heap, slotsUsed := s₂.slotsUsed } : State) = { U.setFrames U.frames with heap := s₂.heap, slotsUsed := s₂.slotsUsed }
      rw [State.setFrames_self ht]
    subst hg
    refine Or.inl ⟨v, ⟨(({ U with heap := s₂.heap, slotsUsed := s₂.slotsUsed } : State).setVm s₂.vm), Ls ++ L, c0 + mc, s0 + ms⟩,
      ⟨X.admits, X.cas, X.clock, X.frames, X.room, X.hears, X.method, X.code, (X.here.setHeapUsed s₂.heap s₂.slotsUsed).setVm hW'.alike, X.tail, State.WarmedH.trans X.warmed hW', X.limits, X.bytes, X.same.trans (hsame.setVm s.vm)⟩,
      ⟨g, mk, s₂, L, rfl, rfl, hqc, rfl, hL, rfl, rfl⟩, ?_⟩
    show Steps p.tables e below _ ((({ U with heap := s₂.heap, slotsUsed := s₂.slotsUsed } : State).setVm s₂.vm).setTop { g with pc := g.pc + len₂, stack := v.toList ++ g.stack })
    rw [← hs₂]
    exact hsteps
  · obtain ⟨e2, q2, q3, q4, q5, q6⟩ := id hsm
    have e3 : s₂ = ({ (U.calling g mk a).setFrames s₂.frames with heap := s₂.heap, slotsUsed := s₂.slotsUsed } : State).setVm s₂.vm := by
      have : s₂ = ({ s₂ with vm := (U.calling g mk a).vm } : State).setVm s₂.vm := rfl
      rw [e2] at this
      exact this
    have hf₂ : s₂.frames = .throwing q :: .java g :: U.frames.tail := hend
    have hW' : U.WarmedH s₂.vm := hW₂
    have hs₂ : s₂ = ((({ U with heap := s₂.heap, slotsUsed := s₂.slotsUsed } : State).setVm s₂.vm).setTop g).pushFrame (.throwing q) := by
      refine e3.trans ?_
      rw [hf₂, State.calling_eq h.top, State.setFrames_setFrames, State.pushFrame, State.frames_setTop _ hr', State.setTop_of_frames _ hr', State.setFrames_setFrames, hr]
      rfl
    have hsame : U.sameButNew ({ U with heap := s₂.heap, slotsUsed := s₂.slotsUsed } : State) L mc ms := by
      refine ⟨?_, q2, q3, q4, q5, q6⟩
      obtain ⟨t, ht, -⟩ := State.frames_cons hr
      show ({ U with heap := s₂.heap, slotsUsed := s₂.slotsUsed } : State) = { U.setFrames U.frames with heap := s₂.heap, slotsUsed := s₂.slotsUsed }
      rw [State.setFrames_self ht]
    subst hg
    refine Or.inr ⟨q, ⟨(({ U with heap := s₂.heap, slotsUsed := s₂.slotsUsed } : State).setVm s₂.vm), Ls ++ L, c0 + mc, s0 + ms⟩,
      ⟨X.admits, X.cas, X.clock, X.frames, X.room, X.hears, X.method, X.code, (X.here.setHeapUsed s₂.heap s₂.slotsUsed).setVm hW'.alike, X.tail, State.WarmedH.trans X.warmed hW', X.limits, X.bytes, X.same.trans (hsame.setVm s.vm)⟩,
      ⟨g, mk, s₂, L, E, ce, rfl, rfl, hx, hce, hcv, hcl, rfl, hL, rfl, rfl⟩, ?_⟩
    show Steps p.tables e below _ (((({ U with heap := s₂.heap, slotsUsed := s₂.slotsUsed } : State).setVm s₂.vm).setTop g).pushFrame (.throwing q))
    rw [← hs₂]
    exact hsteps
end Payer
section Calls
variable {p : Program} {l : Launch} {e : Env} {R : Room} {s : State} {m : MethodId} {args : Array Value} {below : List Frame} {meth : Method} {c : Code} {T : State} {locs : List Loc} {cells slots : Nat}
theorem vx_callV (X : Stand p l e R s m args below meth c T locs cells slots) (hexec : p.tables.exec = Jvm.exec) {own C : String} {index : Nat} {y : MethodName} {bytes : ByteArray} {maxL : Nat} {ret : Option FieldType}
    (hown : s.vm.findClass own = some m.cls) (hlink : (Cond.methodLink own index y).before args s = true) (hinst : (Cond.instanceMethod y).before args s = true) (hsel : (Cond.selects C y y).before args s = true)
    (hcode : (Cond.code y bytes maxL ret).before args s = true) (hy : y.cls ≠ "java/lang/invoke/MethodHandle" ∧ y.cls ≠ "java/lang/invoke/VarHandle")
    {W9 : Nat} {Pre : Pt → Array Value → Prop} {Post : Pt → Array Value → Option Value → Pt → Prop} {PostX : Pt → Array Value → Addr → Pt → Prop} (hK : vx_Back l R p e below s args y 3 W9 Pre Post PostX)
    {b : Addr} {cellB : Cell} (hcell : T.heap[b]? = some cellB) (hobj : cellB.vm.isStatics = false) (hcls : s.vm.findClass C = some cellB.cls)
    {g : JFrame} (hg : g.method = m) (hsize : g.locals.size = c.maxLocals) {argsL rest : List Value} (hlen : ∀ sig, parseMethodDescriptor y.desc = some sig → argsL.length = sig.parameters.length)
    (hstack : g.stack = argsL.reverse ++ .ref b :: rest) (hW : 2 * g.monitorRoom + (rest.map fun v => v.category).sum ≤ W9) (hdg : decode c.code g.pc = .ok (.invokevirtual index, 3))
    (hpre : ∀ vm₁, s.WarmedH vm₁ → Pre ⟨T.setVm vm₁, locs, cells, slots⟩ (Value.ref b :: argsL).toArray) :
    (∃ (v : Option Value) (vm₁ : Vm) (B : Pt), s.WarmedH vm₁ ∧ Stand p l e R s m args below meth c B.U B.locs B.cells B.slots ∧ Post ⟨T.setVm vm₁, locs, cells, slots⟩ (Value.ref b :: argsL).toArray v B ∧
      ∀ target, Steps p.tables e below (B.U.setTop { g with pc := g.pc + 3, stack := v.toList ++ rest }) target → Steps p.tables e below (T.setTop g) target) ∨
    (∃ (q : Addr) (vm₁ : Vm) (B : Pt), s.WarmedH vm₁ ∧ Stand p l e R s m args below meth c B.U B.locs B.cells B.slots ∧ PostX ⟨T.setVm vm₁, locs, cells, slots⟩ (Value.ref b :: argsL).toArray q B ∧
      Steps p.tables e below (T.setTop g) ((B.U.setTop { g with stack := rest }).pushFrame (.throwing q))) := by
  obtain ⟨mk, methM, hnamed, hmethM, hstM, habM⟩ := Cond.instanceMethod_spec hinst
  obtain ⟨methM', cM, hmethM', -, -, -, -, -, -, hsigM⟩ := Cond.code_spec hnamed hcode
  cases hmethM.symm.trans hmethM'
  obtain ⟨c2, r2, m2, q1, q2, q3, q4, kP, hkP, hkPi⟩ := Cond.selects_spec hsel
  cases hcls.symm.trans q1
  cases (State.methodFound?_of_named hnamed hy).symm.trans q2
  cases hnamed.symm.trans q3
  have hselP : selectMethod e.platform s.vm cellB.cls mk = .method mk := by rw [Launch.admits_selectMethod X.admits]; exact q4
  obtain ⟨vm₁, X₁, hstep₁⟩ := X.invokevirtual hexec hown hlink hnamed hmethM hstM hkP hkPi hy (a := b) (cell := cellB) hcell
    (fun z h => by rw [h] at hobj; cases hobj) hselP hmethM habM hkP hkPi (g := g) hg (argsL := argsL) (rest := rest) (hlen _ hsigM) hstack hdg
  rcases hK m meth c ⟨T.setVm vm₁, locs, cells, slots⟩ { g with stack := rest } (.invokevirtual index) mk (Value.ref b :: argsL).toArray X₁ hg hsize hdg hW (X₁.named hnamed) (hpre vm₁ X₁.warmed) with ⟨v, B, X', hpost, hsteps⟩ | ⟨q, B, X', hpost, hsteps⟩
  · exact Or.inl ⟨v, vm₁, B, X₁.warmed, X', hpost, fun target h => hstep₁ _ fun acts => by rw [doInvoke_state]; exact hsteps.trans h⟩
  · exact Or.inr ⟨q, vm₁, B, X₁.warmed, X', hpost, hstep₁ _ fun acts => by rw [doInvoke_state]; exact hsteps⟩
theorem vx_callS (X : Stand p l e R s m args below meth c T locs cells slots) (hexec : p.tables.exec = Jvm.exec) {own : String} {index : Nat} {y : MethodName} {bytes : ByteArray} {maxL : Nat} {ret : Option FieldType}
    (hown : s.vm.findClass own = some m.cls) (hlink : (Cond.methodLink own index y).before args s = true) (hstat : (Cond.static y).before args s = true) (hinit : (Cond.initialized y.cls).before args s = true)
    (hcode : (Cond.code y bytes maxL ret).before args s = true) (hy : y.cls ≠ "java/lang/invoke/MethodHandle" ∧ y.cls ≠ "java/lang/invoke/VarHandle")
    {W9 : Nat} {Pre : Pt → Array Value → Prop} {Post : Pt → Array Value → Option Value → Pt → Prop} {PostX : Pt → Array Value → Addr → Pt → Prop} (hK : vx_Back l R p e below s args y 3 W9 Pre Post PostX)
    {g : JFrame} (hg : g.method = m) (hsize : g.locals.size = c.maxLocals) {argsL rest : List Value} (hlen : ∀ sig, parseMethodDescriptor y.desc = some sig → argsL.length = sig.parameters.length)
    (hstack : g.stack = argsL.reverse ++ rest) (hW : 2 * g.monitorRoom + (rest.map fun v => v.category).sum ≤ W9) (hdg : decode c.code g.pc = .ok (.invokestatic index, 3))
    (hpre : ∀ vm₁, s.WarmedH vm₁ → Pre ⟨T.setVm vm₁, locs, cells, slots⟩ argsL.toArray) :
    (∃ (v : Option Value) (vm₁ : Vm) (B : Pt), s.WarmedH vm₁ ∧ Stand p l e R s m args below meth c B.U B.locs B.cells B.slots ∧ Post ⟨T.setVm vm₁, locs, cells, slots⟩ argsL.toArray v B ∧
      ∀ target, Steps p.tables e below (B.U.setTop { g with pc := g.pc + 3, stack := v.toList ++ rest }) target → Steps p.tables e below (T.setTop g) target) ∨
    (∃ (q : Addr) (vm₁ : Vm) (B : Pt), s.WarmedH vm₁ ∧ Stand p l e R s m args below meth c B.U B.locs B.cells B.slots ∧ PostX ⟨T.setVm vm₁, locs, cells, slots⟩ argsL.toArray q B ∧
      Steps p.tables e below (T.setTop g) ((B.U.setTop { g with stack := rest }).pushFrame (.throwing q))) := by
  obtain ⟨mk, hnamed⟩ := Cond.code_named hcode
  obtain ⟨methM, cM, hmethM, -, -, -, -, -, -, hsigM⟩ := Cond.code_spec hnamed hcode
  have hstatic : methM.isStatic = true := Cond.static_spec hnamed hmethM hstat
  obtain ⟨kP, hkP, -⟩ := className_of_methodNamed hnamed
  have hinitP : kP.init = .initialized := Cond.initialized_spec (findClass_of_methodNamed hnamed) hkP hinit
  obtain ⟨vm₁, X₁, hstep₁⟩ := X.invokestatic hexec hown hlink hnamed hmethM hstatic hkP hinitP hy (g := g) hg (argsL := argsL) (rest := rest) (hlen _ hsigM) hstack hdg
  rcases hK m meth c ⟨T.setVm vm₁, locs, cells, slots⟩ { g with stack := rest } (.invokestatic index) mk argsL.toArray X₁ hg hsize hdg hW (X₁.named hnamed) (hpre vm₁ X₁.warmed) with ⟨v, B, X', hpost, hsteps⟩ | ⟨q, B, X', hpost, hsteps⟩
  · exact Or.inl ⟨v, vm₁, B, X₁.warmed, X', hpost, fun target h => hstep₁ _ fun acts => by rw [doInvoke_state]; exact hsteps.trans h⟩
  · exact Or.inr ⟨q, vm₁, B, X₁.warmed, X', hpost, hstep₁ _ fun acts => by rw [doInvoke_state]; exact hsteps⟩
end Calls
theorem vx_cls {s : State} {T : State} {vm₁ : Vm} {E : String} {k : ClassId} (hW : s.WarmedH vm₁) (h : (T.setVm vm₁).vm.findClass E = some k) : s.vm.findClass E = some k := by
  have h1 : vm₁.findClass E = some k := h
  rw [hW.alike.findClass] at h1
  exact h1
/-- the method's frame g, with q thrown over it -/
def vx_W (p : Program) (l : Launch) (e : Env) (R : Room) (s : State) (m : MethodId) (args : Array Value) (below : List Frame) (meth : Method) (c : Code) (H : Heap) (locs : List Loc) (cells slots : Nat) (Q : State → Prop) (g : JFrame) (q : Addr) : Prop :=
  ∀ T : State, T.heap = H → Stand p l e R s m args below meth c T locs cells slots → ∃ t, Steps p.tables e below ((T.setTop g).pushFrame (.throwing q)) t ∧ Q t
def vx_Run (p : Program) (l : Launch) (e : Env) (R : Room) (s : State) (m : MethodId) (args : Array Value) (below : List Frame) (meth : Method) (c : Code) (H : Heap) (locs : List Loc) (cells slots mc ms : Nat) (g : JFrame) (rest : List Value) (Qa : State → Outcome → State → Prop) (XC : String → State → State → Prop) (free : Addr → Prop) : Prop :=
  ∀ T : State, T.heap = H → Stand p l e R s m args below meth c T locs cells slots →
    (∃ (v : Option Value) (st₀ t T' : State) (L : List Loc), st₀.heap = H ∧ Stand p l e R s m args below meth c T' (locs ++ L) (cells + mc) (slots + ms) ∧ (∀ q ∈ L, free q.base) ∧ T'.heap = t.heap ∧ T'.vm = t.vm ∧ Qa st₀ (.returned v) t ∧
      Goes p e below T g T' { g with pc := g.pc + 3, stack := v.toList ++ rest }) ∨
    (∃ (q : Addr) (st₀ t T' : State) (L : List Loc) (E : String) (ce : Cell), st₀.heap = H ∧ Stand p l e R s m args below meth c T' (locs ++ L) (cells + mc) (slots + ms) ∧ (∀ z ∈ L, free z.base) ∧ T'.heap = t.heap ∧ T'.vm = t.vm ∧ XC E st₀ t ∧ t.heap[q]? = some ce ∧ ce.vm = .none ∧ s.vm.findClass E = some ce.cls ∧
      Steps p.tables e below (T.setTop g) ((T'.setTop { g with stack := rest }).pushFrame (.throwing q)))
def vx_X {S : Type} (px : S → Prop) (B : String → S → State → Prop) (A : Nat → Prop) : String → State → State → Prop := fun E st t => ∃ u : S, px u ∧ B E u t ∧ va_F A st t
section Runs
variable {p : Program} {l : Launch} {e : Env} {R : Room} {s : State} {m : MethodId} {args : Array Value} {below : List Frame} {meth : Method} {c : Code} {H : Heap} {locs : List Loc} {cells slots : Nat}
variable {y : MethodName} {bytes cc : ByteArray} {maxL nL mc ms n index : Nat} {ret : Option FieldType} {ws : List Cond} {rm : Room} {Pc : Array Value → State → Prop} {Qc : Array Value → State → Outcome → State → Prop} {XC : String → State → State → Prop} {free : Addr → Prop} {Ts : List Cond} {own C : String} {b : Addr} {As rest : List Value} {g : JFrame}
theorem vx_callBack (cb : CallB R s args own index y bytes maxL ret ws rm mc ms n) (hM : vx_Met l y ws rm Pc Qc XC mc ms free) (hbl : FrameBlind Pc) : vx_Back l R p e below s args y 3 8 (PreOf R mc ms Pc) (PostOf Qc mc ms free) (vx_Post XC mc ms free) := by
  obtain ⟨hrc, hrs, hfr, hlo, hws, hcw, -, hini, -⟩ := cb
  exact vx_back (bytes := bytes) (maxL := maxL) (ret := ret) hM hbl hrc hrs hfr hlo hws hcw (fun a' U hW => word_at hW (Or.inl (by first | rfl | simp [Cond.onTables, Cond.keeps, Cond.steady])) hini)
theorem vx_runV (S : CallFix p m c cc nL s args Ts own) (hM : vx_Met l y ws rm Pc Qc XC mc ms free) (cw : CallW R s args own C index y bytes maxL ret ws rm mc ms n) (hp : PreV s H C b Pc As)
    (hg : g.method = m) (hn : As.length = n) (hsize : g.locals.size = nL) (hstack : g.stack = As.reverse ++ .ref b :: rest) (hW : 2 * g.monitorRoom + (rest.map fun v => v.category).sum ≤ 8) (hdg : decode cc g.pc = .ok (.invokevirtual index, 3)) (hf : cells + mc ≤ R.cells ∧ slots + ms ≤ R.slots) :
    vx_Run p l e R s m args below meth c H locs cells slots mc ms g rest (Qc (Value.ref b :: As).toArray) XC free := by
  have hK : vx_Back l R p e below s args y 3 8 (PreOf R mc ms Pc) (PostOf Qc mc ms free) (vx_Post XC mc ms free) := vx_callBack cw.1 hM hp.1
  obtain ⟨⟨-, -, -, -, -, -, hcode, -, hy, hlen, hl⟩, hin, hse⟩ := cw
  obtain ⟨hx, hb, hml, ho, -⟩ := S
  obtain ⟨-, ⟨cellB, hcB, hoB, hclB⟩, hPc⟩ := hp
  intro T hT X
  rcases vx_callV X hx (C := C) (bytes := bytes) (maxL := maxL) (ret := ret) ho hl hin hse hcode hy hK (by rw [hT]; exact hcB) hoB hclB hg (hsize.trans hml.symm) (argsL := As) (rest := rest) (fun sig h => hn.trans (hlen sig h)) hstack hW (by rw [hb]; exact hdg)
    (fun vm₁ hW₁ => ⟨hf.1, hf.2, hPc (T.setVm vm₁) hT hW₁⟩) with ⟨v, vm₁, ⟨U', l2, c2, s2⟩, hW₁, X', ⟨g', mk, t, L, e1, e2, hq, h1, hL, h2, h3⟩, st⟩ | ⟨q, vm₁, ⟨U', l2, c2, s2⟩, hW₁, X', ⟨g', mk, t, L, E, ce, e1, e2, hq, hce, hcv, hcl, h1, hL, h2, h3⟩, st⟩
  · dsimp only [Pt.U, Pt.locs, Pt.cells, Pt.slots] at X' e1 e2 h1 h2 h3 st
    subst h1; subst h2; subst h3
    exact Or.inl ⟨v, (T.setVm vm₁).calling g' mk (Value.ref b :: As).toArray, t, U', L, hT, X', hL, e1, e2, hq, st⟩
  · dsimp only [Pt.U, Pt.locs, Pt.cells, Pt.slots] at X' e1 e2 h1 h2 h3 st hcl
    subst h1; subst h2; subst h3
    exact Or.inr ⟨q, (T.setVm vm₁).calling g' mk (Value.ref b :: As).toArray, t, U', L, E, ce, hT, X', hL, e1, e2, hq, hce, hcv, vx_cls hW₁ hcl, st⟩
theorem vx_runS (S : CallFix p m c cc nL s args Ts own) (hM : vx_Met l y ws rm Pc Qc XC mc ms free) (cw : CallB R s args own index y bytes maxL ret ws rm mc ms n ∧ (Cond.static y).before args s = true) (hp : PreS s H Pc As)
    (hg : g.method = m) (hn : As.length = n) (hsize : g.locals.size = nL) (hstack : g.stack = As.reverse ++ rest) (hW : 2 * g.monitorRoom + (rest.map fun v => v.category).sum ≤ 8) (hdg : decode cc g.pc = .ok (.invokestatic index, 3)) (hf : cells + mc ≤ R.cells ∧ slots + ms ≤ R.slots) :
    vx_Run p l e R s m args below meth c H locs cells slots mc ms g rest (Qc As.toArray) XC free := by
  have hK : vx_Back l R p e below s args y 3 8 (PreOf R mc ms Pc) (PostOf Qc mc ms free) (vx_Post XC mc ms free) := vx_callBack cw.1 hM hp.1
  obtain ⟨⟨-, -, -, -, -, -, hcode, hini, hy, hlen, hl⟩, hstt⟩ := cw
  obtain ⟨hx, hb, hml, ho, -⟩ := S
  intro T hT X
  rcases vx_callS X hx (bytes := bytes) (maxL := maxL) (ret := ret) ho hl hstt hini hcode hy hK hg (hsize.trans hml.symm) (argsL := As) (rest := rest) (fun sig h => hn.trans (hlen sig h)) hstack hW (by rw [hb]; exact hdg)
    (fun vm₁ hW₁ => ⟨hf.1, hf.2, hp.2 (T.setVm vm₁) hT hW₁⟩) with ⟨v, vm₁, ⟨U', l2, c2, s2⟩, hW₁, X', ⟨g', mk, t, L, e1, e2, hq, h1, hL, h2, h3⟩, st⟩ | ⟨q, vm₁, ⟨U', l2, c2, s2⟩, hW₁, X', ⟨g', mk, t, L, E, ce, e1, e2, hq, hce, hcv, hcl, h1, hL, h2, h3⟩, st⟩
  · dsimp only [Pt.U, Pt.locs, Pt.cells, Pt.slots] at X' e1 e2 h1 h2 h3 st
    subst h1; subst h2; subst h3
    exact Or.inl ⟨v, (T.setVm vm₁).calling g' mk As.toArray, t, U', L, hT, X', hL, e1, e2, hq, st⟩
  · dsimp only [Pt.U, Pt.locs, Pt.cells, Pt.slots] at X' e1 e2 h1 h2 h3 st hcl
    subst h1; subst h2; subst h3
    exact Or.inr ⟨q, (T.setVm vm₁).calling g' mk As.toArray, t, U', L, E, ce, hT, X', hL, e1, e2, hq, hce, hcv, vx_cls hW₁ hcl, st⟩
end Runs
section Rows
variable {p : Program} {l : Launch} {e : Env} {R : Room} {s : State} {m : MethodId} {args : Array Value} {below : List Frame} {meth : Method} {c : Code} {H : Heap} {locs : List Loc} {cells slots : Nat} {Q : State → Prop}
variable {mc ms : Nat} {free : Addr → Prop} {A0 A1 : Nat → Prop} {H0 : Heap} {a : Array Value} {pc : Nat} {ls : Array Slot} {st0 rest : List Value}
theorem vx_keep {st₀ t T' : State} {L : List Loc} (h0 : st₀.heap = H) (e1 : T'.heap = t.heap) (hS : va_S A0 H0 H locs) (hA : ∀ q, q < H.size → A1 q → A0 q) (hf : ∀ q, free q → A0 q) (hL : ∀ q ∈ L, free q.base) (hF : va_F A1 st₀ t) :
    H.size ≤ T'.heap.size ∧ (∀ q : Nat, q < H.size → ¬ A1 q → T'.heap[q]? = H[q]?) ∧ va_S A0 H0 T'.heap (locs ++ L) := by
  obtain ⟨hz, hk⟩ := hF
  rw [h0] at hz hk
  exact ⟨by rw [e1]; exact hz, fun q h1 h2 => by rw [e1]; exact hk q h1 h2,
    ⟨Nat.le_trans hS.1 (by rw [e1]; exact hz), fun q h1 h2 => by rw [e1, hk q (Nat.lt_of_lt_of_le h1 hS.1) (fun z => h2 (hA q (Nat.lt_of_lt_of_le h1 hS.1) z))]; exact hS.2.1 q h1 h2, fun q hq => by
      rcases List.mem_append.mp hq with h | h
      · exact hS.2.2 q h
      · exact hf _ (hL q h)⟩⟩
theorem vx_calli {S SX : Type} {post : Int32 → S → Prop} {px : SX → Prop} {B : S → State → Prop} {BX : String → SX → State → Prop} {AX : Nat → Prop} (hr : vx_Run p l e R s m args below meth c H locs cells slots mc ms (F0 m pc ls st0) rest (va_Qi post B A1 a) (vx_X px BX AX) free) (hS : va_S A0 H0 H locs) (hA : ∀ q, q < H.size → A1 q → A0 q) (hf : ∀ q, free q → A0 q) (hAX : ∀ q, q < H.size → AX q → A0 q)
    (kx : ∀ (E : String) (ce : Cell) (q9 : Addr) (u : SX) (t : State) (H1 : Heap) (locs1 : List Loc), t.heap = H1 → s.vm.Alike t.vm → px u → BX E u t → H.size ≤ H1.size → (∀ q : Nat, q < H.size → ¬ AX q → H1[q]? = H[q]?) → va_S A0 H0 H1 locs1 → H1[q9]? = some ce → ce.vm = .none → s.vm.findClass E = some ce.cls → vx_W p l e R s m args below meth c H1 locs1 (cells + mc) (slots + ms) Q (F0 m pc ls rest) q9)
    (kk : ∀ (r : Int32) (u : S) (t : State) (H1 : Heap) (locs1 : List Loc), t.heap = H1 → s.vm.Alike t.vm → post r u → B u t → H.size ≤ H1.size → (∀ q : Nat, q < H.size → ¬ A1 q → H1[q]? = H[q]?) → va_S A0 H0 H1 locs1 → W p l e R s m args below meth c H1 locs1 (cells + mc) (slots + ms) Q (F0 m (pc + 3) ls (.int r :: rest))) : W p l e R s m args below meth c H locs cells slots Q (F0 m pc ls st0) := by
  intro T hT X
  rcases hr T hT X with ⟨v, st₀, t, T', L, h0, X', hL, e1, e2, ⟨⟨r, u, hv, hp, hb⟩, hF⟩, st⟩ | ⟨q, st₀, t, T', L, E, ce, h0, X', hL, e1, e2, ⟨u, hp, hb, hF⟩, hce, hcv, hcl, st⟩
  · cases hv
    obtain ⟨k1, k2, k3⟩ := vx_keep h0 e1 hS hA hf hL hF
    obtain ⟨t2, a1, b1⟩ := kk r u t T'.heap (locs ++ L) e1.symm (by rw [← e2]; exact X'.warmed.alike) hp hb k1 k2 k3 T' rfl X'
    exact ⟨t2, st t2 a1, b1⟩
  · obtain ⟨k1, k2, k3⟩ := vx_keep h0 e1 hS hAX hf hL hF
    obtain ⟨t2, a1, b1⟩ := kx E ce q u t T'.heap (locs ++ L) e1.symm (by rw [← e2]; exact X'.warmed.alike) hp hb k1 k2 k3 (by rw [e1]; exact hce) hcv hcl T' rfl X'
    exact ⟨t2, st.trans a1, b1⟩
theorem vx_calll {S SX : Type} {post : Int64 → S → Prop} {px : SX → Prop} {B : S → State → Prop} {BX : String → SX → State → Prop} {AX : Nat → Prop} (hr : vx_Run p l e R s m args below meth c H locs cells slots mc ms (F0 m pc ls st0) rest (va_Ql post B A1 a) (vx_X px BX AX) free) (hS : va_S A0 H0 H locs) (hA : ∀ q, q < H.size → A1 q → A0 q) (hf : ∀ q, free q → A0 q) (hAX : ∀ q, q < H.size → AX q → A0 q)
    (kx : ∀ (E : String) (ce : Cell) (q9 : Addr) (u : SX) (t : State) (H1 : Heap) (locs1 : List Loc), t.heap = H1 → s.vm.Alike t.vm → px u → BX E u t → H.size ≤ H1.size → (∀ q : Nat, q < H.size → ¬ AX q → H1[q]? = H[q]?) → va_S A0 H0 H1 locs1 → H1[q9]? = some ce → ce.vm = .none → s.vm.findClass E = some ce.cls → vx_W p l e R s m args below meth c H1 locs1 (cells + mc) (slots + ms) Q (F0 m pc ls rest) q9)
    (kk : ∀ (r : Int64) (u : S) (t : State) (H1 : Heap) (locs1 : List Loc), t.heap = H1 → s.vm.Alike t.vm → post r u → B u t → H.size ≤ H1.size → (∀ q : Nat, q < H.size → ¬ A1 q → H1[q]? = H[q]?) → va_S A0 H0 H1 locs1 → W p l e R s m args below meth c H1 locs1 (cells + mc) (slots + ms) Q (F0 m (pc + 3) ls (.long r :: rest))) : W p l e R s m args below meth c H locs cells slots Q (F0 m pc ls st0) := by
  intro T hT X
  rcases hr T hT X with ⟨v, st₀, t, T', L, h0, X', hL, e1, e2, ⟨⟨r, u, hv, hp, hb⟩, hF⟩, st⟩ | ⟨q, st₀, t, T', L, E, ce, h0, X', hL, e1, e2, ⟨u, hp, hb, hF⟩, hce, hcv, hcl, st⟩
  · cases hv
    obtain ⟨k1, k2, k3⟩ := vx_keep h0 e1 hS hA hf hL hF
    obtain ⟨t2, a1, b1⟩ := kk r u t T'.heap (locs ++ L) e1.symm (by rw [← e2]; exact X'.warmed.alike) hp hb k1 k2 k3 T' rfl X'
    exact ⟨t2, st t2 a1, b1⟩
  · obtain ⟨k1, k2, k3⟩ := vx_keep h0 e1 hS hAX hf hL hF
    obtain ⟨t2, a1, b1⟩ := kx E ce q u t T'.heap (locs ++ L) e1.symm (by rw [← e2]; exact X'.warmed.alike) hp hb k1 k2 k3 (by rw [e1]; exact hce) hcv hcl T' rfl X'
    exact ⟨t2, st.trans a1, b1⟩
theorem vx_callf {S SX : Type} {post : UInt32 → S → Prop} {px : SX → Prop} {B : S → State → Prop} {BX : String → SX → State → Prop} {AX : Nat → Prop} (hr : vx_Run p l e R s m args below meth c H locs cells slots mc ms (F0 m pc ls st0) rest (va_Qf post B A1 a) (vx_X px BX AX) free) (hS : va_S A0 H0 H locs) (hA : ∀ q, q < H.size → A1 q → A0 q) (hf : ∀ q, free q → A0 q) (hAX : ∀ q, q < H.size → AX q → A0 q)
    (kx : ∀ (E : String) (ce : Cell) (q9 : Addr) (u : SX) (t : State) (H1 : Heap) (locs1 : List Loc), t.heap = H1 → s.vm.Alike t.vm → px u → BX E u t → H.size ≤ H1.size → (∀ q : Nat, q < H.size → ¬ AX q → H1[q]? = H[q]?) → va_S A0 H0 H1 locs1 → H1[q9]? = some ce → ce.vm = .none → s.vm.findClass E = some ce.cls → vx_W p l e R s m args below meth c H1 locs1 (cells + mc) (slots + ms) Q (F0 m pc ls rest) q9)
    (kk : ∀ (r : UInt32) (u : S) (t : State) (H1 : Heap) (locs1 : List Loc), t.heap = H1 → s.vm.Alike t.vm → post r u → B u t → H.size ≤ H1.size → (∀ q : Nat, q < H.size → ¬ A1 q → H1[q]? = H[q]?) → va_S A0 H0 H1 locs1 → W p l e R s m args below meth c H1 locs1 (cells + mc) (slots + ms) Q (F0 m (pc + 3) ls (.float r :: rest))) : W p l e R s m args below meth c H locs cells slots Q (F0 m pc ls st0) := by
  intro T hT X
  rcases hr T hT X with ⟨v, st₀, t, T', L, h0, X', hL, e1, e2, ⟨⟨r, u, hv, hp, hb⟩, hF⟩, st⟩ | ⟨q, st₀, t, T', L, E, ce, h0, X', hL, e1, e2, ⟨u, hp, hb, hF⟩, hce, hcv, hcl, st⟩
  · cases hv
    obtain ⟨k1, k2, k3⟩ := vx_keep h0 e1 hS hA hf hL hF
    obtain ⟨t2, a1, b1⟩ := kk r u t T'.heap (locs ++ L) e1.symm (by rw [← e2]; exact X'.warmed.alike) hp hb k1 k2 k3 T' rfl X'
    exact ⟨t2, st t2 a1, b1⟩
  · obtain ⟨k1, k2, k3⟩ := vx_keep h0 e1 hS hAX hf hL hF
    obtain ⟨t2, a1, b1⟩ := kx E ce q u t T'.heap (locs ++ L) e1.symm (by rw [← e2]; exact X'.warmed.alike) hp hb k1 k2 k3 (by rw [e1]; exact hce) hcv hcl T' rfl X'
    exact ⟨t2, st.trans a1, b1⟩
theorem vx_calld {S SX : Type} {post : UInt64 → S → Prop} {px : SX → Prop} {B : S → State → Prop} {BX : String → SX → State → Prop} {AX : Nat → Prop} (hr : vx_Run p l e R s m args below meth c H locs cells slots mc ms (F0 m pc ls st0) rest (va_Qd post B A1 a) (vx_X px BX AX) free) (hS : va_S A0 H0 H locs) (hA : ∀ q, q < H.size → A1 q → A0 q) (hf : ∀ q, free q → A0 q) (hAX : ∀ q, q < H.size → AX q → A0 q)
    (kx : ∀ (E : String) (ce : Cell) (q9 : Addr) (u : SX) (t : State) (H1 : Heap) (locs1 : List Loc), t.heap = H1 → s.vm.Alike t.vm → px u → BX E u t → H.size ≤ H1.size → (∀ q : Nat, q < H.size → ¬ AX q → H1[q]? = H[q]?) → va_S A0 H0 H1 locs1 → H1[q9]? = some ce → ce.vm = .none → s.vm.findClass E = some ce.cls → vx_W p l e R s m args below meth c H1 locs1 (cells + mc) (slots + ms) Q (F0 m pc ls rest) q9)
    (kk : ∀ (r : UInt64) (u : S) (t : State) (H1 : Heap) (locs1 : List Loc), t.heap = H1 → s.vm.Alike t.vm → post r u → B u t → H.size ≤ H1.size → (∀ q : Nat, q < H.size → ¬ A1 q → H1[q]? = H[q]?) → va_S A0 H0 H1 locs1 → W p l e R s m args below meth c H1 locs1 (cells + mc) (slots + ms) Q (F0 m (pc + 3) ls (.double r :: rest))) : W p l e R s m args below meth c H locs cells slots Q (F0 m pc ls st0) := by
  intro T hT X
  rcases hr T hT X with ⟨v, st₀, t, T', L, h0, X', hL, e1, e2, ⟨⟨r, u, hv, hp, hb⟩, hF⟩, st⟩ | ⟨q, st₀, t, T', L, E, ce, h0, X', hL, e1, e2, ⟨u, hp, hb, hF⟩, hce, hcv, hcl, st⟩
  · cases hv
    obtain ⟨k1, k2, k3⟩ := vx_keep h0 e1 hS hA hf hL hF
    obtain ⟨t2, a1, b1⟩ := kk r u t T'.heap (locs ++ L) e1.symm (by rw [← e2]; exact X'.warmed.alike) hp hb k1 k2 k3 T' rfl X'
    exact ⟨t2, st t2 a1, b1⟩
  · obtain ⟨k1, k2, k3⟩ := vx_keep h0 e1 hS hAX hf hL hF
    obtain ⟨t2, a1, b1⟩ := kx E ce q u t T'.heap (locs ++ L) e1.symm (by rw [← e2]; exact X'.warmed.alike) hp hb k1 k2 k3 (by rw [e1]; exact hce) hcv hcl T' rfl X'
    exact ⟨t2, st.trans a1, b1⟩
theorem vx_callv {S SX : Type} {post : S → Prop} {px : SX → Prop} {B : S → State → Prop} {BX : String → SX → State → Prop} {AX : Nat → Prop} (hr : vx_Run p l e R s m args below meth c H locs cells slots mc ms (F0 m pc ls st0) rest (va_Qv post B A1 a) (vx_X px BX AX) free) (hS : va_S A0 H0 H locs) (hA : ∀ q, q < H.size → A1 q → A0 q) (hf : ∀ q, free q → A0 q) (hAX : ∀ q, q < H.size → AX q → A0 q)
    (kx : ∀ (E : String) (ce : Cell) (q9 : Addr) (u : SX) (t : State) (H1 : Heap) (locs1 : List Loc), t.heap = H1 → s.vm.Alike t.vm → px u → BX E u t → H.size ≤ H1.size → (∀ q : Nat, q < H.size → ¬ AX q → H1[q]? = H[q]?) → va_S A0 H0 H1 locs1 → H1[q9]? = some ce → ce.vm = .none → s.vm.findClass E = some ce.cls → vx_W p l e R s m args below meth c H1 locs1 (cells + mc) (slots + ms) Q (F0 m pc ls rest) q9)
    (kk : ∀ (u : S) (t : State) (H1 : Heap) (locs1 : List Loc), t.heap = H1 → s.vm.Alike t.vm → post u → B u t → H.size ≤ H1.size → (∀ q : Nat, q < H.size → ¬ A1 q → H1[q]? = H[q]?) → va_S A0 H0 H1 locs1 → W p l e R s m args below meth c H1 locs1 (cells + mc) (slots + ms) Q (F0 m (pc + 3) ls (rest))) : W p l e R s m args below meth c H locs cells slots Q (F0 m pc ls st0) := by
  intro T hT X
  rcases hr T hT X with ⟨v, st₀, t, T', L, h0, X', hL, e1, e2, ⟨⟨u, hv, hp, hb⟩, hF⟩, st⟩ | ⟨q, st₀, t, T', L, E, ce, h0, X', hL, e1, e2, ⟨u, hp, hb, hF⟩, hce, hcv, hcl, st⟩
  · cases hv
    obtain ⟨k1, k2, k3⟩ := vx_keep h0 e1 hS hA hf hL hF
    obtain ⟨t2, a1, b1⟩ := kk u t T'.heap (locs ++ L) e1.symm (by rw [← e2]; exact X'.warmed.alike) hp hb k1 k2 k3 T' rfl X'
    exact ⟨t2, st t2 a1, b1⟩
  · obtain ⟨k1, k2, k3⟩ := vx_keep h0 e1 hS hAX hf hL hF
    obtain ⟨t2, a1, b1⟩ := kx E ce q u t T'.heap (locs ++ L) e1.symm (by rw [← e2]; exact X'.warmed.alike) hp hb k1 k2 k3 (by rw [e1]; exact hce) hcv hcl T' rfl X'
    exact ⟨t2, st.trans a1, b1⟩
/-- caught by the row x of this method's table; the rows ahead don't take it -/
theorem vx_catch {own name : String} {E : String} {ce : Cell} {q : Addr} (hown : s.vm.findClass own = some m.cls) (pre : List ExceptionTableEntry) (x : ExceptionTableEntry) (suf : List ExceptionTableEntry) (hsplit : c.exceptionTable.toList = pre ++ x :: suf)
    (hpass : ∀ z ∈ pre, covers z pc = false ∨ (z.catchType ≠ 0 ∧ ∃ nm : String, (Cond.classLink own z.catchType nm).before args s = true ∧ va_Nc E nm s)) (hx : covers x pc = true) (h0 : x.catchType ≠ 0)
    (hlink : (Cond.classLink own x.catchType name).before args s = true) (hcast : (Cond.castable E name).before args s = true) (hcell : H[q]? = some ce) (hv : ce.vm = .none) (hcl : s.vm.findClass E = some ce.cls)
    (kk : W p l e R s m args below meth c H locs cells slots Q (F0 m x.handlerPc ls [.ref q])) : vx_W p l e R s m args below meth c H locs cells slots Q (F0 m pc ls rest) q := by
  intro T hT X
  have hpl : e.platform.magicAccessors = ({} : Platform).magicAccessors := by rw [X.admits.platform]
  obtain ⟨c3, c4, hc3, hc4, hasg⟩ := Cond.castable_spec hcast
  cases Option.some.inj (hc3.symm.trans hcl)
  obtain ⟨c5, hc5, hcl5⟩ := Cond.classLink_spec hown hlink e.platform hpl
  cases Option.some.inj (hc4.symm.trans hc5)
  obtain ⟨vm', X', st⟩ := X.thenCaughtThrough q (g := F0 m pc ls rest) rfl (Steps.refl _) (by rw [hT]; exact hcell) (by rw [hv]; rfl) (by obtain ⟨k9, h9, -⟩ := Vm.findClass_spec hcl; exact ⟨k9, h9⟩) pre x suf hsplit
    (fun z hz => by
      rcases hpass z hz with h | ⟨hz0, nm, hl1, hn1⟩
      · exact Or.inl h
      · obtain ⟨c6, hc6, hcl6⟩ := Cond.classLink_spec hown hl1 e.platform hpl
        obtain ⟨a8, b8, h1, h2, h3⟩ := hn1
        cases Option.some.inj (h1.symm.trans hcl)
        cases Option.some.inj (h2.symm.trans hc6)
        exact Or.inr ⟨hz0, _, hcl6, h3⟩) hx (Or.inr ⟨h0, c4, hcl5, hasg⟩)
  obtain ⟨t, a1, b1⟩ := kk (T.setVm vm') hT X'
  exact ⟨t, st.trans a1, b1⟩
end Rows
section Ends
variable {p : Program} {l : Launch} {e : Env} {R : Room} {s : State} {m : MethodId} {args : Array Value} {below : List Frame} {meth : Method} {c : Code} {H : Heap} {locs : List Loc} {cells slots : Nat} {Q : State → Prop}
variable {mc ms : Nat} {free : Addr → Prop} {A0 A1 : Nat → Prop} {H0 : Heap} {a : Array Value} {ls : Array Slot} {st0 rest : List Value}
variable {Qc : Array Value → State → Outcome → State → Prop} {XC : String → State → State → Prop}
/-- what a body that may throw owes at its end -/
def vx_MQ (below : List Frame) (Qc : Array Value → State → Outcome → State → Prop) (XC : String → State → State → Prop) (a : Array Value) (s : State) (mc ms : Nat) (free : Addr → Prop) : State → Prop := fun t =>
  ∃ o, t.status = .running ∧ Ended t below o ∧ vx_Q Qc XC mc ms free a s o t
theorem vx_ret {g : JFrame} {mc ms : Nat} (k : W p l e R s m args below meth c H locs cells slots (MQ below Qc args s mc ms free) g) : W p l e R s m args below meth c H locs cells slots (vx_MQ below Qc XC args s mc ms free) g := by
  intro T hT X
  obtain ⟨t, a1, o, b1, b2, b3, b4⟩ := k T hT X
  exact ⟨t, a1, o, b1, b2, Or.inl ⟨b3, b4⟩⟩
/-- not caught here: it goes on to the caller -/
theorem vx_widen {g : JFrame} {q : Addr} {k n : Nat} (h1 : cells ≤ k) (h2 : slots ≤ n) (kk : vx_W p l e R s m args below meth c H locs k n Q g q) : vx_W p l e R s m args below meth c H locs cells slots Q g q := fun T hT X => kk T hT (stand_widen X h1 h2)
theorem vx_out {pc : Nat} {E : String} {ce : Cell} {q : Addr} {mc ms : Nat} (hout : ∀ x ∈ c.exceptionTable.toList, covers x pc = false) (hlocks : meth.locks = false) (hcell : H[q]? = some ce) (hv : ce.vm = .none) (hcl : s.vm.findClass E = some ce.cls)
    (hx : ∀ t : State, t.heap = H → s.vm.Alike t.vm → XC E s t) (hf : ∀ z ∈ locs, free z.base) (hc : cells ≤ mc) (hs : slots ≤ ms) :
    vx_W p l e R s m args below meth c H locs cells slots (vx_MQ below Qc XC args s mc ms free) (F0 m pc ls rest) q := by
  intro T hT X
  obtain ⟨st1, hrun, hend, hW, hsm⟩ := X.leaveThrown q (g := F0 m pc ls rest) rfl rfl rfl hout hlocks
  have hcell9 : (T.setFrames (.throwing q :: below)).heap[q]? = some ce := by
    show T.heap[q]? = some ce
    rw [hT]; exact hcell
  exact ⟨_, st1, .threw q, hrun, hend, Or.inr ⟨q, rfl, E, ce, locs, hx _ hT hW.alike, hcell9, hv, hcl, hW, hsm.mono hc hs, hf⟩⟩
theorem vx_frame {U : State} {k n : Nat} (h : s.sameButNew ({ U with vm := s.vm } : State) locs k n) : s.heap.size ≤ U.heap.size ∧ ∀ q : Nat, q < s.heap.size → (∀ z ∈ locs, z.base ≠ q) → U.heap[q]? = s.heap[q]? := by
  obtain ⟨-, h2, -, -, -, h6⟩ := h
  refine ⟨h2, fun q hq hz => ?_⟩
  obtain ⟨c9, e1, e2, e3, e4⟩ := h6 q _ (Array.getElem?_eq_getElem hq)
  have hs : c9.slots = (s.heap[q]).slots := Array.ext_getElem? fun i => e4 i fun hm => hz _ hm rfl
  have h9 : c9 = s.heap[q] := by
    rw [hs] at e2
    exact e2
  have e5 : U.heap[q]? = some c9 := e1
  rw [e5, h9, Array.getElem?_eq_getElem hq]
/-- the words of a throw but the four that speak of the heap -/
def vx_no (w : Cond) : Bool := decide (w ≠ .isRef (.static Bundle.tN "UNASSIGNED_STACK" Bundle.steD)) && decide (w ≠ .isRef (.static Bundle.tN "SUPPRESSED_SENTINEL" Bundle.listD)) && decide (w ≠ .laysStatic Bundle.tN "UNASSIGNED_STACK" Bundle.steD) && decide (w ≠ .laysStatic Bundle.tN "SUPPRESSED_SENTINEL" Bundle.listD)
def vx_at0 (own : String) (ic : Nat) (X : String) (names : List String) : List Cond := (Bundle.ownAtoms0 own ic X names).filter vx_no
def vx_atS (own : String) (ic : Nat) (X : String) (names : List String) : List Cond := (Bundle.ownAtoms own ic X names).filter vx_no
/-- a word that the tables alone decide, or a good one -/
def vx_ot (w : Cond) : Bool := w.onTables || goodWord w
theorem vx_ot_at {args a' : Array Value} {s U : State} {w : Cond} (hW : s.WarmedH U.vm) (hvm : s.vm = U.vm) (hg : vx_ot w = true) (h : w.before args s = true) : w.before a' U = true := by
  simp only [vx_ot, Bool.or_eq_true] at hg
  rcases hg with hg | hg
  · exact va_tabs hg hvm h
  · exact word_at hW (good_of_word hg) h
/-- a list's words: the good ones out of the method's own list, the others by premises of their own -/
theorem vx_hat {args : Array Value} {s : State} {L B : List Cond} (h1 : ∀ w ∈ L.filter goodWord, w.before args s = true) (h2 : ∀ w ∈ L.filter (fun w => !goodWord w), w ∈ B) (h3 : ∀ w ∈ B, w.before args s = true) : ∀ w ∈ L, w.before args s = true := by
  intro w hw
  by_cases g : goodWord w = true
  · exact h1 w (List.mem_filter.mpr ⟨hw, g⟩)
  · refine h3 w (h2 w (List.mem_filter.mpr ⟨hw, ?_⟩))
    show (!goodWord w) = true
    cases hgw : goodWord w
    · rfl
    · exact absurd hgw g
theorem vx_c {args : Array Value} {s : State} {w : Cond} {B : List Cond} (h : w.before args s = true) (t : ∀ w ∈ B, w.before args s = true) : ∀ w' ∈ w :: B, w'.before args s = true := fun w' h' => (List.mem_cons.mp h').elim (fun e => by rw [e]; exact h) (t w')
theorem vx_n {args : Array Value} {s : State} : ∀ w ∈ ([] : List Cond), w.before args s = true := fun _ h => nomatch h
theorem vx_own {args : Array Value} {s : State} {L : List Cond} (h1 : ∀ w ∈ L.filter vx_no, w.before args s = true)
    (hU : (Cond.isRef (.static Bundle.tN "UNASSIGNED_STACK" Bundle.steD)).before args s = true) (hN : (Cond.isRef (.static Bundle.tN "SUPPRESSED_SENTINEL" Bundle.listD)).before args s = true)
    (lU : (Cond.laysStatic Bundle.tN "UNASSIGNED_STACK" Bundle.steD).before args s = true) (lN : (Cond.laysStatic Bundle.tN "SUPPRESSED_SENTINEL" Bundle.listD).before args s = true) : ∀ w ∈ L, w.before args s = true := by
  intro w hw
  by_cases e1 : w = .isRef (.static Bundle.tN "UNASSIGNED_STACK" Bundle.steD)
  · rw [e1]; exact hU
  · by_cases e2 : w = .isRef (.static Bundle.tN "SUPPRESSED_SENTINEL" Bundle.listD)
    · rw [e2]; exact hN
    · by_cases e3 : w = .laysStatic Bundle.tN "UNASSIGNED_STACK" Bundle.steD
      · rw [e3]; exact lU
      · by_cases e4 : w = .laysStatic Bundle.tN "SUPPRESSED_SENTINEL" Bundle.listD
        · rw [e4]; exact lN
        · exact h1 w (List.mem_filter.mpr ⟨hw, by unfold vx_no; rw [decide_eq_true e1, decide_eq_true e2, decide_eq_true e3, decide_eq_true e4]; rfl⟩)
/-- where a static field lies, its class's statics cell in H -/
def vx_L (C n d : String) (A : Nat → Prop) (U : State) (H : Heap) : Prop := ∃ (c : ClassId) (k : Class) (i : Nat) (f : Field) (a : Nat) (cell : Cell), U.vm.findClass C = some c ∧ U.fieldFound? C n d = some (c, k, i, f) ∧ f.isStatic = true ∧ k.statics = some a ∧ H[a]? = some cell ∧ cell.vm.isStatics = true ∧ cell.cls = c ∧ f.slot < cell.slots.size ∧ k.staticTypes[f.slot]? = some f.type ∧ ¬ A a
theorem vx_L.moved {C n d : String} {A : Nat → Prop} {u U : State} {H : Heap} (hvm : u.vm.Alike U.vm) (h : vx_L C n d A u H) : vx_L C n d A U H := by
  obtain ⟨c, k, i, f, a, cell, h1, h2, h3, h4, h5, h6, h7, h8, h9, h10⟩ := h
  obtain ⟨k', hi', he⟩ := State.fieldFound?_setVm hvm h2
  exact ⟨c, k', i, f, a, cell, by rw [hvm.findClass]; exact h1, hi', h3, by rw [he]; exact h4, h5, h6, h7, h8, by rw [he]; exact h9, h10⟩
theorem vx_L.kept {C n d : String} {A : Nat → Prop} {U : State} {H H1 : Heap} (h : vx_L C n d A U H) (hq : ∀ a : Nat, a < H.size → ¬ A a → H1[a]? = H[a]?) : vx_L C n d A U H1 := by
  obtain ⟨c, k, i, f, a, cell, h1, h2, h3, h4, h5, h6, h7, h8, h9, h10⟩ := h
  exact ⟨c, k, i, f, a, cell, h1, h2, h3, h4, by rw [hq a (Array.getElem?_eq_some_iff.mp h5).1 h10]; exact h5, h6, h7, h8, h9, h10⟩
theorem vx_L.narrow {C n d : String} {A B : Nat → Prop} {U : State} {H : Heap} (h : vx_L C n d A U H) (hAB : ∀ q, B q → A q) : vx_L C n d B U H := by
  obtain ⟨c, k, i, f, a, cell, h1, h2, h3, h4, h5, h6, h7, h8, h9, h10⟩ := h
  exact ⟨c, k, i, f, a, cell, h1, h2, h3, h4, h5, h6, h7, h8, h9, fun z => h10 (hAB _ z)⟩
theorem vx_L.word {C n d : String} {A : Nat → Prop} {s : State} {args : Array Value} (h : vx_L C n d A s s.heap) : (Cond.laysStatic C n d).before args s = true := by
  obtain ⟨c, k, i, f, a, cell, h1, h2, h3, h4, h5, h6, h7, h8, h9, -⟩ := h
  show (Cond.laysStatic C n d).holds args s none s [] = true
  exact Cond.laysStatic_of h1 h2 h3 h4 h5 h6 h7 h8 h9
/-- .. and what it holds: null or some reference -/
def vx_Zq (C n d : String) (A : Nat → Prop) (U : State) (H : Heap) : Prop := va_Zq C n d A U H ∧ vx_L C n d A U H
theorem vx_Zq.moved {C n d : String} {A : Nat → Prop} {u U : State} {H : Heap} (hvm : u.vm.Alike U.vm) (h : vx_Zq C n d A u H) : vx_Zq C n d A U H := ⟨va_Zq.moved hvm h.1, vx_L.moved hvm h.2⟩
theorem vx_Zq.kept {C n d : String} {A : Nat → Prop} {U : State} {H H1 : Heap} (h : vx_Zq C n d A U H) (hq : ∀ a : Nat, a < H.size → ¬ A a → H1[a]? = H[a]?) : vx_Zq C n d A U H1 := ⟨va_Zq.kept h.1 hq, vx_L.kept h.2 hq⟩
theorem vx_Zq.narrow {C n d : String} {A B : Nat → Prop} {U : State} {H : Heap} (h : vx_Zq C n d A U H) (hAB : ∀ q, B q → A q) : vx_Zq C n d B U H := ⟨va_Zq.narrow h.1 hAB, vx_L.narrow h.2 hAB⟩
theorem vx_Zqof {args : Array Value} {s : State} {C n d : String} {A : Nat → Prop} (hl : (Cond.laysStatic C n d).before args s = true) (hini : (Cond.initialized C).before args s = true) (h : (Cond.isRef (.static C n d)).before args s = true) (hA : ∀ a : Nat, a < s.heap.size → ¬ A a) : vx_Zq C n d A s s.heap := by
  refine ⟨va_Zqof hl hini h hA, ?_⟩
  obtain ⟨c, k, i, f, a, cell, h1, h2, h3, h4, h5, h6, h7, h8, h9⟩ := Cond.laysStatic_spec hl
  exact ⟨c, k, i, f, a, cell, h1, h2, h3, h4, h5, h6, h7, h8, h9, hA a (Array.getElem?_eq_some_iff.mp h5).1⟩
theorem vx_isRef {C n d : String} {v : Value} {A : Nat → Prop} {s : State} {args : Array Value} (h : va_Z C n d v A s s.heap) (hv : v.isRef = true) : (Cond.isRef (.static C n d)).before args s = true := by
  obtain ⟨cf, kf, fi, f, a, cell, h1, h2, h3, h4, h5, h6, h7, -⟩ := h
  have he : (Term.static C n d).eval args s none [] s = some v := by
    simp [Term.eval, State.fieldNamed?, h1, h2, h4, h5, h6, h7]
  simp only [Cond.before, Cond.holds, Cond.value, he]
  cases v <;> simp_all [Value.isRef]
theorem vx_isRefq {C n d : String} {A : Nat → Prop} {s : State} {args : Array Value} (h : va_Zq C n d A s s.heap) : (Cond.isRef (.static C n d)).before args s = true := by
  rcases h with h | ⟨t, h⟩
  · exact vx_isRef h rfl
  · exact vx_isRef h rfl
/-- the same frame, seen from here: as if the method were called anew in this heap -/
theorem vx_rebase {T : State} (X : Stand p l e R s m args below meth c T locs cells slots) {R' : Room} (hf : R'.frames ≤ R.frames) (hl : R'.locals ≤ R.locals) (hc : cells + R'.cells ≤ R.cells) (hs : slots + R'.slots ≤ R.slots) :
    Stand p l e R' ((T.setVm s.vm).setFrames (.invoking m args :: below)) m args below meth c T [] 0 0 := by
  have htop : (T.setVm s.vm).topJava?.isSome := X.here.top
  have hF : ((T.setVm s.vm).setFrames (.invoking m args :: below)).frames = .invoking m args :: below := State.frames_setFrames _ (State.cur_lt_of_top htop)
  obtain ⟨g₀, hg0⟩ := Option.isSome_iff_exists.mp htop
  obtain ⟨r, hr⟩ := State.topJava?_eq_some.mp hg0
  have hl9 : e.platform.stackLimits (T.setVm s.vm).me = e.platform.stackLimits s.me := X.limits
  have hb9 : (T.setVm s.vm).me.stackBytes = s.me.stackBytes := X.bytes
  refine ⟨X.admits, X.cas, X.clock, hF, ?_, X.hears, X.method, X.code, X.here, X.tail, X.warmed, ?_, ?_, ?_⟩
  · have h := X.room
    have hU : ((T.setVm s.vm).setFrames (.invoking m args :: below)).localsInUse = s.localsInUse := by
      rw [State.localsInUse_invoking hF (meth := meth) (c := c) X.method X.code, State.localsInUse_invoking X.frames X.method X.code]
    simp only [State.hasRoom, Bool.and_eq_true, decide_eq_true_eq] at h ⊢
    obtain ⟨⟨⟨⟨h1, h2, h3, h4, h5, h6⟩, h7⟩, h8⟩, h9⟩ := h
    rw [X.frames, List.length_cons] at h2 h3
    have q1 := X.heapSize
    have q2 := X.used
    simp only [hF, hU, List.length_cons, State.stackLimits_setFrames, State.stackBytes_setFrames, hl9, hb9]
    refine ⟨⟨⟨⟨by omega, by omega, by omega, by omega, by omega, h6⟩, ?_⟩, ?_⟩, X.book⟩
    · show T.heap.size + R'.cells ≤ e.platform.maxCells
      omega
    · show T.slotsUsed + R'.slots ≤ e.platform.maxSlots
      omega
  · rw [State.stackLimits_setFrames]; rfl
  · rw [State.stackBytes_setFrames]; rfl
  · refine ⟨?_, Nat.le_refl _, Nat.le_refl _, ?_, ?_, fun a c9 h9 => ⟨c9, h9, rfl, rfl, fun _ _ => rfl⟩⟩
    · obtain ⟨t, ht, -⟩ := State.frames_cons hr
      show T.setVm s.vm = { ((T.setVm s.vm).setFrames (.invoking m args :: below)).setFrames (T.setVm s.vm).frames with heap := T.heap, slotsUsed := T.slotsUsed }
      rw [State.setFrames_setFrames, State.setFrames_self ht]
      rfl
    · show T.slotsUsed = T.slotsUsed + ((T.heap.toList.drop T.heap.size).map (·.slots.size)).sum
      rw [List.drop_eq_nil_of_le (Nat.le_of_eq Array.length_toList)]
      rfl
    · show ((T.heap.toList.drop T.heap.size).map (·.slots.size)).sum ≤ 0
      rw [List.drop_eq_nil_of_le (Nat.le_of_eq Array.length_toList)]
      exact Nat.le_refl _
/-- 'throw new E()': new; dup; invokespecial; athrow -/
theorem vx_throw0 {cc : ByteArray} {pc : Nat} (hexec : p.tables.exec = Jvm.exec) (hb : c.code = cc) (hl : l.stackTraces = false) {own cls : String} {names : List String} {ik ic mc ms : Nat} {A : Nat → Prop}
    (hown : s.vm.findClass own = some m.cls) (hcls : Bundle.fit cls = true) (hnames : ∀ n ∈ names, Bundle.fit n = true)
    (hk : (Cond.classLink own ik cls).before args s = true) (hini : (Cond.initialized cls).before args s = true) (hat : ∀ w ∈ vx_at0 own ic cls names, w.before args s = true)
    (hgood : ∀ w ∈ Cond.classLink own ik cls :: Cond.initialized cls :: vx_at0 own ic cls names, vx_ot w = true)
    (hU : vx_Zq Bundle.tN "UNASSIGNED_STACK" Bundle.steD A s s.heap) (hN : vx_Zq Bundle.tN "SUPPRESSED_SENTINEL" Bundle.listD A s s.heap) (hS : va_S A s.heap H locs) (hsize : ls.size = c.maxLocals)
    (d0 : decode cc pc = .ok (.new ik, 3)) (d3 : decode cc (pc + 3) = .ok (.dup, 1)) (d4 : decode cc (pc + 4) = .ok (.invokespecial ic, 3)) (d7 : decode cc (pc + 7) = .ok (.athrow, 1))
    (hout : ∀ x ∈ c.exceptionTable.toList, covers x (pc + 7) = false)
    (hRframes : names.length + 3 < R.frames) (hRlocals : (rest.map fun v => v.category).sum + (13 * (names.length + 1) + 42) ≤ R.locals) (hRcells : cells + 1 ≤ R.cells) (hRslots : slots + 6 ≤ R.slots) (hlocks : meth.locks = false)
    (hx : ∀ t : State, s.vm.Alike t.vm → H.size ≤ t.heap.size → (∀ q : Nat, q < H.size → t.heap[q]? = H[q]?) → XC cls s t)
    (hf : ∀ z ∈ locs, free z.base) (hc : cells + 1 ≤ mc) (hs : slots + 6 ≤ ms) :
    W p l e R s m args below meth c H locs cells slots (vx_MQ below Qc XC args s mc ms free) (F0 m pc ls rest) := by
  intro T hT X
  have htr : e.platform.stackTraces = false := (show e.platform.stackTraces = l.stackTraces by rw [X.admits.platform]).trans hl
  have Y := vx_rebase X (R' := { frames := R.frames, locals := R.locals, cells := 1, slots := 6 }) (Nat.le_refl _) (Nat.le_refl _) hRcells hRslots
  obtain ⟨s', hA⟩ : ∃ z, z = (T.setVm s.vm).setFrames (.invoking m args :: below) := ⟨_, rfl⟩
  rw [← hA] at Y
  have hvm : s'.vm = s.vm := by rw [hA]; rfl
  have hhp : s'.heap = H := by rw [hA]; exact hT
  have hW0 : s.WarmedH s'.vm := by rw [hvm]; exact State.WarmedH.refl s
  have hat' : ∀ w ∈ vx_at0 own ic cls names, w.before args s' = true := fun w hw => vx_ot_at hW0 hvm.symm (hgood w (List.mem_cons_of_mem _ (List.mem_cons_of_mem _ hw))) (hat w hw)
  have hk' : (Cond.classLink own ik cls).before args s' = true := vx_ot_at hW0 hvm.symm (hgood _ List.mem_cons_self) hk
  have hini' : (Cond.initialized cls).before args s' = true := vx_ot_at hW0 hvm.symm (hgood _ (List.mem_cons_of_mem _ List.mem_cons_self)) hini
  have hU' : vx_Zq Bundle.tN "UNASSIGNED_STACK" Bundle.steD A s' s'.heap := by rw [hhp]; exact vx_Zq.moved hW0.alike (hU.kept hS.2.1)
  have hN' : vx_Zq Bundle.tN "SUPPRESSED_SENTINEL" Bundle.listD A s' s'.heap := by rw [hhp]; exact vx_Zq.moved hW0.alike (hN.kept hS.2.1)
  have h : ∀ w ∈ Bundle.ownAtoms0 own ic cls names, w.before args s' = true := vx_own hat' (vx_isRefq hU'.1) (vx_isRefq hN'.1) hU'.2.word hN'.2.word
  have hown' : s'.vm.findClass own = some m.cls := by rw [hvm]; exact hown
  have hins : (Cond.instantiable cls 6).before args s' = true := h _ (by simp [Bundle.ownAtoms0])
  obtain ⟨vm₁, cX, kX, hfX, hkX, -, -, X₁, st1⟩ := Y.newCold hexec (own := own) (C := cls) (index := ik) (n := 6) hown' hk' hins hini'
    (g := F0 m pc ls rest) rfl (by rw [hb]; exact d0) (Nat.le_refl _) (Nat.le_refl _)
  generalize hT1 : (T.setVm vm₁).pushCell { cls := cX, slots := kX.instanceTypes.map defaultValue, vm := .none } = T1 at X₁ st1
  have hcat : (Value.ref T.heap.size).category = 1 := rfl
  have hcellA : T1.heap[T.heap.size]? = some (freshCell cX kX) := by rw [← hT1]; exact State.heap_pushCell_size _ _
  have d3' : decode c.code (pc + 3) = .ok (.dup, 1) := by rw [hb]; exact d3
  obtain ⟨U, hsteps, hrun, hend, hW, hsame, ce, hce, hO⟩ := X₁.ctorThrow0 hexec htr (own := own) (cls := cls) (names := names) (ic := ic) hown' hcls hnames h (fun x hx => nomatch hx) hfX hkX hcellA (by rw [hhp, hT]; exact Nat.le_refl _)
    (g := { method := m, pc := pc + 4, locals := ls, stack := .ref T.heap.size :: .ref T.heap.size :: rest, locked := none }) rfl hsize rfl rfl (rest := rest) rfl
    (by rw [hb]; exact d4) (by rw [hb]; exact d7) hout hRframes (by simp only [List.map_cons, List.sum_cons, hcat]; omega) hlocks
  obtain ⟨f1, f2⟩ := vx_frame hsame
  rw [hhp] at f1 f2
  have hWs : s.WarmedH U.vm := State.WarmedH.trans hW0 hW
  have hcl : s.vm.findClass cls = some ce.cls := by
    have h9 := hO.cls
    rw [hvm] at h9
    exact h9
  have hall : s.sameButNew ({ U with vm := s.vm } : State) locs mc ms := by
    subst hA
    obtain ⟨e1, e2⟩ := hsame
    rw [State.setFrames_setFrames] at e1
    have h2 : (T.setVm s.vm).sameButNew ({ U with vm := s.vm } : State) [] (0 + 1) (0 + 6) := ⟨e1, e2⟩
    have h3 := X.same.trans h2
    rw [List.append_nil] at h3
    exact h3.mono hc hs
  refine ⟨U, ?_, .threw T.heap.size, hrun, hend, Or.inr ⟨T.heap.size, rfl, cls, ce, locs, hx U hWs.alike f1 (fun q hq => f2 q hq (fun z hz => nomatch hz)), hce, hO.vm, hcl, hWs, hall, hf⟩⟩
  refine st1 _ ?_
  show Steps p.tables e below (T1.setTop { method := m, pc := pc + 3, locals := ls, stack := .ref T.heap.size :: rest, locked := none }) _
  jvm_step X₁.here [X₁.here.top, hexec, d3', Value.category]
  exact hsteps
/-- 'throw new E("text")': new; dup; ldc; invokespecial; athrow -/
theorem vx_throwS {cc : ByteArray} {pc : Nat} (hexec : p.tables.exec = Jvm.exec) (hb : c.code = cc) (hl : l.stackTraces = false) {own cls text : String} {names : List String} {ik is ic mc ms sa : Nat} {A : Nat → Prop}
    (hown : s.vm.findClass own = some m.cls) (hcls : Bundle.fit cls = true) (hnames : ∀ n ∈ names, Bundle.fit n = true)
    (hk : (Cond.classLink own ik cls).before args s = true) (hini : (Cond.initialized cls).before args s = true) (hstr : vk_R own is text sa s) (hat : ∀ w ∈ vx_atS own ic cls names, w.before args s = true)
    (hgood : ∀ w ∈ Cond.classLink own ik cls :: Cond.initialized cls :: vx_atS own ic cls names, vx_ot w = true)
    (hU : vx_Zq Bundle.tN "UNASSIGNED_STACK" Bundle.steD A s s.heap) (hN : vx_Zq Bundle.tN "SUPPRESSED_SENTINEL" Bundle.listD A s s.heap) (hS : va_S A s.heap H locs) (hsize : ls.size = c.maxLocals)
    (d0 : decode cc pc = .ok (.new ik, 3)) (d3 : decode cc (pc + 3) = .ok (.dup, 1)) (d4 : decode cc (pc + 4) = .ok (.ldc is, 2)) (d6 : decode cc (pc + 6) = .ok (.invokespecial ic, 3)) (d9 : decode cc (pc + 9) = .ok (.athrow, 1))
    (hout : ∀ x ∈ c.exceptionTable.toList, covers x (pc + 9) = false)
    (hRframes : names.length + 3 < R.frames) (hRlocals : (rest.map fun v => v.category).sum + (13 * (names.length + 1) + 43) ≤ R.locals) (hRcells : cells + 1 ≤ R.cells) (hRslots : slots + 6 ≤ R.slots) (hlocks : meth.locks = false)
    (hx : ∀ t : State, s.vm.Alike t.vm → H.size ≤ t.heap.size → (∀ q : Nat, q < H.size → t.heap[q]? = H[q]?) → XC cls s t)
    (hf : ∀ z ∈ locs, free z.base) (hc : cells + 1 ≤ mc) (hs : slots + 6 ≤ ms) :
    W p l e R s m args below meth c H locs cells slots (vx_MQ below Qc XC args s mc ms free) (F0 m pc ls rest) := by
  intro T hT X
  have htr : e.platform.stackTraces = false := (show e.platform.stackTraces = l.stackTraces by rw [X.admits.platform]).trans hl
  have Y := vx_rebase X (R' := { frames := R.frames, locals := R.locals, cells := 1, slots := 6 }) (Nat.le_refl _) (Nat.le_refl _) hRcells hRslots
  obtain ⟨s', hA⟩ : ∃ z, z = (T.setVm s.vm).setFrames (.invoking m args :: below) := ⟨_, rfl⟩
  rw [← hA] at Y
  have hvm : s'.vm = s.vm := by rw [hA]; rfl
  have hhp : s'.heap = H := by rw [hA]; exact hT
  have hW0 : s.WarmedH s'.vm := by rw [hvm]; exact State.WarmedH.refl s
  have hat' : ∀ w ∈ vx_atS own ic cls names, w.before args s' = true := fun w hw => vx_ot_at hW0 hvm.symm (hgood w (List.mem_cons_of_mem _ (List.mem_cons_of_mem _ hw))) (hat w hw)
  have hk' : (Cond.classLink own ik cls).before args s' = true := vx_ot_at hW0 hvm.symm (hgood _ List.mem_cons_self) hk
  have hini' : (Cond.initialized cls).before args s' = true := vx_ot_at hW0 hvm.symm (hgood _ (List.mem_cons_of_mem _ List.mem_cons_self)) hini
  have hU' : vx_Zq Bundle.tN "UNASSIGNED_STACK" Bundle.steD A s' s'.heap := by rw [hhp]; exact vx_Zq.moved hW0.alike (hU.kept hS.2.1)
  have hN' : vx_Zq Bundle.tN "SUPPRESSED_SENTINEL" Bundle.listD A s' s'.heap := by rw [hhp]; exact vx_Zq.moved hW0.alike (hN.kept hS.2.1)
  have h : ∀ w ∈ Bundle.ownAtoms own ic cls names, w.before args s' = true := vx_own hat' (vx_isRefq hU'.1) (vx_isRefq hN'.1) hU'.2.word hN'.2.word
  have hown' : s'.vm.findClass own = some m.cls := by rw [hvm]; exact hown
  have hins : (Cond.instantiable cls 6).before args s' = true := h _ (by simp [Bundle.ownAtoms])
  obtain ⟨vm₁, cX, kX, hfX, hkX, -, -, X₁, st1⟩ := Y.newCold hexec (own := own) (C := cls) (index := ik) (n := 6) hown' hk' hins hini'
    (g := F0 m pc ls rest) rfl (by rw [hb]; exact d0) (Nat.le_refl _) (Nat.le_refl _)
  generalize hT1 : (T.setVm vm₁).pushCell { cls := cX, slots := kX.instanceTypes.map defaultValue, vm := .none } = T1 at X₁ st1
  have hcat : (Value.ref T.heap.size).category = 1 := rfl
  have hcellA : T1.heap[T.heap.size]? = some (freshCell cX kX) := by rw [← hT1]; exact State.heap_pushCell_size _ _
  have d3' : decode c.code (pc + 3) = .ok (.dup, 1) := by rw [hb]; exact d3
  have d4' : decode c.code (pc + 4) = .ok (.ldc is, 2) := by rw [hb]; exact d4
  have hstr' : vk_R own is text sa s' := vk_R.warm hW0 hstr
  obtain ⟨U, hsteps, hrun, hend, hW, hsame, ce, hce, hO⟩ := X₁.ctorThrowS hexec htr (own := own) (cls := cls) (names := names) (ic := ic) hown' hcls hnames h (fun x hx => nomatch hx) hfX hkX hcellA (by rw [hhp, hT]; exact Nat.le_refl _) (msg := .ref sa) rfl
    (g := { method := m, pc := pc + 6, locals := ls, stack := .ref sa :: .ref T.heap.size :: .ref T.heap.size :: rest, locked := none }) rfl hsize rfl rfl (rest := rest) rfl
    (by rw [hb]; exact d6) (by rw [hb]; exact d9) hout hRframes (by simp only [List.map_cons, List.sum_cons, hcat]; omega) hlocks
  obtain ⟨f1, f2⟩ := vx_frame hsame
  rw [hhp] at f1 f2
  have hWs : s.WarmedH U.vm := State.WarmedH.trans hW0 hW
  have hcl : s.vm.findClass cls = some ce.cls := by
    have h9 := hO.cls
    rw [hvm] at h9
    exact h9
  have hall : s.sameButNew ({ U with vm := s.vm } : State) locs mc ms := by
    subst hA
    obtain ⟨e1, e2⟩ := hsame
    rw [State.setFrames_setFrames] at e1
    have h2 : (T.setVm s.vm).sameButNew ({ U with vm := s.vm } : State) [] (0 + 1) (0 + 6) := ⟨e1, e2⟩
    have h3 := X.same.trans h2
    rw [List.append_nil] at h3
    exact h3.mono hc hs
  refine ⟨U, ?_, .threw T.heap.size, hrun, hend, Or.inr ⟨T.heap.size, rfl, cls, ce, locs, hx U hWs.alike f1 (fun q hq => f2 q hq (fun z hz => nomatch hz)), hce, hO.vm, hcl, hWs, hall, hf⟩⟩
  refine st1 _ ?_
  show Steps p.tables e below (T1.setTop { method := m, pc := pc + 3, locals := ls, stack := .ref T.heap.size :: rest, locked := none }) _
  jvm_step X₁.here [X₁.here.top, hexec, d3', Value.category]
  exact X₁.ldcString hexec (own := own) (text := text) (index := is) (a := sa) hown' hstr'.1 hstr'.2
    (g := { method := m, pc := pc + 4, locals := ls, stack := .ref T.heap.size :: .ref T.heap.size :: rest, locked := none }) rfl d4' _ hsteps
/-- 'throw new E("text")', the text by a wide index -/
theorem vx_throwSW {cc : ByteArray} {pc : Nat} (hexec : p.tables.exec = Jvm.exec) (hb : c.code = cc) (hl : l.stackTraces = false) {own cls text : String} {names : List String} {ik is ic mc ms sa : Nat} {A : Nat → Prop}
    (hown : s.vm.findClass own = some m.cls) (hcls : Bundle.fit cls = true) (hnames : ∀ n ∈ names, Bundle.fit n = true)
    (hk : (Cond.classLink own ik cls).before args s = true) (hini : (Cond.initialized cls).before args s = true) (hstr : vk_R own is text sa s) (hat : ∀ w ∈ vx_atS own ic cls names, w.before args s = true)
    (hgood : ∀ w ∈ Cond.classLink own ik cls :: Cond.initialized cls :: vx_atS own ic cls names, vx_ot w = true)
    (hU : vx_Zq Bundle.tN "UNASSIGNED_STACK" Bundle.steD A s s.heap) (hN : vx_Zq Bundle.tN "SUPPRESSED_SENTINEL" Bundle.listD A s s.heap) (hS : va_S A s.heap H locs) (hsize : ls.size = c.maxLocals)
    (d0 : decode cc pc = .ok (.new ik, 3)) (d3 : decode cc (pc + 3) = .ok (.dup, 1)) (d4 : decode cc (pc + 4) = .ok (.ldc_w is, 3)) (d7 : decode cc (pc + 7) = .ok (.invokespecial ic, 3)) (d10 : decode cc (pc + 10) = .ok (.athrow, 1))
    (hout : ∀ x ∈ c.exceptionTable.toList, covers x (pc + 10) = false)
    (hRframes : names.length + 3 < R.frames) (hRlocals : (rest.map fun v => v.category).sum + (13 * (names.length + 1) + 43) ≤ R.locals) (hRcells : cells + 1 ≤ R.cells) (hRslots : slots + 6 ≤ R.slots) (hlocks : meth.locks = false)
    (hx : ∀ t : State, s.vm.Alike t.vm → H.size ≤ t.heap.size → (∀ q : Nat, q < H.size → t.heap[q]? = H[q]?) → XC cls s t)
    (hf : ∀ z ∈ locs, free z.base) (hc : cells + 1 ≤ mc) (hs : slots + 6 ≤ ms) :
    W p l e R s m args below meth c H locs cells slots (vx_MQ below Qc XC args s mc ms free) (F0 m pc ls rest) := by
  intro T hT X
  have htr : e.platform.stackTraces = false := (show e.platform.stackTraces = l.stackTraces by rw [X.admits.platform]).trans hl
  have Y := vx_rebase X (R' := { frames := R.frames, locals := R.locals, cells := 1, slots := 6 }) (Nat.le_refl _) (Nat.le_refl _) hRcells hRslots
  obtain ⟨s', hA⟩ : ∃ z, z = (T.setVm s.vm).setFrames (.invoking m args :: below) := ⟨_, rfl⟩
  rw [← hA] at Y
  have hvm : s'.vm = s.vm := by rw [hA]; rfl
  have hhp : s'.heap = H := by rw [hA]; exact hT
  have hW0 : s.WarmedH s'.vm := by rw [hvm]; exact State.WarmedH.refl s
  have hat' : ∀ w ∈ vx_atS own ic cls names, w.before args s' = true := fun w hw => vx_ot_at hW0 hvm.symm (hgood w (List.mem_cons_of_mem _ (List.mem_cons_of_mem _ hw))) (hat w hw)
  have hk' : (Cond.classLink own ik cls).before args s' = true := vx_ot_at hW0 hvm.symm (hgood _ List.mem_cons_self) hk
  have hini' : (Cond.initialized cls).before args s' = true := vx_ot_at hW0 hvm.symm (hgood _ (List.mem_cons_of_mem _ List.mem_cons_self)) hini
  have hU' : vx_Zq Bundle.tN "UNASSIGNED_STACK" Bundle.steD A s' s'.heap := by rw [hhp]; exact vx_Zq.moved hW0.alike (hU.kept hS.2.1)
  have hN' : vx_Zq Bundle.tN "SUPPRESSED_SENTINEL" Bundle.listD A s' s'.heap := by rw [hhp]; exact vx_Zq.moved hW0.alike (hN.kept hS.2.1)
  have h : ∀ w ∈ Bundle.ownAtoms own ic cls names, w.before args s' = true := vx_own hat' (vx_isRefq hU'.1) (vx_isRefq hN'.1) hU'.2.word hN'.2.word
  have hown' : s'.vm.findClass own = some m.cls := by rw [hvm]; exact hown
  have hins : (Cond.instantiable cls 6).before args s' = true := h _ (by simp [Bundle.ownAtoms])
  obtain ⟨vm₁, cX, kX, hfX, hkX, -, -, X₁, st1⟩ := Y.newCold hexec (own := own) (C := cls) (index := ik) (n := 6) hown' hk' hins hini'
    (g := F0 m pc ls rest) rfl (by rw [hb]; exact d0) (Nat.le_refl _) (Nat.le_refl _)
  generalize hT1 : (T.setVm vm₁).pushCell { cls := cX, slots := kX.instanceTypes.map defaultValue, vm := .none } = T1 at X₁ st1
  have hcat : (Value.ref T.heap.size).category = 1 := rfl
  have hcellA : T1.heap[T.heap.size]? = some (freshCell cX kX) := by rw [← hT1]; exact State.heap_pushCell_size _ _
  have d3' : decode c.code (pc + 3) = .ok (.dup, 1) := by rw [hb]; exact d3
  have d4' : decode c.code (pc + 4) = .ok (.ldc_w is, 3) := by rw [hb]; exact d4
  have hstr' : vk_R own is text sa s' := vk_R.warm hW0 hstr
  obtain ⟨U, hsteps, hrun, hend, hW, hsame, ce, hce, hO⟩ := X₁.ctorThrowS hexec htr (own := own) (cls := cls) (names := names) (ic := ic) hown' hcls hnames h (fun x hx => nomatch hx) hfX hkX hcellA (by rw [hhp, hT]; exact Nat.le_refl _) (msg := .ref sa) rfl
    (g := { method := m, pc := pc + 7, locals := ls, stack := .ref sa :: .ref T.heap.size :: .ref T.heap.size :: rest, locked := none }) rfl hsize rfl rfl (rest := rest) rfl
    (by rw [hb]; exact d7) (by rw [hb]; exact d10) hout hRframes (by simp only [List.map_cons, List.sum_cons, hcat]; omega) hlocks
  obtain ⟨f1, f2⟩ := vx_frame hsame
  rw [hhp] at f1 f2
  have hWs : s.WarmedH U.vm := State.WarmedH.trans hW0 hW
  have hcl : s.vm.findClass cls = some ce.cls := by
    have h9 := hO.cls
    rw [hvm] at h9
    exact h9
  have hall : s.sameButNew ({ U with vm := s.vm } : State) locs mc ms := by
    subst hA
    obtain ⟨e1, e2⟩ := hsame
    rw [State.setFrames_setFrames] at e1
    have h2 : (T.setVm s.vm).sameButNew ({ U with vm := s.vm } : State) [] (0 + 1) (0 + 6) := ⟨e1, e2⟩
    have h3 := X.same.trans h2
    rw [List.append_nil] at h3
    exact h3.mono hc hs
  refine ⟨U, ?_, .threw T.heap.size, hrun, hend, Or.inr ⟨T.heap.size, rfl, cls, ce, locs, hx U hWs.alike f1 (fun q hq => f2 q hq (fun z hz => nomatch hz)), hce, hO.vm, hcl, hWs, hall, hf⟩⟩
  refine st1 _ ?_
  show Steps p.tables e below (T1.setTop { method := m, pc := pc + 3, locals := ls, stack := .ref T.heap.size :: rest, locked := none }) _
  jvm_step X₁.here [X₁.here.top, hexec, d3', Value.category]
  exact X₁.ldcStringW hexec (own := own) (text := text) (index := is) (a := sa) hown' hstr'.1 hstr'.2
    (g := { method := m, pc := pc + 4, locals := ls, stack := .ref T.heap.size :: .ref T.heap.size :: rest, locked := none }) rfl d4' _ hsteps
end Ends
section Bodies
variable {l : Launch}
theorem vx_ofW {y : MethodName} {ws ws' : List Cond} {rm : Room} {Pc : Array Value → State → Prop} {Qc : Array Value → State → Outcome → State → Prop} {XC : String → State → State → Prop} {mc ms : Nat} {free : Addr → Prop} {cc : ByteArray} {maxL : Nat} {ret : Option FieldType}
    (hy : plainName y.cls = true) (hw : ws = Cond.code y cc maxL ret :: ws')
    (body : ∀ p e s m args below meth c s₁, BodyLoose p l y (headSpec ws rm) cc maxL ret e s m args below meth c s₁ → c.maxLocals = maxL → (∀ x ∈ c.exceptionTable.toList, False) → Pc args s →
      W p l e (headSpec ws rm).room s m args below meth c s.heap [] 0 0 (vx_MQ below Qc XC args s mc ms free) (entryFrame m args maxL)) : vx_Met l y ws rm Pc Qc XC mc ms free := by
  refine MetFree.of_bodyS (code := cc) (maxLocals := maxL) (ret := ret) hy ?_ ?_
  · intro args s m h hn
    obtain ⟨meth, c, h1, h2, h3, h4, h5, h6, -, -⟩ := Cond.code_spec hn (atoms_spec (ws := ws) h _ (by rw [hw]; exact List.mem_cons_self))
    exact ⟨meth, c, h1, h2, h3, h4, h5, h6⟩
  · intro p e s m args below meth c s₁ B hml hP _
    have hh0 : s₁.heap = s.heap := by rw [B.state]; rfl
    have ht : ∀ x ∈ c.exceptionTable.toList, False := by
      obtain ⟨meth9, c9, h1, h2, -, -, -, -, h7, -⟩ := Cond.code_spec B.named (atoms_spec (ws := ws) B.pre _ (by rw [hw]; exact List.mem_cons_self))
      cases Option.some.inj (h1.symm.trans B.method)
      cases Option.some.inj (h2.symm.trans (Stand.of_body B).code)
      intro x hx
      rw [Array.isEmpty_iff.mp h7] at hx
      cases hx
    obtain ⟨t, a1, o, b1, b2, b3⟩ := body p e s m args below meth c s₁ B hml ht hP s₁ hh0 (Stand.of_body B)
    exact ⟨t, o, a1, b1, b2, b3⟩
/-- the table of a body with handlers -/
theorem vx_table {p : Program} {x y : MethodName} {S : Spec} {cc bytes : ByteArray} {maxL maxL' : Nat} {ret ret' : Option FieldType} {e : Env} {s s₁ : State} {m : MethodId} {args : Array Value} {below : List Frame} {meth : Method} {c : Code} {hh : List (Nat × Nat × Nat × Nat)}
    (B : BodyLoose p l y S cc maxL ret e s m args below meth c s₁) (h : (Cond.codeWith y bytes maxL' ret' hh).before args s = true) : c.exceptionTable.toList = tableOf hh := by
  obtain ⟨m9, meth9, c9, hn9, h1, h2, -, -, h6, -⟩ := Cond.codeWith_spec h
  cases Option.some.inj (hn9.symm.trans B.named)
  cases Option.some.inj (h1.symm.trans B.method)
  cases Option.some.inj (h2.symm.trans (Stand.of_body B).code)
  rw [← h6, table_eq]
end Bodies
end VXA
/-! ===== END ===== -/
/-! ===== BEGIN a static call of a method with an exception table ===== -/
section VXS
variable {p : Program} {l : Launch} {e : Env} {R : Room} {s : State} {m : MethodId} {args : Array Value} {below : List Frame} {meth : Method} {c : Code} {T : State} {H : Heap} {locs : List Loc} {cells slots : Nat}
abbrev vx_CSW (R : Room) (s : State) (args : Array Value) (own : String) (index : Nat) (y : MethodName) (bytes : ByteArray) (maxL : Nat) (ret : Option FieldType) (hh : List (Nat × Nat × Nat × Nat)) (ws : List Cond) (rm : Room) (mc ms n : Nat) : Prop :=
  (rm.cells = mc ∧ rm.slots = ms ∧ rm.frames + 1 ≤ R.frames ∧ 8 + (maxL + 11) + rm.locals ≤ R.locals ∧ (∀ w ∈ ws, ∀ (a' : Array Value) (U : State), s.WarmedH U.vm → w.before a' U = true) ∧ Cond.codeWith y bytes maxL ret hh ∈ ws) ∧
  (Cond.codeWith y bytes maxL ret hh).before args s = true ∧ (Cond.initialized y.cls).before args s = true ∧ (y.cls ≠ "java/lang/invoke/MethodHandle" ∧ y.cls ≠ "java/lang/invoke/VarHandle") ∧
  (∀ sig, parseMethodDescriptor y.desc = some sig → n = sig.parameters.length) ∧ (Cond.methodLink own index y).before args s = true ∧ (Cond.static y).before args s = true
theorem vx_cwSW {own : String} {index maxL mc ms : Nat} {y : MethodName} {bytes : ByteArray} {ret : Option FieldType} {hh : List (Nat × Nat × Nat × Nat)} {Ts ws ws' : List Cond} {rm : Room} (n : Nat) (ht : ∀ w ∈ Ts, w.before args s = true) (hT : GoodIn Ts (va_wsS own index y ws)) (hw : ws = Cond.codeWith y bytes maxL ret hh :: ws') (hrc : rm.cells = mc) (hrs : rm.slots = ms)
    (hd : y.cls ≠ "java/lang/invoke/MethodHandle" ∧ y.cls ≠ "java/lang/invoke/VarHandle" ∧ (parseMethodDescriptor y.desc).map (fun d => d.parameters.length) = some n) (hR : rm.frames + 1 ≤ R.frames ∧ 8 + (maxL + 11) + rm.locals ≤ R.locals) :
    vx_CSW R s args own index y bytes maxL ret hh ws rm mc ms n := by
  have ok : ∀ w ∈ va_wsS own index y ws, w.before args s = true := fun w h => ht w (hT w h).1
  have hG : GoodIn Ts ws := fun w h => hT w (by unfold va_wsS; exact List.mem_append_right _ h)
  have hc : Cond.codeWith y bytes maxL ret hh ∈ ws := by rw [hw]; exact List.mem_cons_self
  refine ⟨⟨hrc, hrs, hR.1, hR.2, pay_in ht hG, hc⟩, ht _ (hG _ hc).1, ok _ (by simp [va_wsS]), ⟨hd.1, hd.2.1⟩, fun sig h => ?_, ok _ (by simp [va_wsS]), ok _ (by simp [va_wsS])⟩
  have h2 := hd.2.2
  rw [h] at h2
  exact (Option.some.inj h2).symm
theorem vx_callSW (X : Stand p l e R s m args below meth c T locs cells slots) (hexec : p.tables.exec = Jvm.exec) {own : String} {index : Nat} {y : MethodName} {bytes : ByteArray} {maxL : Nat} {ret : Option FieldType} {hh : List (Nat × Nat × Nat × Nat)}
    (hown : s.vm.findClass own = some m.cls) (hlink : (Cond.methodLink own index y).before args s = true) (hstat : (Cond.static y).before args s = true) (hinit : (Cond.initialized y.cls).before args s = true)
    (hcode : (Cond.codeWith y bytes maxL ret hh).before args s = true) (hy : y.cls ≠ "java/lang/invoke/MethodHandle" ∧ y.cls ≠ "java/lang/invoke/VarHandle")
    {W9 : Nat} {Pre : Pt → Array Value → Prop} {Post : Pt → Array Value → Option Value → Pt → Prop} (hK : Back l R p e below s args y 3 W9 Pre Post)
    {g : JFrame} (hg : g.method = m) (hsize : g.locals.size = c.maxLocals) {argsL rest : List Value} (hlen : ∀ sig, parseMethodDescriptor y.desc = some sig → argsL.length = sig.parameters.length)
    (hstack : g.stack = argsL.reverse ++ rest) (hW : 2 * g.monitorRoom + (rest.map fun v => v.category).sum ≤ W9) (hdg : decode c.code g.pc = .ok (.invokestatic index, 3))
    (hpre : ∀ vm₁, s.WarmedH vm₁ → Pre ⟨T.setVm vm₁, locs, cells, slots⟩ argsL.toArray) :
    ∃ (v : Option Value) (vm₁ : Vm) (B : Pt), s.WarmedH vm₁ ∧ Stand p l e R s m args below meth c B.U B.locs B.cells B.slots ∧ Post ⟨T.setVm vm₁, locs, cells, slots⟩ argsL.toArray v B ∧
      ∀ target, Steps p.tables e below (B.U.setTop { g with pc := g.pc + 3, stack := v.toList ++ rest }) target → Steps p.tables e below (T.setTop g) target := by
  obtain ⟨mk, methM, cM, hnamed, hmethM, -, -, -, -, -, -, hsigM⟩ := Cond.codeWith_spec hcode
  have hstatic : methM.isStatic = true := Cond.static_spec hnamed hmethM hstat
  obtain ⟨kP, hkP, -⟩ := className_of_methodNamed hnamed
  have hinitP : kP.init = .initialized := Cond.initialized_spec (findClass_of_methodNamed hnamed) hkP hinit
  obtain ⟨vm₁, X₁, hstep₁⟩ := X.invokestatic hexec hown hlink hnamed hmethM hstatic hkP hinitP hy (g := g) hg (argsL := argsL) (rest := rest) (hlen _ hsigM) hstack hdg
  obtain ⟨v, B, X', hpost, hsteps⟩ := hK m meth c ⟨T.setVm vm₁, locs, cells, slots⟩ { g with stack := rest } (.invokestatic index) mk argsL.toArray X₁ hg hsize hdg hW (X₁.named hnamed) (hpre vm₁ X₁.warmed)
  exact ⟨v, vm₁, B, X₁.warmed, X', hpost, fun target h => hstep₁ _ fun acts => by rw [doInvoke_state]; exact hsteps.trans h⟩
theorem vx_runSW {y : MethodName} {bytes cc : ByteArray} {maxL nL mc ms n index : Nat} {ret : Option FieldType} {hh : List (Nat × Nat × Nat × Nat)} {ws : List Cond} {rm : Room} {Pc : Array Value → State → Prop} {Qc : Array Value → State → Outcome → State → Prop} {free : Addr → Prop} {Ts : List Cond} {own : String} {As rest : List Value} {g : JFrame}
    (S : CallFix p m c cc nL s args Ts own) (hM : Met l y ws rm Pc Qc mc ms free) (cw : vx_CSW R s args own index y bytes maxL ret hh ws rm mc ms n) (hp : PreS s H Pc As)
    (hg : g.method = m) (hn : As.length = n) (hsize : g.locals.size = nL) (hstack : g.stack = As.reverse ++ rest) (hW : 2 * g.monitorRoom + (rest.map fun v => v.category).sum ≤ 8) (hdg : decode cc g.pc = .ok (.invokestatic index, 3)) (hf : cells + mc ≤ R.cells ∧ slots + ms ≤ R.slots) :
    va_Run p l e R s m args below meth c H locs cells slots mc ms g rest (Qc As.toArray) (free) := by
  obtain ⟨⟨hrc, hrs, hfr, hlo, hws, hcw⟩, hcode, hini, hy, hlen, hl, hstt⟩ := cw
  have hK : Back l R p e below s args y 3 8 (PreOf R mc ms Pc) (PostOf Qc mc ms free) := va_backW (hh := hh) (bytes := bytes) (maxL := maxL) (ret := ret) hM hp.1 hrc hrs hfr hlo hws hcw (fun a' U hW => word_at hW (Or.inl (by first | rfl | simp [Cond.onTables, Cond.keeps, Cond.steady])) hini)
  obtain ⟨hx, hb, hml, ho, -⟩ := S
  intro T hT X
  obtain ⟨v, vm₁, ⟨U', l2, c2, s2⟩, hW₁, X', ⟨g', mk, t, L, e1, e2, hq, h1, hL, h2, h3⟩, st⟩ := vx_callSW X hx (hh := hh) (bytes := bytes) (maxL := maxL) (ret := ret) ho hl hstt hini hcode hy hK hg (hsize.trans hml.symm) (argsL := As) (rest := rest) (fun sig h => hn.trans (hlen sig h)) hstack hW (by rw [hb]; exact hdg)
    (fun vm₁ hW₁ => ⟨hf.1, hf.2, hp.2 (T.setVm vm₁) hT hW₁⟩)
  dsimp only [Pt.U, Pt.locs, Pt.cells, Pt.slots] at X' e1 e2 h1 h2 h3 st
  subst h1; subst h2; subst h3
  exact ⟨v, (T.setVm vm₁).calling g' mk As.toArray, t, U', L, hT, X', hL, e1, e2, hq, st⟩
/-- not caught here, past rows that name other classes: it goes on to the caller -/
theorem vx_outP {p : Program} {l : Launch} {e : Env} {R : Room} {s : State} {m : MethodId} {args : Array Value} {below : List Frame} {meth : Method} {c : Code} {H : Heap} {locs : List Loc} {cells slots : Nat} {free : Addr → Prop} {ls : Array Slot} {rest : List Value} {Qc : Array Value → State → Outcome → State → Prop} {XC : String → State → State → Prop}
    {pc : Nat} {own E : String} {ce : Cell} {q : Addr} {mc ms : Nat} (hown : s.vm.findClass own = some m.cls) (hlocks : meth.locks = false)
    (hpass : ∀ z ∈ c.exceptionTable.toList, covers z pc = false ∨ (z.catchType ≠ 0 ∧ ∃ nm : String, (Cond.classLink own z.catchType nm).before args s = true ∧ va_Nc E nm s)) (hcell : H[q]? = some ce) (hv : ce.vm = .none) (hcl : s.vm.findClass E = some ce.cls)
    (hx : ∀ t : State, t.heap = H → s.vm.Alike t.vm → XC E s t) (hf : ∀ z ∈ locs, free z.base) (hc : cells ≤ mc) (hs : slots ≤ ms) :
    vx_W p l e R s m args below meth c H locs cells slots (vx_MQ below Qc XC args s mc ms free) (F0 m pc ls rest) q := by
  intro T hT X
  have hpl : e.platform.magicAccessors = ({} : Platform).magicAccessors := by rw [X.admits.platform]
  obtain ⟨vm', hW', X', st⟩ := X.outThrough hlocks q (g := F0 m pc ls rest) rfl rfl rfl (cell := ce) (by rw [hT]; exact hcell) (by rw [hv]; rfl)
    (by obtain ⟨k9, h9, -⟩ := Vm.findClass_spec hcl; exact ⟨k9, h9⟩) (fun z hz => by
      rcases hpass z hz with h | ⟨hz0, nm, hl1, hn1⟩
      · exact Or.inl h
      · obtain ⟨c6, hc6, hcl6⟩ := Cond.classLink_spec hown hl1 e.platform hpl
        obtain ⟨a8, b8, h1, h2, h3⟩ := hn1
        cases Option.some.inj (h1.symm.trans hcl)
        cases Option.some.inj (h2.symm.trans hc6)
        exact Or.inr ⟨hz0, _, hcl6, h3⟩)
  obtain ⟨g₀, hfr⟩ := X'.frames_eq
  have hcell9 : ((T.setVm vm').setFrames (.throwing q :: below)).heap[q]? = some ce := by
    show T.heap[q]? = some ce
    rw [hT]; exact hcell
  have hend : Ended ((T.setVm vm').setFrames (.throwing q :: below)) below (.threw q) := State.frames_setFrames _ (State.cur_lt_of_frames hfr)
  refine ⟨(T.setVm vm').setFrames (.throwing q :: below), ?_, .threw q, X'.here.running, hend, Or.inr ⟨q, rfl, E, ce, locs, hx _ hT (X'.ends _).1.alike, hcell9, hv, hcl, (X'.ends _).1, (X'.ends _).2.mono hc hs, hf⟩⟩
  rw [X.pushThrowing_eq]
  exact st
/-- a thing of a world lies in the heap -/
theorem vx_lt {D : va_G} {cl : List vw_C} {ws : va_W} {H1 : Heap} (h : va_P D cl ws H1) {k : Nat} {q : Nat × va_E} (hk : ws[k]? = some q) : q.1 < H1.size := (h k q hk).lt
end VXS
/-! ===== END ===== -/
/-! ===== BEGIN methods with a table of their own: called by a name, returning or throwing ===== -/
section VXH
/-! vx_backW, vx_callVX, vx_callSX, vx_callVW, vx_runVW, vx_runVX, vx_runSX, vx_ofWH follow the same proofs as their sisters above (Free/Laws.lean, Shelf42/LK1.lean); vx_outP calls Shelf42/NT130.lean (outThrough). -/
section
variable {l : Launch} {R : Room} {p : Program} {e : Env} {below : List Frame} {s : State} {sargs : Array Value} {y : MethodName} {len W9 : Nat}
theorem vx_backW {ws : List Cond} {rm : Room} {Pc : Array Value → State → Prop} {Qc : Array Value → State → Outcome → State → Prop} {XC : String → State → State → Prop} {mc ms : Nat} {free : Addr → Prop} {bytes : ByteArray} {maxL : Nat} {ret : Option FieldType} {hh : List (Nat × Nat × Nat × Nat)}
    (hM : vx_Met l y ws rm Pc Qc XC mc ms free) (hblind : FrameBlind Pc) (hrc : rm.cells = mc) (hrs : rm.slots = ms)
    (hframes : rm.frames + 1 ≤ R.frames) (hlocals : W9 + (maxL + 11) + rm.locals ≤ R.locals)
    (hws : ∀ w ∈ ws, ∀ a' U, s.WarmedH U.vm → w.before a' U = true) (hcode : Cond.codeWith y bytes maxL ret hh ∈ ws) (hinit : ∀ a' U, s.WarmedH U.vm → (Cond.initialized y.cls).before a' U = true) :
    vx_Back l R p e below s sargs y len W9 (PreOf R mc ms Pc) (PostOf Qc mc ms free) (vx_Post XC mc ms free) := by
  intro m meth c A g ig mk a X hg hsize hdg hW hn hp
  have h1 : (headSpec ws rm).pre.before a A.U = true := atoms_intro fun w hw => hws w hw _ _ X.warmed
  have h2 : (Cond.codeWith y bytes maxL ret hh).before a A.U = true := hws _ hcode _ _ X.warmed
  have h3 : (Cond.initialized y.cls).before a A.U = true := hinit _ _ X.warmed
  have h4 : A.cells + (headSpec ws rm).room.cells ≤ R.cells := by rw [show (headSpec ws rm).room.cells = mc from hrc]; exact hp.1
  have h5 : A.slots + (headSpec ws rm).room.slots ≤ R.slots := by rw [show (headSpec ws rm).room.slots = ms from hrs]; exact hp.2.1
  have hPc : Pc a (A.U.calling g mk a) := hblind _ _ _ _ hp.2.2
  obtain ⟨U, Ls, c0, s0⟩ := A
  dsimp only [Pt.U, Pt.locs, Pt.cells, Pt.slots] at h1 h2 h3 h4 h5 X hn hPc ⊢
  obtain ⟨m9, methY, cY, hn9, hmY, hcY, -, hlY, -⟩ := Cond.codeWith_spec h2
  cases Option.some.inj (hn9.symm.trans hn)
  obtain ⟨kY, hkY, -⟩ := className_of_methodNamed hn
  have hinitY : kY.init = .initialized := Cond.initialized_spec (findClass_of_methodNamed hn) hkY h3
  have h : At U g.method c below := by rw [hg]; exact X.here
  have hlocals9 : W9 + (maxL + 11) + (headSpec ws rm).room.locals ≤ R.locals := hlocals
  have happ : (headSpec ws rm).appliesLoose y e.platform (U.calling g mk a) = true :=
    Spec.appliesLoose_calling (g := g) h hdg hn hkY hinitY
      (X.room_calling (g := g) (R' := (headSpec ws rm).room) hsize hmY hcY hframes (by rw [hlY]; omega) h4 h5) h1
  obtain ⟨mid, hmid⟩ := h.above
  have hfr : (U.setTop g).frames = (.java g :: mid) ++ below := by rw [State.frames_setTop' g h.top, hmid]; rfl
  obtain ⟨o, s₂, hsteps, -, hend, hq⟩ := Steps.callFree hM p X.admits X.cas X.clock (acts := []) hfr happ hPc trivial
  have hq' : vx_Q Qc XC mc ms free a (U.calling g mk a) o s₂ := hq
  rw [State.frames_setTop' g h.top] at hend
  obtain ⟨g₀, hg0⟩ := Option.isSome_iff_exists.mp h.top
  obtain ⟨r, hr⟩ := State.topJava?_eq_some.mp hg0
  have hr' : (({ U with heap := s₂.heap, slotsUsed := s₂.slotsUsed } : State).setVm s₂.vm).frames = .java g₀ :: r := hr
  rcases hq' with ⟨hqc, L, hfe, hL⟩ | ⟨q, rfl, E, ce, L, hx, hce, hcv, hcl, hW₂, hsm, hL⟩
  · obtain ⟨⟨v, rfl⟩, hW₂, e2, q2, q3, q4, q5, q6⟩ := id hfe
    have e3 : s₂ = ({ (U.calling g mk a).setFrames s₂.frames with heap := s₂.heap, slotsUsed := s₂.slotsUsed } : State).setVm s₂.vm := by
      have : s₂ = ({ s₂ with vm := (U.calling g mk a).vm } : State).setVm s₂.vm := rfl
      rw [e2] at this
      exact this
    obtain ⟨c₂, i₂, len₂, hc₂, hd₂, hf₂⟩ := hend
    have hW' : U.WarmedH s₂.vm := hW₂
    have hcc : c₂ = c := by
      have h1 : s₂.code? g.method = U.code? g.method := by
        rw [State.code?_eq, State.code?_eq, hW'.alike.method?]
      exact Option.some.inj (hc₂.symm.trans (h1.trans h.code))
    subst hcc
    have hlen : len₂ = len := by rw [hdg] at hd₂; cases hd₂; rfl
    subst hlen
    have hs₂ : s₂ = (({ U with heap := s₂.heap, slotsUsed := s₂.slotsUsed } : State).setVm s₂.vm).setTop { g with pc := g.pc + len₂, stack := v.toList ++ g.stack } := by
      refine e3.trans ?_
      rw [hf₂, State.calling_eq h.top, State.setFrames_setFrames, State.setTop_of_frames _ hr', hr]
      rfl
    have hsame : U.sameButNew ({ U with heap := s₂.heap, slotsUsed := s₂.slotsUsed } : State) L mc ms := by
      refine ⟨?_, q2, q3, q4, q5, q6⟩
      obtain ⟨t, ht, -⟩ := State.frames_cons hr
      show ({ U with heap := s₂.heap, slotsUsed := s₂.slotsUsed } : State) = { U.setFrames U.frames with heap := s₂.heap, slotsUsed := s₂.slotsUsed }
      rw [State.setFrames_self ht]
    subst hg
    refine Or.inl ⟨v, ⟨(({ U with heap := s₂.heap, slotsUsed := s₂.slotsUsed } : State).setVm s₂.vm), Ls ++ L, c0 + mc, s0 + ms⟩,
      ⟨X.admits, X.cas, X.clock, X.frames, X.room, X.hears, X.method, X.code, (X.here.setHeapUsed s₂.heap s₂.slotsUsed).setVm hW'.alike, X.tail, State.WarmedH.trans X.warmed hW', X.limits, X.bytes, X.same.trans (hsame.setVm s.vm)⟩,
      ⟨g, mk, s₂, L, rfl, rfl, hqc, rfl, hL, rfl, rfl⟩, ?_⟩
    show Steps p.tables e below _ ((({ U with heap := s₂.heap, slotsUsed := s₂.slotsUsed } : State).setVm s₂.vm).setTop { g with pc := g.pc + len₂, stack := v.toList ++ g.stack })
    rw [← hs₂]
    exact hsteps
  · obtain ⟨e2, q2, q3, q4, q5, q6⟩ := id hsm
    have e3 : s₂ = ({ (U.calling g mk a).setFrames s₂.frames with heap := s₂.heap, slotsUsed := s₂.slotsUsed } : State).setVm s₂.vm := by
      have : s₂ = ({ s₂ with vm := (U.calling g mk a).vm } : State).setVm s₂.vm := rfl
      rw [e2] at this
      exact this
    have hf₂ : s₂.frames = .throwing q :: .java g :: U.frames.tail := hend
    have hW' : U.WarmedH s₂.vm := hW₂
    have hs₂ : s₂ = ((({ U with heap := s₂.heap, slotsUsed := s₂.slotsUsed } : State).setVm s₂.vm).setTop g).pushFrame (.throwing q) := by
      refine e3.trans ?_
      rw [hf₂, State.calling_eq h.top, State.setFrames_setFrames, State.pushFrame, State.frames_setTop _ hr', State.setTop_of_frames _ hr', State.setFrames_setFrames, hr]
      rfl
    have hsame : U.sameButNew ({ U with heap := s₂.heap, slotsUsed := s₂.slotsUsed } : State) L mc ms := by
      refine ⟨?_, q2, q3, q4, q5, q6⟩
      obtain ⟨t, ht, -⟩ := State.frames_cons hr
      show ({ U with heap := s₂.heap, slotsUsed := s₂.slotsUsed } : State) = { U.setFrames U.frames with heap := s₂.heap, slotsUsed := s₂.slotsUsed }
      rw [State.setFrames_self ht]
    subst hg
    refine Or.inr ⟨q, ⟨(({ U with heap := s₂.heap, slotsUsed := s₂.slotsUsed } : State).setVm s₂.vm), Ls ++ L, c0 + mc, s0 + ms⟩,
      ⟨X.admits, X.cas, X.clock, X.frames, X.room, X.hears, X.method, X.code, (X.here.setHeapUsed s₂.heap s₂.slotsUsed).setVm hW'.alike, X.tail, State.WarmedH.trans X.warmed hW', X.limits, X.bytes, X.same.trans (hsame.setVm s.vm)⟩,
      ⟨g, mk, s₂, L, E, ce, rfl, rfl, hx, hce, hcv, hcl, rfl, hL, rfl, rfl⟩, ?_⟩
    show Steps p.tables e below _ (((({ U with heap := s₂.heap, slotsUsed := s₂.slotsUsed } : State).setVm s₂.vm).setTop g).pushFrame (.throwing q))
    rw [← hs₂]
    exact hsteps
end
variable {p : Program} {l : Launch} {e : Env} {R : Room} {s : State} {m : MethodId} {args : Array Value} {below : List Frame} {meth : Method} {c : Code} {T : State} {H : Heap} {locs : List Loc} {cells slots : Nat}
theorem vx_callVX (X : Stand p l e R s m args below meth c T locs cells slots) (hexec : p.tables.exec = Jvm.exec) {own C : String} {index : Nat} {y : MethodName} {bytes : ByteArray} {maxL : Nat} {ret : Option FieldType} {hh : List (Nat × Nat × Nat × Nat)}
    (hown : s.vm.findClass own = some m.cls) (hlink : (Cond.methodLink own index y).before args s = true) (hinst : (Cond.instanceMethod y).before args s = true) (hsel : (Cond.selects C y y).before args s = true)
    (hcode : (Cond.codeWith y bytes maxL ret hh).before args s = true) (hy : y.cls ≠ "java/lang/invoke/MethodHandle" ∧ y.cls ≠ "java/lang/invoke/VarHandle")
    {W9 : Nat} {Pre : Pt → Array Value → Prop} {Post : Pt → Array Value → Option Value → Pt → Prop} {PostX : Pt → Array Value → Addr → Pt → Prop} (hK : vx_Back l R p e below s args y 3 W9 Pre Post PostX)
    {b : Addr} {cellB : Cell} (hcell : T.heap[b]? = some cellB) (hobj : cellB.vm.isStatics = false) (hcls : s.vm.findClass C = some cellB.cls)
    {g : JFrame} (hg : g.method = m) (hsize : g.locals.size = c.maxLocals) {argsL rest : List Value} (hlen : ∀ sig, parseMethodDescriptor y.desc = some sig → argsL.length = sig.parameters.length)
    (hstack : g.stack = argsL.reverse ++ .ref b :: rest) (hW : 2 * g.monitorRoom + (rest.map fun v => v.category).sum ≤ W9) (hdg : decode c.code g.pc = .ok (.invokevirtual index, 3))
    (hpre : ∀ vm₁, s.WarmedH vm₁ → Pre ⟨T.setVm vm₁, locs, cells, slots⟩ (Value.ref b :: argsL).toArray) :
    (∃ (v : Option Value) (vm₁ : Vm) (B : Pt), s.WarmedH vm₁ ∧ Stand p l e R s m args below meth c B.U B.locs B.cells B.slots ∧ Post ⟨T.setVm vm₁, locs, cells, slots⟩ (Value.ref b :: argsL).toArray v B ∧
      ∀ target, Steps p.tables e below (B.U.setTop { g with pc := g.pc + 3, stack := v.toList ++ rest }) target → Steps p.tables e below (T.setTop g) target) ∨
    (∃ (q : Addr) (vm₁ : Vm) (B : Pt), s.WarmedH vm₁ ∧ Stand p l e R s m args below meth c B.U B.locs B.cells B.slots ∧ PostX ⟨T.setVm vm₁, locs, cells, slots⟩ (Value.ref b :: argsL).toArray q B ∧
      Steps p.tables e below (T.setTop g) ((B.U.setTop { g with stack := rest }).pushFrame (.throwing q))) := by
  obtain ⟨mk, methM, hnamed, hmethM, hstM, habM⟩ := Cond.instanceMethod_spec hinst
  obtain ⟨m8, methM', cM, hn8, hmethM', -, -, -, -, -, -, hsigM⟩ := Cond.codeWith_spec hcode
  cases Option.some.inj (hn8.symm.trans hnamed)
  cases hmethM.symm.trans hmethM'
  obtain ⟨c2, r2, m2, q1, q2, q3, q4, kP, hkP, hkPi⟩ := Cond.selects_spec hsel
  cases hcls.symm.trans q1
  cases (State.methodFound?_of_named hnamed hy).symm.trans q2
  cases hnamed.symm.trans q3
  have hselP : selectMethod e.platform s.vm cellB.cls mk = .method mk := by rw [Launch.admits_selectMethod X.admits]; exact q4
  obtain ⟨vm₁, X₁, hstep₁⟩ := X.invokevirtual hexec hown hlink hnamed hmethM hstM hkP hkPi hy (a := b) (cell := cellB) hcell
    (fun z h => by rw [h] at hobj; cases hobj) hselP hmethM habM hkP hkPi (g := g) hg (argsL := argsL) (rest := rest) (hlen _ hsigM) hstack hdg
  rcases hK m meth c ⟨T.setVm vm₁, locs, cells, slots⟩ { g with stack := rest } (.invokevirtual index) mk (Value.ref b :: argsL).toArray X₁ hg hsize hdg hW (X₁.named hnamed) (hpre vm₁ X₁.warmed) with ⟨v, B, X', hpost, hsteps⟩ | ⟨q, B, X', hpost, hsteps⟩
  · exact Or.inl ⟨v, vm₁, B, X₁.warmed, X', hpost, fun target h => hstep₁ _ fun acts => by rw [doInvoke_state]; exact hsteps.trans h⟩
  · exact Or.inr ⟨q, vm₁, B, X₁.warmed, X', hpost, hstep₁ _ fun acts => by rw [doInvoke_state]; exact hsteps⟩
theorem vx_callSX (X : Stand p l e R s m args below meth c T locs cells slots) (hexec : p.tables.exec = Jvm.exec) {own : String} {index : Nat} {y : MethodName} {bytes : ByteArray} {maxL : Nat} {ret : Option FieldType} {hh : List (Nat × Nat × Nat × Nat)}
    (hown : s.vm.findClass own = some m.cls) (hlink : (Cond.methodLink own index y).before args s = true) (hstat : (Cond.static y).before args s = true) (hinit : (Cond.initialized y.cls).before args s = true)
    (hcode : (Cond.codeWith y bytes maxL ret hh).before args s = true) (hy : y.cls ≠ "java/lang/invoke/MethodHandle" ∧ y.cls ≠ "java/lang/invoke/VarHandle")
    {W9 : Nat} {Pre : Pt → Array Value → Prop} {Post : Pt → Array Value → Option Value → Pt → Prop} {PostX : Pt → Array Value → Addr → Pt → Prop} (hK : vx_Back l R p e below s args y 3 W9 Pre Post PostX)
    {g : JFrame} (hg : g.method = m) (hsize : g.locals.size = c.maxLocals) {argsL rest : List Value} (hlen : ∀ sig, parseMethodDescriptor y.desc = some sig → argsL.length = sig.parameters.length)
    (hstack : g.stack = argsL.reverse ++ rest) (hW : 2 * g.monitorRoom + (rest.map fun v => v.category).sum ≤ W9) (hdg : decode c.code g.pc = .ok (.invokestatic index, 3))
    (hpre : ∀ vm₁, s.WarmedH vm₁ → Pre ⟨T.setVm vm₁, locs, cells, slots⟩ argsL.toArray) :
    (∃ (v : Option Value) (vm₁ : Vm) (B : Pt), s.WarmedH vm₁ ∧ Stand p l e R s m args below meth c B.U B.locs B.cells B.slots ∧ Post ⟨T.setVm vm₁, locs, cells, slots⟩ argsL.toArray v B ∧
      ∀ target, Steps p.tables e below (B.U.setTop { g with pc := g.pc + 3, stack := v.toList ++ rest }) target → Steps p.tables e below (T.setTop g) target) ∨
    (∃ (q : Addr) (vm₁ : Vm) (B : Pt), s.WarmedH vm₁ ∧ Stand p l e R s m args below meth c B.U B.locs B.cells B.slots ∧ PostX ⟨T.setVm vm₁, locs, cells, slots⟩ argsL.toArray q B ∧
      Steps p.tables e below (T.setTop g) ((B.U.setTop { g with stack := rest }).pushFrame (.throwing q))) := by
  obtain ⟨mk, methM, cM, hnamed, hmethM, -, -, -, -, -, -, hsigM⟩ := Cond.codeWith_spec hcode
  have hstatic : methM.isStatic = true := Cond.static_spec hnamed hmethM hstat
  obtain ⟨kP, hkP, -⟩ := className_of_methodNamed hnamed
  have hinitP : kP.init = .initialized := Cond.initialized_spec (findClass_of_methodNamed hnamed) hkP hinit
  obtain ⟨vm₁, X₁, hstep₁⟩ := X.invokestatic hexec hown hlink hnamed hmethM hstatic hkP hinitP hy (g := g) hg (argsL := argsL) (rest := rest) (hlen _ hsigM) hstack hdg
  rcases hK m meth c ⟨T.setVm vm₁, locs, cells, slots⟩ { g with stack := rest } (.invokestatic index) mk argsL.toArray X₁ hg hsize hdg hW (X₁.named hnamed) (hpre vm₁ X₁.warmed) with ⟨v, B, X', hpost, hsteps⟩ | ⟨q, B, X', hpost, hsteps⟩
  · exact Or.inl ⟨v, vm₁, B, X₁.warmed, X', hpost, fun target h => hstep₁ _ fun acts => by rw [doInvoke_state]; exact hsteps.trans h⟩
  · exact Or.inr ⟨q, vm₁, B, X₁.warmed, X', hpost, hstep₁ _ fun acts => by rw [doInvoke_state]; exact hsteps⟩
theorem vx_callVW (X : Stand p l e R s m args below meth c T locs cells slots) (hexec : p.tables.exec = Jvm.exec) {own C : String} {index : Nat} {y : MethodName} {bytes : ByteArray} {maxL : Nat} {ret : Option FieldType} {hh : List (Nat × Nat × Nat × Nat)}
    (hown : s.vm.findClass own = some m.cls) (hlink : (Cond.methodLink own index y).before args s = true) (hinst : (Cond.instanceMethod y).before args s = true) (hsel : (Cond.selects C y y).before args s = true)
    (hcode : (Cond.codeWith y bytes maxL ret hh).before args s = true) (hy : y.cls ≠ "java/lang/invoke/MethodHandle" ∧ y.cls ≠ "java/lang/invoke/VarHandle")
    {W9 : Nat} {Pre : Pt → Array Value → Prop} {Post : Pt → Array Value → Option Value → Pt → Prop} (hK : Back l R p e below s args y 3 W9 Pre Post)
    {b : Addr} {cellB : Cell} (hcell : T.heap[b]? = some cellB) (hobj : cellB.vm.isStatics = false) (hcls : s.vm.findClass C = some cellB.cls)
    {g : JFrame} (hg : g.method = m) (hsize : g.locals.size = c.maxLocals) {argsL rest : List Value} (hlen : ∀ sig, parseMethodDescriptor y.desc = some sig → argsL.length = sig.parameters.length)
    (hstack : g.stack = argsL.reverse ++ .ref b :: rest) (hW : 2 * g.monitorRoom + (rest.map fun v => v.category).sum ≤ W9) (hdg : decode c.code g.pc = .ok (.invokevirtual index, 3))
    (hpre : ∀ vm₁, s.WarmedH vm₁ → Pre ⟨T.setVm vm₁, locs, cells, slots⟩ (Value.ref b :: argsL).toArray) :
    ∃ (v : Option Value) (vm₁ : Vm) (B : Pt), s.WarmedH vm₁ ∧ Stand p l e R s m args below meth c B.U B.locs B.cells B.slots ∧ Post ⟨T.setVm vm₁, locs, cells, slots⟩ (Value.ref b :: argsL).toArray v B ∧
      ∀ target, Steps p.tables e below (B.U.setTop { g with pc := g.pc + 3, stack := v.toList ++ rest }) target → Steps p.tables e below (T.setTop g) target := by
  obtain ⟨mk, methM, hnamed, hmethM, hstM, habM⟩ := Cond.instanceMethod_spec hinst
  obtain ⟨m8, methM', cM, hn8, hmethM', -, -, -, -, -, -, hsigM⟩ := Cond.codeWith_spec hcode
  cases Option.some.inj (hn8.symm.trans hnamed)
  cases hmethM.symm.trans hmethM'
  obtain ⟨c2, r2, m2, q1, q2, q3, q4, kP, hkP, hkPi⟩ := Cond.selects_spec hsel
  cases hcls.symm.trans q1
  cases (State.methodFound?_of_named hnamed hy).symm.trans q2
  cases hnamed.symm.trans q3
  have hselP : selectMethod e.platform s.vm cellB.cls mk = .method mk := by rw [Launch.admits_selectMethod X.admits]; exact q4
  obtain ⟨vm₁, X₁, hstep₁⟩ := X.invokevirtual hexec hown hlink hnamed hmethM hstM hkP hkPi hy (a := b) (cell := cellB) hcell
    (fun z h => by rw [h] at hobj; cases hobj) hselP hmethM habM hkP hkPi (g := g) hg (argsL := argsL) (rest := rest) (hlen _ hsigM) hstack hdg
  obtain ⟨v, B, X', hpost, hsteps⟩ := hK m meth c ⟨T.setVm vm₁, locs, cells, slots⟩ { g with stack := rest } (.invokevirtual index) mk (Value.ref b :: argsL).toArray X₁ hg hsize hdg hW (X₁.named hnamed) (hpre vm₁ X₁.warmed)
  exact ⟨v, vm₁, B, X₁.warmed, X', hpost, fun target h => hstep₁ _ fun acts => by rw [doInvoke_state]; exact hsteps.trans h⟩
abbrev vx_CVW (R : Room) (s : State) (args : Array Value) (own C : String) (index : Nat) (y : MethodName) (bytes : ByteArray) (maxL : Nat) (ret : Option FieldType) (hh : List (Nat × Nat × Nat × Nat)) (ws : List Cond) (rm : Room) (mc ms n : Nat) : Prop :=
  (rm.cells = mc ∧ rm.slots = ms ∧ rm.frames + 1 ≤ R.frames ∧ 8 + (maxL + 11) + rm.locals ≤ R.locals ∧ (∀ w ∈ ws, ∀ (a' : Array Value) (U : State), s.WarmedH U.vm → w.before a' U = true) ∧ Cond.codeWith y bytes maxL ret hh ∈ ws) ∧
  (Cond.codeWith y bytes maxL ret hh).before args s = true ∧ (Cond.initialized y.cls).before args s = true ∧ (y.cls ≠ "java/lang/invoke/MethodHandle" ∧ y.cls ≠ "java/lang/invoke/VarHandle") ∧
  (∀ sig, parseMethodDescriptor y.desc = some sig → n = sig.parameters.length) ∧ (Cond.methodLink own index y).before args s = true ∧ (Cond.instanceMethod y).before args s = true ∧ (Cond.selects C y y).before args s = true
theorem vx_cwVW {own C : String} {index maxL mc ms : Nat} {y : MethodName} {bytes : ByteArray} {ret : Option FieldType} {hh : List (Nat × Nat × Nat × Nat)} {Ts ws ws' : List Cond} {rm : Room} (n : Nat) (ht : ∀ w ∈ Ts, w.before args s = true) (hT : GoodIn Ts (wsV own index C y ws)) (hw : ws = Cond.codeWith y bytes maxL ret hh :: ws') (hrc : rm.cells = mc) (hrs : rm.slots = ms)
    (hd : y.cls = C ∧ y.cls ≠ "java/lang/invoke/MethodHandle" ∧ y.cls ≠ "java/lang/invoke/VarHandle" ∧ (parseMethodDescriptor y.desc).map (fun d => d.parameters.length) = some n) (hR : rm.frames + 1 ≤ R.frames ∧ 8 + (maxL + 11) + rm.locals ≤ R.locals) :
    vx_CVW R s args own C index y bytes maxL ret hh ws rm mc ms n := by
  obtain ⟨hC, hd⟩ := hd
  subst hC
  have ok : ∀ w ∈ wsV own index y.cls y ws, w.before args s = true := fun w h => ht w (hT w h).1
  have hG : GoodIn Ts ws := fun w h => hT w (by unfold wsV; exact List.mem_append_right _ h)
  have hc : Cond.codeWith y bytes maxL ret hh ∈ ws := by rw [hw]; exact List.mem_cons_self
  refine ⟨⟨hrc, hrs, hR.1, hR.2, pay_in ht hG, hc⟩, ht _ (hG _ hc).1, ok _ (by simp [wsV]), ⟨hd.1, hd.2.1⟩, fun sig h => ?_, ok _ (by simp [wsV]), ok _ (by simp [wsV]), ok _ (by simp [wsV])⟩
  have h2 := hd.2.2
  rw [h] at h2
  exact (Option.some.inj h2).symm
theorem vx_runVW {y : MethodName} {bytes cc : ByteArray} {maxL nL mc ms n index : Nat} {ret : Option FieldType} {hh : List (Nat × Nat × Nat × Nat)} {ws : List Cond} {rm : Room} {Pc : Array Value → State → Prop} {Qc : Array Value → State → Outcome → State → Prop} {free : Addr → Prop} {Ts : List Cond} {own C : String} {b : Addr} {As rest : List Value} {g : JFrame}
    (S : CallFix p m c cc nL s args Ts own) (hM : Met l y ws rm Pc Qc mc ms free) (cw : vx_CVW R s args own C index y bytes maxL ret hh ws rm mc ms n) (hp : PreV s H C b Pc As)
    (hg : g.method = m) (hn : As.length = n) (hsize : g.locals.size = nL) (hstack : g.stack = As.reverse ++ .ref b :: rest) (hW : 2 * g.monitorRoom + (rest.map fun v => v.category).sum ≤ 8) (hdg : decode cc g.pc = .ok (.invokevirtual index, 3)) (hf : cells + mc ≤ R.cells ∧ slots + ms ≤ R.slots) :
    va_Run p l e R s m args below meth c H locs cells slots mc ms g rest (Qc (Value.ref b :: As).toArray) free := by
  obtain ⟨⟨hrc, hrs, hfr, hlo, hws, hcw⟩, hcode, hini, hy, hlen, hl, hin, hse⟩ := cw
  have hK : Back l R p e below s args y 3 8 (PreOf R mc ms Pc) (PostOf Qc mc ms free) := va_backW (hh := hh) (bytes := bytes) (maxL := maxL) (ret := ret) hM hp.1 hrc hrs hfr hlo hws hcw (fun a' U hW => word_at hW (Or.inl (by first | rfl | simp [Cond.onTables, Cond.keeps, Cond.steady])) hini)
  obtain ⟨hx, hb, hml, ho, -⟩ := S
  obtain ⟨-, ⟨cellB, hcB, hoB, hclB⟩, hPc⟩ := hp
  intro T hT X
  obtain ⟨v, vm₁, ⟨U', l2, c2, s2⟩, hW₁, X', ⟨g', mk, t, L, e1, e2, hq, h1, hL, h2, h3⟩, st⟩ := vx_callVW X hx (C := C) (hh := hh) (bytes := bytes) (maxL := maxL) (ret := ret) ho hl hin hse hcode hy hK (by rw [hT]; exact hcB) hoB hclB hg (hsize.trans hml.symm) (argsL := As) (rest := rest) (fun sig h => hn.trans (hlen sig h)) hstack hW (by rw [hb]; exact hdg)
    (fun vm₁ hW₁ => ⟨hf.1, hf.2, hPc (T.setVm vm₁) hT hW₁⟩)
  dsimp only [Pt.U, Pt.locs, Pt.cells, Pt.slots] at X' e1 e2 h1 h2 h3 st
  subst h1; subst h2; subst h3
  exact ⟨v, (T.setVm vm₁).calling g' mk (Value.ref b :: As).toArray, t, U', L, hT, X', hL, e1, e2, hq, st⟩
section
variable {y : MethodName} {bytes cc : ByteArray} {maxL nL mc ms n index : Nat} {ret : Option FieldType} {ws : List Cond} {rm : Room} {Pc : Array Value → State → Prop} {Qc : Array Value → State → Outcome → State → Prop} {XC : String → State → State → Prop} {free : Addr → Prop} {Ts : List Cond} {own C : String} {b : Addr} {As rest : List Value} {g : JFrame}
theorem vx_runVX {hh : List (Nat × Nat × Nat × Nat)} (S : CallFix p m c cc nL s args Ts own) (hM : vx_Met l y ws rm Pc Qc XC mc ms free) (cw : vx_CVW R s args own C index y bytes maxL ret hh ws rm mc ms n) (hp : PreV s H C b Pc As)
    (hg : g.method = m) (hn : As.length = n) (hsize : g.locals.size = nL) (hstack : g.stack = As.reverse ++ .ref b :: rest) (hW : 2 * g.monitorRoom + (rest.map fun v => v.category).sum ≤ 8) (hdg : decode cc g.pc = .ok (.invokevirtual index, 3)) (hf : cells + mc ≤ R.cells ∧ slots + ms ≤ R.slots) :
    vx_Run p l e R s m args below meth c H locs cells slots mc ms g rest (Qc (Value.ref b :: As).toArray) XC free := by
  obtain ⟨⟨hrc, hrs, hfr, hlo, hws, hcw⟩, hcode, hini, hy, hlen, hl, hin, hse⟩ := cw
  have hK : vx_Back l R p e below s args y 3 8 (PreOf R mc ms Pc) (PostOf Qc mc ms free) (vx_Post XC mc ms free) := vx_backW (hh := hh) (bytes := bytes) (maxL := maxL) (ret := ret) hM hp.1 hrc hrs hfr hlo hws hcw (fun a' U hW => word_at hW (Or.inl (by first | rfl | simp [Cond.onTables, Cond.keeps, Cond.steady])) hini)
  obtain ⟨hx, hb, hml, ho, -⟩ := S
  obtain ⟨-, ⟨cellB, hcB, hoB, hclB⟩, hPc⟩ := hp
  intro T hT X
  rcases vx_callVX X hx (C := C) (hh := hh) (bytes := bytes) (maxL := maxL) (ret := ret) ho hl hin hse hcode hy hK (by rw [hT]; exact hcB) hoB hclB hg (hsize.trans hml.symm) (argsL := As) (rest := rest) (fun sig h => hn.trans (hlen sig h)) hstack hW (by rw [hb]; exact hdg)
    (fun vm₁ hW₁ => ⟨hf.1, hf.2, hPc (T.setVm vm₁) hT hW₁⟩) with ⟨v, vm₁, ⟨U', l2, c2, s2⟩, hW₁, X', ⟨g', mk, t, L, e1, e2, hq, h1, hL, h2, h3⟩, st⟩ | ⟨q, vm₁, ⟨U', l2, c2, s2⟩, hW₁, X', ⟨g', mk, t, L, E, ce, e1, e2, hq, hce, hcv, hcl, h1, hL, h2, h3⟩, st⟩
  · dsimp only [Pt.U, Pt.locs, Pt.cells, Pt.slots] at X' e1 e2 h1 h2 h3 st
    subst h1; subst h2; subst h3
    exact Or.inl ⟨v, (T.setVm vm₁).calling g' mk (Value.ref b :: As).toArray, t, U', L, hT, X', hL, e1, e2, hq, st⟩
  · dsimp only [Pt.U, Pt.locs, Pt.cells, Pt.slots] at X' e1 e2 h1 h2 h3 st hcl
    subst h1; subst h2; subst h3
    exact Or.inr ⟨q, (T.setVm vm₁).calling g' mk (Value.ref b :: As).toArray, t, U', L, E, ce, hT, X', hL, e1, e2, hq, hce, hcv, vx_cls hW₁ hcl, st⟩
theorem vx_runSX {hh : List (Nat × Nat × Nat × Nat)} (S : CallFix p m c cc nL s args Ts own) (hM : vx_Met l y ws rm Pc Qc XC mc ms free) (cw : vx_CSW R s args own index y bytes maxL ret hh ws rm mc ms n) (hp : PreS s H Pc As)
    (hg : g.method = m) (hn : As.length = n) (hsize : g.locals.size = nL) (hstack : g.stack = As.reverse ++ rest) (hW : 2 * g.monitorRoom + (rest.map fun v => v.category).sum ≤ 8) (hdg : decode cc g.pc = .ok (.invokestatic index, 3)) (hf : cells + mc ≤ R.cells ∧ slots + ms ≤ R.slots) :
    vx_Run p l e R s m args below meth c H locs cells slots mc ms g rest (Qc As.toArray) XC free := by
  obtain ⟨⟨hrc, hrs, hfr, hlo, hws, hcw⟩, hcode, hini, hy, hlen, hl, hstt⟩ := cw
  have hK : vx_Back l R p e below s args y 3 8 (PreOf R mc ms Pc) (PostOf Qc mc ms free) (vx_Post XC mc ms free) := vx_backW (hh := hh) (bytes := bytes) (maxL := maxL) (ret := ret) hM hp.1 hrc hrs hfr hlo hws hcw (fun a' U hW => word_at hW (Or.inl (by first | rfl | simp [Cond.onTables, Cond.keeps, Cond.steady])) hini)
  obtain ⟨hx, hb, hml, ho, -⟩ := S
  intro T hT X
  rcases vx_callSX X hx (hh := hh) (bytes := bytes) (maxL := maxL) (ret := ret) ho hl hstt hini hcode hy hK hg (hsize.trans hml.symm) (argsL := As) (rest := rest) (fun sig h => hn.trans (hlen sig h)) hstack hW (by rw [hb]; exact hdg)
    (fun vm₁ hW₁ => ⟨hf.1, hf.2, hp.2 (T.setVm vm₁) hT hW₁⟩) with ⟨v, vm₁, ⟨U', l2, c2, s2⟩, hW₁, X', ⟨g', mk, t, L, e1, e2, hq, h1, hL, h2, h3⟩, st⟩ | ⟨q, vm₁, ⟨U', l2, c2, s2⟩, hW₁, X', ⟨g', mk, t, L, E, ce, e1, e2, hq, hce, hcv, hcl, h1, hL, h2, h3⟩, st⟩
  · dsimp only [Pt.U, Pt.locs, Pt.cells, Pt.slots] at X' e1 e2 h1 h2 h3 st
    subst h1; subst h2; subst h3
    exact Or.inl ⟨v, (T.setVm vm₁).calling g' mk As.toArray, t, U', L, hT, X', hL, e1, e2, hq, st⟩
  · dsimp only [Pt.U, Pt.locs, Pt.cells, Pt.slots] at X' e1 e2 h1 h2 h3 st hcl
    subst h1; subst h2; subst h3
    exact Or.inr ⟨q, (T.setVm vm₁).calling g' mk As.toArray, t, U', L, E, ce, hT, X', hL, e1, e2, hq, hce, hcv, vx_cls hW₁ hcl, st⟩
end
end VXH
theorem vx_ofWH {l : Launch} {y : MethodName} {ws ws' : List Cond} {rm : Room} {Pc : Array Value → State → Prop} {Qc : Array Value → State → Outcome → State → Prop} {XC : String → State → State → Prop} {mc ms : Nat} {free : Addr → Prop} {cc : ByteArray} {maxL : Nat} {ret : Option FieldType} {hh : List (Nat × Nat × Nat × Nat)}
    (hy : plainName y.cls = true) (hw : ws = Cond.codeWith y cc maxL ret hh :: ws')
    (body : ∀ p e s m args below meth c s₁, BodyLoose p l y (headSpec ws rm) cc maxL ret e s m args below meth c s₁ → c.maxLocals = maxL → Pc args s →
      W p l e (headSpec ws rm).room s m args below meth c s.heap [] 0 0 (vx_MQ below Qc XC args s mc ms free) (entryFrame m args maxL)) : vx_Met l y ws rm Pc Qc XC mc ms free := by
  refine MetFree.of_bodyS (code := cc) (maxLocals := maxL) (ret := ret) hy ?_ ?_
  · intro args s m h hn
    obtain ⟨m9, meth, c, hn9, h1, h2, h3, h4, -, h5, h6, -⟩ := Cond.codeWith_spec (atoms_spec (ws := ws) h _ (by rw [hw]; exact List.mem_cons_self))
    cases hn.symm.trans hn9
    exact ⟨meth, c, h1, h2, h3, h4, h5, h6⟩
  · intro p e s m args below meth c s₁ B hml hP _
    have hh0 : s₁.heap = s.heap := by rw [B.state]; rfl
    obtain ⟨t, a1, o, b1, b2, b3⟩ := body p e s m args below meth c s₁ B hml hP s₁ hh0 (Stand.of_body B)
    exact ⟨t, o, a1, b1, b2, b3⟩
/-! ===== END ===== -/

/-! ===== BEGIN printed: names, fields, word lists, decode rows ===== -/
end
section
def RX0 : String := "CardFans$Player"
def TX0 : u_T := fun k => match k with
  | 0 => ("CardFans$Player", "habit", "I", true)
  | _ => ("CardFans$Player", "latestCard", "I", false)
def tyX0 : Nat → FieldType := fun k => match k with
  | 0 => .int
  | _ => .int
abbrev wsX00 : List Cond := u_ws RX0 TX0 2
theorem nmX0 : ∀ a, a < 2 → ∀ b, b < 2 → a ≠ b → (TX0 a).2.1 ≠ (TX0 b).2.1 := by decide +kernel
theorem tyX0_ok : ∀ k, k < 2 → parseFieldDescriptor (TX0 k).2.2.1 = some (tyX0 k) := by decide +kernel
abbrev cX0_init : ByteArray := prog_2_method_1_code
def yX0_init : MethodName := ⟨RX0, "<init>", "(I)V"⟩
def RX1 : String := "CardFans$Row"
def TX1 : u_T := fun k => match k with
  | 0 => ("CardFans$Row", "numbers", "[I", true)
  | _ => ("CardFans$Row", "carried", "[I", true)
def tyX1 : Nat → FieldType := fun k => match k with
  | 0 => .array .int
  | _ => .array .int
abbrev wsX10 : List Cond := u_ws RX1 TX1 2
theorem nmX1 : ∀ a, a < 2 → ∀ b, b < 2 → a ≠ b → (TX1 a).2.1 ≠ (TX1 b).2.1 := by decide +kernel
theorem tyX1_ok : ∀ k, k < 2 → parseFieldDescriptor (TX1 k).2.2.1 = some (tyX1 k) := by decide +kernel
abbrev cX1_init : ByteArray := prog_3_method_1_code
def yX1_init : MethodName := ⟨RX1, "<init>", "()V"⟩
abbrev cX1_at : ByteArray := prog_3_method_2_code
def yX1_at : MethodName := ⟨RX1, "at", "(I)I"⟩
abbrev cX1_put : ByteArray := prog_3_method_3_code
def yX1_put : MethodName := ⟨RX1, "put", "(II)V"⟩
abbrev cX1_putInOrder : ByteArray := prog_3_method_4_code
def yX1_putInOrder : MethodName := ⟨RX1, "putInOrder", "()V"⟩
abbrev cX1_carry : ByteArray := prog_3_method_5_code
def yX1_carry : MethodName := ⟨RX1, "carry", "(II)V"⟩
abbrev cX1_firstPlaceOf : ByteArray := prog_3_method_6_code
def yX1_firstPlaceOf : MethodName := ⟨RX1, "firstPlaceOf", "(I)I"⟩
abbrev cX1_placesInOrder : ByteArray := prog_3_method_7_code
def yX1_placesInOrder : MethodName := ⟨RX1, "placesInOrder", "()I"⟩
abbrev cX1_mixedInto : ByteArray := prog_3_method_8_code
def yX1_mixedInto : MethodName := ⟨RX1, "mixedInto", "(J)J"⟩
def RX2 : String := "CardFans$Watcher"
def TX2 : u_T := fun k => match k with
  | 0 => ("CardFans$Watcher", "isSharp", "Z", true)
  | 1 => ("CardFans$Watcher", "thoughts", "LCardFans$Row;", true)
  | 2 => ("CardFans$Watcher", "timesAnew", "I", false)
  | _ => ("CardFans$Watcher", "glimpses", "I", false)
def tyX2 : Nat → FieldType := fun k => match k with
  | 0 => .boolean
  | 1 => .object "CardFans$Row"
  | 2 => .int
  | _ => .int
abbrev wsX20 : List Cond := u_ws RX2 TX2 4
theorem nmX2 : ∀ a, a < 4 → ∀ b, b < 4 → a ≠ b → (TX2 a).2.1 ≠ (TX2 b).2.1 := by decide +kernel
theorem tyX2_ok : ∀ k, k < 4 → parseFieldDescriptor (TX2 k).2.2.1 = some (tyX2 k) := by decide +kernel
abbrev cX2_init : ByteArray := prog_4_method_1_code
def yX2_init : MethodName := ⟨RX2, "<init>", "(Z)V"⟩
abbrev cX2_follow : ByteArray := prog_4_method_2_code
def yX2_follow : MethodName := ⟨RX2, "follow", "(II)V"⟩
abbrev cX2_see : ByteArray := prog_4_method_3_code
def yX2_see : MethodName := ⟨RX2, "see", "(II)V"⟩
abbrev cX2_concludes : ByteArray := prog_4_method_4_code
def yX2_concludes : MethodName := ⟨RX2, "concludes", "()Z"⟩
abbrev cX2_strikesElsewhere : ByteArray := prog_4_method_5_code
def yX2_strikesElsewhere : MethodName := ⟨RX2, "strikesElsewhere", "(I)Z"⟩
abbrev cX2_thinkAnew : ByteArray := prog_4_method_6_code
def yX2_thinkAnew : MethodName := ⟨RX2, "thinkAnew", "(II)V"⟩
abbrev cX2_placesHeldPossible : ByteArray := prog_4_method_7_code
def yX2_placesHeldPossible : MethodName := ⟨RX2, "placesHeldPossible", "(LCardFans$Row;)I"⟩
abbrev cX2_placesSettled : ByteArray := prog_4_method_8_code
def yX2_placesSettled : MethodName := ⟨RX2, "placesSettled", "()I"⟩
abbrev cX2_placesSettledRightly : ByteArray := prog_4_method_9_code
def yX2_placesSettledRightly : MethodName := ⟨RX2, "placesSettledRightly", "(LCardFans$Row;)I"⟩
abbrev cX2_cardsThought : ByteArray := prog_4_method_10_code
def yX2_cardsThought : MethodName := ⟨RX2, "cardsThought", "()I"⟩
def RX3 : String := "CardFans"
def TX3 : u_T := fun k => match k with
  | 0 => ("CardFans", "pack", "LCardFans$Row;", true)
  | 1 => ("CardFans", "trial", "LCardFans$Row;", true)
  | 2 => ("CardFans", "watchers", "[LCardFans$Watcher;", true)
  | 3 => ("CardFans", "players", "[LCardFans$Player;", true)
  | 4 => ("CardFans", "watcherCount", "I", false)
  | 5 => ("CardFans", "playerCount", "I", false)
  | 6 => ("CardFans", "waysDone", "I", false)
  | 7 => ("CardFans", "falseCuts", "I", false)
  | 8 => ("CardFans", "leanOfFan", "I", false)
  | _ => ("CardFans", "cardsTaken", "I", false)
def tyX3 : Nat → FieldType := fun k => match k with
  | 0 => .object "CardFans$Row"
  | 1 => .object "CardFans$Row"
  | 2 => .array (.object "CardFans$Watcher")
  | 3 => .array (.object "CardFans$Player")
  | 4 => .int
  | 5 => .int
  | 6 => .int
  | 7 => .int
  | 8 => .int
  | _ => .int
abbrev wsX30 : List Cond := u_ws RX3 TX3 10
theorem nmX3 : ∀ a, a < 10 → ∀ b, b < 10 → a ≠ b → (TX3 a).2.1 ≠ (TX3 b).2.1 := by decide +kernel
theorem tyX3_ok : ∀ k, k < 10 → parseFieldDescriptor (TX3 k).2.2.1 = some (tyX3 k) := by decide +kernel
abbrev cX3_init : ByteArray := prog_1_method_1_code
def yX3_init : MethodName := ⟨RX3, "<init>", "()V"⟩
abbrev cX3_go : ByteArray := prog_1_method_2_code
def yX3_go : MethodName := ⟨RX3, "go", "(IIZ)I"⟩
abbrev cX3_falseCut : ByteArray := prog_1_method_3_code
def yX3_falseCut : MethodName := ⟨RX3, "falseCut", "(I)I"⟩
abbrev cX3_comes : ByteArray := prog_1_method_4_code
def yX3_comes : MethodName := ⟨RX3, "comes", "(III)I"⟩
abbrev cX3_card : ByteArray := prog_1_method_5_code
def yX3_card : MethodName := ⟨RX3, "card", "(I)I"⟩
abbrev cX3_find : ByteArray := prog_1_method_6_code
def yX3_find : MethodName := ⟨RX3, "find", "(I)I"⟩
abbrev cX3_watch : ByteArray := prog_1_method_7_code
def yX3_watch : MethodName := ⟨RX3, "watch", "(Z)I"⟩
abbrev cX3_glimpse : ByteArray := prog_1_method_8_code
def yX3_glimpse : MethodName := ⟨RX3, "glimpse", "(II)I"⟩
abbrev cX3_thinks : ByteArray := prog_1_method_9_code
def yX3_thinks : MethodName := ⟨RX3, "thinks", "(II)I"⟩
abbrev cX3_sure : ByteArray := prog_1_method_10_code
def yX3_sure : MethodName := ⟨RX3, "sure", "(II)I"⟩
abbrev cX3_watcher : ByteArray := prog_1_method_11_code
def yX3_watcher : MethodName := ⟨RX3, "watcher", "(II)I"⟩
abbrev cX3_sit : ByteArray := prog_1_method_12_code
def yX3_sit : MethodName := ⟨RX3, "sit", "(I)I"⟩
abbrev cX3_fan : ByteArray := prog_1_method_13_code
def yX3_fan : MethodName := ⟨RX3, "fan", "(I)I"⟩
abbrev cX3_take : ByteArray := prog_1_method_14_code
def yX3_take : MethodName := ⟨RX3, "take", "(I)I"⟩
abbrev cX3_force : ByteArray := prog_1_method_15_code
def yX3_force : MethodName := ⟨RX3, "force", "(II)I"⟩
abbrev cX3_took : ByteArray := prog_1_method_16_code
def yX3_took : MethodName := ⟨RX3, "took", "(I)I"⟩
abbrev cX3_count : ByteArray := prog_1_method_17_code
def yX3_count : MethodName := ⟨RX3, "count", "(I)I"⟩
abbrev cX3_back : ByteArray := prog_1_method_18_code
def yX3_back : MethodName := ⟨RX3, "back", "(II)I"⟩
abbrev cX3_bring : ByteArray := prog_1_method_19_code
def yX3_bring : MethodName := ⟨RX3, "bring", "(II)I"⟩
abbrev cX3_riffles : ByteArray := prog_1_method_20_code
def yX3_riffles : MethodName := ⟨RX3, "riffles", "(II)I"⟩
abbrev cX3_mean : ByteArray := prog_1_method_21_code
def yX3_mean : MethodName := ⟨RX3, "mean", "()D"⟩
abbrev cX3_digest : ByteArray := prog_1_method_22_code
def yX3_digest : MethodName := ⟨RX3, "digest", "()J"⟩
abbrev cX3_watcherMixedInto : ByteArray := prog_1_method_23_code
def yX3_watcherMixedInto : MethodName := ⟨RX3, "watcherMixedInto", "(JI)J"⟩
abbrev cX3_mixed : ByteArray := prog_1_method_24_code
def yX3_mixed : MethodName := ⟨RX3, "mixed", "(JI)J"⟩
abbrev cX3_watcherOf : ByteArray := prog_1_method_25_code
def yX3_watcherOf : MethodName := ⟨RX3, "watcherOf", "(I)LCardFans$Watcher;"⟩
abbrev cX3_playerOf : ByteArray := prog_1_method_26_code
def yX3_playerOf : MethodName := ⟨RX3, "playerOf", "(I)LCardFans$Player;"⟩
abbrev cX3_requireWay : ByteArray := prog_1_method_27_code
def yX3_requireWay : MethodName := ⟨RX3, "requireWay", "(II)V"⟩
abbrev cX3_requirePlace : ByteArray := prog_1_method_28_code
def yX3_requirePlace : MethodName := ⟨RX3, "requirePlace", "(I)V"⟩
abbrev cX3_requireCard : ByteArray := prog_1_method_29_code
def yX3_requireCard : MethodName := ⟨RX3, "requireCard", "(I)V"⟩
abbrev cX3_requireSixteenth : ByteArray := prog_1_method_30_code
def yX3_requireSixteenth : MethodName := ⟨RX3, "requireSixteenth", "(I)V"⟩
abbrev cX3_isSixteenth : ByteArray := prog_1_method_31_code
def yX3_isSixteenth : MethodName := ⟨RX3, "isSixteenth", "(I)Z"⟩
abbrev cX3_isWay : ByteArray := prog_1_method_32_code
def yX3_isWay : MethodName := ⟨RX3, "isWay", "(II)Z"⟩
abbrev cX3_placeAfter : ByteArray := prog_1_method_33_code
def yX3_placeAfter : MethodName := ⟨RX3, "placeAfter", "(III)I"⟩
abbrev cX3_placeAfterDeal : ByteArray := prog_1_method_34_code
def yX3_placeAfterDeal : MethodName := ⟨RX3, "placeAfterDeal", "(I)I"⟩
abbrev cX3_placeAfterRiffles : ByteArray := prog_1_method_35_code
def yX3_placeAfterRiffles : MethodName := ⟨RX3, "placeAfterRiffles", "(III)I"⟩
abbrev cX3_placesOneWayFrom : ByteArray := prog_1_method_36_code
def yX3_placesOneWayFrom : MethodName := ⟨RX3, "placesOneWayFrom", "(I)I"⟩
abbrev cX3_setOf : ByteArray := prog_1_method_37_code
def yX3_setOf : MethodName := ⟨RX3, "setOf", "(I)I"⟩
abbrev cX3_isOneAlone : ByteArray := prog_1_method_38_code
def yX3_isOneAlone : MethodName := ⟨RX3, "isOneAlone", "(I)Z"⟩
def RX4 : String := "CardFansModel"
def TX4 : u_T := fun k => match k with
  | 0 => ("CardFansModel", "thrown", "I", false)
  | 1 => ("CardFansModel", "pack", "[I", true)
  | 2 => ("CardFansModel", "watchers", "I", false)
  | 3 => ("CardFansModel", "isSharp", "[I", true)
  | 4 => ("CardFansModel", "thinks", "[[I", true)
  | 5 => ("CardFansModel", "anew", "[I", true)
  | 6 => ("CardFansModel", "glimpses", "[I", true)
  | 7 => ("CardFansModel", "players", "I", false)
  | 8 => ("CardFansModel", "habit", "[I", true)
  | 9 => ("CardFansModel", "took", "[I", true)
  | 10 => ("CardFansModel", "lean", "I", false)
  | 11 => ("CardFansModel", "ways", "I", false)
  | 12 => ("CardFansModel", "falseCuts", "I", false)
  | _ => ("CardFansModel", "taken", "I", false)
def tyX4 : Nat → FieldType := fun k => match k with
  | 0 => .int
  | 1 => .array .int
  | 2 => .int
  | 3 => .array .int
  | 4 => .array (.array .int)
  | 5 => .array .int
  | 6 => .array .int
  | 7 => .int
  | 8 => .array .int
  | 9 => .array .int
  | 10 => .int
  | 11 => .int
  | 12 => .int
  | _ => .int
abbrev wsX40 : List Cond := u_ws RX4 TX4 14
theorem nmX4 : ∀ a, a < 14 → ∀ b, b < 14 → a ≠ b → (TX4 a).2.1 ≠ (TX4 b).2.1 := by decide +kernel
theorem tyX4_ok : ∀ k, k < 14 → parseFieldDescriptor (TX4 k).2.2.1 = some (tyX4 k) := by decide +kernel
abbrev cX4_init : ByteArray := prog_6_method_1_code
def yX4_init : MethodName := ⟨RX4, "<init>", "()V"⟩
abbrev cX4_thrown : ByteArray := prog_6_method_2_code
def yX4_thrown : MethodName := ⟨RX4, "thrown", "()I"⟩
abbrev cX4_no : ByteArray := prog_6_method_3_code
def yX4_no : MethodName := ⟨RX4, "no", "(I)I"⟩
abbrev cX4_isIn : ByteArray := prog_6_method_4_code
def yX4_isIn : MethodName := ⟨RX4, "isIn", "(III)Z"⟩
abbrev cX4_isPlace : ByteArray := prog_6_method_5_code
def yX4_isPlace : MethodName := ⟨RX4, "isPlace", "(I)Z"⟩
abbrev cX4_isWatcher : ByteArray := prog_6_method_6_code
def yX4_isWatcher : MethodName := ⟨RX4, "isWatcher", "(I)Z"⟩
abbrev cX4_isPlayer : ByteArray := prog_6_method_7_code
def yX4_isPlayer : MethodName := ⟨RX4, "isPlayer", "(I)Z"⟩
abbrev cX4_isWay : ByteArray := prog_6_method_8_code
def yX4_isWay : MethodName := ⟨RX4, "isWay", "(II)Z"⟩
abbrev cX4_to : ByteArray := prog_6_method_9_code
def yX4_to : MethodName := ⟨RX4, "to", "(III)I"⟩
abbrev cX4_move : ByteArray := prog_6_method_10_code
def yX4_move : MethodName := ⟨RX4, "move", "([III)V"⟩
abbrev cX4_go : ByteArray := prog_6_method_11_code
def yX4_go : MethodName := ⟨RX4, "go", "(IIZ)I"⟩
abbrev cX4_falseCut : ByteArray := prog_6_method_12_code
def yX4_falseCut : MethodName := ⟨RX4, "falseCut", "(I)I"⟩
abbrev cX4_comes : ByteArray := prog_6_method_13_code
def yX4_comes : MethodName := ⟨RX4, "comes", "(III)I"⟩
abbrev cX4_card : ByteArray := prog_6_method_14_code
def yX4_card : MethodName := ⟨RX4, "card", "(I)I"⟩
abbrev cX4_placeOf : ByteArray := prog_6_method_15_code
def yX4_placeOf : MethodName := ⟨RX4, "placeOf", "(I)I"⟩
abbrev cX4_find : ByteArray := prog_6_method_16_code
def yX4_find : MethodName := ⟨RX4, "find", "(I)I"⟩
abbrev cX4_watch : ByteArray := prog_6_method_17_code
def yX4_watch : MethodName := ⟨RX4, "watch", "(Z)I"⟩
abbrev cX4_isOne : ByteArray := prog_6_method_18_code
def yX4_isOne : MethodName := ⟨RX4, "isOne", "(I)Z"⟩
abbrev cX4_isLeft : ByteArray := prog_6_method_19_code
def yX4_isLeft : MethodName := ⟨RX4, "isLeft", "([I)Z"⟩
abbrev cX4_glimpse : ByteArray := prog_6_method_20_code
def yX4_glimpse : MethodName := ⟨RX4, "glimpse", "(II)I"⟩
abbrev cX4_thinks : ByteArray := prog_6_method_21_code
def yX4_thinks : MethodName := ⟨RX4, "thinks", "(II)I"⟩
abbrev cX4_sure : ByteArray := prog_6_method_22_code
def yX4_sure : MethodName := ⟨RX4, "sure", "(II)I"⟩
abbrev cX4_watcherTold : ByteArray := prog_6_method_23_code
def yX4_watcherTold : MethodName := ⟨RX4, "watcherTold", "(II)I"⟩
abbrev cX4_watcher : ByteArray := prog_6_method_24_code
def yX4_watcher : MethodName := ⟨RX4, "watcher", "(II)I"⟩
abbrev cX4_sit : ByteArray := prog_6_method_25_code
def yX4_sit : MethodName := ⟨RX4, "sit", "(I)I"⟩
abbrev cX4_fan : ByteArray := prog_6_method_26_code
def yX4_fan : MethodName := ⟨RX4, "fan", "(I)I"⟩
abbrev cX4_take : ByteArray := prog_6_method_27_code
def yX4_take : MethodName := ⟨RX4, "take", "(I)I"⟩
abbrev cX4_force : ByteArray := prog_6_method_28_code
def yX4_force : MethodName := ⟨RX4, "force", "(II)I"⟩
abbrev cX4_took : ByteArray := prog_6_method_29_code
def yX4_took : MethodName := ⟨RX4, "took", "(I)I"⟩
abbrev cX4_counted : ByteArray := prog_6_method_30_code
def yX4_counted : MethodName := ⟨RX4, "counted", "(I)I"⟩
abbrev cX4_count : ByteArray := prog_6_method_31_code
def yX4_count : MethodName := ⟨RX4, "count", "(I)I"⟩
abbrev cX4_back : ByteArray := prog_6_method_32_code
def yX4_back : MethodName := ⟨RX4, "back", "(II)I"⟩
abbrev cX4_bring : ByteArray := prog_6_method_33_code
def yX4_bring : MethodName := ⟨RX4, "bring", "(II)I"⟩
abbrev cX4_riffles : ByteArray := prog_6_method_34_code
def yX4_riffles : MethodName := ⟨RX4, "riffles", "(II)I"⟩
abbrev cX4_mean : ByteArray := prog_6_method_35_code
def yX4_mean : MethodName := ⟨RX4, "mean", "()D"⟩
abbrev cX4_digest : ByteArray := prog_6_method_36_code
def yX4_digest : MethodName := ⟨RX4, "digest", "()J"⟩
def RJx8e188 : String := "java/lang/Cloneable"
def TJx8e188 : u_T := fun k => match k with
  | _ => ("", "", "", false)
def tyJx8e188 : Nat → FieldType := fun k => match k with
  | _ => .int
abbrev wsJx8e1880 : List Cond := u_ws RJx8e188 TJx8e188 0
theorem nmJx8e188 : ∀ a, a < 0 → ∀ b, b < 0 → a ≠ b → (TJx8e188 a).2.1 ≠ (TJx8e188 b).2.1 := by decide +kernel
theorem tyJx8e188_ok : ∀ k, k < 0 → parseFieldDescriptor (TJx8e188 k).2.2.1 = some (tyJx8e188 k) := by decide +kernel
def RJ6 : String := "java/lang/Integer"
def TJ6 : u_T := fun k => match k with
  | _ => ("", "", "", false)
def tyJ6 : Nat → FieldType := fun k => match k with
  | _ => .int
abbrev wsJ60 : List Cond := u_ws RJ6 TJ6 0
theorem nmJ6 : ∀ a, a < 0 → ∀ b, b < 0 → a ≠ b → (TJ6 a).2.1 ≠ (TJ6 b).2.1 := by decide +kernel
theorem tyJ6_ok : ∀ k, k < 0 → parseFieldDescriptor (TJ6 k).2.2.1 = some (tyJ6 k) := by decide +kernel
abbrev cJ6_bitCount_0f7a4 : ByteArray := prog_12_method_49_code
def yJ6_bitCount_0f7a4 : MethodName := ⟨RJ6, "bitCount", "(I)I"⟩
def RJ9 : String := "java/lang/Math"
def TJ9 : u_T := fun k => match k with
  | _ => ("", "", "", false)
def tyJ9 : Nat → FieldType := fun k => match k with
  | _ => .int
abbrev wsJ90 : List Cond := u_ws RJ9 TJ9 0
theorem nmJ9 : ∀ a, a < 0 → ∀ b, b < 0 → a ≠ b → (TJ9 a).2.1 ≠ (TJ9 b).2.1 := by decide +kernel
theorem tyJ9_ok : ∀ k, k < 0 → parseFieldDescriptor (TJ9 k).2.2.1 = some (tyJ9 k) := by decide +kernel
abbrev cJ9_floorMod_7cf53 : ByteArray := prog_13_method_50_code
def yJ9_floorMod_7cf53 : MethodName := ⟨RJ9, "floorMod", "(II)I"⟩
def RJ0 : String := "java/lang/String"
def TJ0 : u_T := fun k => match k with
  | _ => ("", "", "", false)
def tyJ0 : Nat → FieldType := fun k => match k with
  | _ => .int
abbrev wsJ00 : List Cond := u_ws RJ0 TJ0 0
theorem nmJ0 : ∀ a, a < 0 → ∀ b, b < 0 → a ≠ b → (TJ0 a).2.1 ≠ (TJ0 b).2.1 := by decide +kernel
theorem tyJ0_ok : ∀ k, k < 0 → parseFieldDescriptor (TJ0 k).2.2.1 = some (tyJ0 k) := by decide +kernel
def RL : String := "CardFansLaw"
abbrev cL_go : ByteArray := method_3_code
def yL_go : MethodName := ⟨RL, "go", "(LCardFans;IIZ[J)I"⟩
abbrev cL_falseCut : ByteArray := method_4_code
def yL_falseCut : MethodName := ⟨RL, "falseCut", "(LCardFans;I[J)I"⟩
abbrev cL_comes : ByteArray := method_5_code
def yL_comes : MethodName := ⟨RL, "comes", "(LCardFans;III[J)I"⟩
abbrev cL_card : ByteArray := method_6_code
def yL_card : MethodName := ⟨RL, "card", "(LCardFans;I[J)I"⟩
abbrev cL_find : ByteArray := method_7_code
def yL_find : MethodName := ⟨RL, "find", "(LCardFans;I[J)I"⟩
abbrev cL_watch : ByteArray := method_8_code
def yL_watch : MethodName := ⟨RL, "watch", "(LCardFans;Z[J)I"⟩
abbrev cL_glimpse : ByteArray := method_9_code
def yL_glimpse : MethodName := ⟨RL, "glimpse", "(LCardFans;II[J)I"⟩
abbrev cL_thinks : ByteArray := method_10_code
def yL_thinks : MethodName := ⟨RL, "thinks", "(LCardFans;II[J)I"⟩
abbrev cL_sure : ByteArray := method_11_code
def yL_sure : MethodName := ⟨RL, "sure", "(LCardFans;II[J)I"⟩
abbrev cL_watcher : ByteArray := method_12_code
def yL_watcher : MethodName := ⟨RL, "watcher", "(LCardFans;II[J)I"⟩
abbrev cL_sit : ByteArray := method_13_code
def yL_sit : MethodName := ⟨RL, "sit", "(LCardFans;I[J)I"⟩
abbrev cL_fan : ByteArray := method_14_code
def yL_fan : MethodName := ⟨RL, "fan", "(LCardFans;I[J)I"⟩
abbrev cL_take : ByteArray := method_15_code
def yL_take : MethodName := ⟨RL, "take", "(LCardFans;I[J)I"⟩
abbrev cL_force : ByteArray := method_16_code
def yL_force : MethodName := ⟨RL, "force", "(LCardFans;II[J)I"⟩
abbrev cL_took : ByteArray := method_17_code
def yL_took : MethodName := ⟨RL, "took", "(LCardFans;I[J)I"⟩
abbrev cL_count : ByteArray := method_18_code
def yL_count : MethodName := ⟨RL, "count", "(LCardFans;I[J)I"⟩
abbrev cL_back : ByteArray := method_19_code
def yL_back : MethodName := ⟨RL, "back", "(LCardFans;II[J)I"⟩
abbrev cL_bring : ByteArray := method_20_code
def yL_bring : MethodName := ⟨RL, "bring", "(LCardFans;II[J)I"⟩
abbrev cL_riffles : ByteArray := method_21_code
def yL_riffles : MethodName := ⟨RL, "riffles", "(LCardFans;II[J)I"⟩
abbrev cL_law : ByteArray := code
def yL_law : MethodName := ⟨RL, "law", "([I)Z"⟩
def wsX0_init : List Cond := .code yX0_init cX0_init 2 none :: ([.methodLink RX0 1 objectInit, .instanceMethod objectInit, .code objectInit ⟨#[0xb1]⟩ 1 none, .fieldLink RX0 7 "CardFans$Player" "latestCard" "I", .fieldLink RX0 13 "CardFans$Player" "habit" "I"] ++ wsX00)
def wsX1_init : List Cond := .code yX1_init cX1_init 1 none :: ([.methodLink RX1 3 objectInit, .instanceMethod objectInit, .code objectInit ⟨#[0xb1]⟩ 1 none, .arrayClass .int, .fieldLink RX1 9 "CardFans$Row" "numbers" "[I", .fieldLink RX1 15 "CardFans$Row" "carried" "[I"] ++ wsX10)
def wsX3_isSixteenth : List Cond := .code yX3_isSixteenth cX3_isSixteenth 1 (some .boolean) :: ([])
def wsX1_at : List Cond := .code yX1_at cX1_at 2 (some .int) :: ([.fieldLink RX1 9 "CardFans$Row" "numbers" "[I", .static yX3_isSixteenth, .initialized RX3, .code yX3_isSixteenth cX3_isSixteenth 1 (some .boolean)] ++ wsX10)
def wsX1_put : List Cond := .code yX1_put cX1_put 3 none :: ([.fieldLink RX1 9 "CardFans$Row" "numbers" "[I", .static yX3_isSixteenth, .initialized RX3, .code yX3_isSixteenth cX3_isSixteenth 1 (some .boolean)] ++ wsX10)
def wsX1_putInOrder : List Cond := .code yX1_putInOrder cX1_putInOrder 2 none :: ([.fieldLink RX1 9 "CardFans$Row" "numbers" "[I"] ++ wsX10)
def wsX3_placeAfterDeal : List Cond := .code yX3_placeAfterDeal cX3_placeAfterDeal 4 (some .int) :: ([])
def wsX3_placeAfter : List Cond := .code yX3_placeAfter cX3_placeAfter 3 (some .int) :: ([.methodLink RX3 211 yX3_placeAfterDeal, .static yX3_placeAfterDeal, .initialized RX3, .code yX3_placeAfterDeal cX3_placeAfterDeal 4 (some .int)])
def wsX1_carry : List Cond := .code yX1_carry cX1_carry 5 none :: ([.fieldLink RX1 15 "CardFans$Row" "carried" "[I", .fieldLink RX1 9 "CardFans$Row" "numbers" "[I", .static yX3_placeAfter, .initialized RX3, .code yX3_placeAfter cX3_placeAfter 3 (some .int), .methodLink RX3 211 yX3_placeAfterDeal, .static yX3_placeAfterDeal, .code yX3_placeAfterDeal cX3_placeAfterDeal 4 (some .int), .static yX3_isSixteenth, .code yX3_isSixteenth cX3_isSixteenth 1 (some .boolean)] ++ wsX10)
def wsX1_firstPlaceOf : List Cond := .code yX1_firstPlaceOf cX1_firstPlaceOf 3 (some .int) :: ([.fieldLink RX1 9 "CardFans$Row" "numbers" "[I"] ++ wsX10)
def wsX1_placesInOrder : List Cond := .code yX1_placesInOrder cX1_placesInOrder 3 (some .int) :: ([.fieldLink RX1 9 "CardFans$Row" "numbers" "[I"] ++ wsX10)
def wsX3_mixed : List Cond := .code yX3_mixed cX3_mixed 3 (some .long) :: ([.constantLong RX3 186 (31)])
def wsX1_mixedInto : List Cond := .code yX1_mixedInto cX1_mixedInto 6 (some .long) :: ([.fieldLink RX1 9 "CardFans$Row" "numbers" "[I", .static yX3_mixed, .initialized RX3, .code yX3_mixed cX3_mixed 3 (some .long), .constantLong RX3 186 (31)] ++ wsX10)
def wsX2_init : List Cond := .code yX2_init cX2_init 3 none :: ([.methodLink RX2 3 objectInit, .instanceMethod objectInit, .code objectInit ⟨#[0xb1]⟩ 1 none, .classLink RX2 9 RX1, .instantiable RX1 2, .initialized RX1, .fieldLink RX2 12 "CardFans$Watcher" "thoughts" "LCardFans$Row;", .fieldLink RX2 18 "CardFans$Watcher" "isSharp" "Z", .constant RX2 22 (65535), .instanceMethod yX1_init, .code yX1_init cX1_init 1 none, .methodLink RX1 3 objectInit, .arrayClass .int, .fieldLink RX1 9 "CardFans$Row" "numbers" "[I", .fieldLink RX1 15 "CardFans$Row" "carried" "[I", .methodLink RX2 23 yX1_put, .instanceMethod yX1_put, .selects RX1 yX1_put yX1_put, .code yX1_put cX1_put 3 none, .static yX3_isSixteenth, .initialized RX3, .code yX3_isSixteenth cX3_isSixteenth 1 (some .boolean)] ++ wsX10 ++ wsX20)
def wsX2_follow : List Cond := .code yX2_follow cX2_follow 3 none :: ([.fieldLink RX2 12 "CardFans$Watcher" "thoughts" "LCardFans$Row;", .methodLink RX2 27 yX1_carry, .instanceMethod yX1_carry, .selects RX1 yX1_carry yX1_carry, .initialized RX1, .code yX1_carry cX1_carry 5 none, .fieldLink RX1 15 "CardFans$Row" "carried" "[I", .fieldLink RX1 9 "CardFans$Row" "numbers" "[I", .static yX3_placeAfter, .initialized RX3, .code yX3_placeAfter cX3_placeAfter 3 (some .int), .methodLink RX3 211 yX3_placeAfterDeal, .static yX3_placeAfterDeal, .code yX3_placeAfterDeal cX3_placeAfterDeal 4 (some .int), .static yX3_isSixteenth, .code yX3_isSixteenth cX3_isSixteenth 1 (some .boolean)] ++ wsX20 ++ wsX10)
def wsX3_setOf : List Cond := .code yX3_setOf cX3_setOf 1 (some .int) :: ([])
def wsJ6_bitCount_0f7a4 : List Cond := .code yJ6_bitCount_0f7a4 cJ6_bitCount_0f7a4 1 (some .int) :: ([.constant RJ6 265 (1431655765), .constant RJ6 266 (858993459), .constant RJ6 267 (252645135)])
def wsX3_isOneAlone : List Cond := .code yX3_isOneAlone cX3_isOneAlone 1 (some .boolean) :: ([.methodLink RX3 214 yJ6_bitCount_0f7a4, .static yJ6_bitCount_0f7a4, .initialized RJ6, .code yJ6_bitCount_0f7a4 cJ6_bitCount_0f7a4 1 (some .int), .constant RJ6 265 (1431655765), .constant RJ6 266 (858993459), .constant RJ6 267 (252645135)])
def wsX2_strikesElsewhere : List Cond := .code yX2_strikesElsewhere cX2_strikesElsewhere 6 (some .boolean) :: ([.fieldLink RX2 12 "CardFans$Watcher" "thoughts" "LCardFans$Row;", .methodLink RX2 48 yX1_at, .instanceMethod yX1_at, .selects RX1 yX1_at yX1_at, .initialized RX1, .code yX1_at cX1_at 2 (some .int), .fieldLink RX1 9 "CardFans$Row" "numbers" "[I", .static yX3_isSixteenth, .initialized RX3, .code yX3_isSixteenth cX3_isSixteenth 1 (some .boolean), .methodLink RX2 23 yX1_put, .instanceMethod yX1_put, .selects RX1 yX1_put yX1_put, .code yX1_put cX1_put 3 none] ++ wsX20 ++ wsX10)
def wsX2_concludes_r1 : List Cond := [Cond.fieldLink RX2 12 "CardFans$Watcher" "thoughts" "LCardFans$Row;", Cond.methodLink RX2 48 yX1_at, Cond.instanceMethod yX1_at, Cond.selects RX1 yX1_at yX1_at, Cond.initialized RX1, Cond.code yX1_at cX1_at 2 (some .int), Cond.fieldLink RX1 9 "CardFans$Row" "numbers" "[I", Cond.static yX3_isSixteenth, Cond.initialized RX3, Cond.code yX3_isSixteenth cX3_isSixteenth 1 (some .boolean), Cond.static yX3_isOneAlone, Cond.code yX3_isOneAlone cX3_isOneAlone 1 (some .boolean), Cond.methodLink RX3 214 yJ6_bitCount_0f7a4, Cond.static yJ6_bitCount_0f7a4, Cond.initialized RJ6, Cond.code yJ6_bitCount_0f7a4 cJ6_bitCount_0f7a4 1 (some .int), Cond.constant RJ6 265 (1431655765), Cond.constant RJ6 266 (858993459), Cond.constant RJ6 267 (252645135), Cond.methodLink RX2 55 yX2_strikesElsewhere, Cond.instanceMethod yX2_strikesElsewhere, Cond.selects RX2 yX2_strikesElsewhere yX2_strikesElsewhere, Cond.initialized RX2, Cond.code yX2_strikesElsewhere cX2_strikesElsewhere 6 (some .boolean)]
def wsX2_concludes_r2 : List Cond := [Cond.methodLink RX2 23 yX1_put, Cond.instanceMethod yX1_put, Cond.selects RX1 yX1_put yX1_put, Cond.code yX1_put cX1_put 3 none, Cond.methodLink RX2 58 yX1_firstPlaceOf, Cond.instanceMethod yX1_firstPlaceOf, Cond.selects RX1 yX1_firstPlaceOf yX1_firstPlaceOf, Cond.code yX1_firstPlaceOf cX1_firstPlaceOf 3 (some .int)]
def wsX2_concludes : List Cond := .code yX2_concludes cX2_concludes 4 (some .boolean) :: ((wsX2_concludes_r1 ++ wsX2_concludes_r2) ++ wsX20 ++ wsX10)
def wsX2_thinkAnew : List Cond := .code yX2_thinkAnew cX2_thinkAnew 4 none :: ([.fieldLink RX2 12 "CardFans$Watcher" "thoughts" "LCardFans$Row;", .constant RX2 22 (65535), .static yX3_setOf, .initialized RX3, .code yX3_setOf cX3_setOf 1 (some .int), .methodLink RX2 23 yX1_put, .instanceMethod yX1_put, .selects RX1 yX1_put yX1_put, .initialized RX1, .code yX1_put cX1_put 3 none, .fieldLink RX1 9 "CardFans$Row" "numbers" "[I", .static yX3_isSixteenth, .code yX3_isSixteenth cX3_isSixteenth 1 (some .boolean)] ++ wsX20 ++ wsX10)
def wsX2_see_r1 : List Cond := [Cond.fieldLink RX2 30 "CardFans$Watcher" "glimpses" "I", Cond.fieldLink RX2 12 "CardFans$Watcher" "thoughts" "LCardFans$Row;", Cond.fieldLink RX2 45 "CardFans$Watcher" "timesAnew" "I", Cond.static yX3_setOf, Cond.initialized RX3, Cond.code yX3_setOf cX3_setOf 1 (some .int), Cond.methodLink RX2 23 yX1_put, Cond.instanceMethod yX1_put, Cond.selects RX1 yX1_put yX1_put, Cond.initialized RX1, Cond.code yX1_put cX1_put 3 none, Cond.fieldLink RX1 9 "CardFans$Row" "numbers" "[I", Cond.static yX3_isSixteenth, Cond.code yX3_isSixteenth cX3_isSixteenth 1 (some .boolean), Cond.methodLink RX2 38 yX2_concludes, Cond.instanceMethod yX2_concludes, Cond.selects RX2 yX2_concludes yX2_concludes, Cond.initialized RX2, Cond.code yX2_concludes cX2_concludes 4 (some .boolean), Cond.methodLink RX2 48 yX1_at, Cond.instanceMethod yX1_at, Cond.selects RX1 yX1_at yX1_at, Cond.code yX1_at cX1_at 2 (some .int), Cond.static yX3_isOneAlone]
def wsX2_see_r2 : List Cond := [Cond.code yX3_isOneAlone cX3_isOneAlone 1 (some .boolean), Cond.methodLink RX3 214 yJ6_bitCount_0f7a4, Cond.static yJ6_bitCount_0f7a4, Cond.initialized RJ6, Cond.code yJ6_bitCount_0f7a4 cJ6_bitCount_0f7a4 1 (some .int), Cond.constant RJ6 265 (1431655765), Cond.constant RJ6 266 (858993459), Cond.constant RJ6 267 (252645135), Cond.methodLink RX2 55 yX2_strikesElsewhere, Cond.instanceMethod yX2_strikesElsewhere, Cond.selects RX2 yX2_strikesElsewhere yX2_strikesElsewhere, Cond.code yX2_strikesElsewhere cX2_strikesElsewhere 6 (some .boolean), Cond.methodLink RX2 58 yX1_firstPlaceOf, Cond.instanceMethod yX1_firstPlaceOf, Cond.selects RX1 yX1_firstPlaceOf yX1_firstPlaceOf, Cond.code yX1_firstPlaceOf cX1_firstPlaceOf 3 (some .int), Cond.methodLink RX2 42 yX2_thinkAnew, Cond.instanceMethod yX2_thinkAnew, Cond.selects RX2 yX2_thinkAnew yX2_thinkAnew, Cond.code yX2_thinkAnew cX2_thinkAnew 4 none, Cond.constant RX2 22 (65535)]
def wsX2_see : List Cond := .code yX2_see cX2_see 3 none :: ((wsX2_see_r1 ++ wsX2_see_r2) ++ wsX20 ++ wsX10)
def wsX2_placesHeldPossible : List Cond := .code yX2_placesHeldPossible cX2_placesHeldPossible 4 (some .int) :: ([.fieldLink RX2 12 "CardFans$Watcher" "thoughts" "LCardFans$Row;", .methodLink RX2 48 yX1_at, .instanceMethod yX1_at, .selects RX1 yX1_at yX1_at, .initialized RX1, .code yX1_at cX1_at 2 (some .int), .fieldLink RX1 9 "CardFans$Row" "numbers" "[I", .static yX3_isSixteenth, .initialized RX3, .code yX3_isSixteenth cX3_isSixteenth 1 (some .boolean), .static yX3_setOf, .code yX3_setOf cX3_setOf 1 (some .int)] ++ wsX20 ++ wsX10)
def wsX2_placesSettled : List Cond := .code yX2_placesSettled cX2_placesSettled 3 (some .int) :: ([.fieldLink RX2 12 "CardFans$Watcher" "thoughts" "LCardFans$Row;", .methodLink RX2 48 yX1_at, .instanceMethod yX1_at, .selects RX1 yX1_at yX1_at, .initialized RX1, .code yX1_at cX1_at 2 (some .int), .fieldLink RX1 9 "CardFans$Row" "numbers" "[I", .static yX3_isSixteenth, .initialized RX3, .code yX3_isSixteenth cX3_isSixteenth 1 (some .boolean), .static yX3_isOneAlone, .code yX3_isOneAlone cX3_isOneAlone 1 (some .boolean), .methodLink RX3 214 yJ6_bitCount_0f7a4, .static yJ6_bitCount_0f7a4, .initialized RJ6, .code yJ6_bitCount_0f7a4 cJ6_bitCount_0f7a4 1 (some .int), .constant RJ6 265 (1431655765), .constant RJ6 266 (858993459), .constant RJ6 267 (252645135)] ++ wsX20 ++ wsX10)
def wsX2_placesSettledRightly : List Cond := .code yX2_placesSettledRightly cX2_placesSettledRightly 4 (some .int) :: ([.fieldLink RX2 12 "CardFans$Watcher" "thoughts" "LCardFans$Row;", .methodLink RX2 48 yX1_at, .instanceMethod yX1_at, .selects RX1 yX1_at yX1_at, .initialized RX1, .code yX1_at cX1_at 2 (some .int), .fieldLink RX1 9 "CardFans$Row" "numbers" "[I", .static yX3_isSixteenth, .initialized RX3, .code yX3_isSixteenth cX3_isSixteenth 1 (some .boolean), .static yX3_setOf, .code yX3_setOf cX3_setOf 1 (some .int)] ++ wsX20 ++ wsX10)
def wsX2_cardsThought : List Cond := .code yX2_cardsThought cX2_cardsThought 3 (some .int) :: ([.fieldLink RX2 12 "CardFans$Watcher" "thoughts" "LCardFans$Row;", .methodLink RX2 48 yX1_at, .instanceMethod yX1_at, .selects RX1 yX1_at yX1_at, .initialized RX1, .code yX1_at cX1_at 2 (some .int), .fieldLink RX1 9 "CardFans$Row" "numbers" "[I", .static yX3_isSixteenth, .initialized RX3, .code yX3_isSixteenth cX3_isSixteenth 1 (some .boolean), .methodLink RX2 61 yJ6_bitCount_0f7a4, .static yJ6_bitCount_0f7a4, .initialized RJ6, .code yJ6_bitCount_0f7a4 cJ6_bitCount_0f7a4 1 (some .int), .constant RJ6 265 (1431655765), .constant RJ6 266 (858993459), .constant RJ6 267 (252645135)] ++ wsX20 ++ wsX10)
def wsX3_init : List Cond := .code yX3_init cX3_init 1 none :: ([.methodLink RX3 3 objectInit, .instanceMethod objectInit, .code objectInit ⟨#[0xb1]⟩ 1 none, .classLink RX3 9 RX1, .instantiable RX1 2, .initialized RX1, .fieldLink RX3 12 "CardFans" "pack" "LCardFans$Row;", .fieldLink RX3 16 "CardFans" "trial" "LCardFans$Row;", .classLink RX3 19 RX2, .fieldLink RX3 21 "CardFans" "watchers" "[LCardFans$Watcher;", .classLink RX3 25 RX0, .fieldLink RX3 27 "CardFans" "players" "[LCardFans$Player;", .instanceMethod yX1_init, .code yX1_init cX1_init 1 none, .methodLink RX1 3 objectInit, .arrayClass .int, .fieldLink RX1 9 "CardFans$Row" "numbers" "[I", .fieldLink RX1 15 "CardFans$Row" "carried" "[I", .methodLink RX3 31 yX1_putInOrder, .instanceMethod yX1_putInOrder, .selects RX1 yX1_putInOrder yX1_putInOrder, .code yX1_putInOrder cX1_putInOrder 2 none] ++ wsX10 ++ wsX30)
def wsX3_isWay : List Cond := .code yX3_isWay cX3_isWay 2 (some .boolean) :: ([])
def wsX3_requireWay : List Cond := .code yX3_requireWay cX3_requireWay 2 none :: ([.classLink RX3 196 "java/lang/IllegalArgumentException", .initialized "java/lang/IllegalArgumentException", .methodLink RX3 192 yX3_isWay, .static yX3_isWay, .initialized RX3, .code yX3_isWay cX3_isWay 2 (some .boolean)] ++ (vx_atS RX3 200 "java/lang/IllegalArgumentException" ["java/lang/RuntimeException", "java/lang/Exception"]).filter goodWord)
def wsX3_go_r1 : List Cond := [Cond.fieldLink RX3 12 "CardFans" "pack" "LCardFans$Row;", Cond.fieldLink RX3 21 "CardFans" "watchers" "[LCardFans$Watcher;", Cond.fieldLink RX3 44 "CardFans" "waysDone" "I", Cond.methodLink RX3 34 yX3_requireWay, Cond.static yX3_requireWay, Cond.initialized RX3, Cond.code yX3_requireWay cX3_requireWay 2 none, Cond.classLink RX3 196 "java/lang/IllegalArgumentException", Cond.initialized "java/lang/IllegalArgumentException", Cond.methodLink RX3 192 yX3_isWay, Cond.static yX3_isWay, Cond.code yX3_isWay cX3_isWay 2 (some .boolean), Cond.methodLink RX3 38 yX1_carry, Cond.instanceMethod yX1_carry, Cond.selects RX1 yX1_carry yX1_carry, Cond.initialized RX1, Cond.code yX1_carry cX1_carry 5 none, Cond.fieldLink RX1 15 "CardFans$Row" "carried" "[I", Cond.fieldLink RX1 9 "CardFans$Row" "numbers" "[I", Cond.static yX3_placeAfter, Cond.code yX3_placeAfter cX3_placeAfter 3 (some .int), Cond.methodLink RX3 211 yX3_placeAfterDeal, Cond.static yX3_placeAfterDeal, Cond.code yX3_placeAfterDeal cX3_placeAfterDeal 4 (some .int)]
def wsX3_go_r2 : List Cond := [Cond.static yX3_isSixteenth, Cond.code yX3_isSixteenth cX3_isSixteenth 1 (some .boolean), Cond.methodLink RX3 41 yX2_follow, Cond.instanceMethod yX2_follow, Cond.selects RX2 yX2_follow yX2_follow, Cond.initialized RX2, Cond.code yX2_follow cX2_follow 3 none, Cond.fieldLink RX2 12 "CardFans$Watcher" "thoughts" "LCardFans$Row;", Cond.methodLink RX2 27 yX1_carry, Cond.methodLink RX3 48 yX1_at, Cond.instanceMethod yX1_at, Cond.selects RX1 yX1_at yX1_at, Cond.code yX1_at cX1_at 2 (some .int)]
def wsX3_go : List Cond := .code yX3_go cX3_go 8 (some .int) :: ((wsX3_go_r1 ++ wsX3_go_r2) ++ wsX30 ++ wsX10 ++ wsX20 ++ (vx_atS RX3 200 "java/lang/IllegalArgumentException" ["java/lang/RuntimeException", "java/lang/Exception"]).filter goodWord)
def wsX3_falseCut_r1 : List Cond := [Cond.fieldLink RX3 21 "CardFans" "watchers" "[LCardFans$Watcher;", Cond.fieldLink RX3 56 "CardFans" "falseCuts" "I", Cond.methodLink RX3 34 yX3_requireWay, Cond.static yX3_requireWay, Cond.initialized RX3, Cond.code yX3_requireWay cX3_requireWay 2 none, Cond.classLink RX3 196 "java/lang/IllegalArgumentException", Cond.initialized "java/lang/IllegalArgumentException", Cond.methodLink RX3 192 yX3_isWay, Cond.static yX3_isWay, Cond.code yX3_isWay cX3_isWay 2 (some .boolean), Cond.methodLink RX3 41 yX2_follow, Cond.instanceMethod yX2_follow, Cond.selects RX2 yX2_follow yX2_follow, Cond.initialized RX2, Cond.code yX2_follow cX2_follow 3 none, Cond.fieldLink RX2 12 "CardFans$Watcher" "thoughts" "LCardFans$Row;", Cond.methodLink RX2 27 yX1_carry, Cond.instanceMethod yX1_carry, Cond.selects RX1 yX1_carry yX1_carry, Cond.initialized RX1, Cond.code yX1_carry cX1_carry 5 none, Cond.fieldLink RX1 15 "CardFans$Row" "carried" "[I", Cond.fieldLink RX1 9 "CardFans$Row" "numbers" "[I"]
def wsX3_falseCut_r2 : List Cond := [Cond.static yX3_placeAfter, Cond.code yX3_placeAfter cX3_placeAfter 3 (some .int), Cond.methodLink RX3 211 yX3_placeAfterDeal, Cond.static yX3_placeAfterDeal, Cond.code yX3_placeAfterDeal cX3_placeAfterDeal 4 (some .int), Cond.static yX3_isSixteenth, Cond.code yX3_isSixteenth cX3_isSixteenth 1 (some .boolean)]
def wsX3_falseCut : List Cond := .code yX3_falseCut cX3_falseCut 7 (some .int) :: ((wsX3_falseCut_r1 ++ wsX3_falseCut_r2) ++ wsX30 ++ wsX20 ++ wsX10 ++ (vx_atS RX3 200 "java/lang/IllegalArgumentException" ["java/lang/RuntimeException", "java/lang/Exception"]).filter goodWord)
def wsX3_requirePlace : List Cond := .code yX3_requirePlace cX3_requirePlace 1 none :: ([.classLink RX3 116 "java/lang/IndexOutOfBoundsException", .initialized "java/lang/IndexOutOfBoundsException", .methodLink RX3 201 yX3_isSixteenth, .static yX3_isSixteenth, .initialized RX3, .code yX3_isSixteenth cX3_isSixteenth 1 (some .boolean)] ++ (vx_atS RX3 120 "java/lang/IndexOutOfBoundsException" ["java/lang/RuntimeException", "java/lang/Exception"]).filter goodWord)
def wsX3_comes : List Cond := .code yX3_comes cX3_comes 4 (some .int) :: ([.methodLink RX3 34 yX3_requireWay, .static yX3_requireWay, .initialized RX3, .code yX3_requireWay cX3_requireWay 2 none, .classLink RX3 196 "java/lang/IllegalArgumentException", .initialized "java/lang/IllegalArgumentException", .methodLink RX3 192 yX3_isWay, .static yX3_isWay, .code yX3_isWay cX3_isWay 2 (some .boolean), .methodLink RX3 59 yX3_requirePlace, .static yX3_requirePlace, .code yX3_requirePlace cX3_requirePlace 1 none, .classLink RX3 116 "java/lang/IndexOutOfBoundsException", .initialized "java/lang/IndexOutOfBoundsException", .methodLink RX3 201 yX3_isSixteenth, .static yX3_isSixteenth, .code yX3_isSixteenth cX3_isSixteenth 1 (some .boolean), .methodLink RX3 63 yX3_placeAfter, .static yX3_placeAfter, .code yX3_placeAfter cX3_placeAfter 3 (some .int), .methodLink RX3 211 yX3_placeAfterDeal, .static yX3_placeAfterDeal, .code yX3_placeAfterDeal cX3_placeAfterDeal 4 (some .int)] ++ (vx_atS RX3 200 "java/lang/IllegalArgumentException" ["java/lang/RuntimeException", "java/lang/Exception"]).filter goodWord ++ (vx_atS RX3 120 "java/lang/IndexOutOfBoundsException" ["java/lang/RuntimeException", "java/lang/Exception"]).filter goodWord)
def wsX3_card : List Cond := .code yX3_card cX3_card 2 (some .int) :: ([.fieldLink RX3 12 "CardFans" "pack" "LCardFans$Row;", .methodLink RX3 59 yX3_requirePlace, .static yX3_requirePlace, .initialized RX3, .code yX3_requirePlace cX3_requirePlace 1 none, .classLink RX3 116 "java/lang/IndexOutOfBoundsException", .initialized "java/lang/IndexOutOfBoundsException", .methodLink RX3 201 yX3_isSixteenth, .static yX3_isSixteenth, .code yX3_isSixteenth cX3_isSixteenth 1 (some .boolean), .methodLink RX3 48 yX1_at, .instanceMethod yX1_at, .selects RX1 yX1_at yX1_at, .initialized RX1, .code yX1_at cX1_at 2 (some .int), .fieldLink RX1 9 "CardFans$Row" "numbers" "[I"] ++ wsX30 ++ wsX10 ++ (vx_atS RX3 120 "java/lang/IndexOutOfBoundsException" ["java/lang/RuntimeException", "java/lang/Exception"]).filter goodWord)
def wsX3_requireCard : List Cond := .code yX3_requireCard cX3_requireCard 1 none :: ([.classLink RX3 116 "java/lang/IndexOutOfBoundsException", .initialized "java/lang/IndexOutOfBoundsException", .methodLink RX3 201 yX3_isSixteenth, .static yX3_isSixteenth, .initialized RX3, .code yX3_isSixteenth cX3_isSixteenth 1 (some .boolean)] ++ (vx_atS RX3 120 "java/lang/IndexOutOfBoundsException" ["java/lang/RuntimeException", "java/lang/Exception"]).filter goodWord)
def wsX3_find : List Cond := .code yX3_find cX3_find 2 (some .int) :: ([.fieldLink RX3 12 "CardFans" "pack" "LCardFans$Row;", .methodLink RX3 67 yX3_requireCard, .static yX3_requireCard, .initialized RX3, .code yX3_requireCard cX3_requireCard 1 none, .classLink RX3 116 "java/lang/IndexOutOfBoundsException", .initialized "java/lang/IndexOutOfBoundsException", .methodLink RX3 201 yX3_isSixteenth, .static yX3_isSixteenth, .code yX3_isSixteenth cX3_isSixteenth 1 (some .boolean), .methodLink RX3 70 yX1_firstPlaceOf, .instanceMethod yX1_firstPlaceOf, .selects RX1 yX1_firstPlaceOf yX1_firstPlaceOf, .initialized RX1, .code yX1_firstPlaceOf cX1_firstPlaceOf 3 (some .int), .fieldLink RX1 9 "CardFans$Row" "numbers" "[I"] ++ wsX30 ++ wsX10 ++ (vx_atS RX3 120 "java/lang/IndexOutOfBoundsException" ["java/lang/RuntimeException", "java/lang/Exception"]).filter goodWord)
def wsX3_watch_r1 : List Cond := [Cond.classLink RX3 76 "java/lang/IllegalStateException", Cond.initialized "java/lang/IllegalStateException", Cond.fieldLink RX3 73 "CardFans" "watcherCount" "I", Cond.fieldLink RX3 21 "CardFans" "watchers" "[LCardFans$Watcher;", Cond.classLink RX3 19 RX2, Cond.instantiable RX2 4, Cond.initialized RX2, Cond.methodLink RX3 83 yX2_init, Cond.instanceMethod yX2_init, Cond.code yX2_init cX2_init 3 none, Cond.methodLink RX2 3 objectInit, Cond.instanceMethod objectInit, Cond.code objectInit ⟨#[0xb1]⟩ 1 none, Cond.classLink RX2 9 RX1, Cond.instantiable RX1 2, Cond.initialized RX1, Cond.fieldLink RX2 12 "CardFans$Watcher" "thoughts" "LCardFans$Row;", Cond.fieldLink RX2 18 "CardFans$Watcher" "isSharp" "Z", Cond.constant RX2 22 (65535), Cond.instanceMethod yX1_init, Cond.code yX1_init cX1_init 1 none, Cond.methodLink RX1 3 objectInit, Cond.arrayClass .int, Cond.fieldLink RX1 9 "CardFans$Row" "numbers" "[I"]
def wsX3_watch_r2 : List Cond := [Cond.fieldLink RX1 15 "CardFans$Row" "carried" "[I", Cond.methodLink RX2 23 yX1_put, Cond.instanceMethod yX1_put, Cond.selects RX1 yX1_put yX1_put, Cond.code yX1_put cX1_put 3 none, Cond.static yX3_isSixteenth, Cond.initialized RX3, Cond.code yX3_isSixteenth cX3_isSixteenth 1 (some .boolean)]
def wsX3_watch : List Cond := .code yX3_watch cX3_watch 3 (some .int) :: ((wsX3_watch_r1 ++ wsX3_watch_r2) ++ wsX30 ++ wsX20 ++ wsX10 ++ (vx_atS RX3 80 "java/lang/IllegalStateException" ["java/lang/RuntimeException", "java/lang/Exception"]).filter goodWord)
def wsX3_watcherOf : List Cond := .code yX3_watcherOf cX3_watcherOf 3 (some (.object "CardFans$Watcher")) :: ([.classLink RX3 116 "java/lang/IndexOutOfBoundsException", .initialized "java/lang/IndexOutOfBoundsException", .fieldLink RX3 21 "CardFans" "watchers" "[LCardFans$Watcher;"] ++ wsX30 ++ (vx_atS RX3 120 "java/lang/IndexOutOfBoundsException" ["java/lang/RuntimeException", "java/lang/Exception"]).filter goodWord)
def wsX3_glimpse_r1 : List Cond := [Cond.fieldLink RX3 12 "CardFans" "pack" "LCardFans$Row;", Cond.methodLink RX3 86 yX3_watcherOf, Cond.instanceMethod yX3_watcherOf, Cond.selects RX3 yX3_watcherOf yX3_watcherOf, Cond.initialized RX3, Cond.code yX3_watcherOf cX3_watcherOf 3 (some (.object "CardFans$Watcher")), Cond.classLink RX3 116 "java/lang/IndexOutOfBoundsException", Cond.initialized "java/lang/IndexOutOfBoundsException", Cond.fieldLink RX3 21 "CardFans" "watchers" "[LCardFans$Watcher;", Cond.methodLink RX3 59 yX3_requirePlace, Cond.static yX3_requirePlace, Cond.code yX3_requirePlace cX3_requirePlace 1 none, Cond.methodLink RX3 201 yX3_isSixteenth, Cond.static yX3_isSixteenth, Cond.code yX3_isSixteenth cX3_isSixteenth 1 (some .boolean), Cond.methodLink RX3 48 yX1_at, Cond.instanceMethod yX1_at, Cond.selects RX1 yX1_at yX1_at, Cond.initialized RX1, Cond.code yX1_at cX1_at 2 (some .int), Cond.fieldLink RX1 9 "CardFans$Row" "numbers" "[I", Cond.methodLink RX3 90 yX2_see, Cond.instanceMethod yX2_see, Cond.selects RX2 yX2_see yX2_see]
def wsX3_glimpse_r2 : List Cond := [Cond.initialized RX2, Cond.code yX2_see cX2_see 3 none, Cond.fieldLink RX2 30 "CardFans$Watcher" "glimpses" "I", Cond.fieldLink RX2 12 "CardFans$Watcher" "thoughts" "LCardFans$Row;", Cond.fieldLink RX2 45 "CardFans$Watcher" "timesAnew" "I", Cond.static yX3_setOf, Cond.code yX3_setOf cX3_setOf 1 (some .int), Cond.methodLink RX2 23 yX1_put, Cond.instanceMethod yX1_put, Cond.selects RX1 yX1_put yX1_put, Cond.code yX1_put cX1_put 3 none, Cond.methodLink RX2 38 yX2_concludes, Cond.instanceMethod yX2_concludes, Cond.selects RX2 yX2_concludes yX2_concludes, Cond.code yX2_concludes cX2_concludes 4 (some .boolean), Cond.methodLink RX2 48 yX1_at, Cond.static yX3_isOneAlone, Cond.code yX3_isOneAlone cX3_isOneAlone 1 (some .boolean), Cond.methodLink RX3 214 yJ6_bitCount_0f7a4, Cond.static yJ6_bitCount_0f7a4, Cond.initialized RJ6, Cond.code yJ6_bitCount_0f7a4 cJ6_bitCount_0f7a4 1 (some .int), Cond.constant RJ6 265 (1431655765), Cond.constant RJ6 266 (858993459)]
def wsX3_glimpse_r3 : List Cond := [Cond.constant RJ6 267 (252645135), Cond.methodLink RX2 55 yX2_strikesElsewhere, Cond.instanceMethod yX2_strikesElsewhere, Cond.selects RX2 yX2_strikesElsewhere yX2_strikesElsewhere, Cond.code yX2_strikesElsewhere cX2_strikesElsewhere 6 (some .boolean), Cond.methodLink RX2 58 yX1_firstPlaceOf, Cond.instanceMethod yX1_firstPlaceOf, Cond.selects RX1 yX1_firstPlaceOf yX1_firstPlaceOf, Cond.code yX1_firstPlaceOf cX1_firstPlaceOf 3 (some .int), Cond.methodLink RX2 42 yX2_thinkAnew, Cond.instanceMethod yX2_thinkAnew, Cond.selects RX2 yX2_thinkAnew yX2_thinkAnew, Cond.code yX2_thinkAnew cX2_thinkAnew 4 none, Cond.constant RX2 22 (65535)]
def wsX3_glimpse : List Cond := .code yX3_glimpse cX3_glimpse 5 (some .int) :: ((wsX3_glimpse_r1 ++ (wsX3_glimpse_r2 ++ wsX3_glimpse_r3)) ++ wsX30 ++ wsX10 ++ wsX20 ++ (vx_atS RX3 120 "java/lang/IndexOutOfBoundsException" ["java/lang/RuntimeException", "java/lang/Exception"]).filter goodWord)
def wsX3_thinks : List Cond := .code yX3_thinks cX3_thinks 4 (some .int) :: ([.methodLink RX3 86 yX3_watcherOf, .instanceMethod yX3_watcherOf, .selects RX3 yX3_watcherOf yX3_watcherOf, .initialized RX3, .code yX3_watcherOf cX3_watcherOf 3 (some (.object "CardFans$Watcher")), .classLink RX3 116 "java/lang/IndexOutOfBoundsException", .initialized "java/lang/IndexOutOfBoundsException", .fieldLink RX3 21 "CardFans" "watchers" "[LCardFans$Watcher;", .methodLink RX3 59 yX3_requirePlace, .static yX3_requirePlace, .code yX3_requirePlace cX3_requirePlace 1 none, .methodLink RX3 201 yX3_isSixteenth, .static yX3_isSixteenth, .code yX3_isSixteenth cX3_isSixteenth 1 (some .boolean), .methodLink RX3 48 yX1_at, .instanceMethod yX1_at, .selects RX1 yX1_at yX1_at, .initialized RX1, .code yX1_at cX1_at 2 (some .int), .fieldLink RX1 9 "CardFans$Row" "numbers" "[I"] ++ wsX20 ++ wsX30 ++ wsX10 ++ (vx_atS RX3 120 "java/lang/IndexOutOfBoundsException" ["java/lang/RuntimeException", "java/lang/Exception"]).filter goodWord)
def wsX3_sure : List Cond := .code yX3_sure cX3_sure 4 (some .int) :: ([.methodLink RX3 86 yX3_watcherOf, .instanceMethod yX3_watcherOf, .selects RX3 yX3_watcherOf yX3_watcherOf, .initialized RX3, .code yX3_watcherOf cX3_watcherOf 3 (some (.object "CardFans$Watcher")), .classLink RX3 116 "java/lang/IndexOutOfBoundsException", .initialized "java/lang/IndexOutOfBoundsException", .fieldLink RX3 21 "CardFans" "watchers" "[LCardFans$Watcher;", .methodLink RX3 67 yX3_requireCard, .static yX3_requireCard, .code yX3_requireCard cX3_requireCard 1 none, .methodLink RX3 201 yX3_isSixteenth, .static yX3_isSixteenth, .code yX3_isSixteenth cX3_isSixteenth 1 (some .boolean), .methodLink RX3 96 yX3_setOf, .static yX3_setOf, .code yX3_setOf cX3_setOf 1 (some .int), .methodLink RX3 70 yX1_firstPlaceOf, .instanceMethod yX1_firstPlaceOf, .selects RX1 yX1_firstPlaceOf yX1_firstPlaceOf, .initialized RX1, .code yX1_firstPlaceOf cX1_firstPlaceOf 3 (some .int), .fieldLink RX1 9 "CardFans$Row" "numbers" "[I"] ++ wsX20 ++ wsX30 ++ wsX10 ++ (vx_atS RX3 120 "java/lang/IndexOutOfBoundsException" ["java/lang/RuntimeException", "java/lang/Exception"]).filter goodWord)
def wsX3_watcher_r1 : List Cond := [Cond.classLink RX3 116 "java/lang/IndexOutOfBoundsException", Cond.initialized "java/lang/IndexOutOfBoundsException", Cond.fieldLink RX3 12 "CardFans" "pack" "LCardFans$Row;", Cond.methodLink RX3 86 yX3_watcherOf, Cond.instanceMethod yX3_watcherOf, Cond.selects RX3 yX3_watcherOf yX3_watcherOf, Cond.initialized RX3, Cond.code yX3_watcherOf cX3_watcherOf 3 (some (.object "CardFans$Watcher")), Cond.fieldLink RX3 21 "CardFans" "watchers" "[LCardFans$Watcher;", Cond.methodLink RX3 99 yX2_placesHeldPossible, Cond.instanceMethod yX2_placesHeldPossible, Cond.selects RX2 yX2_placesHeldPossible yX2_placesHeldPossible, Cond.initialized RX2, Cond.code yX2_placesHeldPossible cX2_placesHeldPossible 4 (some .int), Cond.fieldLink RX2 12 "CardFans$Watcher" "thoughts" "LCardFans$Row;", Cond.methodLink RX2 48 yX1_at, Cond.instanceMethod yX1_at, Cond.selects RX1 yX1_at yX1_at, Cond.initialized RX1, Cond.code yX1_at cX1_at 2 (some .int), Cond.fieldLink RX1 9 "CardFans$Row" "numbers" "[I", Cond.static yX3_isSixteenth, Cond.code yX3_isSixteenth cX3_isSixteenth 1 (some .boolean), Cond.static yX3_setOf]
def wsX3_watcher_r2 : List Cond := [Cond.code yX3_setOf cX3_setOf 1 (some .int), Cond.methodLink RX3 103 yX2_placesSettled, Cond.instanceMethod yX2_placesSettled, Cond.selects RX2 yX2_placesSettled yX2_placesSettled, Cond.code yX2_placesSettled cX2_placesSettled 3 (some .int), Cond.static yX3_isOneAlone, Cond.code yX3_isOneAlone cX3_isOneAlone 1 (some .boolean), Cond.methodLink RX3 214 yJ6_bitCount_0f7a4, Cond.static yJ6_bitCount_0f7a4, Cond.initialized RJ6, Cond.code yJ6_bitCount_0f7a4 cJ6_bitCount_0f7a4 1 (some .int), Cond.constant RJ6 265 (1431655765), Cond.constant RJ6 266 (858993459), Cond.constant RJ6 267 (252645135), Cond.methodLink RX3 107 yX2_placesSettledRightly, Cond.instanceMethod yX2_placesSettledRightly, Cond.selects RX2 yX2_placesSettledRightly yX2_placesSettledRightly, Cond.code yX2_placesSettledRightly cX2_placesSettledRightly 4 (some .int)]
def wsX3_watcher : List Cond := .code yX3_watcher cX3_watcher 4 (some .int) :: ((wsX3_watcher_r1 ++ wsX3_watcher_r2) ++ wsX20 ++ wsX30 ++ wsX10 ++ (vx_atS RX3 120 "java/lang/IndexOutOfBoundsException" ["java/lang/RuntimeException", "java/lang/Exception"]).filter goodWord)
def wsX3_requireSixteenth : List Cond := .code yX3_requireSixteenth cX3_requireSixteenth 1 none :: ([.classLink RX3 196 "java/lang/IllegalArgumentException", .initialized "java/lang/IllegalArgumentException", .methodLink RX3 201 yX3_isSixteenth, .static yX3_isSixteenth, .initialized RX3, .code yX3_isSixteenth cX3_isSixteenth 1 (some .boolean)] ++ (vx_atS RX3 200 "java/lang/IllegalArgumentException" ["java/lang/RuntimeException", "java/lang/Exception"]).filter goodWord)
def wsX3_sit : List Cond := .code yX3_sit cX3_sit 3 (some .int) :: ([.classLink RX3 76 "java/lang/IllegalStateException", .initialized "java/lang/IllegalStateException", .fieldLink RX3 124 "CardFans" "playerCount" "I", .fieldLink RX3 27 "CardFans" "players" "[LCardFans$Player;", .classLink RX3 25 RX0, .instantiable RX0 2, .initialized RX0, .methodLink RX3 121 yX3_requireSixteenth, .static yX3_requireSixteenth, .initialized RX3, .code yX3_requireSixteenth cX3_requireSixteenth 1 none, .classLink RX3 196 "java/lang/IllegalArgumentException", .initialized "java/lang/IllegalArgumentException", .methodLink RX3 201 yX3_isSixteenth, .static yX3_isSixteenth, .code yX3_isSixteenth cX3_isSixteenth 1 (some .boolean), .methodLink RX3 129 yX0_init, .instanceMethod yX0_init, .code yX0_init cX0_init 2 none, .methodLink RX0 1 objectInit, .instanceMethod objectInit, .code objectInit ⟨#[0xb1]⟩ 1 none, .fieldLink RX0 7 "CardFans$Player" "latestCard" "I", .fieldLink RX0 13 "CardFans$Player" "habit" "I"] ++ wsX30 ++ wsX00 ++ (vx_atS RX3 80 "java/lang/IllegalStateException" ["java/lang/RuntimeException", "java/lang/Exception"]).filter goodWord ++ (vx_atS RX3 200 "java/lang/IllegalArgumentException" ["java/lang/RuntimeException", "java/lang/Exception"]).filter goodWord)
def wsX3_fan : List Cond := .code yX3_fan cX3_fan 3 (some .int) :: ([.fieldLink RX3 131 "CardFans" "leanOfFan" "I", .methodLink RX3 121 yX3_requireSixteenth, .static yX3_requireSixteenth, .initialized RX3, .code yX3_requireSixteenth cX3_requireSixteenth 1 none, .classLink RX3 196 "java/lang/IllegalArgumentException", .initialized "java/lang/IllegalArgumentException", .methodLink RX3 201 yX3_isSixteenth, .static yX3_isSixteenth, .code yX3_isSixteenth cX3_isSixteenth 1 (some .boolean)] ++ wsX30 ++ (vx_atS RX3 200 "java/lang/IllegalArgumentException" ["java/lang/RuntimeException", "java/lang/Exception"]).filter goodWord)
def wsX3_playerOf : List Cond := .code yX3_playerOf cX3_playerOf 3 (some (.object "CardFans$Player")) :: ([.classLink RX3 116 "java/lang/IndexOutOfBoundsException", .initialized "java/lang/IndexOutOfBoundsException", .fieldLink RX3 27 "CardFans" "players" "[LCardFans$Player;"] ++ wsX30 ++ (vx_atS RX3 120 "java/lang/IndexOutOfBoundsException" ["java/lang/RuntimeException", "java/lang/Exception"]).filter goodWord)
def wsJ9_floorMod_7cf53 : List Cond := .code yJ9_floorMod_7cf53 cJ9_floorMod_7cf53 3 (some .int) :: ([])
def wsX3_take : List Cond := .code yX3_take cX3_take 4 (some .int) :: ([.fieldLink RX3 131 "CardFans" "leanOfFan" "I", .fieldLink RX3 141 "CardFans" "cardsTaken" "I", .fieldLink RX3 12 "CardFans" "pack" "LCardFans$Row;", .methodLink RX3 134 yX3_playerOf, .instanceMethod yX3_playerOf, .selects RX3 yX3_playerOf yX3_playerOf, .initialized RX3, .code yX3_playerOf cX3_playerOf 3 (some (.object "CardFans$Player")), .classLink RX3 116 "java/lang/IndexOutOfBoundsException", .initialized "java/lang/IndexOutOfBoundsException", .fieldLink RX3 27 "CardFans" "players" "[LCardFans$Player;", .methodLink RX3 144 yJ9_floorMod_7cf53, .static yJ9_floorMod_7cf53, .initialized RJ9, .code yJ9_floorMod_7cf53 cJ9_floorMod_7cf53 3 (some .int), .methodLink RX3 48 yX1_at, .instanceMethod yX1_at, .selects RX1 yX1_at yX1_at, .initialized RX1, .code yX1_at cX1_at 2 (some .int), .fieldLink RX1 9 "CardFans$Row" "numbers" "[I", .static yX3_isSixteenth, .code yX3_isSixteenth cX3_isSixteenth 1 (some .boolean)] ++ wsX00 ++ wsX30 ++ wsX10 ++ (vx_atS RX3 120 "java/lang/IndexOutOfBoundsException" ["java/lang/RuntimeException", "java/lang/Exception"]).filter goodWord)
def wsX3_force_r1 : List Cond := [Cond.fieldLink RX3 12 "CardFans" "pack" "LCardFans$Row;", Cond.fieldLink RX3 141 "CardFans" "cardsTaken" "I", Cond.methodLink RX3 134 yX3_playerOf, Cond.instanceMethod yX3_playerOf, Cond.selects RX3 yX3_playerOf yX3_playerOf, Cond.initialized RX3, Cond.code yX3_playerOf cX3_playerOf 3 (some (.object "CardFans$Player")), Cond.classLink RX3 116 "java/lang/IndexOutOfBoundsException", Cond.initialized "java/lang/IndexOutOfBoundsException", Cond.fieldLink RX3 27 "CardFans" "players" "[LCardFans$Player;", Cond.methodLink RX3 67 yX3_requireCard, Cond.static yX3_requireCard, Cond.code yX3_requireCard cX3_requireCard 1 none, Cond.methodLink RX3 201 yX3_isSixteenth, Cond.static yX3_isSixteenth, Cond.code yX3_isSixteenth cX3_isSixteenth 1 (some .boolean), Cond.methodLink RX3 70 yX1_firstPlaceOf, Cond.instanceMethod yX1_firstPlaceOf, Cond.selects RX1 yX1_firstPlaceOf yX1_firstPlaceOf, Cond.initialized RX1, Cond.code yX1_firstPlaceOf cX1_firstPlaceOf 3 (some .int), Cond.fieldLink RX1 9 "CardFans$Row" "numbers" "[I", Cond.methodLink RX3 144 yJ9_floorMod_7cf53, Cond.static yJ9_floorMod_7cf53]
def wsX3_force_r2 : List Cond := [Cond.initialized RJ9, Cond.code yJ9_floorMod_7cf53 cJ9_floorMod_7cf53 3 (some .int)]
def wsX3_force : List Cond := .code yX3_force cX3_force 4 (some .int) :: ((wsX3_force_r1 ++ wsX3_force_r2) ++ wsX30 ++ wsX00 ++ wsX10 ++ (vx_atS RX3 120 "java/lang/IndexOutOfBoundsException" ["java/lang/RuntimeException", "java/lang/Exception"]).filter goodWord)
def wsX3_took : List Cond := .code yX3_took cX3_took 2 (some .int) :: ([.methodLink RX3 134 yX3_playerOf, .instanceMethod yX3_playerOf, .selects RX3 yX3_playerOf yX3_playerOf, .initialized RX3, .code yX3_playerOf cX3_playerOf 3 (some (.object "CardFans$Player")), .classLink RX3 116 "java/lang/IndexOutOfBoundsException", .initialized "java/lang/IndexOutOfBoundsException", .fieldLink RX3 27 "CardFans" "players" "[LCardFans$Player;"] ++ wsX00 ++ wsX30 ++ (vx_atS RX3 120 "java/lang/IndexOutOfBoundsException" ["java/lang/RuntimeException", "java/lang/Exception"]).filter goodWord)
def wsX3_count : List Cond := .code yX3_count cX3_count 2 (some .int) :: ([.classLink RX3 116 "java/lang/IndexOutOfBoundsException", .initialized "java/lang/IndexOutOfBoundsException", .fieldLink RX3 44 "CardFans" "waysDone" "I", .fieldLink RX3 56 "CardFans" "falseCuts" "I", .fieldLink RX3 73 "CardFans" "watcherCount" "I", .fieldLink RX3 124 "CardFans" "playerCount" "I", .fieldLink RX3 131 "CardFans" "leanOfFan" "I", .fieldLink RX3 141 "CardFans" "cardsTaken" "I", .fieldLink RX3 12 "CardFans" "pack" "LCardFans$Row;", .methodLink RX3 153 yX1_placesInOrder, .instanceMethod yX1_placesInOrder, .selects RX1 yX1_placesInOrder yX1_placesInOrder, .initialized RX1, .code yX1_placesInOrder cX1_placesInOrder 3 (some .int), .fieldLink RX1 9 "CardFans$Row" "numbers" "[I"] ++ wsX30 ++ wsX10 ++ (vx_atS RX3 120 "java/lang/IndexOutOfBoundsException" ["java/lang/RuntimeException", "java/lang/Exception"]).filter goodWord)
def wsX3_back_r1 : List Cond := [Cond.fieldLink RX3 16 "CardFans" "trial" "LCardFans$Row;", Cond.methodLink RX3 34 yX3_requireWay, Cond.static yX3_requireWay, Cond.initialized RX3, Cond.code yX3_requireWay cX3_requireWay 2 none, Cond.classLink RX3 196 "java/lang/IllegalArgumentException", Cond.initialized "java/lang/IllegalArgumentException", Cond.methodLink RX3 192 yX3_isWay, Cond.static yX3_isWay, Cond.code yX3_isWay cX3_isWay 2 (some .boolean), Cond.methodLink RX3 31 yX1_putInOrder, Cond.instanceMethod yX1_putInOrder, Cond.selects RX1 yX1_putInOrder yX1_putInOrder, Cond.initialized RX1, Cond.code yX1_putInOrder cX1_putInOrder 2 none, Cond.fieldLink RX1 9 "CardFans$Row" "numbers" "[I", Cond.methodLink RX3 38 yX1_carry, Cond.instanceMethod yX1_carry, Cond.selects RX1 yX1_carry yX1_carry, Cond.code yX1_carry cX1_carry 5 none, Cond.fieldLink RX1 15 "CardFans$Row" "carried" "[I", Cond.static yX3_placeAfter, Cond.code yX3_placeAfter cX3_placeAfter 3 (some .int), Cond.methodLink RX3 211 yX3_placeAfterDeal]
def wsX3_back_r2 : List Cond := [Cond.static yX3_placeAfterDeal, Cond.code yX3_placeAfterDeal cX3_placeAfterDeal 4 (some .int), Cond.static yX3_isSixteenth, Cond.code yX3_isSixteenth cX3_isSixteenth 1 (some .boolean), Cond.methodLink RX3 153 yX1_placesInOrder, Cond.instanceMethod yX1_placesInOrder, Cond.selects RX1 yX1_placesInOrder yX1_placesInOrder, Cond.code yX1_placesInOrder cX1_placesInOrder 3 (some .int)]
def wsX3_back : List Cond := .code yX3_back cX3_back 4 (some .int) :: ((wsX3_back_r1 ++ wsX3_back_r2) ++ wsX30 ++ wsX10 ++ (vx_atS RX3 200 "java/lang/IllegalArgumentException" ["java/lang/RuntimeException", "java/lang/Exception"]).filter goodWord)
def wsX3_placesOneWayFrom : List Cond := .code yX3_placesOneWayFrom cX3_placesOneWayFrom 3 (some .int) :: ([.methodLink RX3 96 yX3_setOf, .static yX3_setOf, .initialized RX3, .code yX3_setOf cX3_setOf 1 (some .int), .methodLink RX3 63 yX3_placeAfter, .static yX3_placeAfter, .code yX3_placeAfter cX3_placeAfter 3 (some .int), .methodLink RX3 211 yX3_placeAfterDeal, .static yX3_placeAfterDeal, .code yX3_placeAfterDeal cX3_placeAfterDeal 4 (some .int)])
def wsX3_bring_r1 : List Cond := [Cond.fieldLink RX3 12 "CardFans" "pack" "LCardFans$Row;", Cond.methodLink RX3 67 yX3_requireCard, Cond.static yX3_requireCard, Cond.initialized RX3, Cond.code yX3_requireCard cX3_requireCard 1 none, Cond.classLink RX3 116 "java/lang/IndexOutOfBoundsException", Cond.initialized "java/lang/IndexOutOfBoundsException", Cond.methodLink RX3 201 yX3_isSixteenth, Cond.static yX3_isSixteenth, Cond.code yX3_isSixteenth cX3_isSixteenth 1 (some .boolean), Cond.methodLink RX3 59 yX3_requirePlace, Cond.static yX3_requirePlace, Cond.code yX3_requirePlace cX3_requirePlace 1 none, Cond.methodLink RX3 96 yX3_setOf, Cond.static yX3_setOf, Cond.code yX3_setOf cX3_setOf 1 (some .int), Cond.methodLink RX3 70 yX1_firstPlaceOf, Cond.instanceMethod yX1_firstPlaceOf, Cond.selects RX1 yX1_firstPlaceOf yX1_firstPlaceOf, Cond.initialized RX1, Cond.code yX1_firstPlaceOf cX1_firstPlaceOf 3 (some .int), Cond.fieldLink RX1 9 "CardFans$Row" "numbers" "[I", Cond.methodLink RX3 158 yX3_placesOneWayFrom, Cond.static yX3_placesOneWayFrom]
def wsX3_bring_r2 : List Cond := [Cond.code yX3_placesOneWayFrom cX3_placesOneWayFrom 3 (some .int), Cond.methodLink RX3 63 yX3_placeAfter, Cond.static yX3_placeAfter, Cond.code yX3_placeAfter cX3_placeAfter 3 (some .int), Cond.methodLink RX3 211 yX3_placeAfterDeal, Cond.static yX3_placeAfterDeal, Cond.code yX3_placeAfterDeal cX3_placeAfterDeal 4 (some .int)]
def wsX3_bring : List Cond := .code yX3_bring cX3_bring 6 (some .int) :: ((wsX3_bring_r1 ++ wsX3_bring_r2) ++ wsX30 ++ wsX10 ++ (vx_atS RX3 120 "java/lang/IndexOutOfBoundsException" ["java/lang/RuntimeException", "java/lang/Exception"]).filter goodWord)
def wsX3_placeAfterRiffles : List Cond := .code yX3_placeAfterRiffles cX3_placeAfterRiffles 6 (some .int) :: ([.methodLink RX3 63 yX3_placeAfter, .static yX3_placeAfter, .initialized RX3, .code yX3_placeAfter cX3_placeAfter 3 (some .int), .methodLink RX3 211 yX3_placeAfterDeal, .static yX3_placeAfterDeal, .code yX3_placeAfterDeal cX3_placeAfterDeal 4 (some .int)])
def wsX3_riffles_r1 : List Cond := [Cond.fieldLink RX3 12 "CardFans" "pack" "LCardFans$Row;", Cond.methodLink RX3 67 yX3_requireCard, Cond.static yX3_requireCard, Cond.initialized RX3, Cond.code yX3_requireCard cX3_requireCard 1 none, Cond.classLink RX3 116 "java/lang/IndexOutOfBoundsException", Cond.initialized "java/lang/IndexOutOfBoundsException", Cond.methodLink RX3 201 yX3_isSixteenth, Cond.static yX3_isSixteenth, Cond.code yX3_isSixteenth cX3_isSixteenth 1 (some .boolean), Cond.methodLink RX3 59 yX3_requirePlace, Cond.static yX3_requirePlace, Cond.code yX3_requirePlace cX3_requirePlace 1 none, Cond.methodLink RX3 70 yX1_firstPlaceOf, Cond.instanceMethod yX1_firstPlaceOf, Cond.selects RX1 yX1_firstPlaceOf yX1_firstPlaceOf, Cond.initialized RX1, Cond.code yX1_firstPlaceOf cX1_firstPlaceOf 3 (some .int), Cond.fieldLink RX1 9 "CardFans$Row" "numbers" "[I", Cond.methodLink RX3 161 yX3_placeAfterRiffles, Cond.static yX3_placeAfterRiffles, Cond.code yX3_placeAfterRiffles cX3_placeAfterRiffles 6 (some .int), Cond.methodLink RX3 63 yX3_placeAfter, Cond.static yX3_placeAfter]
def wsX3_riffles_r2 : List Cond := [Cond.code yX3_placeAfter cX3_placeAfter 3 (some .int), Cond.methodLink RX3 211 yX3_placeAfterDeal, Cond.static yX3_placeAfterDeal, Cond.code yX3_placeAfterDeal cX3_placeAfterDeal 4 (some .int)]
def wsX3_riffles : List Cond := .code yX3_riffles cX3_riffles 7 (some .int) :: ((wsX3_riffles_r1 ++ wsX3_riffles_r2) ++ wsX30 ++ wsX10 ++ (vx_atS RX3 120 "java/lang/IndexOutOfBoundsException" ["java/lang/RuntimeException", "java/lang/Exception"]).filter goodWord)
def wsX3_mean : List Cond := .code yX3_mean cX3_mean 6 (some .double) :: ([.fieldLink RX3 21 "CardFans" "watchers" "[LCardFans$Watcher;", .fieldLink RX3 73 "CardFans" "watcherCount" "I", .methodLink RX3 164 yX2_cardsThought, .instanceMethod yX2_cardsThought, .selects RX2 yX2_cardsThought yX2_cardsThought, .initialized RX2, .code yX2_cardsThought cX2_cardsThought 3 (some .int), .fieldLink RX2 12 "CardFans$Watcher" "thoughts" "LCardFans$Row;", .methodLink RX2 48 yX1_at, .instanceMethod yX1_at, .selects RX1 yX1_at yX1_at, .initialized RX1, .code yX1_at cX1_at 2 (some .int), .fieldLink RX1 9 "CardFans$Row" "numbers" "[I", .static yX3_isSixteenth, .initialized RX3, .code yX3_isSixteenth cX3_isSixteenth 1 (some .boolean), .methodLink RX2 61 yJ6_bitCount_0f7a4, .static yJ6_bitCount_0f7a4, .initialized RJ6, .code yJ6_bitCount_0f7a4 cJ6_bitCount_0f7a4 1 (some .int), .constant RJ6 265 (1431655765), .constant RJ6 266 (858993459), .constant RJ6 267 (252645135)] ++ wsX30 ++ wsX20 ++ wsX10)
def wsX3_watcherMixedInto_r1 : List Cond := [Cond.methodLink RX3 183 yX3_watcher, Cond.instanceMethod yX3_watcher, Cond.selects RX3 yX3_watcher yX3_watcher, Cond.initialized RX3, Cond.code yX3_watcher cX3_watcher 4 (some .int), Cond.classLink RX3 116 "java/lang/IndexOutOfBoundsException", Cond.initialized "java/lang/IndexOutOfBoundsException", Cond.fieldLink RX3 12 "CardFans" "pack" "LCardFans$Row;", Cond.methodLink RX3 86 yX3_watcherOf, Cond.instanceMethod yX3_watcherOf, Cond.selects RX3 yX3_watcherOf yX3_watcherOf, Cond.code yX3_watcherOf cX3_watcherOf 3 (some (.object "CardFans$Watcher")), Cond.fieldLink RX3 21 "CardFans" "watchers" "[LCardFans$Watcher;", Cond.methodLink RX3 99 yX2_placesHeldPossible, Cond.instanceMethod yX2_placesHeldPossible, Cond.selects RX2 yX2_placesHeldPossible yX2_placesHeldPossible, Cond.initialized RX2, Cond.code yX2_placesHeldPossible cX2_placesHeldPossible 4 (some .int), Cond.fieldLink RX2 12 "CardFans$Watcher" "thoughts" "LCardFans$Row;", Cond.methodLink RX2 48 yX1_at, Cond.instanceMethod yX1_at, Cond.selects RX1 yX1_at yX1_at, Cond.initialized RX1, Cond.code yX1_at cX1_at 2 (some .int)]
def wsX3_watcherMixedInto_r2 : List Cond := [Cond.fieldLink RX1 9 "CardFans$Row" "numbers" "[I", Cond.static yX3_isSixteenth, Cond.code yX3_isSixteenth cX3_isSixteenth 1 (some .boolean), Cond.static yX3_setOf, Cond.code yX3_setOf cX3_setOf 1 (some .int), Cond.methodLink RX3 103 yX2_placesSettled, Cond.instanceMethod yX2_placesSettled, Cond.selects RX2 yX2_placesSettled yX2_placesSettled, Cond.code yX2_placesSettled cX2_placesSettled 3 (some .int), Cond.static yX3_isOneAlone, Cond.code yX3_isOneAlone cX3_isOneAlone 1 (some .boolean), Cond.methodLink RX3 214 yJ6_bitCount_0f7a4, Cond.static yJ6_bitCount_0f7a4, Cond.initialized RJ6, Cond.code yJ6_bitCount_0f7a4 cJ6_bitCount_0f7a4 1 (some .int), Cond.constant RJ6 265 (1431655765), Cond.constant RJ6 266 (858993459), Cond.constant RJ6 267 (252645135), Cond.methodLink RX3 107 yX2_placesSettledRightly, Cond.instanceMethod yX2_placesSettledRightly, Cond.selects RX2 yX2_placesSettledRightly yX2_placesSettledRightly, Cond.code yX2_placesSettledRightly cX2_placesSettledRightly 4 (some .int), Cond.methodLink RX3 172 yX3_mixed, Cond.static yX3_mixed]
def wsX3_watcherMixedInto_r3 : List Cond := [Cond.code yX3_mixed cX3_mixed 3 (some .long), Cond.constantLong RX3 186 (31), Cond.methodLink RX3 176 yX1_mixedInto, Cond.instanceMethod yX1_mixedInto, Cond.selects RX1 yX1_mixedInto yX1_mixedInto, Cond.code yX1_mixedInto cX1_mixedInto 6 (some .long)]
def wsX3_watcherMixedInto : List Cond := .code yX3_watcherMixedInto cX3_watcherMixedInto 7 (some .long) :: ((wsX3_watcherMixedInto_r1 ++ (wsX3_watcherMixedInto_r2 ++ wsX3_watcherMixedInto_r3)) ++ wsX20 ++ wsX30 ++ wsX10 ++ (vx_atS RX3 120 "java/lang/IndexOutOfBoundsException" ["java/lang/RuntimeException", "java/lang/Exception"]).filter goodWord)
def wsX3_digest_r1 : List Cond := [Cond.constantLong RX3 167 (929), Cond.fieldLink RX3 12 "CardFans" "pack" "LCardFans$Row;", Cond.fieldLink RX3 73 "CardFans" "watcherCount" "I", Cond.fieldLink RX3 27 "CardFans" "players" "[LCardFans$Player;", Cond.methodLink RX3 169 yX3_count, Cond.instanceMethod yX3_count, Cond.selects RX3 yX3_count yX3_count, Cond.initialized RX3, Cond.code yX3_count cX3_count 2 (some .int), Cond.classLink RX3 116 "java/lang/IndexOutOfBoundsException", Cond.initialized "java/lang/IndexOutOfBoundsException", Cond.fieldLink RX3 44 "CardFans" "waysDone" "I", Cond.fieldLink RX3 56 "CardFans" "falseCuts" "I", Cond.fieldLink RX3 124 "CardFans" "playerCount" "I", Cond.fieldLink RX3 131 "CardFans" "leanOfFan" "I", Cond.fieldLink RX3 141 "CardFans" "cardsTaken" "I", Cond.methodLink RX3 153 yX1_placesInOrder, Cond.instanceMethod yX1_placesInOrder, Cond.selects RX1 yX1_placesInOrder yX1_placesInOrder, Cond.initialized RX1, Cond.code yX1_placesInOrder cX1_placesInOrder 3 (some .int), Cond.fieldLink RX1 9 "CardFans$Row" "numbers" "[I", Cond.methodLink RX3 172 yX3_mixed, Cond.static yX3_mixed]
def wsX3_digest_r2 : List Cond := [Cond.code yX3_mixed cX3_mixed 3 (some .long), Cond.constantLong RX3 186 (31), Cond.methodLink RX3 176 yX1_mixedInto, Cond.instanceMethod yX1_mixedInto, Cond.selects RX1 yX1_mixedInto yX1_mixedInto, Cond.code yX1_mixedInto cX1_mixedInto 6 (some .long), Cond.methodLink RX3 180 yX3_watcherMixedInto, Cond.instanceMethod yX3_watcherMixedInto, Cond.selects RX3 yX3_watcherMixedInto yX3_watcherMixedInto, Cond.code yX3_watcherMixedInto cX3_watcherMixedInto 7 (some .long), Cond.methodLink RX3 183 yX3_watcher, Cond.instanceMethod yX3_watcher, Cond.selects RX3 yX3_watcher yX3_watcher, Cond.code yX3_watcher cX3_watcher 4 (some .int), Cond.methodLink RX3 86 yX3_watcherOf, Cond.instanceMethod yX3_watcherOf, Cond.selects RX3 yX3_watcherOf yX3_watcherOf, Cond.code yX3_watcherOf cX3_watcherOf 3 (some (.object "CardFans$Watcher")), Cond.fieldLink RX3 21 "CardFans" "watchers" "[LCardFans$Watcher;", Cond.methodLink RX3 99 yX2_placesHeldPossible, Cond.instanceMethod yX2_placesHeldPossible, Cond.selects RX2 yX2_placesHeldPossible yX2_placesHeldPossible, Cond.initialized RX2, Cond.code yX2_placesHeldPossible cX2_placesHeldPossible 4 (some .int)]
def wsX3_digest_r3 : List Cond := [Cond.fieldLink RX2 12 "CardFans$Watcher" "thoughts" "LCardFans$Row;", Cond.methodLink RX2 48 yX1_at, Cond.instanceMethod yX1_at, Cond.selects RX1 yX1_at yX1_at, Cond.code yX1_at cX1_at 2 (some .int), Cond.static yX3_isSixteenth, Cond.code yX3_isSixteenth cX3_isSixteenth 1 (some .boolean), Cond.static yX3_setOf, Cond.code yX3_setOf cX3_setOf 1 (some .int), Cond.methodLink RX3 103 yX2_placesSettled, Cond.instanceMethod yX2_placesSettled, Cond.selects RX2 yX2_placesSettled yX2_placesSettled, Cond.code yX2_placesSettled cX2_placesSettled 3 (some .int), Cond.static yX3_isOneAlone, Cond.code yX3_isOneAlone cX3_isOneAlone 1 (some .boolean), Cond.methodLink RX3 214 yJ6_bitCount_0f7a4, Cond.static yJ6_bitCount_0f7a4, Cond.initialized RJ6, Cond.code yJ6_bitCount_0f7a4 cJ6_bitCount_0f7a4 1 (some .int), Cond.constant RJ6 265 (1431655765), Cond.constant RJ6 266 (858993459), Cond.constant RJ6 267 (252645135), Cond.methodLink RX3 107 yX2_placesSettledRightly, Cond.instanceMethod yX2_placesSettledRightly]
def wsX3_digest_r4 : List Cond := [Cond.selects RX2 yX2_placesSettledRightly yX2_placesSettledRightly, Cond.code yX2_placesSettledRightly cX2_placesSettledRightly 4 (some .int)]
def wsX3_digest : List Cond := .code yX3_digest cX3_digest 7 (some .long) :: ((wsX3_digest_r1 ++ (wsX3_digest_r2 ++ (wsX3_digest_r3 ++ wsX3_digest_r4))) ++ wsX30 ++ wsX00 ++ wsX10 ++ wsX20 ++ (vx_atS RX3 120 "java/lang/IndexOutOfBoundsException" ["java/lang/RuntimeException", "java/lang/Exception"]).filter goodWord)
def wsX4_init : List Cond := .code yX4_init cX4_init 2 none :: ([.methodLink RX4 1 objectInit, .instanceMethod objectInit, .code objectInit ⟨#[0xb1]⟩ 1 none, .arrayClass .int, .fieldLink RX4 9 "CardFansModel" "pack" "[I", .fieldLink RX4 13 "CardFansModel" "isSharp" "[I", .classLink RX4 16 "[[I", .fieldLink RX4 18 "CardFansModel" "thinks" "[[I", .fieldLink RX4 21 "CardFansModel" "anew" "[I", .fieldLink RX4 24 "CardFansModel" "glimpses" "[I", .fieldLink RX4 27 "CardFansModel" "habit" "[I", .fieldLink RX4 30 "CardFansModel" "took" "[I"] ++ wsX40)
def wsX4_thrown : List Cond := .code yX4_thrown cX4_thrown 1 (some .int) :: ([.fieldLink RX4 33 "CardFansModel" "thrown" "I"] ++ wsX40)
def wsX4_no : List Cond := .code yX4_no cX4_no 2 (some .int) :: ([.fieldLink RX4 33 "CardFansModel" "thrown" "I"] ++ wsX40)
def wsX4_isIn : List Cond := .code yX4_isIn cX4_isIn 3 (some .boolean) :: ([])
def wsX4_isPlace : List Cond := .code yX4_isPlace cX4_isPlace 1 (some .boolean) :: ([.methodLink RX4 37 yX4_isIn, .static yX4_isIn, .initialized RX4, .code yX4_isIn cX4_isIn 3 (some .boolean)])
def wsX4_isWatcher : List Cond := .code yX4_isWatcher cX4_isWatcher 2 (some .boolean) :: ([.fieldLink RX4 41 "CardFansModel" "watchers" "I", .methodLink RX4 37 yX4_isIn, .static yX4_isIn, .initialized RX4, .code yX4_isIn cX4_isIn 3 (some .boolean)] ++ wsX40)
def wsX4_isPlayer : List Cond := .code yX4_isPlayer cX4_isPlayer 2 (some .boolean) :: ([.fieldLink RX4 44 "CardFansModel" "players" "I", .methodLink RX4 37 yX4_isIn, .static yX4_isIn, .initialized RX4, .code yX4_isIn cX4_isIn 3 (some .boolean)] ++ wsX40)
def wsX4_isWay : List Cond := .code yX4_isWay cX4_isWay 2 (some .boolean) :: ([.methodLink RX4 37 yX4_isIn, .static yX4_isIn, .initialized RX4, .code yX4_isIn cX4_isIn 3 (some .boolean)])
def wsX4_to : List Cond := .code yX4_to cX4_to 3 (some .int) :: ([.fieldLink RX4 47 "CardFansModel" "DEALT" "[I"])
def wsX4_move : List Cond := .code yX4_move cX4_move 5 none :: ([.methodLink RX4 50 ⟨"[I", "clone", "()Ljava/lang/Object;"⟩, .sameMethod "[I" "java/lang/Object" "clone" "()Ljava/lang/Object;", .native ⟨"java/lang/Object", "clone", "()Ljava/lang/Object;"⟩, .instanceMethod ⟨"java/lang/Object", "clone", "()Ljava/lang/Object;"⟩, .selects "[I" ⟨"[I", "clone", "()Ljava/lang/Object;"⟩ ⟨"java/lang/Object", "clone", "()Ljava/lang/Object;"⟩, .classLink RX4 51 "[I", .methodLink RX4 55 yX4_to, .static yX4_to, .initialized RX4, .code yX4_to cX4_to 3 (some .int), .fieldLink RX4 47 "CardFansModel" "DEALT" "[I"])
def wsX4_go_r1 : List Cond := [Cond.fieldLink RX4 33 "CardFansModel" "thrown" "I", Cond.fieldLink RX4 9 "CardFansModel" "pack" "[I", Cond.fieldLink RX4 41 "CardFansModel" "watchers" "I", Cond.fieldLink RX4 18 "CardFansModel" "thinks" "[[I", Cond.fieldLink RX4 71 "CardFansModel" "ways" "I", Cond.methodLink RX4 59 yX4_isWay, Cond.static yX4_isWay, Cond.initialized RX4, Cond.code yX4_isWay cX4_isWay 2 (some .boolean), Cond.methodLink RX4 37 yX4_isIn, Cond.static yX4_isIn, Cond.code yX4_isIn cX4_isIn 3 (some .boolean), Cond.methodLink RX4 63 yX4_no, Cond.instanceMethod yX4_no, Cond.selects RX4 yX4_no yX4_no, Cond.code yX4_no cX4_no 2 (some .int), Cond.methodLink RX4 67 yX4_move, Cond.static yX4_move, Cond.code yX4_move cX4_move 5 none, Cond.methodLink RX4 50 ⟨"[I", "clone", "()Ljava/lang/Object;"⟩, Cond.sameMethod "[I" "java/lang/Object" "clone" "()Ljava/lang/Object;", Cond.native ⟨"java/lang/Object", "clone", "()Ljava/lang/Object;"⟩, Cond.instanceMethod ⟨"java/lang/Object", "clone", "()Ljava/lang/Object;"⟩, Cond.selects "[I" ⟨"[I", "clone", "()Ljava/lang/Object;"⟩ ⟨"java/lang/Object", "clone", "()Ljava/lang/Object;"⟩]
def wsX4_go_r2 : List Cond := [Cond.classLink RX4 51 "[I", Cond.methodLink RX4 55 yX4_to, Cond.static yX4_to, Cond.code yX4_to cX4_to 3 (some .int), Cond.fieldLink RX4 47 "CardFansModel" "DEALT" "[I"]
def wsX4_go : List Cond := .code yX4_go cX4_go 5 (some .int) :: ((wsX4_go_r1 ++ wsX4_go_r2) ++ wsX40)
def wsX4_falseCut_r1 : List Cond := [Cond.fieldLink RX4 33 "CardFansModel" "thrown" "I", Cond.fieldLink RX4 41 "CardFansModel" "watchers" "I", Cond.fieldLink RX4 13 "CardFansModel" "isSharp" "[I", Cond.fieldLink RX4 18 "CardFansModel" "thinks" "[[I", Cond.fieldLink RX4 74 "CardFansModel" "falseCuts" "I", Cond.methodLink RX4 59 yX4_isWay, Cond.static yX4_isWay, Cond.initialized RX4, Cond.code yX4_isWay cX4_isWay 2 (some .boolean), Cond.methodLink RX4 37 yX4_isIn, Cond.static yX4_isIn, Cond.code yX4_isIn cX4_isIn 3 (some .boolean), Cond.methodLink RX4 63 yX4_no, Cond.instanceMethod yX4_no, Cond.selects RX4 yX4_no yX4_no, Cond.code yX4_no cX4_no 2 (some .int), Cond.methodLink RX4 67 yX4_move, Cond.static yX4_move, Cond.code yX4_move cX4_move 5 none, Cond.methodLink RX4 50 ⟨"[I", "clone", "()Ljava/lang/Object;"⟩, Cond.sameMethod "[I" "java/lang/Object" "clone" "()Ljava/lang/Object;", Cond.native ⟨"java/lang/Object", "clone", "()Ljava/lang/Object;"⟩, Cond.instanceMethod ⟨"java/lang/Object", "clone", "()Ljava/lang/Object;"⟩, Cond.selects "[I" ⟨"[I", "clone", "()Ljava/lang/Object;"⟩ ⟨"java/lang/Object", "clone", "()Ljava/lang/Object;"⟩]
def wsX4_falseCut_r2 : List Cond := [Cond.classLink RX4 51 "[I", Cond.methodLink RX4 55 yX4_to, Cond.static yX4_to, Cond.code yX4_to cX4_to 3 (some .int), Cond.fieldLink RX4 47 "CardFansModel" "DEALT" "[I"]
def wsX4_falseCut : List Cond := .code yX4_falseCut cX4_falseCut 4 (some .int) :: ((wsX4_falseCut_r1 ++ wsX4_falseCut_r2) ++ wsX40)
def wsX4_comes : List Cond := .code yX4_comes cX4_comes 4 (some .int) :: ([.fieldLink RX4 33 "CardFansModel" "thrown" "I", .methodLink RX4 59 yX4_isWay, .static yX4_isWay, .initialized RX4, .code yX4_isWay cX4_isWay 2 (some .boolean), .methodLink RX4 37 yX4_isIn, .static yX4_isIn, .code yX4_isIn cX4_isIn 3 (some .boolean), .methodLink RX4 63 yX4_no, .instanceMethod yX4_no, .selects RX4 yX4_no yX4_no, .code yX4_no cX4_no 2 (some .int), .methodLink RX4 77 yX4_isPlace, .static yX4_isPlace, .code yX4_isPlace cX4_isPlace 1 (some .boolean), .methodLink RX4 55 yX4_to, .static yX4_to, .code yX4_to cX4_to 3 (some .int), .fieldLink RX4 47 "CardFansModel" "DEALT" "[I"] ++ wsX40)
def wsX4_card : List Cond := .code yX4_card cX4_card 2 (some .int) :: ([.fieldLink RX4 33 "CardFansModel" "thrown" "I", .fieldLink RX4 9 "CardFansModel" "pack" "[I", .methodLink RX4 77 yX4_isPlace, .static yX4_isPlace, .initialized RX4, .code yX4_isPlace cX4_isPlace 1 (some .boolean), .methodLink RX4 37 yX4_isIn, .static yX4_isIn, .code yX4_isIn cX4_isIn 3 (some .boolean), .methodLink RX4 63 yX4_no, .instanceMethod yX4_no, .selects RX4 yX4_no yX4_no, .code yX4_no cX4_no 2 (some .int)] ++ wsX40)
def wsX4_placeOf : List Cond := .code yX4_placeOf cX4_placeOf 3 (some .int) :: ([.fieldLink RX4 9 "CardFansModel" "pack" "[I"] ++ wsX40)
def wsX4_find : List Cond := .code yX4_find cX4_find 2 (some .int) :: ([.fieldLink RX4 33 "CardFansModel" "thrown" "I", .methodLink RX4 77 yX4_isPlace, .static yX4_isPlace, .initialized RX4, .code yX4_isPlace cX4_isPlace 1 (some .boolean), .methodLink RX4 37 yX4_isIn, .static yX4_isIn, .code yX4_isIn cX4_isIn 3 (some .boolean), .methodLink RX4 81 yX4_placeOf, .instanceMethod yX4_placeOf, .selects RX4 yX4_placeOf yX4_placeOf, .code yX4_placeOf cX4_placeOf 3 (some .int), .fieldLink RX4 9 "CardFansModel" "pack" "[I", .methodLink RX4 63 yX4_no, .instanceMethod yX4_no, .selects RX4 yX4_no yX4_no, .code yX4_no cX4_no 2 (some .int)] ++ wsX40)
def wsX4_watch : List Cond := .code yX4_watch cX4_watch 3 (some .int) :: ([.fieldLink RX4 33 "CardFansModel" "thrown" "I", .fieldLink RX4 41 "CardFansModel" "watchers" "I", .fieldLink RX4 13 "CardFansModel" "isSharp" "[I", .fieldLink RX4 18 "CardFansModel" "thinks" "[[I", .constant RX4 84 (65535), .methodLink RX4 63 yX4_no, .instanceMethod yX4_no, .selects RX4 yX4_no yX4_no, .initialized RX4, .code yX4_no cX4_no 2 (some .int)] ++ wsX40)
def wsX4_isOne : List Cond := .code yX4_isOne cX4_isOne 1 (some .boolean) :: ([.methodLink RX4 85 yJ6_bitCount_0f7a4, .static yJ6_bitCount_0f7a4, .initialized RJ6, .code yJ6_bitCount_0f7a4 cJ6_bitCount_0f7a4 1 (some .int), .constant RJ6 265 (1431655765), .constant RJ6 266 (858993459), .constant RJ6 267 (252645135)])
def wsX4_isLeft : List Cond := .code yX4_isLeft cX4_isLeft 4 (some .boolean) :: ([.methodLink RX4 90 yX4_isOne, .static yX4_isOne, .initialized RX4, .code yX4_isOne cX4_isOne 1 (some .boolean), .methodLink RX4 85 yJ6_bitCount_0f7a4, .static yJ6_bitCount_0f7a4, .initialized RJ6, .code yJ6_bitCount_0f7a4 cJ6_bitCount_0f7a4 1 (some .int), .constant RJ6 265 (1431655765), .constant RJ6 266 (858993459), .constant RJ6 267 (252645135)])
def wsX4_glimpse_r1 : List Cond := [Cond.fieldLink RX4 33 "CardFansModel" "thrown" "I", Cond.fieldLink RX4 18 "CardFansModel" "thinks" "[[I", Cond.fieldLink RX4 9 "CardFansModel" "pack" "[I", Cond.fieldLink RX4 24 "CardFansModel" "glimpses" "[I", Cond.fieldLink RX4 21 "CardFansModel" "anew" "[I", Cond.constant RX4 84 (65535), Cond.methodLink RX4 93 yX4_isWatcher, Cond.instanceMethod yX4_isWatcher, Cond.selects RX4 yX4_isWatcher yX4_isWatcher, Cond.initialized RX4, Cond.code yX4_isWatcher cX4_isWatcher 2 (some .boolean), Cond.fieldLink RX4 41 "CardFansModel" "watchers" "I", Cond.methodLink RX4 37 yX4_isIn, Cond.static yX4_isIn, Cond.code yX4_isIn cX4_isIn 3 (some .boolean), Cond.methodLink RX4 77 yX4_isPlace, Cond.static yX4_isPlace, Cond.code yX4_isPlace cX4_isPlace 1 (some .boolean), Cond.methodLink RX4 63 yX4_no, Cond.instanceMethod yX4_no, Cond.selects RX4 yX4_no yX4_no, Cond.code yX4_no cX4_no 2 (some .int), Cond.methodLink RX4 96 yX4_isLeft, Cond.static yX4_isLeft]
def wsX4_glimpse_r2 : List Cond := [Cond.code yX4_isLeft cX4_isLeft 4 (some .boolean), Cond.methodLink RX4 90 yX4_isOne, Cond.static yX4_isOne, Cond.code yX4_isOne cX4_isOne 1 (some .boolean), Cond.methodLink RX4 85 yJ6_bitCount_0f7a4, Cond.static yJ6_bitCount_0f7a4, Cond.initialized RJ6, Cond.code yJ6_bitCount_0f7a4 cJ6_bitCount_0f7a4 1 (some .int), Cond.constant RJ6 265 (1431655765), Cond.constant RJ6 266 (858993459), Cond.constant RJ6 267 (252645135)]
def wsX4_glimpse : List Cond := .code yX4_glimpse cX4_glimpse 6 (some .int) :: ((wsX4_glimpse_r1 ++ wsX4_glimpse_r2) ++ wsX40)
def wsX4_thinks : List Cond := .code yX4_thinks cX4_thinks 3 (some .int) :: ([.fieldLink RX4 33 "CardFansModel" "thrown" "I", .fieldLink RX4 18 "CardFansModel" "thinks" "[[I", .methodLink RX4 93 yX4_isWatcher, .instanceMethod yX4_isWatcher, .selects RX4 yX4_isWatcher yX4_isWatcher, .initialized RX4, .code yX4_isWatcher cX4_isWatcher 2 (some .boolean), .fieldLink RX4 41 "CardFansModel" "watchers" "I", .methodLink RX4 37 yX4_isIn, .static yX4_isIn, .code yX4_isIn cX4_isIn 3 (some .boolean), .methodLink RX4 77 yX4_isPlace, .static yX4_isPlace, .code yX4_isPlace cX4_isPlace 1 (some .boolean), .methodLink RX4 63 yX4_no, .instanceMethod yX4_no, .selects RX4 yX4_no yX4_no, .code yX4_no cX4_no 2 (some .int)] ++ wsX40)
def wsX4_sure : List Cond := .code yX4_sure cX4_sure 4 (some .int) :: ([.fieldLink RX4 33 "CardFansModel" "thrown" "I", .fieldLink RX4 18 "CardFansModel" "thinks" "[[I", .methodLink RX4 93 yX4_isWatcher, .instanceMethod yX4_isWatcher, .selects RX4 yX4_isWatcher yX4_isWatcher, .initialized RX4, .code yX4_isWatcher cX4_isWatcher 2 (some .boolean), .fieldLink RX4 41 "CardFansModel" "watchers" "I", .methodLink RX4 37 yX4_isIn, .static yX4_isIn, .code yX4_isIn cX4_isIn 3 (some .boolean), .methodLink RX4 77 yX4_isPlace, .static yX4_isPlace, .code yX4_isPlace cX4_isPlace 1 (some .boolean), .methodLink RX4 63 yX4_no, .instanceMethod yX4_no, .selects RX4 yX4_no yX4_no, .code yX4_no cX4_no 2 (some .int)] ++ wsX40)
def wsX4_watcherTold : List Cond := .code yX4_watcherTold cX4_watcherTold 8 (some .int) :: ([.fieldLink RX4 18 "CardFansModel" "thinks" "[[I", .fieldLink RX4 9 "CardFansModel" "pack" "[I", .arrayClass .int, .fieldLink RX4 13 "CardFansModel" "isSharp" "[I", .fieldLink RX4 21 "CardFansModel" "anew" "[I", .fieldLink RX4 24 "CardFansModel" "glimpses" "[I", .methodLink RX4 90 yX4_isOne, .static yX4_isOne, .initialized RX4, .code yX4_isOne cX4_isOne 1 (some .boolean), .methodLink RX4 85 yJ6_bitCount_0f7a4, .static yJ6_bitCount_0f7a4, .initialized RJ6, .code yJ6_bitCount_0f7a4 cJ6_bitCount_0f7a4 1 (some .int), .constant RJ6 265 (1431655765), .constant RJ6 266 (858993459), .constant RJ6 267 (252645135)] ++ wsX40)
def wsX4_watcher_r1 : List Cond := [Cond.fieldLink RX4 33 "CardFansModel" "thrown" "I", Cond.methodLink RX4 93 yX4_isWatcher, Cond.instanceMethod yX4_isWatcher, Cond.selects RX4 yX4_isWatcher yX4_isWatcher, Cond.initialized RX4, Cond.code yX4_isWatcher cX4_isWatcher 2 (some .boolean), Cond.fieldLink RX4 41 "CardFansModel" "watchers" "I", Cond.methodLink RX4 37 yX4_isIn, Cond.static yX4_isIn, Cond.code yX4_isIn cX4_isIn 3 (some .boolean), Cond.methodLink RX4 100 yX4_watcherTold, Cond.instanceMethod yX4_watcherTold, Cond.selects RX4 yX4_watcherTold yX4_watcherTold, Cond.code yX4_watcherTold cX4_watcherTold 8 (some .int), Cond.fieldLink RX4 18 "CardFansModel" "thinks" "[[I", Cond.fieldLink RX4 9 "CardFansModel" "pack" "[I", Cond.arrayClass .int, Cond.fieldLink RX4 13 "CardFansModel" "isSharp" "[I", Cond.fieldLink RX4 21 "CardFansModel" "anew" "[I", Cond.fieldLink RX4 24 "CardFansModel" "glimpses" "[I", Cond.methodLink RX4 90 yX4_isOne, Cond.static yX4_isOne, Cond.code yX4_isOne cX4_isOne 1 (some .boolean), Cond.methodLink RX4 85 yJ6_bitCount_0f7a4]
def wsX4_watcher_r2 : List Cond := [Cond.static yJ6_bitCount_0f7a4, Cond.initialized RJ6, Cond.code yJ6_bitCount_0f7a4 cJ6_bitCount_0f7a4 1 (some .int), Cond.constant RJ6 265 (1431655765), Cond.constant RJ6 266 (858993459), Cond.constant RJ6 267 (252645135), Cond.methodLink RX4 63 yX4_no, Cond.instanceMethod yX4_no, Cond.selects RX4 yX4_no yX4_no, Cond.code yX4_no cX4_no 2 (some .int)]
def wsX4_watcher : List Cond := .code yX4_watcher cX4_watcher 3 (some .int) :: ((wsX4_watcher_r1 ++ wsX4_watcher_r2) ++ wsX40)
def wsX4_sit : List Cond := .code yX4_sit cX4_sit 2 (some .int) :: ([.fieldLink RX4 33 "CardFansModel" "thrown" "I", .fieldLink RX4 44 "CardFansModel" "players" "I", .fieldLink RX4 27 "CardFansModel" "habit" "[I", .fieldLink RX4 30 "CardFansModel" "took" "[I", .methodLink RX4 77 yX4_isPlace, .static yX4_isPlace, .initialized RX4, .code yX4_isPlace cX4_isPlace 1 (some .boolean), .methodLink RX4 37 yX4_isIn, .static yX4_isIn, .code yX4_isIn cX4_isIn 3 (some .boolean), .methodLink RX4 63 yX4_no, .instanceMethod yX4_no, .selects RX4 yX4_no yX4_no, .code yX4_no cX4_no 2 (some .int)] ++ wsX40)
def wsX4_fan : List Cond := .code yX4_fan cX4_fan 3 (some .int) :: ([.fieldLink RX4 33 "CardFansModel" "thrown" "I", .fieldLink RX4 104 "CardFansModel" "lean" "I", .methodLink RX4 77 yX4_isPlace, .static yX4_isPlace, .initialized RX4, .code yX4_isPlace cX4_isPlace 1 (some .boolean), .methodLink RX4 37 yX4_isIn, .static yX4_isIn, .code yX4_isIn cX4_isIn 3 (some .boolean), .methodLink RX4 63 yX4_no, .instanceMethod yX4_no, .selects RX4 yX4_no yX4_no, .code yX4_no cX4_no 2 (some .int)] ++ wsX40)
def wsX4_take : List Cond := .code yX4_take cX4_take 2 (some .int) :: ([.fieldLink RX4 33 "CardFansModel" "thrown" "I", .fieldLink RX4 30 "CardFansModel" "took" "[I", .fieldLink RX4 9 "CardFansModel" "pack" "[I", .fieldLink RX4 27 "CardFansModel" "habit" "[I", .fieldLink RX4 104 "CardFansModel" "lean" "I", .fieldLink RX4 110 "CardFansModel" "taken" "I", .methodLink RX4 107 yX4_isPlayer, .instanceMethod yX4_isPlayer, .selects RX4 yX4_isPlayer yX4_isPlayer, .initialized RX4, .code yX4_isPlayer cX4_isPlayer 2 (some .boolean), .fieldLink RX4 44 "CardFansModel" "players" "I", .methodLink RX4 37 yX4_isIn, .static yX4_isIn, .code yX4_isIn cX4_isIn 3 (some .boolean), .methodLink RX4 63 yX4_no, .instanceMethod yX4_no, .selects RX4 yX4_no yX4_no, .code yX4_no cX4_no 2 (some .int)] ++ wsX40)
def wsX4_force_r1 : List Cond := [Cond.fieldLink RX4 33 "CardFansModel" "thrown" "I", Cond.fieldLink RX4 27 "CardFansModel" "habit" "[I", Cond.fieldLink RX4 110 "CardFansModel" "taken" "I", Cond.methodLink RX4 107 yX4_isPlayer, Cond.instanceMethod yX4_isPlayer, Cond.selects RX4 yX4_isPlayer yX4_isPlayer, Cond.initialized RX4, Cond.code yX4_isPlayer cX4_isPlayer 2 (some .boolean), Cond.fieldLink RX4 44 "CardFansModel" "players" "I", Cond.methodLink RX4 37 yX4_isIn, Cond.static yX4_isIn, Cond.code yX4_isIn cX4_isIn 3 (some .boolean), Cond.methodLink RX4 77 yX4_isPlace, Cond.static yX4_isPlace, Cond.code yX4_isPlace cX4_isPlace 1 (some .boolean), Cond.methodLink RX4 63 yX4_no, Cond.instanceMethod yX4_no, Cond.selects RX4 yX4_no yX4_no, Cond.code yX4_no cX4_no 2 (some .int), Cond.methodLink RX4 81 yX4_placeOf, Cond.instanceMethod yX4_placeOf, Cond.selects RX4 yX4_placeOf yX4_placeOf, Cond.code yX4_placeOf cX4_placeOf 3 (some .int), Cond.fieldLink RX4 9 "CardFansModel" "pack" "[I"]
def wsX4_force_r2 : List Cond := [Cond.methodLink RX4 113 yJ9_floorMod_7cf53, Cond.static yJ9_floorMod_7cf53, Cond.initialized RJ9, Cond.code yJ9_floorMod_7cf53 cJ9_floorMod_7cf53 3 (some .int)]
def wsX4_force : List Cond := .code yX4_force cX4_force 3 (some .int) :: ((wsX4_force_r1 ++ wsX4_force_r2) ++ wsX40)
def wsX4_took : List Cond := .code yX4_took cX4_took 2 (some .int) :: ([.fieldLink RX4 33 "CardFansModel" "thrown" "I", .fieldLink RX4 30 "CardFansModel" "took" "[I", .methodLink RX4 107 yX4_isPlayer, .instanceMethod yX4_isPlayer, .selects RX4 yX4_isPlayer yX4_isPlayer, .initialized RX4, .code yX4_isPlayer cX4_isPlayer 2 (some .boolean), .fieldLink RX4 44 "CardFansModel" "players" "I", .methodLink RX4 37 yX4_isIn, .static yX4_isIn, .code yX4_isIn cX4_isIn 3 (some .boolean), .methodLink RX4 63 yX4_no, .instanceMethod yX4_no, .selects RX4 yX4_no yX4_no, .code yX4_no cX4_no 2 (some .int)] ++ wsX40)
def wsX4_counted : List Cond := .code yX4_counted cX4_counted 4 (some .int) :: ([.fieldLink RX4 9 "CardFansModel" "pack" "[I", .arrayClass .int, .fieldLink RX4 71 "CardFansModel" "ways" "I", .fieldLink RX4 74 "CardFansModel" "falseCuts" "I", .fieldLink RX4 41 "CardFansModel" "watchers" "I", .fieldLink RX4 44 "CardFansModel" "players" "I", .fieldLink RX4 104 "CardFansModel" "lean" "I", .fieldLink RX4 110 "CardFansModel" "taken" "I"] ++ wsX40)
def wsX4_count : List Cond := .code yX4_count cX4_count 2 (some .int) :: ([.fieldLink RX4 33 "CardFansModel" "thrown" "I", .methodLink RX4 37 yX4_isIn, .static yX4_isIn, .initialized RX4, .code yX4_isIn cX4_isIn 3 (some .boolean), .methodLink RX4 118 yX4_counted, .instanceMethod yX4_counted, .selects RX4 yX4_counted yX4_counted, .code yX4_counted cX4_counted 4 (some .int), .fieldLink RX4 9 "CardFansModel" "pack" "[I", .arrayClass .int, .fieldLink RX4 71 "CardFansModel" "ways" "I", .fieldLink RX4 74 "CardFansModel" "falseCuts" "I", .fieldLink RX4 41 "CardFansModel" "watchers" "I", .fieldLink RX4 44 "CardFansModel" "players" "I", .fieldLink RX4 104 "CardFansModel" "lean" "I", .fieldLink RX4 110 "CardFansModel" "taken" "I", .methodLink RX4 63 yX4_no, .instanceMethod yX4_no, .selects RX4 yX4_no yX4_no, .code yX4_no cX4_no 2 (some .int)] ++ wsX40)
def wsX4_back : List Cond := .code yX4_back cX4_back 7 (some .int) :: ([.fieldLink RX4 33 "CardFansModel" "thrown" "I", .methodLink RX4 59 yX4_isWay, .static yX4_isWay, .initialized RX4, .code yX4_isWay cX4_isWay 2 (some .boolean), .methodLink RX4 37 yX4_isIn, .static yX4_isIn, .code yX4_isIn cX4_isIn 3 (some .boolean), .methodLink RX4 63 yX4_no, .instanceMethod yX4_no, .selects RX4 yX4_no yX4_no, .code yX4_no cX4_no 2 (some .int), .methodLink RX4 55 yX4_to, .static yX4_to, .code yX4_to cX4_to 3 (some .int), .fieldLink RX4 47 "CardFansModel" "DEALT" "[I"] ++ wsX40)
def wsX4_bring : List Cond := .code yX4_bring cX4_bring 7 (some .int) :: ([.fieldLink RX4 33 "CardFansModel" "thrown" "I", .methodLink RX4 77 yX4_isPlace, .static yX4_isPlace, .initialized RX4, .code yX4_isPlace cX4_isPlace 1 (some .boolean), .methodLink RX4 37 yX4_isIn, .static yX4_isIn, .code yX4_isIn cX4_isIn 3 (some .boolean), .methodLink RX4 63 yX4_no, .instanceMethod yX4_no, .selects RX4 yX4_no yX4_no, .code yX4_no cX4_no 2 (some .int), .methodLink RX4 81 yX4_placeOf, .instanceMethod yX4_placeOf, .selects RX4 yX4_placeOf yX4_placeOf, .code yX4_placeOf cX4_placeOf 3 (some .int), .fieldLink RX4 9 "CardFansModel" "pack" "[I", .methodLink RX4 55 yX4_to, .static yX4_to, .code yX4_to cX4_to 3 (some .int), .fieldLink RX4 47 "CardFansModel" "DEALT" "[I"] ++ wsX40)
def wsX4_riffles_r1 : List Cond := [Cond.fieldLink RX4 33 "CardFansModel" "thrown" "I", Cond.arrayClass .int, Cond.methodLink RX4 50 ⟨"[I", "clone", "()Ljava/lang/Object;"⟩, Cond.sameMethod "[I" "java/lang/Object" "clone" "()Ljava/lang/Object;", Cond.native ⟨"java/lang/Object", "clone", "()Ljava/lang/Object;"⟩, Cond.instanceMethod ⟨"java/lang/Object", "clone", "()Ljava/lang/Object;"⟩, Cond.selects "[I" ⟨"[I", "clone", "()Ljava/lang/Object;"⟩ ⟨"java/lang/Object", "clone", "()Ljava/lang/Object;"⟩, Cond.classLink RX4 51 "[I", Cond.methodLink RX4 77 yX4_isPlace, Cond.static yX4_isPlace, Cond.initialized RX4, Cond.code yX4_isPlace cX4_isPlace 1 (some .boolean), Cond.methodLink RX4 37 yX4_isIn, Cond.static yX4_isIn, Cond.code yX4_isIn cX4_isIn 3 (some .boolean), Cond.methodLink RX4 63 yX4_no, Cond.instanceMethod yX4_no, Cond.selects RX4 yX4_no yX4_no, Cond.code yX4_no cX4_no 2 (some .int), Cond.methodLink RX4 81 yX4_placeOf, Cond.instanceMethod yX4_placeOf, Cond.selects RX4 yX4_placeOf yX4_placeOf, Cond.code yX4_placeOf cX4_placeOf 3 (some .int), Cond.fieldLink RX4 9 "CardFansModel" "pack" "[I"]
def wsX4_riffles_r2 : List Cond := [Cond.methodLink RX4 55 yX4_to, Cond.static yX4_to, Cond.code yX4_to cX4_to 3 (some .int), Cond.fieldLink RX4 47 "CardFansModel" "DEALT" "[I"]
def wsX4_riffles : List Cond := .code yX4_riffles cX4_riffles 10 (some .int) :: ((wsX4_riffles_r1 ++ wsX4_riffles_r2) ++ wsX40)
def wsX4_mean : List Cond := .code yX4_mean cX4_mean 4 (some .double) :: ([.fieldLink RX4 33 "CardFansModel" "thrown" "I", .fieldLink RX4 41 "CardFansModel" "watchers" "I", .fieldLink RX4 18 "CardFansModel" "thinks" "[[I", .methodLink RX4 85 yJ6_bitCount_0f7a4, .static yJ6_bitCount_0f7a4, .initialized RJ6, .code yJ6_bitCount_0f7a4 cJ6_bitCount_0f7a4 1 (some .int), .constant RJ6 265 (1431655765), .constant RJ6 266 (858993459), .constant RJ6 267 (252645135)] ++ wsX40)
def wsX4_digest_r1 : List Cond := [Cond.fieldLink RX4 33 "CardFansModel" "thrown" "I", Cond.constantLong RX4 121 (929), Cond.constantLong RX4 123 (31), Cond.fieldLink RX4 9 "CardFansModel" "pack" "[I", Cond.fieldLink RX4 41 "CardFansModel" "watchers" "I", Cond.fieldLink RX4 18 "CardFansModel" "thinks" "[[I", Cond.fieldLink RX4 44 "CardFansModel" "players" "I", Cond.fieldLink RX4 27 "CardFansModel" "habit" "[I", Cond.fieldLink RX4 30 "CardFansModel" "took" "[I", Cond.methodLink RX4 118 yX4_counted, Cond.instanceMethod yX4_counted, Cond.selects RX4 yX4_counted yX4_counted, Cond.initialized RX4, Cond.code yX4_counted cX4_counted 4 (some .int), Cond.arrayClass .int, Cond.fieldLink RX4 71 "CardFansModel" "ways" "I", Cond.fieldLink RX4 74 "CardFansModel" "falseCuts" "I", Cond.fieldLink RX4 104 "CardFansModel" "lean" "I", Cond.fieldLink RX4 110 "CardFansModel" "taken" "I", Cond.methodLink RX4 100 yX4_watcherTold, Cond.instanceMethod yX4_watcherTold, Cond.selects RX4 yX4_watcherTold yX4_watcherTold, Cond.code yX4_watcherTold cX4_watcherTold 8 (some .int), Cond.fieldLink RX4 13 "CardFansModel" "isSharp" "[I"]
def wsX4_digest_r2 : List Cond := [Cond.fieldLink RX4 21 "CardFansModel" "anew" "[I", Cond.fieldLink RX4 24 "CardFansModel" "glimpses" "[I", Cond.methodLink RX4 90 yX4_isOne, Cond.static yX4_isOne, Cond.code yX4_isOne cX4_isOne 1 (some .boolean), Cond.methodLink RX4 85 yJ6_bitCount_0f7a4, Cond.static yJ6_bitCount_0f7a4, Cond.initialized RJ6, Cond.code yJ6_bitCount_0f7a4 cJ6_bitCount_0f7a4 1 (some .int), Cond.constant RJ6 265 (1431655765), Cond.constant RJ6 266 (858993459), Cond.constant RJ6 267 (252645135)]
def wsX4_digest : List Cond := .code yX4_digest cX4_digest 5 (some .long) :: ((wsX4_digest_r1 ++ wsX4_digest_r2) ++ wsX40)
def wsL_go_r1 : List Cond := [Cond.classLink RL 13 "java/lang/IllegalArgumentException", Cond.methodLink RL 7 yX3_go, Cond.instanceMethod yX3_go, Cond.selects RX3 yX3_go yX3_go, Cond.initialized RX3, Cond.code yX3_go cX3_go 8 (some .int), Cond.fieldLink RX3 12 "CardFans" "pack" "LCardFans$Row;", Cond.fieldLink RX3 21 "CardFans" "watchers" "[LCardFans$Watcher;", Cond.fieldLink RX3 44 "CardFans" "waysDone" "I", Cond.methodLink RX3 34 yX3_requireWay, Cond.static yX3_requireWay, Cond.code yX3_requireWay cX3_requireWay 2 none, Cond.classLink RX3 196 "java/lang/IllegalArgumentException", Cond.initialized "java/lang/IllegalArgumentException", Cond.methodLink RX3 192 yX3_isWay, Cond.static yX3_isWay, Cond.code yX3_isWay cX3_isWay 2 (some .boolean), Cond.methodLink RX3 38 yX1_carry, Cond.instanceMethod yX1_carry, Cond.selects RX1 yX1_carry yX1_carry, Cond.initialized RX1, Cond.code yX1_carry cX1_carry 5 none, Cond.fieldLink RX1 15 "CardFans$Row" "carried" "[I", Cond.fieldLink RX1 9 "CardFans$Row" "numbers" "[I"]
def wsL_go_r2 : List Cond := [Cond.static yX3_placeAfter, Cond.code yX3_placeAfter cX3_placeAfter 3 (some .int), Cond.methodLink RX3 211 yX3_placeAfterDeal, Cond.static yX3_placeAfterDeal, Cond.code yX3_placeAfterDeal cX3_placeAfterDeal 4 (some .int), Cond.static yX3_isSixteenth, Cond.code yX3_isSixteenth cX3_isSixteenth 1 (some .boolean), Cond.methodLink RX3 41 yX2_follow, Cond.instanceMethod yX2_follow, Cond.selects RX2 yX2_follow yX2_follow, Cond.initialized RX2, Cond.code yX2_follow cX2_follow 3 none, Cond.fieldLink RX2 12 "CardFans$Watcher" "thoughts" "LCardFans$Row;", Cond.methodLink RX2 27 yX1_carry, Cond.methodLink RX3 48 yX1_at, Cond.instanceMethod yX1_at, Cond.selects RX1 yX1_at yX1_at, Cond.code yX1_at cX1_at 2 (some .int)]
def wsL_go : List Cond := .codeWith yL_go cL_go 6 (some .int) [(0, 12, 15, 13)] :: ((wsL_go_r1 ++ wsL_go_r2) ++ wsX30 ++ wsX10 ++ wsX20 ++ (vx_atS RX3 200 "java/lang/IllegalArgumentException" ["java/lang/RuntimeException", "java/lang/Exception"]).filter goodWord)
def wsL_falseCut_r1 : List Cond := [Cond.classLink RL 13 "java/lang/IllegalArgumentException", Cond.methodLink RL 15 yX3_falseCut, Cond.instanceMethod yX3_falseCut, Cond.selects RX3 yX3_falseCut yX3_falseCut, Cond.initialized RX3, Cond.code yX3_falseCut cX3_falseCut 7 (some .int), Cond.fieldLink RX3 21 "CardFans" "watchers" "[LCardFans$Watcher;", Cond.fieldLink RX3 56 "CardFans" "falseCuts" "I", Cond.methodLink RX3 34 yX3_requireWay, Cond.static yX3_requireWay, Cond.code yX3_requireWay cX3_requireWay 2 none, Cond.classLink RX3 196 "java/lang/IllegalArgumentException", Cond.initialized "java/lang/IllegalArgumentException", Cond.methodLink RX3 192 yX3_isWay, Cond.static yX3_isWay, Cond.code yX3_isWay cX3_isWay 2 (some .boolean), Cond.methodLink RX3 41 yX2_follow, Cond.instanceMethod yX2_follow, Cond.selects RX2 yX2_follow yX2_follow, Cond.initialized RX2, Cond.code yX2_follow cX2_follow 3 none, Cond.fieldLink RX2 12 "CardFans$Watcher" "thoughts" "LCardFans$Row;", Cond.methodLink RX2 27 yX1_carry, Cond.instanceMethod yX1_carry]
def wsL_falseCut_r2 : List Cond := [Cond.selects RX1 yX1_carry yX1_carry, Cond.initialized RX1, Cond.code yX1_carry cX1_carry 5 none, Cond.fieldLink RX1 15 "CardFans$Row" "carried" "[I", Cond.fieldLink RX1 9 "CardFans$Row" "numbers" "[I", Cond.static yX3_placeAfter, Cond.code yX3_placeAfter cX3_placeAfter 3 (some .int), Cond.methodLink RX3 211 yX3_placeAfterDeal, Cond.static yX3_placeAfterDeal, Cond.code yX3_placeAfterDeal cX3_placeAfterDeal 4 (some .int), Cond.static yX3_isSixteenth, Cond.code yX3_isSixteenth cX3_isSixteenth 1 (some .boolean)]
def wsL_falseCut : List Cond := .codeWith yL_falseCut cL_falseCut 4 (some .int) [(0, 9, 12, 13)] :: ((wsL_falseCut_r1 ++ wsL_falseCut_r2) ++ wsX30 ++ wsX20 ++ wsX10 ++ (vx_atS RX3 200 "java/lang/IllegalArgumentException" ["java/lang/RuntimeException", "java/lang/Exception"]).filter goodWord)
def wsL_comes_r1 : List Cond := [Cond.classLink RL 13 "java/lang/IllegalArgumentException", Cond.classLink RL 23 "java/lang/IndexOutOfBoundsException", Cond.methodLink RL 19 yX3_comes, Cond.instanceMethod yX3_comes, Cond.selects RX3 yX3_comes yX3_comes, Cond.initialized RX3, Cond.code yX3_comes cX3_comes 4 (some .int), Cond.methodLink RX3 34 yX3_requireWay, Cond.static yX3_requireWay, Cond.code yX3_requireWay cX3_requireWay 2 none, Cond.classLink RX3 196 "java/lang/IllegalArgumentException", Cond.initialized "java/lang/IllegalArgumentException", Cond.methodLink RX3 192 yX3_isWay, Cond.static yX3_isWay, Cond.code yX3_isWay cX3_isWay 2 (some .boolean), Cond.methodLink RX3 59 yX3_requirePlace, Cond.static yX3_requirePlace, Cond.code yX3_requirePlace cX3_requirePlace 1 none, Cond.classLink RX3 116 "java/lang/IndexOutOfBoundsException", Cond.initialized "java/lang/IndexOutOfBoundsException", Cond.methodLink RX3 201 yX3_isSixteenth, Cond.static yX3_isSixteenth, Cond.code yX3_isSixteenth cX3_isSixteenth 1 (some .boolean), Cond.methodLink RX3 63 yX3_placeAfter]
def wsL_comes_r2 : List Cond := [Cond.static yX3_placeAfter, Cond.code yX3_placeAfter cX3_placeAfter 3 (some .int), Cond.methodLink RX3 211 yX3_placeAfterDeal, Cond.static yX3_placeAfterDeal, Cond.code yX3_placeAfterDeal cX3_placeAfterDeal 4 (some .int)]
def wsL_comes : List Cond := .codeWith yL_comes cL_comes 6 (some .int) [(0, 12, 15, 13), (0, 12, 19, 23)] :: ((wsL_comes_r1 ++ wsL_comes_r2) ++ (vx_atS RX3 200 "java/lang/IllegalArgumentException" ["java/lang/RuntimeException", "java/lang/Exception"]).filter goodWord ++ (vx_atS RX3 120 "java/lang/IndexOutOfBoundsException" ["java/lang/RuntimeException", "java/lang/Exception"]).filter goodWord)
def wsL_card : List Cond := .codeWith yL_card cL_card 4 (some .int) [(0, 9, 12, 23)] :: ([.classLink RL 23 "java/lang/IndexOutOfBoundsException", .methodLink RL 25 yX3_card, .instanceMethod yX3_card, .selects RX3 yX3_card yX3_card, .initialized RX3, .code yX3_card cX3_card 2 (some .int), .fieldLink RX3 12 "CardFans" "pack" "LCardFans$Row;", .methodLink RX3 59 yX3_requirePlace, .static yX3_requirePlace, .code yX3_requirePlace cX3_requirePlace 1 none, .classLink RX3 116 "java/lang/IndexOutOfBoundsException", .initialized "java/lang/IndexOutOfBoundsException", .methodLink RX3 201 yX3_isSixteenth, .static yX3_isSixteenth, .code yX3_isSixteenth cX3_isSixteenth 1 (some .boolean), .methodLink RX3 48 yX1_at, .instanceMethod yX1_at, .selects RX1 yX1_at yX1_at, .initialized RX1, .code yX1_at cX1_at 2 (some .int), .fieldLink RX1 9 "CardFans$Row" "numbers" "[I"] ++ wsX30 ++ wsX10 ++ (vx_atS RX3 120 "java/lang/IndexOutOfBoundsException" ["java/lang/RuntimeException", "java/lang/Exception"]).filter goodWord)
def wsL_find : List Cond := .codeWith yL_find cL_find 4 (some .int) [(0, 9, 12, 23)] :: ([.classLink RL 23 "java/lang/IndexOutOfBoundsException", .methodLink RL 28 yX3_find, .instanceMethod yX3_find, .selects RX3 yX3_find yX3_find, .initialized RX3, .code yX3_find cX3_find 2 (some .int), .fieldLink RX3 12 "CardFans" "pack" "LCardFans$Row;", .methodLink RX3 67 yX3_requireCard, .static yX3_requireCard, .code yX3_requireCard cX3_requireCard 1 none, .classLink RX3 116 "java/lang/IndexOutOfBoundsException", .initialized "java/lang/IndexOutOfBoundsException", .methodLink RX3 201 yX3_isSixteenth, .static yX3_isSixteenth, .code yX3_isSixteenth cX3_isSixteenth 1 (some .boolean), .methodLink RX3 70 yX1_firstPlaceOf, .instanceMethod yX1_firstPlaceOf, .selects RX1 yX1_firstPlaceOf yX1_firstPlaceOf, .initialized RX1, .code yX1_firstPlaceOf cX1_firstPlaceOf 3 (some .int), .fieldLink RX1 9 "CardFans$Row" "numbers" "[I"] ++ wsX30 ++ wsX10 ++ (vx_atS RX3 120 "java/lang/IndexOutOfBoundsException" ["java/lang/RuntimeException", "java/lang/Exception"]).filter goodWord)
def wsL_watch_r1 : List Cond := [Cond.classLink RL 35 "java/lang/IllegalStateException", Cond.methodLink RL 31 yX3_watch, Cond.instanceMethod yX3_watch, Cond.selects RX3 yX3_watch yX3_watch, Cond.initialized RX3, Cond.code yX3_watch cX3_watch 3 (some .int), Cond.classLink RX3 76 "java/lang/IllegalStateException", Cond.initialized "java/lang/IllegalStateException", Cond.fieldLink RX3 73 "CardFans" "watcherCount" "I", Cond.fieldLink RX3 21 "CardFans" "watchers" "[LCardFans$Watcher;", Cond.classLink RX3 19 RX2, Cond.instantiable RX2 4, Cond.initialized RX2, Cond.methodLink RX3 83 yX2_init, Cond.instanceMethod yX2_init, Cond.code yX2_init cX2_init 3 none, Cond.methodLink RX2 3 objectInit, Cond.instanceMethod objectInit, Cond.code objectInit ⟨#[0xb1]⟩ 1 none, Cond.classLink RX2 9 RX1, Cond.instantiable RX1 2, Cond.initialized RX1, Cond.fieldLink RX2 12 "CardFans$Watcher" "thoughts" "LCardFans$Row;", Cond.fieldLink RX2 18 "CardFans$Watcher" "isSharp" "Z"]
def wsL_watch_r2 : List Cond := [Cond.constant RX2 22 (65535), Cond.instanceMethod yX1_init, Cond.code yX1_init cX1_init 1 none, Cond.methodLink RX1 3 objectInit, Cond.arrayClass .int, Cond.fieldLink RX1 9 "CardFans$Row" "numbers" "[I", Cond.fieldLink RX1 15 "CardFans$Row" "carried" "[I", Cond.methodLink RX2 23 yX1_put, Cond.instanceMethod yX1_put, Cond.selects RX1 yX1_put yX1_put, Cond.code yX1_put cX1_put 3 none, Cond.static yX3_isSixteenth, Cond.code yX3_isSixteenth cX3_isSixteenth 1 (some .boolean)]
def wsL_watch : List Cond := .codeWith yL_watch cL_watch 4 (some .int) [(0, 9, 12, 35)] :: ((wsL_watch_r1 ++ wsL_watch_r2) ++ wsX30 ++ wsX20 ++ wsX10 ++ (vx_atS RX3 80 "java/lang/IllegalStateException" ["java/lang/RuntimeException", "java/lang/Exception"]).filter goodWord)
def wsL_glimpse_r1 : List Cond := [Cond.classLink RL 23 "java/lang/IndexOutOfBoundsException", Cond.methodLink RL 37 yX3_glimpse, Cond.instanceMethod yX3_glimpse, Cond.selects RX3 yX3_glimpse yX3_glimpse, Cond.initialized RX3, Cond.code yX3_glimpse cX3_glimpse 5 (some .int), Cond.fieldLink RX3 12 "CardFans" "pack" "LCardFans$Row;", Cond.methodLink RX3 86 yX3_watcherOf, Cond.instanceMethod yX3_watcherOf, Cond.selects RX3 yX3_watcherOf yX3_watcherOf, Cond.code yX3_watcherOf cX3_watcherOf 3 (some (.object "CardFans$Watcher")), Cond.classLink RX3 116 "java/lang/IndexOutOfBoundsException", Cond.initialized "java/lang/IndexOutOfBoundsException", Cond.fieldLink RX3 21 "CardFans" "watchers" "[LCardFans$Watcher;", Cond.methodLink RX3 59 yX3_requirePlace, Cond.static yX3_requirePlace, Cond.code yX3_requirePlace cX3_requirePlace 1 none, Cond.methodLink RX3 201 yX3_isSixteenth, Cond.static yX3_isSixteenth, Cond.code yX3_isSixteenth cX3_isSixteenth 1 (some .boolean), Cond.methodLink RX3 48 yX1_at, Cond.instanceMethod yX1_at, Cond.selects RX1 yX1_at yX1_at, Cond.initialized RX1]
def wsL_glimpse_r2 : List Cond := [Cond.code yX1_at cX1_at 2 (some .int), Cond.fieldLink RX1 9 "CardFans$Row" "numbers" "[I", Cond.methodLink RX3 90 yX2_see, Cond.instanceMethod yX2_see, Cond.selects RX2 yX2_see yX2_see, Cond.initialized RX2, Cond.code yX2_see cX2_see 3 none, Cond.fieldLink RX2 30 "CardFans$Watcher" "glimpses" "I", Cond.fieldLink RX2 12 "CardFans$Watcher" "thoughts" "LCardFans$Row;", Cond.fieldLink RX2 45 "CardFans$Watcher" "timesAnew" "I", Cond.static yX3_setOf, Cond.code yX3_setOf cX3_setOf 1 (some .int), Cond.methodLink RX2 23 yX1_put, Cond.instanceMethod yX1_put, Cond.selects RX1 yX1_put yX1_put, Cond.code yX1_put cX1_put 3 none, Cond.methodLink RX2 38 yX2_concludes, Cond.instanceMethod yX2_concludes, Cond.selects RX2 yX2_concludes yX2_concludes, Cond.code yX2_concludes cX2_concludes 4 (some .boolean), Cond.methodLink RX2 48 yX1_at, Cond.static yX3_isOneAlone, Cond.code yX3_isOneAlone cX3_isOneAlone 1 (some .boolean), Cond.methodLink RX3 214 yJ6_bitCount_0f7a4]
def wsL_glimpse_r3 : List Cond := [Cond.static yJ6_bitCount_0f7a4, Cond.initialized RJ6, Cond.code yJ6_bitCount_0f7a4 cJ6_bitCount_0f7a4 1 (some .int), Cond.constant RJ6 265 (1431655765), Cond.constant RJ6 266 (858993459), Cond.constant RJ6 267 (252645135), Cond.methodLink RX2 55 yX2_strikesElsewhere, Cond.instanceMethod yX2_strikesElsewhere, Cond.selects RX2 yX2_strikesElsewhere yX2_strikesElsewhere, Cond.code yX2_strikesElsewhere cX2_strikesElsewhere 6 (some .boolean), Cond.methodLink RX2 58 yX1_firstPlaceOf, Cond.instanceMethod yX1_firstPlaceOf, Cond.selects RX1 yX1_firstPlaceOf yX1_firstPlaceOf, Cond.code yX1_firstPlaceOf cX1_firstPlaceOf 3 (some .int), Cond.methodLink RX2 42 yX2_thinkAnew, Cond.instanceMethod yX2_thinkAnew, Cond.selects RX2 yX2_thinkAnew yX2_thinkAnew, Cond.code yX2_thinkAnew cX2_thinkAnew 4 none, Cond.constant RX2 22 (65535)]
def wsL_glimpse : List Cond := .codeWith yL_glimpse cL_glimpse 5 (some .int) [(0, 10, 13, 23)] :: ((wsL_glimpse_r1 ++ (wsL_glimpse_r2 ++ wsL_glimpse_r3)) ++ wsX30 ++ wsX10 ++ wsX20 ++ (vx_atS RX3 120 "java/lang/IndexOutOfBoundsException" ["java/lang/RuntimeException", "java/lang/Exception"]).filter goodWord)
def wsL_thinks_r1 : List Cond := [Cond.classLink RL 23 "java/lang/IndexOutOfBoundsException", Cond.methodLink RL 41 yX3_thinks, Cond.instanceMethod yX3_thinks, Cond.selects RX3 yX3_thinks yX3_thinks, Cond.initialized RX3, Cond.code yX3_thinks cX3_thinks 4 (some .int), Cond.methodLink RX3 86 yX3_watcherOf, Cond.instanceMethod yX3_watcherOf, Cond.selects RX3 yX3_watcherOf yX3_watcherOf, Cond.code yX3_watcherOf cX3_watcherOf 3 (some (.object "CardFans$Watcher")), Cond.classLink RX3 116 "java/lang/IndexOutOfBoundsException", Cond.initialized "java/lang/IndexOutOfBoundsException", Cond.fieldLink RX3 21 "CardFans" "watchers" "[LCardFans$Watcher;", Cond.methodLink RX3 59 yX3_requirePlace, Cond.static yX3_requirePlace, Cond.code yX3_requirePlace cX3_requirePlace 1 none, Cond.methodLink RX3 201 yX3_isSixteenth, Cond.static yX3_isSixteenth, Cond.code yX3_isSixteenth cX3_isSixteenth 1 (some .boolean), Cond.methodLink RX3 48 yX1_at, Cond.instanceMethod yX1_at, Cond.selects RX1 yX1_at yX1_at, Cond.initialized RX1, Cond.code yX1_at cX1_at 2 (some .int)]
def wsL_thinks_r2 : List Cond := [Cond.fieldLink RX1 9 "CardFans$Row" "numbers" "[I"]
def wsL_thinks : List Cond := .codeWith yL_thinks cL_thinks 5 (some .int) [(0, 10, 13, 23)] :: ((wsL_thinks_r1 ++ wsL_thinks_r2) ++ wsX20 ++ wsX30 ++ wsX10 ++ (vx_atS RX3 120 "java/lang/IndexOutOfBoundsException" ["java/lang/RuntimeException", "java/lang/Exception"]).filter goodWord)
def wsL_sure_r1 : List Cond := [Cond.classLink RL 23 "java/lang/IndexOutOfBoundsException", Cond.methodLink RL 44 yX3_sure, Cond.instanceMethod yX3_sure, Cond.selects RX3 yX3_sure yX3_sure, Cond.initialized RX3, Cond.code yX3_sure cX3_sure 4 (some .int), Cond.methodLink RX3 86 yX3_watcherOf, Cond.instanceMethod yX3_watcherOf, Cond.selects RX3 yX3_watcherOf yX3_watcherOf, Cond.code yX3_watcherOf cX3_watcherOf 3 (some (.object "CardFans$Watcher")), Cond.classLink RX3 116 "java/lang/IndexOutOfBoundsException", Cond.initialized "java/lang/IndexOutOfBoundsException", Cond.fieldLink RX3 21 "CardFans" "watchers" "[LCardFans$Watcher;", Cond.methodLink RX3 67 yX3_requireCard, Cond.static yX3_requireCard, Cond.code yX3_requireCard cX3_requireCard 1 none, Cond.methodLink RX3 201 yX3_isSixteenth, Cond.static yX3_isSixteenth, Cond.code yX3_isSixteenth cX3_isSixteenth 1 (some .boolean), Cond.methodLink RX3 96 yX3_setOf, Cond.static yX3_setOf, Cond.code yX3_setOf cX3_setOf 1 (some .int), Cond.methodLink RX3 70 yX1_firstPlaceOf, Cond.instanceMethod yX1_firstPlaceOf]
def wsL_sure_r2 : List Cond := [Cond.selects RX1 yX1_firstPlaceOf yX1_firstPlaceOf, Cond.initialized RX1, Cond.code yX1_firstPlaceOf cX1_firstPlaceOf 3 (some .int), Cond.fieldLink RX1 9 "CardFans$Row" "numbers" "[I"]
def wsL_sure : List Cond := .codeWith yL_sure cL_sure 5 (some .int) [(0, 10, 13, 23)] :: ((wsL_sure_r1 ++ wsL_sure_r2) ++ wsX20 ++ wsX30 ++ wsX10 ++ (vx_atS RX3 120 "java/lang/IndexOutOfBoundsException" ["java/lang/RuntimeException", "java/lang/Exception"]).filter goodWord)
def wsL_watcher_r1 : List Cond := [Cond.classLink RL 23 "java/lang/IndexOutOfBoundsException", Cond.methodLink RL 47 yX3_watcher, Cond.instanceMethod yX3_watcher, Cond.selects RX3 yX3_watcher yX3_watcher, Cond.initialized RX3, Cond.code yX3_watcher cX3_watcher 4 (some .int), Cond.classLink RX3 116 "java/lang/IndexOutOfBoundsException", Cond.initialized "java/lang/IndexOutOfBoundsException", Cond.fieldLink RX3 12 "CardFans" "pack" "LCardFans$Row;", Cond.methodLink RX3 86 yX3_watcherOf, Cond.instanceMethod yX3_watcherOf, Cond.selects RX3 yX3_watcherOf yX3_watcherOf, Cond.code yX3_watcherOf cX3_watcherOf 3 (some (.object "CardFans$Watcher")), Cond.fieldLink RX3 21 "CardFans" "watchers" "[LCardFans$Watcher;", Cond.methodLink RX3 99 yX2_placesHeldPossible, Cond.instanceMethod yX2_placesHeldPossible, Cond.selects RX2 yX2_placesHeldPossible yX2_placesHeldPossible, Cond.initialized RX2, Cond.code yX2_placesHeldPossible cX2_placesHeldPossible 4 (some .int), Cond.fieldLink RX2 12 "CardFans$Watcher" "thoughts" "LCardFans$Row;", Cond.methodLink RX2 48 yX1_at, Cond.instanceMethod yX1_at, Cond.selects RX1 yX1_at yX1_at, Cond.initialized RX1]
def wsL_watcher_r2 : List Cond := [Cond.code yX1_at cX1_at 2 (some .int), Cond.fieldLink RX1 9 "CardFans$Row" "numbers" "[I", Cond.static yX3_isSixteenth, Cond.code yX3_isSixteenth cX3_isSixteenth 1 (some .boolean), Cond.static yX3_setOf, Cond.code yX3_setOf cX3_setOf 1 (some .int), Cond.methodLink RX3 103 yX2_placesSettled, Cond.instanceMethod yX2_placesSettled, Cond.selects RX2 yX2_placesSettled yX2_placesSettled, Cond.code yX2_placesSettled cX2_placesSettled 3 (some .int), Cond.static yX3_isOneAlone, Cond.code yX3_isOneAlone cX3_isOneAlone 1 (some .boolean), Cond.methodLink RX3 214 yJ6_bitCount_0f7a4, Cond.static yJ6_bitCount_0f7a4, Cond.initialized RJ6, Cond.code yJ6_bitCount_0f7a4 cJ6_bitCount_0f7a4 1 (some .int), Cond.constant RJ6 265 (1431655765), Cond.constant RJ6 266 (858993459), Cond.constant RJ6 267 (252645135), Cond.methodLink RX3 107 yX2_placesSettledRightly, Cond.instanceMethod yX2_placesSettledRightly, Cond.selects RX2 yX2_placesSettledRightly yX2_placesSettledRightly, Cond.code yX2_placesSettledRightly cX2_placesSettledRightly 4 (some .int)]
def wsL_watcher : List Cond := .codeWith yL_watcher cL_watcher 5 (some .int) [(0, 10, 13, 23)] :: ((wsL_watcher_r1 ++ wsL_watcher_r2) ++ wsX20 ++ wsX30 ++ wsX10 ++ (vx_atS RX3 120 "java/lang/IndexOutOfBoundsException" ["java/lang/RuntimeException", "java/lang/Exception"]).filter goodWord)
def wsL_sit_r1 : List Cond := [Cond.classLink RL 13 "java/lang/IllegalArgumentException", Cond.classLink RL 35 "java/lang/IllegalStateException", Cond.methodLink RL 50 yX3_sit, Cond.instanceMethod yX3_sit, Cond.selects RX3 yX3_sit yX3_sit, Cond.initialized RX3, Cond.code yX3_sit cX3_sit 3 (some .int), Cond.classLink RX3 76 "java/lang/IllegalStateException", Cond.initialized "java/lang/IllegalStateException", Cond.fieldLink RX3 124 "CardFans" "playerCount" "I", Cond.fieldLink RX3 27 "CardFans" "players" "[LCardFans$Player;", Cond.classLink RX3 25 RX0, Cond.instantiable RX0 2, Cond.initialized RX0, Cond.methodLink RX3 121 yX3_requireSixteenth, Cond.static yX3_requireSixteenth, Cond.code yX3_requireSixteenth cX3_requireSixteenth 1 none, Cond.classLink RX3 196 "java/lang/IllegalArgumentException", Cond.initialized "java/lang/IllegalArgumentException", Cond.methodLink RX3 201 yX3_isSixteenth, Cond.static yX3_isSixteenth, Cond.code yX3_isSixteenth cX3_isSixteenth 1 (some .boolean), Cond.methodLink RX3 129 yX0_init, Cond.instanceMethod yX0_init]
def wsL_sit_r2 : List Cond := [Cond.code yX0_init cX0_init 2 none, Cond.methodLink RX0 1 objectInit, Cond.instanceMethod objectInit, Cond.code objectInit ⟨#[0xb1]⟩ 1 none, Cond.fieldLink RX0 7 "CardFans$Player" "latestCard" "I", Cond.fieldLink RX0 13 "CardFans$Player" "habit" "I"]
def wsL_sit : List Cond := .codeWith yL_sit cL_sit 4 (some .int) [(0, 9, 12, 13), (0, 9, 15, 35)] :: ((wsL_sit_r1 ++ wsL_sit_r2) ++ wsX30 ++ wsX00 ++ (vx_atS RX3 80 "java/lang/IllegalStateException" ["java/lang/RuntimeException", "java/lang/Exception"]).filter goodWord ++ (vx_atS RX3 200 "java/lang/IllegalArgumentException" ["java/lang/RuntimeException", "java/lang/Exception"]).filter goodWord)
def wsL_fan : List Cond := .codeWith yL_fan cL_fan 4 (some .int) [(0, 9, 12, 13)] :: ([.classLink RL 13 "java/lang/IllegalArgumentException", .methodLink RL 53 yX3_fan, .instanceMethod yX3_fan, .selects RX3 yX3_fan yX3_fan, .initialized RX3, .code yX3_fan cX3_fan 3 (some .int), .fieldLink RX3 131 "CardFans" "leanOfFan" "I", .methodLink RX3 121 yX3_requireSixteenth, .static yX3_requireSixteenth, .code yX3_requireSixteenth cX3_requireSixteenth 1 none, .classLink RX3 196 "java/lang/IllegalArgumentException", .initialized "java/lang/IllegalArgumentException", .methodLink RX3 201 yX3_isSixteenth, .static yX3_isSixteenth, .code yX3_isSixteenth cX3_isSixteenth 1 (some .boolean)] ++ wsX30 ++ (vx_atS RX3 200 "java/lang/IllegalArgumentException" ["java/lang/RuntimeException", "java/lang/Exception"]).filter goodWord)
def wsL_take_r1 : List Cond := [Cond.classLink RL 23 "java/lang/IndexOutOfBoundsException", Cond.methodLink RL 56 yX3_take, Cond.instanceMethod yX3_take, Cond.selects RX3 yX3_take yX3_take, Cond.initialized RX3, Cond.code yX3_take cX3_take 4 (some .int), Cond.fieldLink RX3 131 "CardFans" "leanOfFan" "I", Cond.fieldLink RX3 141 "CardFans" "cardsTaken" "I", Cond.fieldLink RX3 12 "CardFans" "pack" "LCardFans$Row;", Cond.methodLink RX3 134 yX3_playerOf, Cond.instanceMethod yX3_playerOf, Cond.selects RX3 yX3_playerOf yX3_playerOf, Cond.code yX3_playerOf cX3_playerOf 3 (some (.object "CardFans$Player")), Cond.classLink RX3 116 "java/lang/IndexOutOfBoundsException", Cond.initialized "java/lang/IndexOutOfBoundsException", Cond.fieldLink RX3 27 "CardFans" "players" "[LCardFans$Player;", Cond.methodLink RX3 144 yJ9_floorMod_7cf53, Cond.static yJ9_floorMod_7cf53, Cond.initialized RJ9, Cond.code yJ9_floorMod_7cf53 cJ9_floorMod_7cf53 3 (some .int), Cond.methodLink RX3 48 yX1_at, Cond.instanceMethod yX1_at, Cond.selects RX1 yX1_at yX1_at, Cond.initialized RX1]
def wsL_take_r2 : List Cond := [Cond.code yX1_at cX1_at 2 (some .int), Cond.fieldLink RX1 9 "CardFans$Row" "numbers" "[I", Cond.static yX3_isSixteenth, Cond.code yX3_isSixteenth cX3_isSixteenth 1 (some .boolean)]
def wsL_take : List Cond := .codeWith yL_take cL_take 4 (some .int) [(0, 9, 12, 23)] :: ((wsL_take_r1 ++ wsL_take_r2) ++ wsX00 ++ wsX30 ++ wsX10 ++ (vx_atS RX3 120 "java/lang/IndexOutOfBoundsException" ["java/lang/RuntimeException", "java/lang/Exception"]).filter goodWord)
def wsL_force_r1 : List Cond := [Cond.classLink RL 23 "java/lang/IndexOutOfBoundsException", Cond.methodLink RL 59 yX3_force, Cond.instanceMethod yX3_force, Cond.selects RX3 yX3_force yX3_force, Cond.initialized RX3, Cond.code yX3_force cX3_force 4 (some .int), Cond.fieldLink RX3 12 "CardFans" "pack" "LCardFans$Row;", Cond.fieldLink RX3 141 "CardFans" "cardsTaken" "I", Cond.methodLink RX3 134 yX3_playerOf, Cond.instanceMethod yX3_playerOf, Cond.selects RX3 yX3_playerOf yX3_playerOf, Cond.code yX3_playerOf cX3_playerOf 3 (some (.object "CardFans$Player")), Cond.classLink RX3 116 "java/lang/IndexOutOfBoundsException", Cond.initialized "java/lang/IndexOutOfBoundsException", Cond.fieldLink RX3 27 "CardFans" "players" "[LCardFans$Player;", Cond.methodLink RX3 67 yX3_requireCard, Cond.static yX3_requireCard, Cond.code yX3_requireCard cX3_requireCard 1 none, Cond.methodLink RX3 201 yX3_isSixteenth, Cond.static yX3_isSixteenth, Cond.code yX3_isSixteenth cX3_isSixteenth 1 (some .boolean), Cond.methodLink RX3 70 yX1_firstPlaceOf, Cond.instanceMethod yX1_firstPlaceOf, Cond.selects RX1 yX1_firstPlaceOf yX1_firstPlaceOf]
def wsL_force_r2 : List Cond := [Cond.initialized RX1, Cond.code yX1_firstPlaceOf cX1_firstPlaceOf 3 (some .int), Cond.fieldLink RX1 9 "CardFans$Row" "numbers" "[I", Cond.methodLink RX3 144 yJ9_floorMod_7cf53, Cond.static yJ9_floorMod_7cf53, Cond.initialized RJ9, Cond.code yJ9_floorMod_7cf53 cJ9_floorMod_7cf53 3 (some .int)]
def wsL_force : List Cond := .codeWith yL_force cL_force 5 (some .int) [(0, 10, 13, 23)] :: ((wsL_force_r1 ++ wsL_force_r2) ++ wsX30 ++ wsX00 ++ wsX10 ++ (vx_atS RX3 120 "java/lang/IndexOutOfBoundsException" ["java/lang/RuntimeException", "java/lang/Exception"]).filter goodWord)
def wsL_took : List Cond := .codeWith yL_took cL_took 4 (some .int) [(0, 9, 12, 23)] :: ([.classLink RL 23 "java/lang/IndexOutOfBoundsException", .methodLink RL 62 yX3_took, .instanceMethod yX3_took, .selects RX3 yX3_took yX3_took, .initialized RX3, .code yX3_took cX3_took 2 (some .int), .methodLink RX3 134 yX3_playerOf, .instanceMethod yX3_playerOf, .selects RX3 yX3_playerOf yX3_playerOf, .code yX3_playerOf cX3_playerOf 3 (some (.object "CardFans$Player")), .classLink RX3 116 "java/lang/IndexOutOfBoundsException", .initialized "java/lang/IndexOutOfBoundsException", .fieldLink RX3 27 "CardFans" "players" "[LCardFans$Player;"] ++ wsX00 ++ wsX30 ++ (vx_atS RX3 120 "java/lang/IndexOutOfBoundsException" ["java/lang/RuntimeException", "java/lang/Exception"]).filter goodWord)
def wsL_count : List Cond := .codeWith yL_count cL_count 4 (some .int) [(0, 9, 12, 23)] :: ([.classLink RL 23 "java/lang/IndexOutOfBoundsException", .methodLink RL 65 yX3_count, .instanceMethod yX3_count, .selects RX3 yX3_count yX3_count, .initialized RX3, .code yX3_count cX3_count 2 (some .int), .classLink RX3 116 "java/lang/IndexOutOfBoundsException", .initialized "java/lang/IndexOutOfBoundsException", .fieldLink RX3 44 "CardFans" "waysDone" "I", .fieldLink RX3 56 "CardFans" "falseCuts" "I", .fieldLink RX3 73 "CardFans" "watcherCount" "I", .fieldLink RX3 124 "CardFans" "playerCount" "I", .fieldLink RX3 131 "CardFans" "leanOfFan" "I", .fieldLink RX3 141 "CardFans" "cardsTaken" "I", .fieldLink RX3 12 "CardFans" "pack" "LCardFans$Row;", .methodLink RX3 153 yX1_placesInOrder, .instanceMethod yX1_placesInOrder, .selects RX1 yX1_placesInOrder yX1_placesInOrder, .initialized RX1, .code yX1_placesInOrder cX1_placesInOrder 3 (some .int), .fieldLink RX1 9 "CardFans$Row" "numbers" "[I"] ++ wsX30 ++ wsX10 ++ (vx_atS RX3 120 "java/lang/IndexOutOfBoundsException" ["java/lang/RuntimeException", "java/lang/Exception"]).filter goodWord)
def wsL_back_r1 : List Cond := [Cond.classLink RL 13 "java/lang/IllegalArgumentException", Cond.methodLink RL 68 yX3_back, Cond.instanceMethod yX3_back, Cond.selects RX3 yX3_back yX3_back, Cond.initialized RX3, Cond.code yX3_back cX3_back 4 (some .int), Cond.fieldLink RX3 16 "CardFans" "trial" "LCardFans$Row;", Cond.methodLink RX3 34 yX3_requireWay, Cond.static yX3_requireWay, Cond.code yX3_requireWay cX3_requireWay 2 none, Cond.classLink RX3 196 "java/lang/IllegalArgumentException", Cond.initialized "java/lang/IllegalArgumentException", Cond.methodLink RX3 192 yX3_isWay, Cond.static yX3_isWay, Cond.code yX3_isWay cX3_isWay 2 (some .boolean), Cond.methodLink RX3 31 yX1_putInOrder, Cond.instanceMethod yX1_putInOrder, Cond.selects RX1 yX1_putInOrder yX1_putInOrder, Cond.initialized RX1, Cond.code yX1_putInOrder cX1_putInOrder 2 none, Cond.fieldLink RX1 9 "CardFans$Row" "numbers" "[I", Cond.methodLink RX3 38 yX1_carry, Cond.instanceMethod yX1_carry, Cond.selects RX1 yX1_carry yX1_carry]
def wsL_back_r2 : List Cond := [Cond.code yX1_carry cX1_carry 5 none, Cond.fieldLink RX1 15 "CardFans$Row" "carried" "[I", Cond.static yX3_placeAfter, Cond.code yX3_placeAfter cX3_placeAfter 3 (some .int), Cond.methodLink RX3 211 yX3_placeAfterDeal, Cond.static yX3_placeAfterDeal, Cond.code yX3_placeAfterDeal cX3_placeAfterDeal 4 (some .int), Cond.static yX3_isSixteenth, Cond.code yX3_isSixteenth cX3_isSixteenth 1 (some .boolean), Cond.methodLink RX3 153 yX1_placesInOrder, Cond.instanceMethod yX1_placesInOrder, Cond.selects RX1 yX1_placesInOrder yX1_placesInOrder, Cond.code yX1_placesInOrder cX1_placesInOrder 3 (some .int)]
def wsL_back : List Cond := .codeWith yL_back cL_back 5 (some .int) [(0, 10, 13, 13)] :: ((wsL_back_r1 ++ wsL_back_r2) ++ wsX30 ++ wsX10 ++ (vx_atS RX3 200 "java/lang/IllegalArgumentException" ["java/lang/RuntimeException", "java/lang/Exception"]).filter goodWord)
def wsL_bring_r1 : List Cond := [Cond.classLink RL 23 "java/lang/IndexOutOfBoundsException", Cond.methodLink RL 71 yX3_bring, Cond.instanceMethod yX3_bring, Cond.selects RX3 yX3_bring yX3_bring, Cond.initialized RX3, Cond.code yX3_bring cX3_bring 6 (some .int), Cond.fieldLink RX3 12 "CardFans" "pack" "LCardFans$Row;", Cond.methodLink RX3 67 yX3_requireCard, Cond.static yX3_requireCard, Cond.code yX3_requireCard cX3_requireCard 1 none, Cond.classLink RX3 116 "java/lang/IndexOutOfBoundsException", Cond.initialized "java/lang/IndexOutOfBoundsException", Cond.methodLink RX3 201 yX3_isSixteenth, Cond.static yX3_isSixteenth, Cond.code yX3_isSixteenth cX3_isSixteenth 1 (some .boolean), Cond.methodLink RX3 59 yX3_requirePlace, Cond.static yX3_requirePlace, Cond.code yX3_requirePlace cX3_requirePlace 1 none, Cond.methodLink RX3 96 yX3_setOf, Cond.static yX3_setOf, Cond.code yX3_setOf cX3_setOf 1 (some .int), Cond.methodLink RX3 70 yX1_firstPlaceOf, Cond.instanceMethod yX1_firstPlaceOf, Cond.selects RX1 yX1_firstPlaceOf yX1_firstPlaceOf]
def wsL_bring_r2 : List Cond := [Cond.initialized RX1, Cond.code yX1_firstPlaceOf cX1_firstPlaceOf 3 (some .int), Cond.fieldLink RX1 9 "CardFans$Row" "numbers" "[I", Cond.methodLink RX3 158 yX3_placesOneWayFrom, Cond.static yX3_placesOneWayFrom, Cond.code yX3_placesOneWayFrom cX3_placesOneWayFrom 3 (some .int), Cond.methodLink RX3 63 yX3_placeAfter, Cond.static yX3_placeAfter, Cond.code yX3_placeAfter cX3_placeAfter 3 (some .int), Cond.methodLink RX3 211 yX3_placeAfterDeal, Cond.static yX3_placeAfterDeal, Cond.code yX3_placeAfterDeal cX3_placeAfterDeal 4 (some .int)]
def wsL_bring : List Cond := .codeWith yL_bring cL_bring 5 (some .int) [(0, 10, 13, 23)] :: ((wsL_bring_r1 ++ wsL_bring_r2) ++ wsX30 ++ wsX10 ++ (vx_atS RX3 120 "java/lang/IndexOutOfBoundsException" ["java/lang/RuntimeException", "java/lang/Exception"]).filter goodWord)
def wsL_riffles_r1 : List Cond := [Cond.classLink RL 23 "java/lang/IndexOutOfBoundsException", Cond.methodLink RL 74 yX3_riffles, Cond.instanceMethod yX3_riffles, Cond.selects RX3 yX3_riffles yX3_riffles, Cond.initialized RX3, Cond.code yX3_riffles cX3_riffles 7 (some .int), Cond.fieldLink RX3 12 "CardFans" "pack" "LCardFans$Row;", Cond.methodLink RX3 67 yX3_requireCard, Cond.static yX3_requireCard, Cond.code yX3_requireCard cX3_requireCard 1 none, Cond.classLink RX3 116 "java/lang/IndexOutOfBoundsException", Cond.initialized "java/lang/IndexOutOfBoundsException", Cond.methodLink RX3 201 yX3_isSixteenth, Cond.static yX3_isSixteenth, Cond.code yX3_isSixteenth cX3_isSixteenth 1 (some .boolean), Cond.methodLink RX3 59 yX3_requirePlace, Cond.static yX3_requirePlace, Cond.code yX3_requirePlace cX3_requirePlace 1 none, Cond.methodLink RX3 70 yX1_firstPlaceOf, Cond.instanceMethod yX1_firstPlaceOf, Cond.selects RX1 yX1_firstPlaceOf yX1_firstPlaceOf, Cond.initialized RX1, Cond.code yX1_firstPlaceOf cX1_firstPlaceOf 3 (some .int), Cond.fieldLink RX1 9 "CardFans$Row" "numbers" "[I"]
def wsL_riffles_r2 : List Cond := [Cond.methodLink RX3 161 yX3_placeAfterRiffles, Cond.static yX3_placeAfterRiffles, Cond.code yX3_placeAfterRiffles cX3_placeAfterRiffles 6 (some .int), Cond.methodLink RX3 63 yX3_placeAfter, Cond.static yX3_placeAfter, Cond.code yX3_placeAfter cX3_placeAfter 3 (some .int), Cond.methodLink RX3 211 yX3_placeAfterDeal, Cond.static yX3_placeAfterDeal, Cond.code yX3_placeAfterDeal cX3_placeAfterDeal 4 (some .int)]
def wsL_riffles : List Cond := .codeWith yL_riffles cL_riffles 5 (some .int) [(0, 10, 13, 23)] :: ((wsL_riffles_r1 ++ wsL_riffles_r2) ++ wsX30 ++ wsX10 ++ (vx_atS RX3 120 "java/lang/IndexOutOfBoundsException" ["java/lang/RuntimeException", "java/lang/Exception"]).filter goodWord)
def wsL_law0_r1 : List Cond := [Cond.classLink RL 8 RX3, Cond.instantiable RX3 10, Cond.initialized RX3, Cond.classLink RL 78 RX4, Cond.instantiable RX4 14, Cond.initialized RX4, Cond.arrayClass .long, Cond.methodLink RL 77 yX3_init, Cond.instanceMethod yX3_init, Cond.code yX3_init cX3_init 1 none, Cond.methodLink RX3 3 objectInit, Cond.instanceMethod objectInit, Cond.code objectInit ⟨#[0xb1]⟩ 1 none, Cond.classLink RX3 9 RX1, Cond.instantiable RX1 2, Cond.initialized RX1, Cond.fieldLink RX3 12 "CardFans" "pack" "LCardFans$Row;", Cond.fieldLink RX3 16 "CardFans" "trial" "LCardFans$Row;", Cond.classLink RX3 19 RX2, Cond.fieldLink RX3 21 "CardFans" "watchers" "[LCardFans$Watcher;", Cond.classLink RX3 25 RX0, Cond.fieldLink RX3 27 "CardFans" "players" "[LCardFans$Player;", Cond.instanceMethod yX1_init, Cond.code yX1_init cX1_init 1 none]
def wsL_law0_r2 : List Cond := [Cond.methodLink RX1 3 objectInit, Cond.arrayClass .int, Cond.fieldLink RX1 9 "CardFans$Row" "numbers" "[I", Cond.fieldLink RX1 15 "CardFans$Row" "carried" "[I", Cond.methodLink RX3 31 yX1_putInOrder, Cond.instanceMethod yX1_putInOrder, Cond.selects RX1 yX1_putInOrder yX1_putInOrder, Cond.code yX1_putInOrder cX1_putInOrder 2 none, Cond.methodLink RL 80 yX4_init, Cond.instanceMethod yX4_init, Cond.code yX4_init cX4_init 2 none, Cond.methodLink RX4 1 objectInit, Cond.fieldLink RX4 9 "CardFansModel" "pack" "[I", Cond.fieldLink RX4 13 "CardFansModel" "isSharp" "[I", Cond.classLink RX4 16 "[[I", Cond.fieldLink RX4 18 "CardFansModel" "thinks" "[[I", Cond.fieldLink RX4 21 "CardFansModel" "anew" "[I", Cond.fieldLink RX4 24 "CardFansModel" "glimpses" "[I", Cond.fieldLink RX4 27 "CardFansModel" "habit" "[I", Cond.fieldLink RX4 30 "CardFansModel" "took" "[I", Cond.methodLink RL 81 yL_go, Cond.static yL_go, Cond.initialized RL, Cond.codeWith yL_go cL_go 6 (some .int) [(0, 12, 15, 13)]]
def wsL_law0_r3 : List Cond := [Cond.classLink RL 13 "java/lang/IllegalArgumentException", Cond.methodLink RL 7 yX3_go, Cond.instanceMethod yX3_go, Cond.selects RX3 yX3_go yX3_go, Cond.code yX3_go cX3_go 8 (some .int), Cond.fieldLink RX3 44 "CardFans" "waysDone" "I", Cond.methodLink RX3 34 yX3_requireWay, Cond.static yX3_requireWay, Cond.code yX3_requireWay cX3_requireWay 2 none, Cond.classLink RX3 196 "java/lang/IllegalArgumentException", Cond.initialized "java/lang/IllegalArgumentException", Cond.methodLink RX3 192 yX3_isWay, Cond.static yX3_isWay, Cond.code yX3_isWay cX3_isWay 2 (some .boolean), Cond.methodLink RX3 38 yX1_carry, Cond.instanceMethod yX1_carry, Cond.selects RX1 yX1_carry yX1_carry, Cond.code yX1_carry cX1_carry 5 none, Cond.static yX3_placeAfter, Cond.code yX3_placeAfter cX3_placeAfter 3 (some .int), Cond.methodLink RX3 211 yX3_placeAfterDeal, Cond.static yX3_placeAfterDeal, Cond.code yX3_placeAfterDeal cX3_placeAfterDeal 4 (some .int), Cond.static yX3_isSixteenth]
def wsL_law0_r4 : List Cond := [Cond.code yX3_isSixteenth cX3_isSixteenth 1 (some .boolean), Cond.methodLink RX3 41 yX2_follow, Cond.instanceMethod yX2_follow, Cond.selects RX2 yX2_follow yX2_follow, Cond.initialized RX2, Cond.code yX2_follow cX2_follow 3 none, Cond.fieldLink RX2 12 "CardFans$Watcher" "thoughts" "LCardFans$Row;", Cond.methodLink RX2 27 yX1_carry, Cond.methodLink RX3 48 yX1_at, Cond.instanceMethod yX1_at, Cond.selects RX1 yX1_at yX1_at, Cond.code yX1_at cX1_at 2 (some .int), Cond.methodLink RL 86 yX4_go, Cond.instanceMethod yX4_go, Cond.selects RX4 yX4_go yX4_go, Cond.code yX4_go cX4_go 5 (some .int), Cond.fieldLink RX4 33 "CardFansModel" "thrown" "I", Cond.fieldLink RX4 41 "CardFansModel" "watchers" "I", Cond.fieldLink RX4 71 "CardFansModel" "ways" "I", Cond.methodLink RX4 59 yX4_isWay, Cond.static yX4_isWay, Cond.code yX4_isWay cX4_isWay 2 (some .boolean), Cond.methodLink RX4 37 yX4_isIn, Cond.static yX4_isIn]
def wsL_law0_r5 : List Cond := [Cond.code yX4_isIn cX4_isIn 3 (some .boolean), Cond.methodLink RX4 63 yX4_no, Cond.instanceMethod yX4_no, Cond.selects RX4 yX4_no yX4_no, Cond.code yX4_no cX4_no 2 (some .int), Cond.methodLink RX4 67 yX4_move, Cond.static yX4_move, Cond.code yX4_move cX4_move 5 none, Cond.methodLink RX4 50 ⟨"[I", "clone", "()Ljava/lang/Object;"⟩, Cond.sameMethod "[I" "java/lang/Object" "clone" "()Ljava/lang/Object;", Cond.native ⟨"java/lang/Object", "clone", "()Ljava/lang/Object;"⟩, Cond.instanceMethod ⟨"java/lang/Object", "clone", "()Ljava/lang/Object;"⟩, Cond.selects "[I" ⟨"[I", "clone", "()Ljava/lang/Object;"⟩ ⟨"java/lang/Object", "clone", "()Ljava/lang/Object;"⟩, Cond.classLink RX4 51 "[I", Cond.methodLink RX4 55 yX4_to, Cond.static yX4_to, Cond.code yX4_to cX4_to 3 (some .int), Cond.fieldLink RX4 47 "CardFansModel" "DEALT" "[I", Cond.methodLink RL 87 yX4_thrown, Cond.instanceMethod yX4_thrown, Cond.selects RX4 yX4_thrown yX4_thrown, Cond.code yX4_thrown cX4_thrown 1 (some .int), Cond.methodLink RL 91 yL_falseCut, Cond.static yL_falseCut]
def wsL_law0_r6 : List Cond := [Cond.codeWith yL_falseCut cL_falseCut 4 (some .int) [(0, 9, 12, 13)], Cond.methodLink RL 15 yX3_falseCut, Cond.instanceMethod yX3_falseCut, Cond.selects RX3 yX3_falseCut yX3_falseCut, Cond.code yX3_falseCut cX3_falseCut 7 (some .int), Cond.fieldLink RX3 56 "CardFans" "falseCuts" "I", Cond.methodLink RL 94 yX4_falseCut, Cond.instanceMethod yX4_falseCut, Cond.selects RX4 yX4_falseCut yX4_falseCut, Cond.code yX4_falseCut cX4_falseCut 4 (some .int), Cond.fieldLink RX4 74 "CardFansModel" "falseCuts" "I", Cond.methodLink RL 95 yL_comes, Cond.static yL_comes, Cond.codeWith yL_comes cL_comes 6 (some .int) [(0, 12, 15, 13), (0, 12, 19, 23)], Cond.classLink RL 23 "java/lang/IndexOutOfBoundsException", Cond.methodLink RL 19 yX3_comes, Cond.instanceMethod yX3_comes, Cond.selects RX3 yX3_comes yX3_comes, Cond.code yX3_comes cX3_comes 4 (some .int), Cond.methodLink RX3 59 yX3_requirePlace, Cond.static yX3_requirePlace, Cond.code yX3_requirePlace cX3_requirePlace 1 none, Cond.classLink RX3 116 "java/lang/IndexOutOfBoundsException", Cond.initialized "java/lang/IndexOutOfBoundsException"]
def wsL_law0_r7 : List Cond := [Cond.methodLink RX3 201 yX3_isSixteenth, Cond.methodLink RX3 63 yX3_placeAfter, Cond.methodLink RL 98 yX4_comes, Cond.instanceMethod yX4_comes, Cond.selects RX4 yX4_comes yX4_comes, Cond.code yX4_comes cX4_comes 4 (some .int), Cond.methodLink RX4 77 yX4_isPlace, Cond.static yX4_isPlace, Cond.code yX4_isPlace cX4_isPlace 1 (some .boolean), Cond.methodLink RL 99 yL_card, Cond.static yL_card, Cond.codeWith yL_card cL_card 4 (some .int) [(0, 9, 12, 23)], Cond.methodLink RL 25 yX3_card, Cond.instanceMethod yX3_card, Cond.selects RX3 yX3_card yX3_card, Cond.code yX3_card cX3_card 2 (some .int), Cond.methodLink RL 101 yX4_card, Cond.instanceMethod yX4_card, Cond.selects RX4 yX4_card yX4_card, Cond.code yX4_card cX4_card 2 (some .int), Cond.methodLink RL 102 yL_find, Cond.static yL_find, Cond.codeWith yL_find cL_find 4 (some .int) [(0, 9, 12, 23)], Cond.methodLink RL 28 yX3_find]
def wsL_law0_r8 : List Cond := [Cond.instanceMethod yX3_find, Cond.selects RX3 yX3_find yX3_find, Cond.code yX3_find cX3_find 2 (some .int), Cond.methodLink RX3 67 yX3_requireCard, Cond.static yX3_requireCard, Cond.code yX3_requireCard cX3_requireCard 1 none, Cond.methodLink RX3 70 yX1_firstPlaceOf, Cond.instanceMethod yX1_firstPlaceOf, Cond.selects RX1 yX1_firstPlaceOf yX1_firstPlaceOf, Cond.code yX1_firstPlaceOf cX1_firstPlaceOf 3 (some .int), Cond.methodLink RL 104 yX4_find, Cond.instanceMethod yX4_find, Cond.selects RX4 yX4_find yX4_find, Cond.code yX4_find cX4_find 2 (some .int), Cond.methodLink RX4 81 yX4_placeOf, Cond.instanceMethod yX4_placeOf, Cond.selects RX4 yX4_placeOf yX4_placeOf, Cond.code yX4_placeOf cX4_placeOf 3 (some .int), Cond.methodLink RL 105 yL_watch, Cond.static yL_watch, Cond.codeWith yL_watch cL_watch 4 (some .int) [(0, 9, 12, 35)], Cond.classLink RL 35 "java/lang/IllegalStateException", Cond.methodLink RL 31 yX3_watch, Cond.instanceMethod yX3_watch]
def wsL_law0_r9 : List Cond := [Cond.selects RX3 yX3_watch yX3_watch, Cond.code yX3_watch cX3_watch 3 (some .int), Cond.classLink RX3 76 "java/lang/IllegalStateException", Cond.initialized "java/lang/IllegalStateException", Cond.fieldLink RX3 73 "CardFans" "watcherCount" "I", Cond.instantiable RX2 4, Cond.methodLink RX3 83 yX2_init, Cond.instanceMethod yX2_init, Cond.code yX2_init cX2_init 3 none, Cond.methodLink RX2 3 objectInit, Cond.classLink RX2 9 RX1, Cond.fieldLink RX2 18 "CardFans$Watcher" "isSharp" "Z", Cond.constant RX2 22 (65535), Cond.methodLink RX2 23 yX1_put, Cond.instanceMethod yX1_put, Cond.selects RX1 yX1_put yX1_put, Cond.code yX1_put cX1_put 3 none, Cond.methodLink RL 108 yX4_watch, Cond.instanceMethod yX4_watch, Cond.selects RX4 yX4_watch yX4_watch, Cond.code yX4_watch cX4_watch 3 (some .int), Cond.constant RX4 84 (65535), Cond.methodLink RL 109 yL_glimpse, Cond.static yL_glimpse]
def wsL_law0_r10 : List Cond := [Cond.codeWith yL_glimpse cL_glimpse 5 (some .int) [(0, 10, 13, 23)], Cond.methodLink RL 37 yX3_glimpse, Cond.instanceMethod yX3_glimpse, Cond.selects RX3 yX3_glimpse yX3_glimpse, Cond.code yX3_glimpse cX3_glimpse 5 (some .int), Cond.methodLink RX3 86 yX3_watcherOf, Cond.instanceMethod yX3_watcherOf, Cond.selects RX3 yX3_watcherOf yX3_watcherOf, Cond.code yX3_watcherOf cX3_watcherOf 3 (some (.object "CardFans$Watcher")), Cond.methodLink RX3 90 yX2_see, Cond.instanceMethod yX2_see, Cond.selects RX2 yX2_see yX2_see, Cond.code yX2_see cX2_see 3 none, Cond.fieldLink RX2 30 "CardFans$Watcher" "glimpses" "I", Cond.fieldLink RX2 45 "CardFans$Watcher" "timesAnew" "I", Cond.static yX3_setOf, Cond.code yX3_setOf cX3_setOf 1 (some .int), Cond.methodLink RX2 38 yX2_concludes, Cond.instanceMethod yX2_concludes, Cond.selects RX2 yX2_concludes yX2_concludes, Cond.code yX2_concludes cX2_concludes 4 (some .boolean), Cond.methodLink RX2 48 yX1_at, Cond.static yX3_isOneAlone, Cond.code yX3_isOneAlone cX3_isOneAlone 1 (some .boolean)]
def wsL_law0_r11 : List Cond := [Cond.methodLink RX3 214 yJ6_bitCount_0f7a4, Cond.static yJ6_bitCount_0f7a4, Cond.initialized RJ6, Cond.code yJ6_bitCount_0f7a4 cJ6_bitCount_0f7a4 1 (some .int), Cond.constant RJ6 265 (1431655765), Cond.constant RJ6 266 (858993459), Cond.constant RJ6 267 (252645135), Cond.methodLink RX2 55 yX2_strikesElsewhere, Cond.instanceMethod yX2_strikesElsewhere, Cond.selects RX2 yX2_strikesElsewhere yX2_strikesElsewhere, Cond.code yX2_strikesElsewhere cX2_strikesElsewhere 6 (some .boolean), Cond.methodLink RX2 58 yX1_firstPlaceOf, Cond.methodLink RX2 42 yX2_thinkAnew, Cond.instanceMethod yX2_thinkAnew, Cond.selects RX2 yX2_thinkAnew yX2_thinkAnew, Cond.code yX2_thinkAnew cX2_thinkAnew 4 none, Cond.methodLink RL 112 yX4_glimpse, Cond.instanceMethod yX4_glimpse, Cond.selects RX4 yX4_glimpse yX4_glimpse, Cond.code yX4_glimpse cX4_glimpse 6 (some .int), Cond.methodLink RX4 93 yX4_isWatcher, Cond.instanceMethod yX4_isWatcher, Cond.selects RX4 yX4_isWatcher yX4_isWatcher, Cond.code yX4_isWatcher cX4_isWatcher 2 (some .boolean)]
def wsL_law0_r12 : List Cond := [Cond.methodLink RX4 96 yX4_isLeft, Cond.static yX4_isLeft, Cond.code yX4_isLeft cX4_isLeft 4 (some .boolean), Cond.methodLink RX4 90 yX4_isOne, Cond.static yX4_isOne, Cond.code yX4_isOne cX4_isOne 1 (some .boolean), Cond.methodLink RX4 85 yJ6_bitCount_0f7a4, Cond.methodLink RL 113 yL_thinks, Cond.static yL_thinks, Cond.codeWith yL_thinks cL_thinks 5 (some .int) [(0, 10, 13, 23)], Cond.methodLink RL 41 yX3_thinks, Cond.instanceMethod yX3_thinks, Cond.selects RX3 yX3_thinks yX3_thinks, Cond.code yX3_thinks cX3_thinks 4 (some .int), Cond.methodLink RL 115 yX4_thinks, Cond.instanceMethod yX4_thinks, Cond.selects RX4 yX4_thinks yX4_thinks, Cond.code yX4_thinks cX4_thinks 3 (some .int), Cond.methodLink RL 116 yL_sure, Cond.static yL_sure, Cond.codeWith yL_sure cL_sure 5 (some .int) [(0, 10, 13, 23)], Cond.methodLink RL 44 yX3_sure, Cond.instanceMethod yX3_sure, Cond.selects RX3 yX3_sure yX3_sure]
def wsL_law0_r13 : List Cond := [Cond.code yX3_sure cX3_sure 4 (some .int), Cond.methodLink RX3 96 yX3_setOf, Cond.methodLink RL 118 yX4_sure, Cond.instanceMethod yX4_sure, Cond.selects RX4 yX4_sure yX4_sure, Cond.code yX4_sure cX4_sure 4 (some .int), Cond.methodLink RL 119 yL_watcher, Cond.static yL_watcher, Cond.codeWith yL_watcher cL_watcher 5 (some .int) [(0, 10, 13, 23)], Cond.methodLink RL 47 yX3_watcher, Cond.instanceMethod yX3_watcher, Cond.selects RX3 yX3_watcher yX3_watcher, Cond.code yX3_watcher cX3_watcher 4 (some .int), Cond.methodLink RX3 99 yX2_placesHeldPossible, Cond.instanceMethod yX2_placesHeldPossible, Cond.selects RX2 yX2_placesHeldPossible yX2_placesHeldPossible, Cond.code yX2_placesHeldPossible cX2_placesHeldPossible 4 (some .int), Cond.methodLink RX3 103 yX2_placesSettled, Cond.instanceMethod yX2_placesSettled, Cond.selects RX2 yX2_placesSettled yX2_placesSettled, Cond.code yX2_placesSettled cX2_placesSettled 3 (some .int), Cond.methodLink RX3 107 yX2_placesSettledRightly, Cond.instanceMethod yX2_placesSettledRightly, Cond.selects RX2 yX2_placesSettledRightly yX2_placesSettledRightly]
def wsL_law0_r14 : List Cond := [Cond.code yX2_placesSettledRightly cX2_placesSettledRightly 4 (some .int), Cond.methodLink RL 121 yX4_watcher, Cond.instanceMethod yX4_watcher, Cond.selects RX4 yX4_watcher yX4_watcher, Cond.code yX4_watcher cX4_watcher 3 (some .int), Cond.methodLink RX4 100 yX4_watcherTold, Cond.instanceMethod yX4_watcherTold, Cond.selects RX4 yX4_watcherTold yX4_watcherTold, Cond.code yX4_watcherTold cX4_watcherTold 8 (some .int), Cond.methodLink RL 122 yL_sit, Cond.static yL_sit, Cond.codeWith yL_sit cL_sit 4 (some .int) [(0, 9, 12, 13), (0, 9, 15, 35)], Cond.methodLink RL 50 yX3_sit, Cond.instanceMethod yX3_sit, Cond.selects RX3 yX3_sit yX3_sit, Cond.code yX3_sit cX3_sit 3 (some .int), Cond.fieldLink RX3 124 "CardFans" "playerCount" "I", Cond.instantiable RX0 2, Cond.initialized RX0, Cond.methodLink RX3 121 yX3_requireSixteenth, Cond.static yX3_requireSixteenth, Cond.code yX3_requireSixteenth cX3_requireSixteenth 1 none, Cond.methodLink RX3 129 yX0_init, Cond.instanceMethod yX0_init]
def wsL_law0_r15 : List Cond := [Cond.code yX0_init cX0_init 2 none, Cond.methodLink RX0 1 objectInit, Cond.fieldLink RX0 7 "CardFans$Player" "latestCard" "I", Cond.fieldLink RX0 13 "CardFans$Player" "habit" "I", Cond.methodLink RL 124 yX4_sit, Cond.instanceMethod yX4_sit, Cond.selects RX4 yX4_sit yX4_sit, Cond.code yX4_sit cX4_sit 2 (some .int), Cond.fieldLink RX4 44 "CardFansModel" "players" "I", Cond.methodLink RL 125 yL_fan, Cond.static yL_fan, Cond.codeWith yL_fan cL_fan 4 (some .int) [(0, 9, 12, 13)], Cond.methodLink RL 53 yX3_fan, Cond.instanceMethod yX3_fan, Cond.selects RX3 yX3_fan yX3_fan, Cond.code yX3_fan cX3_fan 3 (some .int), Cond.fieldLink RX3 131 "CardFans" "leanOfFan" "I", Cond.methodLink RL 127 yX4_fan, Cond.instanceMethod yX4_fan, Cond.selects RX4 yX4_fan yX4_fan, Cond.code yX4_fan cX4_fan 3 (some .int), Cond.fieldLink RX4 104 "CardFansModel" "lean" "I", Cond.methodLink RL 128 yL_take, Cond.static yL_take]
def wsL_law0_r16 : List Cond := [Cond.codeWith yL_take cL_take 4 (some .int) [(0, 9, 12, 23)], Cond.methodLink RL 56 yX3_take, Cond.instanceMethod yX3_take, Cond.selects RX3 yX3_take yX3_take, Cond.code yX3_take cX3_take 4 (some .int), Cond.fieldLink RX3 141 "CardFans" "cardsTaken" "I", Cond.methodLink RX3 134 yX3_playerOf, Cond.instanceMethod yX3_playerOf, Cond.selects RX3 yX3_playerOf yX3_playerOf, Cond.code yX3_playerOf cX3_playerOf 3 (some (.object "CardFans$Player")), Cond.methodLink RX3 144 yJ9_floorMod_7cf53, Cond.static yJ9_floorMod_7cf53, Cond.initialized RJ9, Cond.code yJ9_floorMod_7cf53 cJ9_floorMod_7cf53 3 (some .int), Cond.methodLink RL 130 yX4_take, Cond.instanceMethod yX4_take, Cond.selects RX4 yX4_take yX4_take, Cond.code yX4_take cX4_take 2 (some .int), Cond.fieldLink RX4 110 "CardFansModel" "taken" "I", Cond.methodLink RX4 107 yX4_isPlayer, Cond.instanceMethod yX4_isPlayer, Cond.selects RX4 yX4_isPlayer yX4_isPlayer, Cond.code yX4_isPlayer cX4_isPlayer 2 (some .boolean), Cond.methodLink RL 131 yL_force]
def wsL_law0_r17 : List Cond := [Cond.static yL_force, Cond.codeWith yL_force cL_force 5 (some .int) [(0, 10, 13, 23)], Cond.methodLink RL 59 yX3_force, Cond.instanceMethod yX3_force, Cond.selects RX3 yX3_force yX3_force, Cond.code yX3_force cX3_force 4 (some .int), Cond.methodLink RL 133 yX4_force, Cond.instanceMethod yX4_force, Cond.selects RX4 yX4_force yX4_force, Cond.code yX4_force cX4_force 3 (some .int), Cond.methodLink RX4 113 yJ9_floorMod_7cf53, Cond.methodLink RL 134 yL_took, Cond.static yL_took, Cond.codeWith yL_took cL_took 4 (some .int) [(0, 9, 12, 23)], Cond.methodLink RL 62 yX3_took, Cond.instanceMethod yX3_took, Cond.selects RX3 yX3_took yX3_took, Cond.code yX3_took cX3_took 2 (some .int), Cond.methodLink RL 136 yX4_took, Cond.instanceMethod yX4_took, Cond.selects RX4 yX4_took yX4_took, Cond.code yX4_took cX4_took 2 (some .int), Cond.methodLink RL 137 yL_count, Cond.static yL_count]
def wsL_law0_r18 : List Cond := [Cond.codeWith yL_count cL_count 4 (some .int) [(0, 9, 12, 23)], Cond.methodLink RL 65 yX3_count, Cond.instanceMethod yX3_count, Cond.selects RX3 yX3_count yX3_count, Cond.code yX3_count cX3_count 2 (some .int), Cond.methodLink RX3 153 yX1_placesInOrder, Cond.instanceMethod yX1_placesInOrder, Cond.selects RX1 yX1_placesInOrder yX1_placesInOrder, Cond.code yX1_placesInOrder cX1_placesInOrder 3 (some .int), Cond.methodLink RL 139 yX4_count, Cond.instanceMethod yX4_count, Cond.selects RX4 yX4_count yX4_count, Cond.code yX4_count cX4_count 2 (some .int), Cond.methodLink RX4 118 yX4_counted, Cond.instanceMethod yX4_counted, Cond.selects RX4 yX4_counted yX4_counted, Cond.code yX4_counted cX4_counted 4 (some .int), Cond.methodLink RL 140 yL_back, Cond.static yL_back, Cond.codeWith yL_back cL_back 5 (some .int) [(0, 10, 13, 13)], Cond.methodLink RL 68 yX3_back, Cond.instanceMethod yX3_back, Cond.selects RX3 yX3_back yX3_back, Cond.code yX3_back cX3_back 4 (some .int)]
def wsL_law0_r19 : List Cond := [Cond.methodLink RL 142 yX4_back, Cond.instanceMethod yX4_back, Cond.selects RX4 yX4_back yX4_back, Cond.code yX4_back cX4_back 7 (some .int), Cond.methodLink RL 143 yL_bring, Cond.static yL_bring, Cond.codeWith yL_bring cL_bring 5 (some .int) [(0, 10, 13, 23)], Cond.methodLink RL 71 yX3_bring, Cond.instanceMethod yX3_bring, Cond.selects RX3 yX3_bring yX3_bring, Cond.code yX3_bring cX3_bring 6 (some .int), Cond.methodLink RX3 158 yX3_placesOneWayFrom, Cond.static yX3_placesOneWayFrom, Cond.code yX3_placesOneWayFrom cX3_placesOneWayFrom 3 (some .int), Cond.methodLink RL 145 yX4_bring, Cond.instanceMethod yX4_bring, Cond.selects RX4 yX4_bring yX4_bring, Cond.code yX4_bring cX4_bring 7 (some .int), Cond.methodLink RL 146 yL_riffles, Cond.static yL_riffles, Cond.codeWith yL_riffles cL_riffles 5 (some .int) [(0, 10, 13, 23)], Cond.methodLink RL 74 yX3_riffles, Cond.instanceMethod yX3_riffles, Cond.selects RX3 yX3_riffles yX3_riffles]
def wsL_law0_r20 : List Cond := [Cond.code yX3_riffles cX3_riffles 7 (some .int), Cond.methodLink RX3 161 yX3_placeAfterRiffles, Cond.static yX3_placeAfterRiffles, Cond.code yX3_placeAfterRiffles cX3_placeAfterRiffles 6 (some .int), Cond.methodLink RL 148 yX4_riffles, Cond.instanceMethod yX4_riffles, Cond.selects RX4 yX4_riffles yX4_riffles, Cond.code yX4_riffles cX4_riffles 10 (some .int), Cond.methodLink RL 149 yX3_mean, Cond.instanceMethod yX3_mean, Cond.selects RX3 yX3_mean yX3_mean, Cond.code yX3_mean cX3_mean 6 (some .double), Cond.methodLink RX3 164 yX2_cardsThought, Cond.instanceMethod yX2_cardsThought, Cond.selects RX2 yX2_cardsThought yX2_cardsThought, Cond.code yX2_cardsThought cX2_cardsThought 3 (some .int), Cond.methodLink RX2 61 yJ6_bitCount_0f7a4, Cond.methodLink RL 153 yX4_mean, Cond.instanceMethod yX4_mean, Cond.selects RX4 yX4_mean yX4_mean, Cond.code yX4_mean cX4_mean 4 (some .double), Cond.methodLink RL 154 yX3_digest, Cond.instanceMethod yX3_digest, Cond.selects RX3 yX3_digest yX3_digest]
def wsL_law0_r21 : List Cond := [Cond.code yX3_digest cX3_digest 7 (some .long), Cond.constantLong RX3 167 (929), Cond.methodLink RX3 169 yX3_count, Cond.methodLink RX3 172 yX3_mixed, Cond.static yX3_mixed, Cond.code yX3_mixed cX3_mixed 3 (some .long), Cond.constantLong RX3 186 (31), Cond.methodLink RX3 176 yX1_mixedInto, Cond.instanceMethod yX1_mixedInto, Cond.selects RX1 yX1_mixedInto yX1_mixedInto, Cond.code yX1_mixedInto cX1_mixedInto 6 (some .long), Cond.methodLink RX3 180 yX3_watcherMixedInto, Cond.instanceMethod yX3_watcherMixedInto, Cond.selects RX3 yX3_watcherMixedInto yX3_watcherMixedInto, Cond.code yX3_watcherMixedInto cX3_watcherMixedInto 7 (some .long), Cond.methodLink RX3 183 yX3_watcher, Cond.methodLink RL 158 yX4_digest, Cond.instanceMethod yX4_digest, Cond.selects RX4 yX4_digest yX4_digest, Cond.code yX4_digest cX4_digest 5 (some .long), Cond.constantLong RX4 121 (929), Cond.constantLong RX4 123 (31)]
def wsL_law0 : List Cond := (wsL_law0_r1 ++ (wsL_law0_r2 ++ (wsL_law0_r3 ++ (wsL_law0_r4 ++ (wsL_law0_r5 ++ (wsL_law0_r6 ++ (wsL_law0_r7 ++ (wsL_law0_r8 ++ (wsL_law0_r9 ++ (wsL_law0_r10 ++ (wsL_law0_r11 ++ (wsL_law0_r12 ++ (wsL_law0_r13 ++ (wsL_law0_r14 ++ (wsL_law0_r15 ++ (wsL_law0_r16 ++ (wsL_law0_r17 ++ (wsL_law0_r18 ++ (wsL_law0_r19 ++ (wsL_law0_r20 ++ wsL_law0_r21)))))))))))))))))))) ++ wsX30 ++ wsX40 ++ wsX10 ++ wsX20 ++ wsX00 ++ ([] : List Cond)
def wsL_law : List Cond := wsL_law0 ++ (vx_atS RX3 200 "java/lang/IllegalArgumentException" ["java/lang/RuntimeException", "java/lang/Exception"]).filter goodWord ++ (vx_atS RX3 120 "java/lang/IndexOutOfBoundsException" ["java/lang/RuntimeException", "java/lang/Exception"]).filter goodWord ++ (vx_atS RX3 80 "java/lang/IllegalStateException" ["java/lang/RuntimeException", "java/lang/Exception"]).filter goodWord
end
section
set_option maxRecDepth 20000 in
theorem xwl_1 : ∀ w ∈ wsL_law0_r1, w ∈ lw_tbl := fun w h => (goodIn_p wsL_law0_r1 [31, 34, 39] (by decide +kernel) (by decide +kernel) w h).1
set_option maxRecDepth 20000 in
theorem xwl_2 : ∀ w ∈ wsL_law0_r2, w ∈ lw_tbl := fun w h => (goodIn_p wsL_law0_r2 [56, 514] (by decide +kernel) (by decide +kernel) w h).1
set_option maxRecDepth 20000 in
theorem xwl_3 : ∀ w ∈ wsL_law0_r3, w ∈ lw_tbl := fun w h => (goodIn_p wsL_law0_r3 [239, 242, 245, 265, 268, 271] (by decide +kernel) (by decide +kernel) w h).1
set_option maxRecDepth 20000 in
theorem xwl_4 : ∀ w ∈ wsL_law0_r4, w ∈ lw_tbl := fun w h => (goodIn_p wsL_law0_r4 [102, 275, 99, 568, 571] (by decide +kernel) (by decide +kernel) w h).1
set_option maxRecDepth 20000 in
theorem xwl_5 : ∀ w ∈ wsL_law0_r5, w ∈ lw_tbl := fun w h => (goodIn_p wsL_law0_r5 [574, 578, 581, 591, 564] (by decide +kernel) (by decide +kernel) w h).1
set_option maxRecDepth 20000 in
theorem xwl_6 : ∀ w ∈ wsL_law0_r6, w ∈ lw_tbl := fun w h => (goodIn_p wsL_law0_r6 [284, 597, 292, 295] (by decide +kernel) (by decide +kernel) w h).1
set_option maxRecDepth 20000 in
theorem xwl_7 : ∀ w ∈ wsL_law0_r7, w ∈ lw_tbl := fun w h => (goodIn_p wsL_law0_r7 [601, 604, 305, 608] (by decide +kernel) (by decide +kernel) w h).1
set_option maxRecDepth 20000 in
theorem xwl_8 : ∀ w ∈ wsL_law0_r8, w ∈ lw_tbl := fun w h => (goodIn_p wsL_law0_r8 [312, 315, 320, 612, 616] (by decide +kernel) (by decide +kernel) w h).1
set_option maxRecDepth 20000 in
theorem xwl_9 : ∀ w ∈ wsL_law0_r9, w ∈ lw_tbl := fun w h => (goodIn_p wsL_law0_r9 [328, 348, 356, 620] (by decide +kernel) (by decide +kernel) w h).1
set_option maxRecDepth 20000 in
theorem xwl_10 : ∀ w ∈ wsL_law0_r10, w ∈ lw_tbl := fun w h => (goodIn_p wsL_law0_r10 [380, 210, 384, 218, 388, 225] (by decide +kernel) (by decide +kernel) w h).1
set_option maxRecDepth 20000 in
theorem xwl_11 : ∀ w ∈ wsL_law0_r11, w ∈ lw_tbl := fun w h => (goodIn_p wsL_law0_r11 [105, 392, 397, 625, 629] (by decide +kernel) (by decide +kernel) w h).1
set_option maxRecDepth 20000 in
theorem xwl_12 : ∀ w ∈ wsL_law0_r12, w ∈ lw_tbl := fun w h => (goodIn_p wsL_law0_r12 [632, 635, 404, 640] (by decide +kernel) (by decide +kernel) w h).1
set_option maxRecDepth 20000 in
theorem xwl_13 : ∀ w ∈ wsL_law0_r13, w ∈ lw_tbl := fun w h => (goodIn_p wsL_law0_r13 [411, 644, 206, 215, 222] (by decide +kernel) (by decide +kernel) w h).1
set_option maxRecDepth 20000 in
theorem xwl_14 : ∀ w ∈ wsL_law0_r14, w ∈ lw_tbl := fun w h => (goodIn_p wsL_law0_r14 [230, 648, 652, 423, 426] (by decide +kernel) (by decide +kernel) w h).1
set_option maxRecDepth 20000 in
theorem xwl_15 : ∀ w ∈ wsL_law0_r15, w ∈ lw_tbl := fun w h => (goodIn_p wsL_law0_r15 [432, 656, 449, 660] (by decide +kernel) (by decide +kernel) w h).1
set_option maxRecDepth 20000 in
theorem xwl_16 : ∀ w ∈ wsL_law0_r16, w ∈ lw_tbl := fun w h => (goodIn_p wsL_law0_r16 [456, 460, 464, 664, 668] (by decide +kernel) (by decide +kernel) w h).1
set_option maxRecDepth 20000 in
theorem xwl_17 : ∀ w ∈ wsL_law0_r17, w ∈ lw_tbl := fun w h => (goodIn_p wsL_law0_r17 [471, 672, 478, 677] (by decide +kernel) (by decide +kernel) w h).1
set_option maxRecDepth 20000 in
theorem xwl_18 : ∀ w ∈ wsL_law0_r18, w ∈ lw_tbl := fun w h => (goodIn_p wsL_law0_r18 [117, 121, 681, 685, 489] (by decide +kernel) (by decide +kernel) w h).1
set_option maxRecDepth 20000 in
theorem xwl_19 : ∀ w ∈ wsL_law0_r19, w ∈ lw_tbl := fun w h => (goodIn_p wsL_law0_r19 [689, 496, 499, 693] (by decide +kernel) (by decide +kernel) w h).1
set_option maxRecDepth 20000 in
theorem xwl_20 : ∀ w ∈ wsL_law0_r20, w ∈ lw_tbl := fun w h => (goodIn_p wsL_law0_r20 [506, 509, 697, 91, 95, 701] (by decide +kernel) (by decide +kernel) w h).1
set_option maxRecDepth 20000 in
theorem xwl_21 : ∀ w ∈ wsL_law0_r21, w ∈ lw_tbl := fun w h => (goodIn_p wsL_law0_r21 [112, 192, 197, 202, 705] (by decide +kernel) (by decide +kernel) w h).1
set_option maxRecDepth 20000 in
theorem xwl_X3 : ∀ w ∈ wsX30, w ∈ lw_tbl := by decide +kernel
set_option maxRecDepth 20000 in
theorem xwl_X4 : ∀ w ∈ wsX40, w ∈ lw_tbl := by decide +kernel
set_option maxRecDepth 20000 in
theorem xwl_X1 : ∀ w ∈ wsX10, w ∈ lw_tbl := by decide +kernel
set_option maxRecDepth 20000 in
theorem xwl_X2 : ∀ w ∈ wsX20, w ∈ lw_tbl := by decide +kernel
set_option maxRecDepth 20000 in
theorem xwl_X0 : ∀ w ∈ wsX00, w ∈ lw_tbl := by decide +kernel
theorem wsL_law_in0 : ∀ w ∈ wsL_law0, w ∈ lw_tbl := fun w => (fun h => (List.mem_append.mp h).elim (fun h => (List.mem_append.mp h).elim (fun h => (List.mem_append.mp h).elim (fun h => (List.mem_append.mp h).elim (fun h => (List.mem_append.mp h).elim (fun h => (List.mem_append.mp h).elim (fun h => (List.mem_append.mp h).elim (fun h => xwl_1 w h) (fun h => (List.mem_append.mp h).elim (fun h => xwl_2 w h) (fun h => (List.mem_append.mp h).elim (fun h => xwl_3 w h) (fun h => (List.mem_append.mp h).elim (fun h => xwl_4 w h) (fun h => (List.mem_append.mp h).elim (fun h => xwl_5 w h) (fun h => (List.mem_append.mp h).elim (fun h => xwl_6 w h) (fun h => (List.mem_append.mp h).elim (fun h => xwl_7 w h) (fun h => (List.mem_append.mp h).elim (fun h => xwl_8 w h) (fun h => (List.mem_append.mp h).elim (fun h => xwl_9 w h) (fun h => (List.mem_append.mp h).elim (fun h => xwl_10 w h) (fun h => (List.mem_append.mp h).elim (fun h => xwl_11 w h) (fun h => (List.mem_append.mp h).elim (fun h => xwl_12 w h) (fun h => (List.mem_append.mp h).elim (fun h => xwl_13 w h) (fun h => (List.mem_append.mp h).elim (fun h => xwl_14 w h) (fun h => (List.mem_append.mp h).elim (fun h => xwl_15 w h) (fun h => (List.mem_append.mp h).elim (fun h => xwl_16 w h) (fun h => (List.mem_append.mp h).elim (fun h => xwl_17 w h) (fun h => (List.mem_append.mp h).elim (fun h => xwl_18 w h) (fun h => (List.mem_append.mp h).elim (fun h => xwl_19 w h) (fun h => (List.mem_append.mp h).elim (fun h => xwl_20 w h) (fun h => xwl_21 w h))))))))))))))))))))) (fun h => xwl_X3 w h)) (fun h => xwl_X4 w h)) (fun h => xwl_X1 w h)) (fun h => xwl_X2 w h)) (fun h => xwl_X0 w h)) (fun h => absurd h List.not_mem_nil))
theorem wsL_law_x0 : ∀ w ∈ (vx_atS RX3 200 "java/lang/IllegalArgumentException" ["java/lang/RuntimeException", "java/lang/Exception"]).filter goodWord, w ∈ lw_tbl := by decide +kernel
theorem wsL_law_x1 : ∀ w ∈ (vx_atS RX3 120 "java/lang/IndexOutOfBoundsException" ["java/lang/RuntimeException", "java/lang/Exception"]).filter goodWord, w ∈ lw_tbl := by decide +kernel
theorem wsL_law_x2 : ∀ w ∈ (vx_atS RX3 80 "java/lang/IllegalStateException" ["java/lang/RuntimeException", "java/lang/Exception"]).filter goodWord, w ∈ lw_tbl := by decide +kernel
theorem wsL_law_in : ∀ w ∈ wsL_law, w ∈ lw_tbl := fun w h => (List.mem_append.mp h).elim (fun h => (List.mem_append.mp h).elim (fun h => (List.mem_append.mp h).elim (fun h => wsL_law_in0 w h) (fun h => wsL_law_x0 w h)) (fun h => wsL_law_x1 w h)) (fun h => wsL_law_x2 w h)
theorem inlX0 : ∀ w ∈ wsX00, w ∈ wsL_law := fun _ h => List.mem_append_left _ (List.mem_append_left _ (List.mem_append_left _ (List.mem_append_left _ (List.mem_append_right _ h))))
theorem inX0 : ∀ w ∈ wsX00, w ∈ lw_tbl := fun w h => wsL_law_in w (inlX0 w h)
theorem inlX1 : ∀ w ∈ wsX10, w ∈ wsL_law := fun _ h => List.mem_append_left _ (List.mem_append_left _ (List.mem_append_left _ (List.mem_append_left _ (List.mem_append_left _ (List.mem_append_left _ (List.mem_append_right _ h))))))
theorem inX1 : ∀ w ∈ wsX10, w ∈ lw_tbl := fun w h => wsL_law_in w (inlX1 w h)
theorem inlX2 : ∀ w ∈ wsX20, w ∈ wsL_law := fun _ h => List.mem_append_left _ (List.mem_append_left _ (List.mem_append_left _ (List.mem_append_left _ (List.mem_append_left _ (List.mem_append_right _ h)))))
theorem inX2 : ∀ w ∈ wsX20, w ∈ lw_tbl := fun w h => wsL_law_in w (inlX2 w h)
theorem inlX3 : ∀ w ∈ wsX30, w ∈ wsL_law := fun _ h => List.mem_append_left _ (List.mem_append_left _ (List.mem_append_left _ (List.mem_append_left _ (List.mem_append_left _ (List.mem_append_left _ (List.mem_append_left _ (List.mem_append_left _ (List.mem_append_right _ h))))))))
theorem inX3 : ∀ w ∈ wsX30, w ∈ lw_tbl := fun w h => wsL_law_in w (inlX3 w h)
theorem inlX4 : ∀ w ∈ wsX40, w ∈ wsL_law := fun _ h => List.mem_append_left _ (List.mem_append_left _ (List.mem_append_left _ (List.mem_append_left _ (List.mem_append_left _ (List.mem_append_left _ (List.mem_append_left _ (List.mem_append_right _ h)))))))
theorem inX4 : ∀ w ∈ wsX40, w ∈ lw_tbl := fun w h => wsL_law_in w (inlX4 w h)
theorem inJx8e188 : ∀ w ∈ wsJx8e1880, w ∈ lw_tbl := by decide +kernel
theorem inJ6 : ∀ w ∈ wsJ60, w ∈ lw_tbl := by decide +kernel
theorem inJ9 : ∀ w ∈ wsJ90, w ∈ lw_tbl := by decide +kernel
theorem inJ0 : ∀ w ∈ wsJ00, w ∈ lw_tbl := by decide +kernel
end
section
theorem dX0_init_0 : decode cX0_init 0 = .ok (.aload_n 0, 1) := by decide +kernel
theorem dX0_init_1 : decode cX0_init 1 = .ok (.invokespecial 1, 3) := by decide +kernel
theorem dX0_init_4 : decode cX0_init 4 = .ok (.aload_n 0, 1) := by decide +kernel
theorem dX0_init_5 : decode cX0_init 5 = .ok (.iconst (-1), 1) := by decide +kernel
theorem dX0_init_6 : decode cX0_init 6 = .ok (.putfield 7, 3) := by decide +kernel
theorem dX0_init_9 : decode cX0_init 9 = .ok (.aload_n 0, 1) := by decide +kernel
theorem dX0_init_10 : decode cX0_init 10 = .ok (.iload_n 1, 1) := by decide +kernel
theorem dX0_init_11 : decode cX0_init 11 = .ok (.putfield 13, 3) := by decide +kernel
theorem dX0_init_14 : decode cX0_init 14 = .ok (.return_, 1) := by decide +kernel
theorem dX1_init_0 : decode cX1_init 0 = .ok (.aload_n 0, 1) := by decide +kernel
theorem dX1_init_1 : decode cX1_init 1 = .ok (.invokespecial 3, 3) := by decide +kernel
theorem dX1_init_4 : decode cX1_init 4 = .ok (.aload_n 0, 1) := by decide +kernel
theorem dX1_init_5 : decode cX1_init 5 = .ok (.bipush 16, 2) := by decide +kernel
theorem dX1_init_7 : decode cX1_init 7 = .ok (.newarray .int, 2) := by decide +kernel
theorem dX1_init_9 : decode cX1_init 9 = .ok (.putfield 9, 3) := by decide +kernel
theorem dX1_init_12 : decode cX1_init 12 = .ok (.aload_n 0, 1) := by decide +kernel
theorem dX1_init_13 : decode cX1_init 13 = .ok (.bipush 16, 2) := by decide +kernel
theorem dX1_init_15 : decode cX1_init 15 = .ok (.newarray .int, 2) := by decide +kernel
theorem dX1_init_17 : decode cX1_init 17 = .ok (.putfield 15, 3) := by decide +kernel
theorem dX1_init_20 : decode cX1_init 20 = .ok (.return_, 1) := by decide +kernel
set_option maxRecDepth 20000 in
theorem ggX1_at_X3_isSixteenth : GoodIn wsX1_at wsX3_isSixteenth := goodIn_r _ [4] (by decide +kernel) (by decide +kernel)
set_option maxRecDepth 20000 in
theorem gX1_at_X3_isSixteenth_n18 : GoodIn wsX1_at (wsX3_isSixteenth) := ggX1_at_X3_isSixteenth
theorem dX1_at_0 : decode cX1_at 0 = .ok (.iload_n 1, 1) := by decide +kernel
theorem dX1_at_1 : decode cX1_at 1 = .ok (.invokestatic 18, 3) := by decide +kernel
theorem dX1_at_4 : decode cX1_at 4 = .ok (.ifCond .eq 12, 3) := by decide +kernel
theorem dX1_at_7 : decode cX1_at 7 = .ok (.aload_n 0, 1) := by decide +kernel
theorem dX1_at_8 : decode cX1_at 8 = .ok (.getfield 9, 3) := by decide +kernel
theorem dX1_at_11 : decode cX1_at 11 = .ok (.iload_n 1, 1) := by decide +kernel
theorem dX1_at_12 : decode cX1_at 12 = .ok (.iaload, 1) := by decide +kernel
theorem dX1_at_13 : decode cX1_at 13 = .ok (.goto 4, 3) := by decide +kernel
theorem dX1_at_16 : decode cX1_at 16 = .ok (.iconst 0, 1) := by decide +kernel
theorem dX1_at_17 : decode cX1_at 17 = .ok (.ireturn, 1) := by decide +kernel
set_option maxRecDepth 20000 in
theorem ggX1_put_X3_isSixteenth : GoodIn wsX1_put wsX3_isSixteenth := goodIn_r _ [4] (by decide +kernel) (by decide +kernel)
set_option maxRecDepth 20000 in
theorem gX1_put_X3_isSixteenth_n18 : GoodIn wsX1_put (wsX3_isSixteenth) := ggX1_put_X3_isSixteenth
theorem dX1_put_0 : decode cX1_put 0 = .ok (.iload_n 1, 1) := by decide +kernel
theorem dX1_put_1 : decode cX1_put 1 = .ok (.invokestatic 18, 3) := by decide +kernel
theorem dX1_put_4 : decode cX1_put 4 = .ok (.ifCond .eq 10, 3) := by decide +kernel
theorem dX1_put_7 : decode cX1_put 7 = .ok (.aload_n 0, 1) := by decide +kernel
theorem dX1_put_8 : decode cX1_put 8 = .ok (.getfield 9, 3) := by decide +kernel
theorem dX1_put_11 : decode cX1_put 11 = .ok (.iload_n 1, 1) := by decide +kernel
theorem dX1_put_12 : decode cX1_put 12 = .ok (.iload_n 2, 1) := by decide +kernel
theorem dX1_put_13 : decode cX1_put 13 = .ok (.iastore, 1) := by decide +kernel
theorem dX1_put_14 : decode cX1_put 14 = .ok (.return_, 1) := by decide +kernel
theorem dX1_putInOrder_0 : decode cX1_putInOrder 0 = .ok (.iconst 0, 1) := by decide +kernel
theorem dX1_putInOrder_1 : decode cX1_putInOrder 1 = .ok (.istore_n 1, 1) := by decide +kernel
theorem dX1_putInOrder_2 : decode cX1_putInOrder 2 = .ok (.iload_n 1, 1) := by decide +kernel
theorem dX1_putInOrder_3 : decode cX1_putInOrder 3 = .ok (.bipush 16, 2) := by decide +kernel
theorem dX1_putInOrder_5 : decode cX1_putInOrder 5 = .ok (.if_icmp .ge 16, 3) := by decide +kernel
theorem dX1_putInOrder_8 : decode cX1_putInOrder 8 = .ok (.aload_n 0, 1) := by decide +kernel
theorem dX1_putInOrder_9 : decode cX1_putInOrder 9 = .ok (.getfield 9, 3) := by decide +kernel
theorem dX1_putInOrder_12 : decode cX1_putInOrder 12 = .ok (.iload_n 1, 1) := by decide +kernel
theorem dX1_putInOrder_13 : decode cX1_putInOrder 13 = .ok (.iload_n 1, 1) := by decide +kernel
theorem dX1_putInOrder_14 : decode cX1_putInOrder 14 = .ok (.iastore, 1) := by decide +kernel
theorem dX1_putInOrder_15 : decode cX1_putInOrder 15 = .ok (.iinc 1 1, 3) := by decide +kernel
theorem dX1_putInOrder_18 : decode cX1_putInOrder 18 = .ok (.goto (-16), 3) := by decide +kernel
theorem dX1_putInOrder_21 : decode cX1_putInOrder 21 = .ok (.return_, 1) := by decide +kernel
set_option maxRecDepth 20000 in
theorem ggX1_carry_X3_placeAfter : GoodIn wsX1_carry wsX3_placeAfter := goodIn_r _ [5, 6, 7, 4, 8] (by decide +kernel) (by decide +kernel)
set_option maxRecDepth 20000 in
theorem gX1_carry_X3_placeAfter_n22 : GoodIn wsX1_carry (wsX3_placeAfter) := ggX1_carry_X3_placeAfter
set_option maxRecDepth 20000 in
theorem ggX1_carry_X3_isSixteenth : GoodIn wsX1_carry wsX3_isSixteenth := goodIn_r _ [10] (by decide +kernel) (by decide +kernel)
set_option maxRecDepth 20000 in
theorem gX1_carry_X3_isSixteenth_n18 : GoodIn wsX1_carry (wsX3_isSixteenth) := ggX1_carry_X3_isSixteenth
theorem dX1_carry_0 : decode cX1_carry 0 = .ok (.iconst 0, 1) := by decide +kernel
theorem dX1_carry_1 : decode cX1_carry 1 = .ok (.istore_n 3, 1) := by decide +kernel
theorem dX1_carry_2 : decode cX1_carry 2 = .ok (.iload_n 3, 1) := by decide +kernel
theorem dX1_carry_3 : decode cX1_carry 3 = .ok (.bipush 16, 2) := by decide +kernel
theorem dX1_carry_5 : decode cX1_carry 5 = .ok (.if_icmp .ge 38, 3) := by decide +kernel
theorem dX1_carry_8 : decode cX1_carry 8 = .ok (.iload_n 1, 1) := by decide +kernel
theorem dX1_carry_9 : decode cX1_carry 9 = .ok (.iload_n 2, 1) := by decide +kernel
theorem dX1_carry_10 : decode cX1_carry 10 = .ok (.iload_n 3, 1) := by decide +kernel
theorem dX1_carry_11 : decode cX1_carry 11 = .ok (.invokestatic 22, 3) := by decide +kernel
theorem dX1_carry_14 : decode cX1_carry 14 = .ok (.istore 4, 2) := by decide +kernel
theorem dX1_carry_16 : decode cX1_carry 16 = .ok (.iload 4, 2) := by decide +kernel
theorem dX1_carry_18 : decode cX1_carry 18 = .ok (.invokestatic 18, 3) := by decide +kernel
theorem dX1_carry_21 : decode cX1_carry 21 = .ok (.ifCond .eq 16, 3) := by decide +kernel
theorem dX1_carry_24 : decode cX1_carry 24 = .ok (.aload_n 0, 1) := by decide +kernel
theorem dX1_carry_25 : decode cX1_carry 25 = .ok (.getfield 15, 3) := by decide +kernel
theorem dX1_carry_28 : decode cX1_carry 28 = .ok (.iload 4, 2) := by decide +kernel
theorem dX1_carry_30 : decode cX1_carry 30 = .ok (.aload_n 0, 1) := by decide +kernel
theorem dX1_carry_31 : decode cX1_carry 31 = .ok (.getfield 9, 3) := by decide +kernel
theorem dX1_carry_34 : decode cX1_carry 34 = .ok (.iload_n 3, 1) := by decide +kernel
theorem dX1_carry_35 : decode cX1_carry 35 = .ok (.iaload, 1) := by decide +kernel
theorem dX1_carry_36 : decode cX1_carry 36 = .ok (.iastore, 1) := by decide +kernel
theorem dX1_carry_37 : decode cX1_carry 37 = .ok (.iinc 3 1, 3) := by decide +kernel
theorem dX1_carry_40 : decode cX1_carry 40 = .ok (.goto (-38), 3) := by decide +kernel
theorem dX1_carry_43 : decode cX1_carry 43 = .ok (.iconst 0, 1) := by decide +kernel
theorem dX1_carry_44 : decode cX1_carry 44 = .ok (.istore_n 3, 1) := by decide +kernel
theorem dX1_carry_45 : decode cX1_carry 45 = .ok (.iload_n 3, 1) := by decide +kernel
theorem dX1_carry_46 : decode cX1_carry 46 = .ok (.bipush 16, 2) := by decide +kernel
theorem dX1_carry_48 : decode cX1_carry 48 = .ok (.if_icmp .ge 21, 3) := by decide +kernel
theorem dX1_carry_51 : decode cX1_carry 51 = .ok (.aload_n 0, 1) := by decide +kernel
theorem dX1_carry_52 : decode cX1_carry 52 = .ok (.getfield 9, 3) := by decide +kernel
theorem dX1_carry_55 : decode cX1_carry 55 = .ok (.iload_n 3, 1) := by decide +kernel
theorem dX1_carry_56 : decode cX1_carry 56 = .ok (.aload_n 0, 1) := by decide +kernel
theorem dX1_carry_57 : decode cX1_carry 57 = .ok (.getfield 15, 3) := by decide +kernel
theorem dX1_carry_60 : decode cX1_carry 60 = .ok (.iload_n 3, 1) := by decide +kernel
theorem dX1_carry_61 : decode cX1_carry 61 = .ok (.iaload, 1) := by decide +kernel
theorem dX1_carry_62 : decode cX1_carry 62 = .ok (.iastore, 1) := by decide +kernel
theorem dX1_carry_63 : decode cX1_carry 63 = .ok (.iinc 3 1, 3) := by decide +kernel
theorem dX1_carry_66 : decode cX1_carry 66 = .ok (.goto (-21), 3) := by decide +kernel
theorem dX1_carry_69 : decode cX1_carry 69 = .ok (.return_, 1) := by decide +kernel
theorem dX1_firstPlaceOf_0 : decode cX1_firstPlaceOf 0 = .ok (.iconst 0, 1) := by decide +kernel
theorem dX1_firstPlaceOf_1 : decode cX1_firstPlaceOf 1 = .ok (.istore_n 2, 1) := by decide +kernel
theorem dX1_firstPlaceOf_2 : decode cX1_firstPlaceOf 2 = .ok (.iload_n 2, 1) := by decide +kernel
theorem dX1_firstPlaceOf_3 : decode cX1_firstPlaceOf 3 = .ok (.bipush 16, 2) := by decide +kernel
theorem dX1_firstPlaceOf_5 : decode cX1_firstPlaceOf 5 = .ok (.if_icmp .ge 21, 3) := by decide +kernel
theorem dX1_firstPlaceOf_8 : decode cX1_firstPlaceOf 8 = .ok (.aload_n 0, 1) := by decide +kernel
theorem dX1_firstPlaceOf_9 : decode cX1_firstPlaceOf 9 = .ok (.getfield 9, 3) := by decide +kernel
theorem dX1_firstPlaceOf_12 : decode cX1_firstPlaceOf 12 = .ok (.iload_n 2, 1) := by decide +kernel
theorem dX1_firstPlaceOf_13 : decode cX1_firstPlaceOf 13 = .ok (.iaload, 1) := by decide +kernel
theorem dX1_firstPlaceOf_14 : decode cX1_firstPlaceOf 14 = .ok (.iload_n 1, 1) := by decide +kernel
theorem dX1_firstPlaceOf_15 : decode cX1_firstPlaceOf 15 = .ok (.if_icmp .ne 5, 3) := by decide +kernel
theorem dX1_firstPlaceOf_18 : decode cX1_firstPlaceOf 18 = .ok (.iload_n 2, 1) := by decide +kernel
theorem dX1_firstPlaceOf_19 : decode cX1_firstPlaceOf 19 = .ok (.ireturn, 1) := by decide +kernel
theorem dX1_firstPlaceOf_20 : decode cX1_firstPlaceOf 20 = .ok (.iinc 2 1, 3) := by decide +kernel
theorem dX1_firstPlaceOf_23 : decode cX1_firstPlaceOf 23 = .ok (.goto (-21), 3) := by decide +kernel
theorem dX1_firstPlaceOf_26 : decode cX1_firstPlaceOf 26 = .ok (.iconst (-1), 1) := by decide +kernel
theorem dX1_firstPlaceOf_27 : decode cX1_firstPlaceOf 27 = .ok (.ireturn, 1) := by decide +kernel
theorem dX1_placesInOrder_0 : decode cX1_placesInOrder 0 = .ok (.iconst 0, 1) := by decide +kernel
theorem dX1_placesInOrder_1 : decode cX1_placesInOrder 1 = .ok (.istore_n 1, 1) := by decide +kernel
theorem dX1_placesInOrder_2 : decode cX1_placesInOrder 2 = .ok (.iconst 0, 1) := by decide +kernel
theorem dX1_placesInOrder_3 : decode cX1_placesInOrder 3 = .ok (.istore_n 2, 1) := by decide +kernel
theorem dX1_placesInOrder_4 : decode cX1_placesInOrder 4 = .ok (.iload_n 2, 1) := by decide +kernel
theorem dX1_placesInOrder_5 : decode cX1_placesInOrder 5 = .ok (.bipush 16, 2) := by decide +kernel
theorem dX1_placesInOrder_7 : decode cX1_placesInOrder 7 = .ok (.if_icmp .ge 22, 3) := by decide +kernel
theorem dX1_placesInOrder_10 : decode cX1_placesInOrder 10 = .ok (.aload_n 0, 1) := by decide +kernel
theorem dX1_placesInOrder_11 : decode cX1_placesInOrder 11 = .ok (.getfield 9, 3) := by decide +kernel
theorem dX1_placesInOrder_14 : decode cX1_placesInOrder 14 = .ok (.iload_n 2, 1) := by decide +kernel
theorem dX1_placesInOrder_15 : decode cX1_placesInOrder 15 = .ok (.iaload, 1) := by decide +kernel
theorem dX1_placesInOrder_16 : decode cX1_placesInOrder 16 = .ok (.iload_n 2, 1) := by decide +kernel
theorem dX1_placesInOrder_17 : decode cX1_placesInOrder 17 = .ok (.if_icmp .ne 6, 3) := by decide +kernel
theorem dX1_placesInOrder_20 : decode cX1_placesInOrder 20 = .ok (.iinc 1 1, 3) := by decide +kernel
theorem dX1_placesInOrder_23 : decode cX1_placesInOrder 23 = .ok (.iinc 2 1, 3) := by decide +kernel
theorem dX1_placesInOrder_26 : decode cX1_placesInOrder 26 = .ok (.goto (-22), 3) := by decide +kernel
theorem dX1_placesInOrder_29 : decode cX1_placesInOrder 29 = .ok (.iload_n 1, 1) := by decide +kernel
theorem dX1_placesInOrder_30 : decode cX1_placesInOrder 30 = .ok (.ireturn, 1) := by decide +kernel
set_option maxRecDepth 20000 in
theorem ggX1_mixedInto_X3_mixed : GoodIn wsX1_mixedInto wsX3_mixed := goodIn_r _ [4, 5] (by decide +kernel) (by decide +kernel)
set_option maxRecDepth 20000 in
theorem gX1_mixedInto_X3_mixed_n26 : GoodIn wsX1_mixedInto (wsX3_mixed) := ggX1_mixedInto_X3_mixed
theorem dX1_mixedInto_0 : decode cX1_mixedInto 0 = .ok (.lload_n 1, 1) := by decide +kernel
theorem dX1_mixedInto_1 : decode cX1_mixedInto 1 = .ok (.lstore_n 3, 1) := by decide +kernel
theorem dX1_mixedInto_2 : decode cX1_mixedInto 2 = .ok (.iconst 0, 1) := by decide +kernel
theorem dX1_mixedInto_3 : decode cX1_mixedInto 3 = .ok (.istore 5, 2) := by decide +kernel
theorem dX1_mixedInto_5 : decode cX1_mixedInto 5 = .ok (.iload 5, 2) := by decide +kernel
theorem dX1_mixedInto_7 : decode cX1_mixedInto 7 = .ok (.bipush 16, 2) := by decide +kernel
theorem dX1_mixedInto_9 : decode cX1_mixedInto 9 = .ok (.if_icmp .ge 21, 3) := by decide +kernel
theorem dX1_mixedInto_12 : decode cX1_mixedInto 12 = .ok (.lload_n 3, 1) := by decide +kernel
theorem dX1_mixedInto_13 : decode cX1_mixedInto 13 = .ok (.aload_n 0, 1) := by decide +kernel
theorem dX1_mixedInto_14 : decode cX1_mixedInto 14 = .ok (.getfield 9, 3) := by decide +kernel
theorem dX1_mixedInto_17 : decode cX1_mixedInto 17 = .ok (.iload 5, 2) := by decide +kernel
theorem dX1_mixedInto_19 : decode cX1_mixedInto 19 = .ok (.iaload, 1) := by decide +kernel
theorem dX1_mixedInto_20 : decode cX1_mixedInto 20 = .ok (.invokestatic 26, 3) := by decide +kernel
theorem dX1_mixedInto_23 : decode cX1_mixedInto 23 = .ok (.lstore_n 3, 1) := by decide +kernel
theorem dX1_mixedInto_24 : decode cX1_mixedInto 24 = .ok (.iinc 5 1, 3) := by decide +kernel
theorem dX1_mixedInto_27 : decode cX1_mixedInto 27 = .ok (.goto (-22), 3) := by decide +kernel
theorem dX1_mixedInto_30 : decode cX1_mixedInto 30 = .ok (.lload_n 3, 1) := by decide +kernel
theorem dX1_mixedInto_31 : decode cX1_mixedInto 31 = .ok (.lreturn, 1) := by decide +kernel
set_option maxRecDepth 20000 in
theorem ggX2_init_X1_init : GoodIn wsX2_init wsX1_init := goodIn_r _ [11, 12, 2, 3, 13, 14, 15, 23, 24] (by decide +kernel) (by decide +kernel)
set_option maxRecDepth 20000 in
theorem gX2_init_X1_init_n11 : GoodIn wsX2_init (wsX1_init) := ggX2_init_X1_init
set_option maxRecDepth 20000 in
theorem ggX2_init_X1_put : GoodIn wsX2_init wsX1_put := goodIn_r _ [19, 14, 20, 21, 22, 23, 24] (by decide +kernel) (by decide +kernel)
set_option maxRecDepth 20000 in
theorem gX2_init_X1_put : GoodIn wsX2_init (wsV RX2 23 RX1 yX1_put wsX1_put) := goodIn_app (goodIn_of _ (by decide +kernel)) ggX2_init_X1_put
theorem dX2_init_0 : decode cX2_init 0 = .ok (.aload_n 0, 1) := by decide +kernel
theorem dX2_init_1 : decode cX2_init 1 = .ok (.invokespecial 3, 3) := by decide +kernel
theorem dX2_init_4 : decode cX2_init 4 = .ok (.aload_n 0, 1) := by decide +kernel
theorem dX2_init_5 : decode cX2_init 5 = .ok (.new 9, 3) := by decide +kernel
theorem dX2_init_8 : decode cX2_init 8 = .ok (.dup, 1) := by decide +kernel
theorem dX2_init_9 : decode cX2_init 9 = .ok (.invokespecial 11, 3) := by decide +kernel
theorem dX2_init_12 : decode cX2_init 12 = .ok (.putfield 12, 3) := by decide +kernel
theorem dX2_init_15 : decode cX2_init 15 = .ok (.aload_n 0, 1) := by decide +kernel
theorem dX2_init_16 : decode cX2_init 16 = .ok (.iload_n 1, 1) := by decide +kernel
theorem dX2_init_17 : decode cX2_init 17 = .ok (.putfield 18, 3) := by decide +kernel
theorem dX2_init_20 : decode cX2_init 20 = .ok (.iconst 0, 1) := by decide +kernel
theorem dX2_init_21 : decode cX2_init 21 = .ok (.istore_n 2, 1) := by decide +kernel
theorem dX2_init_22 : decode cX2_init 22 = .ok (.iload_n 2, 1) := by decide +kernel
theorem dX2_init_23 : decode cX2_init 23 = .ok (.bipush 16, 2) := by decide +kernel
theorem dX2_init_25 : decode cX2_init 25 = .ok (.if_icmp .ge 19, 3) := by decide +kernel
theorem dX2_init_28 : decode cX2_init 28 = .ok (.aload_n 0, 1) := by decide +kernel
theorem dX2_init_29 : decode cX2_init 29 = .ok (.getfield 12, 3) := by decide +kernel
theorem dX2_init_32 : decode cX2_init 32 = .ok (.iload_n 2, 1) := by decide +kernel
theorem dX2_init_33 : decode cX2_init 33 = .ok (.ldc 22, 2) := by decide +kernel
theorem dX2_init_35 : decode cX2_init 35 = .ok (.invokevirtual 23, 3) := by decide +kernel
theorem dX2_init_38 : decode cX2_init 38 = .ok (.iinc 2 1, 3) := by decide +kernel
theorem dX2_init_41 : decode cX2_init 41 = .ok (.goto (-19), 3) := by decide +kernel
theorem dX2_init_44 : decode cX2_init 44 = .ok (.return_, 1) := by decide +kernel
set_option maxRecDepth 20000 in
theorem ggX2_follow_X1_carry : GoodIn wsX2_follow wsX1_carry := goodIn_r _ [6, 7, 8, 9, 10, 11, 12, 13, 14, 15, 16, 21, 22] (by decide +kernel) (by decide +kernel)
set_option maxRecDepth 20000 in
theorem gX2_follow_X1_carry : GoodIn wsX2_follow (wsV RX2 27 RX1 yX1_carry wsX1_carry) := goodIn_app (goodIn_of _ (by decide +kernel)) ggX2_follow_X1_carry
theorem dX2_follow_0 : decode cX2_follow 0 = .ok (.aload_n 0, 1) := by decide +kernel
theorem dX2_follow_1 : decode cX2_follow 1 = .ok (.getfield 12, 3) := by decide +kernel
theorem dX2_follow_4 : decode cX2_follow 4 = .ok (.iload_n 1, 1) := by decide +kernel
theorem dX2_follow_5 : decode cX2_follow 5 = .ok (.iload_n 2, 1) := by decide +kernel
theorem dX2_follow_6 : decode cX2_follow 6 = .ok (.invokevirtual 27, 3) := by decide +kernel
theorem dX2_follow_9 : decode cX2_follow 9 = .ok (.return_, 1) := by decide +kernel
set_option maxRecDepth 20000 in
theorem ggX2_see_X3_setOf : GoodIn wsX2_see wsX3_setOf := goodIn_r _ [6] (by decide +kernel) (by decide +kernel)
set_option maxRecDepth 20000 in
theorem gX2_see_X3_setOf_n34 : GoodIn wsX2_see (wsX3_setOf) := ggX2_see_X3_setOf
set_option maxRecDepth 20000 in
theorem ggX2_see_X1_put : GoodIn wsX2_see wsX1_put := goodIn_r _ [11, 12, 13, 5, 14, 50, 51] (by decide +kernel) (by decide +kernel)
set_option maxRecDepth 20000 in
theorem gX2_see_X1_put : GoodIn wsX2_see (wsV RX2 23 RX1 yX1_put wsX1_put) := goodIn_app (goodIn_of _ (by decide +kernel)) ggX2_see_X1_put
set_option maxRecDepth 20000 in
theorem ggX2_see_X2_concludes : GoodIn wsX2_see wsX2_concludes := goodIn_r _ [19, 2, 20, 21, 22, 10, 23, 12, 13, 5, 14, 24, 25, 26, 27, 28, 29, 30, 31, 32, 33, 34, 35, 18, 36, 7, 8, 9, 11, 37, 38, 39, 40, 46, 47, 48, 49, 50, 51] (by decide +kernel) (by decide +kernel)
set_option maxRecDepth 20000 in
theorem gX2_see_X2_concludes : GoodIn wsX2_see (wsV RX2 38 RX2 yX2_concludes wsX2_concludes) := goodIn_app (goodIn_of _ (by decide +kernel)) ggX2_see_X2_concludes
set_option maxRecDepth 20000 in
theorem ggX2_see_X2_thinkAnew : GoodIn wsX2_see wsX2_thinkAnew := goodIn_r _ [44, 2, 45, 4, 5, 6, 7, 8, 9, 10, 11, 12, 13, 14, 46, 47, 48, 49, 50, 51] (by decide +kernel) (by decide +kernel)
set_option maxRecDepth 20000 in
theorem gX2_see_X2_thinkAnew : GoodIn wsX2_see (wsV RX2 42 RX2 yX2_thinkAnew wsX2_thinkAnew) := goodIn_app (goodIn_of _ (by decide +kernel)) ggX2_see_X2_thinkAnew
theorem dX2_see_0 : decode cX2_see 0 = .ok (.aload_n 0, 1) := by decide +kernel
theorem dX2_see_1 : decode cX2_see 1 = .ok (.dup, 1) := by decide +kernel
theorem dX2_see_2 : decode cX2_see 2 = .ok (.getfield 30, 3) := by decide +kernel
theorem dX2_see_5 : decode cX2_see 5 = .ok (.iconst 1, 1) := by decide +kernel
theorem dX2_see_6 : decode cX2_see 6 = .ok (.iadd, 1) := by decide +kernel
theorem dX2_see_7 : decode cX2_see 7 = .ok (.putfield 30, 3) := by decide +kernel
theorem dX2_see_10 : decode cX2_see 10 = .ok (.aload_n 0, 1) := by decide +kernel
theorem dX2_see_11 : decode cX2_see 11 = .ok (.getfield 12, 3) := by decide +kernel
theorem dX2_see_14 : decode cX2_see 14 = .ok (.iload_n 1, 1) := by decide +kernel
theorem dX2_see_15 : decode cX2_see 15 = .ok (.iload_n 2, 1) := by decide +kernel
theorem dX2_see_16 : decode cX2_see 16 = .ok (.invokestatic 34, 3) := by decide +kernel
theorem dX2_see_19 : decode cX2_see 19 = .ok (.invokevirtual 23, 3) := by decide +kernel
theorem dX2_see_22 : decode cX2_see 22 = .ok (.aload_n 0, 1) := by decide +kernel
theorem dX2_see_23 : decode cX2_see 23 = .ok (.invokevirtual 38, 3) := by decide +kernel
theorem dX2_see_26 : decode cX2_see 26 = .ok (.ifCond .ne 19, 3) := by decide +kernel
theorem dX2_see_29 : decode cX2_see 29 = .ok (.aload_n 0, 1) := by decide +kernel
theorem dX2_see_30 : decode cX2_see 30 = .ok (.iload_n 1, 1) := by decide +kernel
theorem dX2_see_31 : decode cX2_see 31 = .ok (.iload_n 2, 1) := by decide +kernel
theorem dX2_see_32 : decode cX2_see 32 = .ok (.invokevirtual 42, 3) := by decide +kernel
theorem dX2_see_35 : decode cX2_see 35 = .ok (.aload_n 0, 1) := by decide +kernel
theorem dX2_see_36 : decode cX2_see 36 = .ok (.dup, 1) := by decide +kernel
theorem dX2_see_37 : decode cX2_see 37 = .ok (.getfield 45, 3) := by decide +kernel
theorem dX2_see_40 : decode cX2_see 40 = .ok (.iconst 1, 1) := by decide +kernel
theorem dX2_see_41 : decode cX2_see 41 = .ok (.iadd, 1) := by decide +kernel
theorem dX2_see_42 : decode cX2_see 42 = .ok (.putfield 45, 3) := by decide +kernel
theorem dX2_see_45 : decode cX2_see 45 = .ok (.return_, 1) := by decide +kernel
set_option maxRecDepth 20000 in
theorem ggX2_concludes_X1_at : GoodIn wsX2_concludes wsX1_at := goodIn_r _ [6, 7, 8, 9, 10, 37, 38] (by decide +kernel) (by decide +kernel)
set_option maxRecDepth 20000 in
theorem gX2_concludes_X1_at : GoodIn wsX2_concludes (wsV RX2 48 RX1 yX1_at wsX1_at) := goodIn_app (goodIn_of _ (by decide +kernel)) ggX2_concludes_X1_at
set_option maxRecDepth 20000 in
theorem ggX2_concludes_X3_isOneAlone : GoodIn wsX2_concludes wsX3_isOneAlone := goodIn_r _ [12, 13, 14, 15, 16, 17, 18, 19] (by decide +kernel) (by decide +kernel)
set_option maxRecDepth 20000 in
theorem gX2_concludes_X3_isOneAlone_n51 : GoodIn wsX2_concludes (wsX3_isOneAlone) := ggX2_concludes_X3_isOneAlone
set_option maxRecDepth 20000 in
theorem ggX2_concludes_X2_strikesElsewhere : GoodIn wsX2_concludes wsX2_strikesElsewhere := goodIn_r _ [24, 1, 2, 3, 4, 5, 6, 7, 8, 9, 10, 25, 26, 27, 28, 33, 34, 35, 36, 37, 38] (by decide +kernel) (by decide +kernel)
set_option maxRecDepth 20000 in
theorem gX2_concludes_X2_strikesElsewhere : GoodIn wsX2_concludes (wsV RX2 55 RX2 yX2_strikesElsewhere wsX2_strikesElsewhere) := goodIn_app (goodIn_of _ (by decide +kernel)) ggX2_concludes_X2_strikesElsewhere
set_option maxRecDepth 20000 in
theorem ggX2_concludes_X1_firstPlaceOf : GoodIn wsX2_concludes wsX1_firstPlaceOf := goodIn_r _ [32, 7, 37, 38] (by decide +kernel) (by decide +kernel)
set_option maxRecDepth 20000 in
theorem gX2_concludes_X1_firstPlaceOf : GoodIn wsX2_concludes (wsV RX2 58 RX1 yX1_firstPlaceOf wsX1_firstPlaceOf) := goodIn_app (goodIn_of _ (by decide +kernel)) ggX2_concludes_X1_firstPlaceOf
theorem dX2_concludes_0 : decode cX2_concludes 0 = .ok (.iconst 1, 1) := by decide +kernel
theorem dX2_concludes_1 : decode cX2_concludes 1 = .ok (.istore_n 1, 1) := by decide +kernel
theorem dX2_concludes_2 : decode cX2_concludes 2 = .ok (.iconst 0, 1) := by decide +kernel
theorem dX2_concludes_3 : decode cX2_concludes 3 = .ok (.istore_n 2, 1) := by decide +kernel
theorem dX2_concludes_4 : decode cX2_concludes 4 = .ok (.iload_n 1, 1) := by decide +kernel
theorem dX2_concludes_5 : decode cX2_concludes 5 = .ok (.ifCond .eq 69, 3) := by decide +kernel
theorem dX2_concludes_8 : decode cX2_concludes 8 = .ok (.iload_n 2, 1) := by decide +kernel
theorem dX2_concludes_9 : decode cX2_concludes 9 = .ok (.sipush 256, 3) := by decide +kernel
theorem dX2_concludes_12 : decode cX2_concludes 12 = .ok (.if_icmp .gt 62, 3) := by decide +kernel
theorem dX2_concludes_15 : decode cX2_concludes 15 = .ok (.iconst 0, 1) := by decide +kernel
theorem dX2_concludes_16 : decode cX2_concludes 16 = .ok (.istore_n 1, 1) := by decide +kernel
theorem dX2_concludes_17 : decode cX2_concludes 17 = .ok (.iconst 0, 1) := by decide +kernel
theorem dX2_concludes_18 : decode cX2_concludes 18 = .ok (.istore_n 3, 1) := by decide +kernel
theorem dX2_concludes_19 : decode cX2_concludes 19 = .ok (.iload_n 3, 1) := by decide +kernel
theorem dX2_concludes_20 : decode cX2_concludes 20 = .ok (.bipush 16, 2) := by decide +kernel
theorem dX2_concludes_22 : decode cX2_concludes 22 = .ok (.if_icmp .ge 33, 3) := by decide +kernel
theorem dX2_concludes_25 : decode cX2_concludes 25 = .ok (.aload_n 0, 1) := by decide +kernel
theorem dX2_concludes_26 : decode cX2_concludes 26 = .ok (.getfield 12, 3) := by decide +kernel
theorem dX2_concludes_29 : decode cX2_concludes 29 = .ok (.iload_n 3, 1) := by decide +kernel
theorem dX2_concludes_30 : decode cX2_concludes 30 = .ok (.invokevirtual 48, 3) := by decide +kernel
theorem dX2_concludes_33 : decode cX2_concludes 33 = .ok (.invokestatic 51, 3) := by decide +kernel
theorem dX2_concludes_36 : decode cX2_concludes 36 = .ok (.ifCond .eq 13, 3) := by decide +kernel
theorem dX2_concludes_39 : decode cX2_concludes 39 = .ok (.aload_n 0, 1) := by decide +kernel
theorem dX2_concludes_40 : decode cX2_concludes 40 = .ok (.iload_n 3, 1) := by decide +kernel
theorem dX2_concludes_41 : decode cX2_concludes 41 = .ok (.invokevirtual 55, 3) := by decide +kernel
theorem dX2_concludes_44 : decode cX2_concludes 44 = .ok (.ifCond .eq 5, 3) := by decide +kernel
theorem dX2_concludes_47 : decode cX2_concludes 47 = .ok (.iconst 1, 1) := by decide +kernel
theorem dX2_concludes_48 : decode cX2_concludes 48 = .ok (.istore_n 1, 1) := by decide +kernel
theorem dX2_concludes_49 : decode cX2_concludes 49 = .ok (.iinc 3 1, 3) := by decide +kernel
theorem dX2_concludes_52 : decode cX2_concludes 52 = .ok (.goto (-33), 3) := by decide +kernel
theorem dX2_concludes_55 : decode cX2_concludes 55 = .ok (.aload_n 0, 1) := by decide +kernel
theorem dX2_concludes_56 : decode cX2_concludes 56 = .ok (.getfield 12, 3) := by decide +kernel
theorem dX2_concludes_59 : decode cX2_concludes 59 = .ok (.iconst 0, 1) := by decide +kernel
theorem dX2_concludes_60 : decode cX2_concludes 60 = .ok (.invokevirtual 58, 3) := by decide +kernel
theorem dX2_concludes_63 : decode cX2_concludes 63 = .ok (.ifCond .lt 5, 3) := by decide +kernel
theorem dX2_concludes_66 : decode cX2_concludes 66 = .ok (.iconst 0, 1) := by decide +kernel
theorem dX2_concludes_67 : decode cX2_concludes 67 = .ok (.ireturn, 1) := by decide +kernel
theorem dX2_concludes_68 : decode cX2_concludes 68 = .ok (.iinc 2 1, 3) := by decide +kernel
theorem dX2_concludes_71 : decode cX2_concludes 71 = .ok (.goto (-67), 3) := by decide +kernel
theorem dX2_concludes_74 : decode cX2_concludes 74 = .ok (.iconst 1, 1) := by decide +kernel
theorem dX2_concludes_75 : decode cX2_concludes 75 = .ok (.ireturn, 1) := by decide +kernel
set_option maxRecDepth 20000 in
theorem ggX2_strikesElsewhere_X1_at : GoodIn wsX2_strikesElsewhere wsX1_at := goodIn_r _ [6, 7, 8, 9, 10, 19, 20] (by decide +kernel) (by decide +kernel)
set_option maxRecDepth 20000 in
theorem gX2_strikesElsewhere_X1_at : GoodIn wsX2_strikesElsewhere (wsV RX2 48 RX1 yX1_at wsX1_at) := goodIn_app (goodIn_of _ (by decide +kernel)) ggX2_strikesElsewhere_X1_at
set_option maxRecDepth 20000 in
theorem ggX2_strikesElsewhere_X1_put : GoodIn wsX2_strikesElsewhere wsX1_put := goodIn_r _ [14, 7, 8, 9, 10, 19, 20] (by decide +kernel) (by decide +kernel)
set_option maxRecDepth 20000 in
theorem gX2_strikesElsewhere_X1_put : GoodIn wsX2_strikesElsewhere (wsV RX2 23 RX1 yX1_put wsX1_put) := goodIn_app (goodIn_of _ (by decide +kernel)) ggX2_strikesElsewhere_X1_put
theorem dX2_strikesElsewhere_0 : decode cX2_strikesElsewhere 0 = .ok (.aload_n 0, 1) := by decide +kernel
theorem dX2_strikesElsewhere_1 : decode cX2_strikesElsewhere 1 = .ok (.getfield 12, 3) := by decide +kernel
theorem dX2_strikesElsewhere_4 : decode cX2_strikesElsewhere 4 = .ok (.iload_n 1, 1) := by decide +kernel
theorem dX2_strikesElsewhere_5 : decode cX2_strikesElsewhere 5 = .ok (.invokevirtual 48, 3) := by decide +kernel
theorem dX2_strikesElsewhere_8 : decode cX2_strikesElsewhere 8 = .ok (.istore_n 2, 1) := by decide +kernel
theorem dX2_strikesElsewhere_9 : decode cX2_strikesElsewhere 9 = .ok (.iconst 0, 1) := by decide +kernel
theorem dX2_strikesElsewhere_10 : decode cX2_strikesElsewhere 10 = .ok (.istore_n 3, 1) := by decide +kernel
theorem dX2_strikesElsewhere_11 : decode cX2_strikesElsewhere 11 = .ok (.iconst 0, 1) := by decide +kernel
theorem dX2_strikesElsewhere_12 : decode cX2_strikesElsewhere 12 = .ok (.istore 4, 2) := by decide +kernel
theorem dX2_strikesElsewhere_14 : decode cX2_strikesElsewhere 14 = .ok (.iload 4, 2) := by decide +kernel
theorem dX2_strikesElsewhere_16 : decode cX2_strikesElsewhere 16 = .ok (.bipush 16, 2) := by decide +kernel
theorem dX2_strikesElsewhere_18 : decode cX2_strikesElsewhere 18 = .ok (.if_icmp .ge 50, 3) := by decide +kernel
theorem dX2_strikesElsewhere_21 : decode cX2_strikesElsewhere 21 = .ok (.aload_n 0, 1) := by decide +kernel
theorem dX2_strikesElsewhere_22 : decode cX2_strikesElsewhere 22 = .ok (.getfield 12, 3) := by decide +kernel
theorem dX2_strikesElsewhere_25 : decode cX2_strikesElsewhere 25 = .ok (.iload 4, 2) := by decide +kernel
theorem dX2_strikesElsewhere_27 : decode cX2_strikesElsewhere 27 = .ok (.invokevirtual 48, 3) := by decide +kernel
theorem dX2_strikesElsewhere_30 : decode cX2_strikesElsewhere 30 = .ok (.istore 5, 2) := by decide +kernel
theorem dX2_strikesElsewhere_32 : decode cX2_strikesElsewhere 32 = .ok (.iload 4, 2) := by decide +kernel
theorem dX2_strikesElsewhere_34 : decode cX2_strikesElsewhere 34 = .ok (.iload_n 1, 1) := by decide +kernel
theorem dX2_strikesElsewhere_35 : decode cX2_strikesElsewhere 35 = .ok (.if_icmp .eq 27, 3) := by decide +kernel
theorem dX2_strikesElsewhere_38 : decode cX2_strikesElsewhere 38 = .ok (.iload 5, 2) := by decide +kernel
theorem dX2_strikesElsewhere_40 : decode cX2_strikesElsewhere 40 = .ok (.iload_n 2, 1) := by decide +kernel
theorem dX2_strikesElsewhere_41 : decode cX2_strikesElsewhere 41 = .ok (.iand, 1) := by decide +kernel
theorem dX2_strikesElsewhere_42 : decode cX2_strikesElsewhere 42 = .ok (.ifCond .eq 20, 3) := by decide +kernel
theorem dX2_strikesElsewhere_45 : decode cX2_strikesElsewhere 45 = .ok (.aload_n 0, 1) := by decide +kernel
theorem dX2_strikesElsewhere_46 : decode cX2_strikesElsewhere 46 = .ok (.getfield 12, 3) := by decide +kernel
theorem dX2_strikesElsewhere_49 : decode cX2_strikesElsewhere 49 = .ok (.iload 4, 2) := by decide +kernel
theorem dX2_strikesElsewhere_51 : decode cX2_strikesElsewhere 51 = .ok (.iload 5, 2) := by decide +kernel
theorem dX2_strikesElsewhere_53 : decode cX2_strikesElsewhere 53 = .ok (.iload_n 2, 1) := by decide +kernel
theorem dX2_strikesElsewhere_54 : decode cX2_strikesElsewhere 54 = .ok (.iconst (-1), 1) := by decide +kernel
theorem dX2_strikesElsewhere_55 : decode cX2_strikesElsewhere 55 = .ok (.ixor, 1) := by decide +kernel
theorem dX2_strikesElsewhere_56 : decode cX2_strikesElsewhere 56 = .ok (.iand, 1) := by decide +kernel
theorem dX2_strikesElsewhere_57 : decode cX2_strikesElsewhere 57 = .ok (.invokevirtual 23, 3) := by decide +kernel
theorem dX2_strikesElsewhere_60 : decode cX2_strikesElsewhere 60 = .ok (.iconst 1, 1) := by decide +kernel
theorem dX2_strikesElsewhere_61 : decode cX2_strikesElsewhere 61 = .ok (.istore_n 3, 1) := by decide +kernel
theorem dX2_strikesElsewhere_62 : decode cX2_strikesElsewhere 62 = .ok (.iinc 4 1, 3) := by decide +kernel
theorem dX2_strikesElsewhere_65 : decode cX2_strikesElsewhere 65 = .ok (.goto (-51), 3) := by decide +kernel
theorem dX2_strikesElsewhere_68 : decode cX2_strikesElsewhere 68 = .ok (.iload_n 3, 1) := by decide +kernel
theorem dX2_strikesElsewhere_69 : decode cX2_strikesElsewhere 69 = .ok (.ireturn, 1) := by decide +kernel
set_option maxRecDepth 20000 in
theorem ggX2_thinkAnew_X3_setOf : GoodIn wsX2_thinkAnew wsX3_setOf := goodIn_r _ [5] (by decide +kernel) (by decide +kernel)
set_option maxRecDepth 20000 in
theorem gX2_thinkAnew_X3_setOf_n34 : GoodIn wsX2_thinkAnew (wsX3_setOf) := ggX2_thinkAnew_X3_setOf
set_option maxRecDepth 20000 in
theorem ggX2_thinkAnew_X1_put : GoodIn wsX2_thinkAnew wsX1_put := goodIn_r _ [10, 11, 12, 4, 13, 18, 19] (by decide +kernel) (by decide +kernel)
set_option maxRecDepth 20000 in
theorem gX2_thinkAnew_X1_put : GoodIn wsX2_thinkAnew (wsV RX2 23 RX1 yX1_put wsX1_put) := goodIn_app (goodIn_of _ (by decide +kernel)) ggX2_thinkAnew_X1_put
theorem dX2_thinkAnew_0 : decode cX2_thinkAnew 0 = .ok (.iconst 0, 1) := by decide +kernel
theorem dX2_thinkAnew_1 : decode cX2_thinkAnew 1 = .ok (.istore_n 3, 1) := by decide +kernel
theorem dX2_thinkAnew_2 : decode cX2_thinkAnew 2 = .ok (.iload_n 3, 1) := by decide +kernel
theorem dX2_thinkAnew_3 : decode cX2_thinkAnew 3 = .ok (.bipush 16, 2) := by decide +kernel
theorem dX2_thinkAnew_5 : decode cX2_thinkAnew 5 = .ok (.if_icmp .ge 26, 3) := by decide +kernel
theorem dX2_thinkAnew_8 : decode cX2_thinkAnew 8 = .ok (.aload_n 0, 1) := by decide +kernel
theorem dX2_thinkAnew_9 : decode cX2_thinkAnew 9 = .ok (.getfield 12, 3) := by decide +kernel
theorem dX2_thinkAnew_12 : decode cX2_thinkAnew 12 = .ok (.iload_n 3, 1) := by decide +kernel
theorem dX2_thinkAnew_13 : decode cX2_thinkAnew 13 = .ok (.ldc 22, 2) := by decide +kernel
theorem dX2_thinkAnew_15 : decode cX2_thinkAnew 15 = .ok (.iload_n 2, 1) := by decide +kernel
theorem dX2_thinkAnew_16 : decode cX2_thinkAnew 16 = .ok (.invokestatic 34, 3) := by decide +kernel
theorem dX2_thinkAnew_19 : decode cX2_thinkAnew 19 = .ok (.iconst (-1), 1) := by decide +kernel
theorem dX2_thinkAnew_20 : decode cX2_thinkAnew 20 = .ok (.ixor, 1) := by decide +kernel
theorem dX2_thinkAnew_21 : decode cX2_thinkAnew 21 = .ok (.iand, 1) := by decide +kernel
theorem dX2_thinkAnew_22 : decode cX2_thinkAnew 22 = .ok (.invokevirtual 23, 3) := by decide +kernel
theorem dX2_thinkAnew_25 : decode cX2_thinkAnew 25 = .ok (.iinc 3 1, 3) := by decide +kernel
theorem dX2_thinkAnew_28 : decode cX2_thinkAnew 28 = .ok (.goto (-26), 3) := by decide +kernel
theorem dX2_thinkAnew_31 : decode cX2_thinkAnew 31 = .ok (.aload_n 0, 1) := by decide +kernel
theorem dX2_thinkAnew_32 : decode cX2_thinkAnew 32 = .ok (.getfield 12, 3) := by decide +kernel
theorem dX2_thinkAnew_35 : decode cX2_thinkAnew 35 = .ok (.iload_n 1, 1) := by decide +kernel
theorem dX2_thinkAnew_36 : decode cX2_thinkAnew 36 = .ok (.iload_n 2, 1) := by decide +kernel
theorem dX2_thinkAnew_37 : decode cX2_thinkAnew 37 = .ok (.invokestatic 34, 3) := by decide +kernel
theorem dX2_thinkAnew_40 : decode cX2_thinkAnew 40 = .ok (.invokevirtual 23, 3) := by decide +kernel
theorem dX2_thinkAnew_43 : decode cX2_thinkAnew 43 = .ok (.return_, 1) := by decide +kernel
set_option maxRecDepth 20000 in
theorem ggX2_placesHeldPossible_X1_at : GoodIn wsX2_placesHeldPossible wsX1_at := goodIn_r _ [6, 7, 8, 9, 10, 17, 18] (by decide +kernel) (by decide +kernel)
set_option maxRecDepth 20000 in
theorem gX2_placesHeldPossible_X1_at : GoodIn wsX2_placesHeldPossible (wsV RX2 48 RX1 yX1_at wsX1_at) := goodIn_app (goodIn_of _ (by decide +kernel)) ggX2_placesHeldPossible_X1_at
set_option maxRecDepth 20000 in
theorem ggX2_placesHeldPossible_X3_setOf : GoodIn wsX2_placesHeldPossible wsX3_setOf := goodIn_r _ [12] (by decide +kernel) (by decide +kernel)
set_option maxRecDepth 20000 in
theorem gX2_placesHeldPossible_X3_setOf_n34 : GoodIn wsX2_placesHeldPossible (wsX3_setOf) := ggX2_placesHeldPossible_X3_setOf
theorem dX2_placesHeldPossible_0 : decode cX2_placesHeldPossible 0 = .ok (.iconst 0, 1) := by decide +kernel
theorem dX2_placesHeldPossible_1 : decode cX2_placesHeldPossible 1 = .ok (.istore_n 2, 1) := by decide +kernel
theorem dX2_placesHeldPossible_2 : decode cX2_placesHeldPossible 2 = .ok (.iconst 0, 1) := by decide +kernel
theorem dX2_placesHeldPossible_3 : decode cX2_placesHeldPossible 3 = .ok (.istore_n 3, 1) := by decide +kernel
theorem dX2_placesHeldPossible_4 : decode cX2_placesHeldPossible 4 = .ok (.iload_n 3, 1) := by decide +kernel
theorem dX2_placesHeldPossible_5 : decode cX2_placesHeldPossible 5 = .ok (.bipush 16, 2) := by decide +kernel
theorem dX2_placesHeldPossible_7 : decode cX2_placesHeldPossible 7 = .ok (.if_icmp .ge 32, 3) := by decide +kernel
theorem dX2_placesHeldPossible_10 : decode cX2_placesHeldPossible 10 = .ok (.aload_n 0, 1) := by decide +kernel
theorem dX2_placesHeldPossible_11 : decode cX2_placesHeldPossible 11 = .ok (.getfield 12, 3) := by decide +kernel
theorem dX2_placesHeldPossible_14 : decode cX2_placesHeldPossible 14 = .ok (.iload_n 3, 1) := by decide +kernel
theorem dX2_placesHeldPossible_15 : decode cX2_placesHeldPossible 15 = .ok (.invokevirtual 48, 3) := by decide +kernel
theorem dX2_placesHeldPossible_18 : decode cX2_placesHeldPossible 18 = .ok (.aload_n 1, 1) := by decide +kernel
theorem dX2_placesHeldPossible_19 : decode cX2_placesHeldPossible 19 = .ok (.iload_n 3, 1) := by decide +kernel
theorem dX2_placesHeldPossible_20 : decode cX2_placesHeldPossible 20 = .ok (.invokevirtual 48, 3) := by decide +kernel
theorem dX2_placesHeldPossible_23 : decode cX2_placesHeldPossible 23 = .ok (.invokestatic 34, 3) := by decide +kernel
theorem dX2_placesHeldPossible_26 : decode cX2_placesHeldPossible 26 = .ok (.iand, 1) := by decide +kernel
theorem dX2_placesHeldPossible_27 : decode cX2_placesHeldPossible 27 = .ok (.ifCond .eq 6, 3) := by decide +kernel
theorem dX2_placesHeldPossible_30 : decode cX2_placesHeldPossible 30 = .ok (.iinc 2 1, 3) := by decide +kernel
theorem dX2_placesHeldPossible_33 : decode cX2_placesHeldPossible 33 = .ok (.iinc 3 1, 3) := by decide +kernel
theorem dX2_placesHeldPossible_36 : decode cX2_placesHeldPossible 36 = .ok (.goto (-32), 3) := by decide +kernel
theorem dX2_placesHeldPossible_39 : decode cX2_placesHeldPossible 39 = .ok (.iload_n 2, 1) := by decide +kernel
theorem dX2_placesHeldPossible_40 : decode cX2_placesHeldPossible 40 = .ok (.ireturn, 1) := by decide +kernel
set_option maxRecDepth 20000 in
theorem ggX2_placesSettled_X1_at : GoodIn wsX2_placesSettled wsX1_at := goodIn_r _ [6, 7, 8, 9, 10, 24, 25] (by decide +kernel) (by decide +kernel)
set_option maxRecDepth 20000 in
theorem gX2_placesSettled_X1_at : GoodIn wsX2_placesSettled (wsV RX2 48 RX1 yX1_at wsX1_at) := goodIn_app (goodIn_of _ (by decide +kernel)) ggX2_placesSettled_X1_at
set_option maxRecDepth 20000 in
theorem ggX2_placesSettled_X3_isOneAlone : GoodIn wsX2_placesSettled wsX3_isOneAlone := goodIn_r _ [12, 13, 14, 15, 16, 17, 18, 19] (by decide +kernel) (by decide +kernel)
set_option maxRecDepth 20000 in
theorem gX2_placesSettled_X3_isOneAlone_n51 : GoodIn wsX2_placesSettled (wsX3_isOneAlone) := ggX2_placesSettled_X3_isOneAlone
theorem dX2_placesSettled_0 : decode cX2_placesSettled 0 = .ok (.iconst 0, 1) := by decide +kernel
theorem dX2_placesSettled_1 : decode cX2_placesSettled 1 = .ok (.istore_n 1, 1) := by decide +kernel
theorem dX2_placesSettled_2 : decode cX2_placesSettled 2 = .ok (.iconst 0, 1) := by decide +kernel
theorem dX2_placesSettled_3 : decode cX2_placesSettled 3 = .ok (.istore_n 2, 1) := by decide +kernel
theorem dX2_placesSettled_4 : decode cX2_placesSettled 4 = .ok (.iload_n 2, 1) := by decide +kernel
theorem dX2_placesSettled_5 : decode cX2_placesSettled 5 = .ok (.bipush 16, 2) := by decide +kernel
theorem dX2_placesSettled_7 : decode cX2_placesSettled 7 = .ok (.if_icmp .ge 26, 3) := by decide +kernel
theorem dX2_placesSettled_10 : decode cX2_placesSettled 10 = .ok (.aload_n 0, 1) := by decide +kernel
theorem dX2_placesSettled_11 : decode cX2_placesSettled 11 = .ok (.getfield 12, 3) := by decide +kernel
theorem dX2_placesSettled_14 : decode cX2_placesSettled 14 = .ok (.iload_n 2, 1) := by decide +kernel
theorem dX2_placesSettled_15 : decode cX2_placesSettled 15 = .ok (.invokevirtual 48, 3) := by decide +kernel
theorem dX2_placesSettled_18 : decode cX2_placesSettled 18 = .ok (.invokestatic 51, 3) := by decide +kernel
theorem dX2_placesSettled_21 : decode cX2_placesSettled 21 = .ok (.ifCond .eq 6, 3) := by decide +kernel
theorem dX2_placesSettled_24 : decode cX2_placesSettled 24 = .ok (.iinc 1 1, 3) := by decide +kernel
theorem dX2_placesSettled_27 : decode cX2_placesSettled 27 = .ok (.iinc 2 1, 3) := by decide +kernel
theorem dX2_placesSettled_30 : decode cX2_placesSettled 30 = .ok (.goto (-26), 3) := by decide +kernel
theorem dX2_placesSettled_33 : decode cX2_placesSettled 33 = .ok (.iload_n 1, 1) := by decide +kernel
theorem dX2_placesSettled_34 : decode cX2_placesSettled 34 = .ok (.ireturn, 1) := by decide +kernel
set_option maxRecDepth 20000 in
theorem ggX2_placesSettledRightly_X1_at : GoodIn wsX2_placesSettledRightly wsX1_at := goodIn_r _ [6, 7, 8, 9, 10, 17, 18] (by decide +kernel) (by decide +kernel)
set_option maxRecDepth 20000 in
theorem gX2_placesSettledRightly_X1_at : GoodIn wsX2_placesSettledRightly (wsV RX2 48 RX1 yX1_at wsX1_at) := goodIn_app (goodIn_of _ (by decide +kernel)) ggX2_placesSettledRightly_X1_at
set_option maxRecDepth 20000 in
theorem ggX2_placesSettledRightly_X3_setOf : GoodIn wsX2_placesSettledRightly wsX3_setOf := goodIn_r _ [12] (by decide +kernel) (by decide +kernel)
set_option maxRecDepth 20000 in
theorem gX2_placesSettledRightly_X3_setOf_n34 : GoodIn wsX2_placesSettledRightly (wsX3_setOf) := ggX2_placesSettledRightly_X3_setOf
theorem dX2_placesSettledRightly_0 : decode cX2_placesSettledRightly 0 = .ok (.iconst 0, 1) := by decide +kernel
theorem dX2_placesSettledRightly_1 : decode cX2_placesSettledRightly 1 = .ok (.istore_n 2, 1) := by decide +kernel
theorem dX2_placesSettledRightly_2 : decode cX2_placesSettledRightly 2 = .ok (.iconst 0, 1) := by decide +kernel
theorem dX2_placesSettledRightly_3 : decode cX2_placesSettledRightly 3 = .ok (.istore_n 3, 1) := by decide +kernel
theorem dX2_placesSettledRightly_4 : decode cX2_placesSettledRightly 4 = .ok (.iload_n 3, 1) := by decide +kernel
theorem dX2_placesSettledRightly_5 : decode cX2_placesSettledRightly 5 = .ok (.bipush 16, 2) := by decide +kernel
theorem dX2_placesSettledRightly_7 : decode cX2_placesSettledRightly 7 = .ok (.if_icmp .ge 31, 3) := by decide +kernel
theorem dX2_placesSettledRightly_10 : decode cX2_placesSettledRightly 10 = .ok (.aload_n 0, 1) := by decide +kernel
theorem dX2_placesSettledRightly_11 : decode cX2_placesSettledRightly 11 = .ok (.getfield 12, 3) := by decide +kernel
theorem dX2_placesSettledRightly_14 : decode cX2_placesSettledRightly 14 = .ok (.iload_n 3, 1) := by decide +kernel
theorem dX2_placesSettledRightly_15 : decode cX2_placesSettledRightly 15 = .ok (.invokevirtual 48, 3) := by decide +kernel
theorem dX2_placesSettledRightly_18 : decode cX2_placesSettledRightly 18 = .ok (.aload_n 1, 1) := by decide +kernel
theorem dX2_placesSettledRightly_19 : decode cX2_placesSettledRightly 19 = .ok (.iload_n 3, 1) := by decide +kernel
theorem dX2_placesSettledRightly_20 : decode cX2_placesSettledRightly 20 = .ok (.invokevirtual 48, 3) := by decide +kernel
theorem dX2_placesSettledRightly_23 : decode cX2_placesSettledRightly 23 = .ok (.invokestatic 34, 3) := by decide +kernel
theorem dX2_placesSettledRightly_26 : decode cX2_placesSettledRightly 26 = .ok (.if_icmp .ne 6, 3) := by decide +kernel
theorem dX2_placesSettledRightly_29 : decode cX2_placesSettledRightly 29 = .ok (.iinc 2 1, 3) := by decide +kernel
theorem dX2_placesSettledRightly_32 : decode cX2_placesSettledRightly 32 = .ok (.iinc 3 1, 3) := by decide +kernel
theorem dX2_placesSettledRightly_35 : decode cX2_placesSettledRightly 35 = .ok (.goto (-31), 3) := by decide +kernel
theorem dX2_placesSettledRightly_38 : decode cX2_placesSettledRightly 38 = .ok (.iload_n 2, 1) := by decide +kernel
theorem dX2_placesSettledRightly_39 : decode cX2_placesSettledRightly 39 = .ok (.ireturn, 1) := by decide +kernel
set_option maxRecDepth 20000 in
theorem ggX2_cardsThought_X1_at : GoodIn wsX2_cardsThought wsX1_at := goodIn_r _ [6, 7, 8, 9, 10, 22, 23] (by decide +kernel) (by decide +kernel)
set_option maxRecDepth 20000 in
theorem gX2_cardsThought_X1_at : GoodIn wsX2_cardsThought (wsV RX2 48 RX1 yX1_at wsX1_at) := goodIn_app (goodIn_of _ (by decide +kernel)) ggX2_cardsThought_X1_at
set_option maxRecDepth 20000 in
theorem ggX2_cardsThought_J6_bitCount_0f7a4 : GoodIn wsX2_cardsThought wsJ6_bitCount_0f7a4 := goodIn_r _ [14, 15, 16, 17] (by decide +kernel) (by decide +kernel)
set_option maxRecDepth 20000 in
theorem gX2_cardsThought_J6_bitCount_0f7a4 : GoodIn wsX2_cardsThought (va_wsS RX2 61 yJ6_bitCount_0f7a4 wsJ6_bitCount_0f7a4) := goodIn_app (goodIn_of _ (by decide +kernel)) ggX2_cardsThought_J6_bitCount_0f7a4
theorem dX2_cardsThought_0 : decode cX2_cardsThought 0 = .ok (.iconst 0, 1) := by decide +kernel
theorem dX2_cardsThought_1 : decode cX2_cardsThought 1 = .ok (.istore_n 1, 1) := by decide +kernel
theorem dX2_cardsThought_2 : decode cX2_cardsThought 2 = .ok (.iconst 0, 1) := by decide +kernel
theorem dX2_cardsThought_3 : decode cX2_cardsThought 3 = .ok (.istore_n 2, 1) := by decide +kernel
theorem dX2_cardsThought_4 : decode cX2_cardsThought 4 = .ok (.iload_n 2, 1) := by decide +kernel
theorem dX2_cardsThought_5 : decode cX2_cardsThought 5 = .ok (.bipush 16, 2) := by decide +kernel
theorem dX2_cardsThought_7 : decode cX2_cardsThought 7 = .ok (.if_icmp .ge 23, 3) := by decide +kernel
theorem dX2_cardsThought_10 : decode cX2_cardsThought 10 = .ok (.iload_n 1, 1) := by decide +kernel
theorem dX2_cardsThought_11 : decode cX2_cardsThought 11 = .ok (.aload_n 0, 1) := by decide +kernel
theorem dX2_cardsThought_12 : decode cX2_cardsThought 12 = .ok (.getfield 12, 3) := by decide +kernel
theorem dX2_cardsThought_15 : decode cX2_cardsThought 15 = .ok (.iload_n 2, 1) := by decide +kernel
theorem dX2_cardsThought_16 : decode cX2_cardsThought 16 = .ok (.invokevirtual 48, 3) := by decide +kernel
theorem dX2_cardsThought_19 : decode cX2_cardsThought 19 = .ok (.invokestatic 61, 3) := by decide +kernel
theorem dX2_cardsThought_22 : decode cX2_cardsThought 22 = .ok (.iadd, 1) := by decide +kernel
theorem dX2_cardsThought_23 : decode cX2_cardsThought 23 = .ok (.istore_n 1, 1) := by decide +kernel
theorem dX2_cardsThought_24 : decode cX2_cardsThought 24 = .ok (.iinc 2 1, 3) := by decide +kernel
theorem dX2_cardsThought_27 : decode cX2_cardsThought 27 = .ok (.goto (-23), 3) := by decide +kernel
theorem dX2_cardsThought_30 : decode cX2_cardsThought 30 = .ok (.iload_n 1, 1) := by decide +kernel
theorem dX2_cardsThought_31 : decode cX2_cardsThought 31 = .ok (.ireturn, 1) := by decide +kernel
theorem dJ6_bitCount_0f7a4_0 : decode cJ6_bitCount_0f7a4 0 = .ok (.iload_n 0, 1) := by decide +kernel
theorem dJ6_bitCount_0f7a4_1 : decode cJ6_bitCount_0f7a4 1 = .ok (.iload_n 0, 1) := by decide +kernel
theorem dJ6_bitCount_0f7a4_2 : decode cJ6_bitCount_0f7a4 2 = .ok (.iconst 1, 1) := by decide +kernel
theorem dJ6_bitCount_0f7a4_3 : decode cJ6_bitCount_0f7a4 3 = .ok (.iushr, 1) := by decide +kernel
theorem dJ6_bitCount_0f7a4_4 : decode cJ6_bitCount_0f7a4 4 = .ok (.ldc_w 265, 3) := by decide +kernel
theorem dJ6_bitCount_0f7a4_7 : decode cJ6_bitCount_0f7a4 7 = .ok (.iand, 1) := by decide +kernel
theorem dJ6_bitCount_0f7a4_8 : decode cJ6_bitCount_0f7a4 8 = .ok (.isub, 1) := by decide +kernel
theorem dJ6_bitCount_0f7a4_9 : decode cJ6_bitCount_0f7a4 9 = .ok (.istore_n 0, 1) := by decide +kernel
theorem dJ6_bitCount_0f7a4_10 : decode cJ6_bitCount_0f7a4 10 = .ok (.iload_n 0, 1) := by decide +kernel
theorem dJ6_bitCount_0f7a4_11 : decode cJ6_bitCount_0f7a4 11 = .ok (.ldc_w 266, 3) := by decide +kernel
theorem dJ6_bitCount_0f7a4_14 : decode cJ6_bitCount_0f7a4 14 = .ok (.iand, 1) := by decide +kernel
theorem dJ6_bitCount_0f7a4_15 : decode cJ6_bitCount_0f7a4 15 = .ok (.iload_n 0, 1) := by decide +kernel
theorem dJ6_bitCount_0f7a4_16 : decode cJ6_bitCount_0f7a4 16 = .ok (.iconst 2, 1) := by decide +kernel
theorem dJ6_bitCount_0f7a4_17 : decode cJ6_bitCount_0f7a4 17 = .ok (.iushr, 1) := by decide +kernel
theorem dJ6_bitCount_0f7a4_18 : decode cJ6_bitCount_0f7a4 18 = .ok (.ldc_w 266, 3) := by decide +kernel
theorem dJ6_bitCount_0f7a4_21 : decode cJ6_bitCount_0f7a4 21 = .ok (.iand, 1) := by decide +kernel
theorem dJ6_bitCount_0f7a4_22 : decode cJ6_bitCount_0f7a4 22 = .ok (.iadd, 1) := by decide +kernel
theorem dJ6_bitCount_0f7a4_23 : decode cJ6_bitCount_0f7a4 23 = .ok (.istore_n 0, 1) := by decide +kernel
theorem dJ6_bitCount_0f7a4_24 : decode cJ6_bitCount_0f7a4 24 = .ok (.iload_n 0, 1) := by decide +kernel
theorem dJ6_bitCount_0f7a4_25 : decode cJ6_bitCount_0f7a4 25 = .ok (.iload_n 0, 1) := by decide +kernel
theorem dJ6_bitCount_0f7a4_26 : decode cJ6_bitCount_0f7a4 26 = .ok (.iconst 4, 1) := by decide +kernel
theorem dJ6_bitCount_0f7a4_27 : decode cJ6_bitCount_0f7a4 27 = .ok (.iushr, 1) := by decide +kernel
theorem dJ6_bitCount_0f7a4_28 : decode cJ6_bitCount_0f7a4 28 = .ok (.iadd, 1) := by decide +kernel
theorem dJ6_bitCount_0f7a4_29 : decode cJ6_bitCount_0f7a4 29 = .ok (.ldc_w 267, 3) := by decide +kernel
theorem dJ6_bitCount_0f7a4_32 : decode cJ6_bitCount_0f7a4 32 = .ok (.iand, 1) := by decide +kernel
theorem dJ6_bitCount_0f7a4_33 : decode cJ6_bitCount_0f7a4 33 = .ok (.istore_n 0, 1) := by decide +kernel
theorem dJ6_bitCount_0f7a4_34 : decode cJ6_bitCount_0f7a4 34 = .ok (.iload_n 0, 1) := by decide +kernel
theorem dJ6_bitCount_0f7a4_35 : decode cJ6_bitCount_0f7a4 35 = .ok (.iload_n 0, 1) := by decide +kernel
theorem dJ6_bitCount_0f7a4_36 : decode cJ6_bitCount_0f7a4 36 = .ok (.bipush 8, 2) := by decide +kernel
theorem dJ6_bitCount_0f7a4_38 : decode cJ6_bitCount_0f7a4 38 = .ok (.iushr, 1) := by decide +kernel
theorem dJ6_bitCount_0f7a4_39 : decode cJ6_bitCount_0f7a4 39 = .ok (.iadd, 1) := by decide +kernel
theorem dJ6_bitCount_0f7a4_40 : decode cJ6_bitCount_0f7a4 40 = .ok (.istore_n 0, 1) := by decide +kernel
theorem dJ6_bitCount_0f7a4_41 : decode cJ6_bitCount_0f7a4 41 = .ok (.iload_n 0, 1) := by decide +kernel
theorem dJ6_bitCount_0f7a4_42 : decode cJ6_bitCount_0f7a4 42 = .ok (.iload_n 0, 1) := by decide +kernel
theorem dJ6_bitCount_0f7a4_43 : decode cJ6_bitCount_0f7a4 43 = .ok (.bipush 16, 2) := by decide +kernel
theorem dJ6_bitCount_0f7a4_45 : decode cJ6_bitCount_0f7a4 45 = .ok (.iushr, 1) := by decide +kernel
theorem dJ6_bitCount_0f7a4_46 : decode cJ6_bitCount_0f7a4 46 = .ok (.iadd, 1) := by decide +kernel
theorem dJ6_bitCount_0f7a4_47 : decode cJ6_bitCount_0f7a4 47 = .ok (.istore_n 0, 1) := by decide +kernel
theorem dJ6_bitCount_0f7a4_48 : decode cJ6_bitCount_0f7a4 48 = .ok (.iload_n 0, 1) := by decide +kernel
theorem dJ6_bitCount_0f7a4_49 : decode cJ6_bitCount_0f7a4 49 = .ok (.bipush 63, 2) := by decide +kernel
theorem dJ6_bitCount_0f7a4_51 : decode cJ6_bitCount_0f7a4 51 = .ok (.iand, 1) := by decide +kernel
theorem dJ6_bitCount_0f7a4_52 : decode cJ6_bitCount_0f7a4 52 = .ok (.ireturn, 1) := by decide +kernel
theorem dJ9_floorMod_7cf53_0 : decode cJ9_floorMod_7cf53 0 = .ok (.iload_n 0, 1) := by decide +kernel
theorem dJ9_floorMod_7cf53_1 : decode cJ9_floorMod_7cf53 1 = .ok (.iload_n 1, 1) := by decide +kernel
theorem dJ9_floorMod_7cf53_2 : decode cJ9_floorMod_7cf53 2 = .ok (.irem, 1) := by decide +kernel
theorem dJ9_floorMod_7cf53_3 : decode cJ9_floorMod_7cf53 3 = .ok (.istore_n 2, 1) := by decide +kernel
theorem dJ9_floorMod_7cf53_4 : decode cJ9_floorMod_7cf53 4 = .ok (.iload_n 0, 1) := by decide +kernel
theorem dJ9_floorMod_7cf53_5 : decode cJ9_floorMod_7cf53 5 = .ok (.iload_n 1, 1) := by decide +kernel
theorem dJ9_floorMod_7cf53_6 : decode cJ9_floorMod_7cf53 6 = .ok (.ixor, 1) := by decide +kernel
theorem dJ9_floorMod_7cf53_7 : decode cJ9_floorMod_7cf53 7 = .ok (.ifCond .ge 11, 3) := by decide +kernel
theorem dJ9_floorMod_7cf53_10 : decode cJ9_floorMod_7cf53 10 = .ok (.iload_n 2, 1) := by decide +kernel
theorem dJ9_floorMod_7cf53_11 : decode cJ9_floorMod_7cf53 11 = .ok (.ifCond .eq 7, 3) := by decide +kernel
theorem dJ9_floorMod_7cf53_14 : decode cJ9_floorMod_7cf53 14 = .ok (.iload_n 2, 1) := by decide +kernel
theorem dJ9_floorMod_7cf53_15 : decode cJ9_floorMod_7cf53 15 = .ok (.iload_n 1, 1) := by decide +kernel
theorem dJ9_floorMod_7cf53_16 : decode cJ9_floorMod_7cf53 16 = .ok (.iadd, 1) := by decide +kernel
theorem dJ9_floorMod_7cf53_17 : decode cJ9_floorMod_7cf53 17 = .ok (.ireturn, 1) := by decide +kernel
theorem dJ9_floorMod_7cf53_18 : decode cJ9_floorMod_7cf53 18 = .ok (.iload_n 2, 1) := by decide +kernel
theorem dJ9_floorMod_7cf53_19 : decode cJ9_floorMod_7cf53 19 = .ok (.ireturn, 1) := by decide +kernel
end
section
set_option maxRecDepth 20000 in
theorem ggX3_init_X1_init : GoodIn wsX3_init wsX1_init := goodIn_r _ [14, 15, 2, 3, 16, 17, 18, 23, 24] (by decide +kernel) (by decide +kernel)
set_option maxRecDepth 20000 in
theorem gX3_init_X1_init_n11 : GoodIn wsX3_init (wsX1_init) := ggX3_init_X1_init
set_option maxRecDepth 20000 in
theorem ggX3_init_X1_putInOrder : GoodIn wsX3_init wsX1_putInOrder := goodIn_r _ [22, 17, 23, 24] (by decide +kernel) (by decide +kernel)
set_option maxRecDepth 20000 in
theorem gX3_init_X1_putInOrder : GoodIn wsX3_init (wsV RX3 31 RX1 yX1_putInOrder wsX1_putInOrder) := goodIn_app (goodIn_of _ (by decide +kernel)) ggX3_init_X1_putInOrder
theorem dX3_init_0 : decode cX3_init 0 = .ok (.aload_n 0, 1) := by decide +kernel
theorem dX3_init_1 : decode cX3_init 1 = .ok (.invokespecial 3, 3) := by decide +kernel
theorem dX3_init_4 : decode cX3_init 4 = .ok (.aload_n 0, 1) := by decide +kernel
theorem dX3_init_5 : decode cX3_init 5 = .ok (.new 9, 3) := by decide +kernel
theorem dX3_init_8 : decode cX3_init 8 = .ok (.dup, 1) := by decide +kernel
theorem dX3_init_9 : decode cX3_init 9 = .ok (.invokespecial 11, 3) := by decide +kernel
theorem dX3_init_12 : decode cX3_init 12 = .ok (.putfield 12, 3) := by decide +kernel
theorem dX3_init_15 : decode cX3_init 15 = .ok (.aload_n 0, 1) := by decide +kernel
theorem dX3_init_16 : decode cX3_init 16 = .ok (.new 9, 3) := by decide +kernel
theorem dX3_init_19 : decode cX3_init 19 = .ok (.dup, 1) := by decide +kernel
theorem dX3_init_20 : decode cX3_init 20 = .ok (.invokespecial 11, 3) := by decide +kernel
theorem dX3_init_23 : decode cX3_init 23 = .ok (.putfield 16, 3) := by decide +kernel
theorem dX3_init_26 : decode cX3_init 26 = .ok (.aload_n 0, 1) := by decide +kernel
theorem dX3_init_27 : decode cX3_init 27 = .ok (.iconst 4, 1) := by decide +kernel
theorem dX3_init_28 : decode cX3_init 28 = .ok (.anewarray 19, 3) := by decide +kernel
theorem dX3_init_31 : decode cX3_init 31 = .ok (.putfield 21, 3) := by decide +kernel
theorem dX3_init_34 : decode cX3_init 34 = .ok (.aload_n 0, 1) := by decide +kernel
theorem dX3_init_35 : decode cX3_init 35 = .ok (.iconst 4, 1) := by decide +kernel
theorem dX3_init_36 : decode cX3_init 36 = .ok (.anewarray 25, 3) := by decide +kernel
theorem dX3_init_39 : decode cX3_init 39 = .ok (.putfield 27, 3) := by decide +kernel
theorem dX3_init_42 : decode cX3_init 42 = .ok (.aload_n 0, 1) := by decide +kernel
theorem dX3_init_43 : decode cX3_init 43 = .ok (.getfield 12, 3) := by decide +kernel
theorem dX3_init_46 : decode cX3_init 46 = .ok (.invokevirtual 31, 3) := by decide +kernel
theorem dX3_init_49 : decode cX3_init 49 = .ok (.return_, 1) := by decide +kernel
set_option maxRecDepth 20000 in
theorem ggX3_go_X3_requireWay : GoodIn wsX3_go wsX3_requireWay := goodIn_ca (goodIn_r _ [7, 8, 9, 10, 11, 6, 12] (by decide +kernel) (by decide +kernel)) (goodIn_sub (fun _ h => List.mem_cons_of_mem _ (List.mem_append_right _ h)) (by decide +kernel))
set_option maxRecDepth 20000 in
theorem gX3_go_X3_requireWay : GoodIn wsX3_go (va_wsS RX3 34 yX3_requireWay wsX3_requireWay) := goodIn_app (goodIn_of _ (by decide +kernel)) ggX3_go_X3_requireWay
set_option maxRecDepth 20000 in
theorem ggX3_go_X1_carry : GoodIn wsX3_go wsX1_carry := goodIn_r _ [17, 18, 19, 20, 6, 21, 22, 23, 24, 25, 26, 48, 49] (by decide +kernel) (by decide +kernel)
set_option maxRecDepth 20000 in
theorem gX3_go_X1_carry : GoodIn wsX3_go (wsV RX3 38 RX1 yX1_carry wsX1_carry) := goodIn_app (goodIn_of _ (by decide +kernel)) ggX3_go_X1_carry
set_option maxRecDepth 20000 in
theorem ggX3_go_X2_follow : GoodIn wsX3_go wsX2_follow := goodIn_r _ [31, 32, 33, 14, 15, 16, 17, 18, 19, 20, 6, 21, 22, 23, 24, 25, 26, 50, 51, 52, 53, 48, 49] (by decide +kernel) (by decide +kernel)
set_option maxRecDepth 20000 in
theorem gX3_go_X2_follow : GoodIn wsX3_go (wsV RX3 41 RX2 yX2_follow wsX2_follow) := goodIn_app (goodIn_of _ (by decide +kernel)) ggX3_go_X2_follow
set_option maxRecDepth 20000 in
theorem ggX3_go_X1_at : GoodIn wsX3_go wsX1_at := goodIn_r _ [37, 19, 25, 6, 26, 48, 49] (by decide +kernel) (by decide +kernel)
set_option maxRecDepth 20000 in
theorem gX3_go_X1_at : GoodIn wsX3_go (wsV RX3 48 RX1 yX1_at wsX1_at) := goodIn_app (goodIn_of _ (by decide +kernel)) ggX3_go_X1_at
theorem dX3_go_0 : decode cX3_go 0 = .ok (.iload_n 1, 1) := by decide +kernel
theorem dX3_go_1 : decode cX3_go 1 = .ok (.iload_n 2, 1) := by decide +kernel
theorem dX3_go_2 : decode cX3_go 2 = .ok (.invokestatic 34, 3) := by decide +kernel
theorem dX3_go_5 : decode cX3_go 5 = .ok (.aload_n 0, 1) := by decide +kernel
theorem dX3_go_6 : decode cX3_go 6 = .ok (.getfield 12, 3) := by decide +kernel
theorem dX3_go_9 : decode cX3_go 9 = .ok (.iload_n 1, 1) := by decide +kernel
theorem dX3_go_10 : decode cX3_go 10 = .ok (.iload_n 2, 1) := by decide +kernel
theorem dX3_go_11 : decode cX3_go 11 = .ok (.invokevirtual 38, 3) := by decide +kernel
theorem dX3_go_14 : decode cX3_go 14 = .ok (.iload_n 3, 1) := by decide +kernel
theorem dX3_go_15 : decode cX3_go 15 = .ok (.ifCond .eq 49, 3) := by decide +kernel
theorem dX3_go_18 : decode cX3_go 18 = .ok (.aload_n 0, 1) := by decide +kernel
theorem dX3_go_19 : decode cX3_go 19 = .ok (.getfield 21, 3) := by decide +kernel
theorem dX3_go_22 : decode cX3_go 22 = .ok (.astore 4, 2) := by decide +kernel
theorem dX3_go_24 : decode cX3_go 24 = .ok (.aload 4, 2) := by decide +kernel
theorem dX3_go_26 : decode cX3_go 26 = .ok (.arraylength, 1) := by decide +kernel
theorem dX3_go_27 : decode cX3_go 27 = .ok (.istore 5, 2) := by decide +kernel
theorem dX3_go_29 : decode cX3_go 29 = .ok (.iconst 0, 1) := by decide +kernel
theorem dX3_go_30 : decode cX3_go 30 = .ok (.istore 6, 2) := by decide +kernel
theorem dX3_go_32 : decode cX3_go 32 = .ok (.iload 6, 2) := by decide +kernel
theorem dX3_go_34 : decode cX3_go 34 = .ok (.iload 5, 2) := by decide +kernel
theorem dX3_go_36 : decode cX3_go 36 = .ok (.if_icmp .ge 28, 3) := by decide +kernel
theorem dX3_go_39 : decode cX3_go 39 = .ok (.aload 4, 2) := by decide +kernel
theorem dX3_go_41 : decode cX3_go 41 = .ok (.iload 6, 2) := by decide +kernel
theorem dX3_go_43 : decode cX3_go 43 = .ok (.aaload, 1) := by decide +kernel
theorem dX3_go_44 : decode cX3_go 44 = .ok (.astore 7, 2) := by decide +kernel
theorem dX3_go_46 : decode cX3_go 46 = .ok (.aload 7, 2) := by decide +kernel
theorem dX3_go_48 : decode cX3_go 48 = .ok (.ifnull 10, 3) := by decide +kernel
theorem dX3_go_51 : decode cX3_go 51 = .ok (.aload 7, 2) := by decide +kernel
theorem dX3_go_53 : decode cX3_go 53 = .ok (.iload_n 1, 1) := by decide +kernel
theorem dX3_go_54 : decode cX3_go 54 = .ok (.iload_n 2, 1) := by decide +kernel
theorem dX3_go_55 : decode cX3_go 55 = .ok (.invokevirtual 41, 3) := by decide +kernel
theorem dX3_go_58 : decode cX3_go 58 = .ok (.iinc 6 1, 3) := by decide +kernel
theorem dX3_go_61 : decode cX3_go 61 = .ok (.goto (-29), 3) := by decide +kernel
theorem dX3_go_64 : decode cX3_go 64 = .ok (.aload_n 0, 1) := by decide +kernel
theorem dX3_go_65 : decode cX3_go 65 = .ok (.dup, 1) := by decide +kernel
theorem dX3_go_66 : decode cX3_go 66 = .ok (.getfield 44, 3) := by decide +kernel
theorem dX3_go_69 : decode cX3_go 69 = .ok (.iconst 1, 1) := by decide +kernel
theorem dX3_go_70 : decode cX3_go 70 = .ok (.iadd, 1) := by decide +kernel
theorem dX3_go_71 : decode cX3_go 71 = .ok (.putfield 44, 3) := by decide +kernel
theorem dX3_go_74 : decode cX3_go 74 = .ok (.aload_n 0, 1) := by decide +kernel
theorem dX3_go_75 : decode cX3_go 75 = .ok (.getfield 12, 3) := by decide +kernel
theorem dX3_go_78 : decode cX3_go 78 = .ok (.iconst 0, 1) := by decide +kernel
theorem dX3_go_79 : decode cX3_go 79 = .ok (.invokevirtual 48, 3) := by decide +kernel
theorem dX3_go_82 : decode cX3_go 82 = .ok (.ireturn, 1) := by decide +kernel
set_option maxRecDepth 20000 in
theorem ggX3_falseCut_X3_requireWay : GoodIn wsX3_falseCut wsX3_requireWay := goodIn_ca (goodIn_r _ [6, 7, 8, 9, 10, 5, 11] (by decide +kernel) (by decide +kernel)) (goodIn_sub (fun _ h => List.mem_cons_of_mem _ (List.mem_append_right _ h)) (by decide +kernel))
set_option maxRecDepth 20000 in
theorem gX3_falseCut_X3_requireWay : GoodIn wsX3_falseCut (va_wsS RX3 34 yX3_requireWay wsX3_requireWay) := goodIn_app (goodIn_of _ (by decide +kernel)) ggX3_falseCut_X3_requireWay
set_option maxRecDepth 20000 in
theorem ggX3_falseCut_X2_follow : GoodIn wsX3_falseCut wsX2_follow := goodIn_r _ [16, 17, 18, 19, 20, 21, 22, 23, 24, 25, 5, 26, 27, 28, 29, 30, 31, 42, 43, 44, 45, 46, 47] (by decide +kernel) (by decide +kernel)
set_option maxRecDepth 20000 in
theorem gX3_falseCut_X2_follow : GoodIn wsX3_falseCut (wsV RX3 41 RX2 yX2_follow wsX2_follow) := goodIn_app (goodIn_of _ (by decide +kernel)) ggX3_falseCut_X2_follow
theorem dX3_falseCut_0 : decode cX3_falseCut 0 = .ok (.iconst 0, 1) := by decide +kernel
theorem dX3_falseCut_1 : decode cX3_falseCut 1 = .ok (.iload_n 1, 1) := by decide +kernel
theorem dX3_falseCut_2 : decode cX3_falseCut 2 = .ok (.invokestatic 34, 3) := by decide +kernel
theorem dX3_falseCut_5 : decode cX3_falseCut 5 = .ok (.iconst 0, 1) := by decide +kernel
theorem dX3_falseCut_6 : decode cX3_falseCut 6 = .ok (.istore_n 2, 1) := by decide +kernel
theorem dX3_falseCut_7 : decode cX3_falseCut 7 = .ok (.aload_n 0, 1) := by decide +kernel
theorem dX3_falseCut_8 : decode cX3_falseCut 8 = .ok (.getfield 21, 3) := by decide +kernel
theorem dX3_falseCut_11 : decode cX3_falseCut 11 = .ok (.astore_n 3, 1) := by decide +kernel
theorem dX3_falseCut_12 : decode cX3_falseCut 12 = .ok (.aload_n 3, 1) := by decide +kernel
theorem dX3_falseCut_13 : decode cX3_falseCut 13 = .ok (.arraylength, 1) := by decide +kernel
theorem dX3_falseCut_14 : decode cX3_falseCut 14 = .ok (.istore 4, 2) := by decide +kernel
theorem dX3_falseCut_16 : decode cX3_falseCut 16 = .ok (.iconst 0, 1) := by decide +kernel
theorem dX3_falseCut_17 : decode cX3_falseCut 17 = .ok (.istore 5, 2) := by decide +kernel
theorem dX3_falseCut_19 : decode cX3_falseCut 19 = .ok (.iload 5, 2) := by decide +kernel
theorem dX3_falseCut_21 : decode cX3_falseCut 21 = .ok (.iload 4, 2) := by decide +kernel
theorem dX3_falseCut_23 : decode cX3_falseCut 23 = .ok (.if_icmp .ge 38, 3) := by decide +kernel
theorem dX3_falseCut_26 : decode cX3_falseCut 26 = .ok (.aload_n 3, 1) := by decide +kernel
theorem dX3_falseCut_27 : decode cX3_falseCut 27 = .ok (.iload 5, 2) := by decide +kernel
theorem dX3_falseCut_29 : decode cX3_falseCut 29 = .ok (.aaload, 1) := by decide +kernel
theorem dX3_falseCut_30 : decode cX3_falseCut 30 = .ok (.astore 6, 2) := by decide +kernel
theorem dX3_falseCut_32 : decode cX3_falseCut 32 = .ok (.aload 6, 2) := by decide +kernel
theorem dX3_falseCut_34 : decode cX3_falseCut 34 = .ok (.ifnull 21, 3) := by decide +kernel
theorem dX3_falseCut_37 : decode cX3_falseCut 37 = .ok (.aload 6, 2) := by decide +kernel
theorem dX3_falseCut_39 : decode cX3_falseCut 39 = .ok (.getfield 52, 3) := by decide +kernel
theorem dX3_falseCut_42 : decode cX3_falseCut 42 = .ok (.ifCond .ne 13, 3) := by decide +kernel
theorem dX3_falseCut_45 : decode cX3_falseCut 45 = .ok (.aload 6, 2) := by decide +kernel
theorem dX3_falseCut_47 : decode cX3_falseCut 47 = .ok (.iconst 0, 1) := by decide +kernel
theorem dX3_falseCut_48 : decode cX3_falseCut 48 = .ok (.iload_n 1, 1) := by decide +kernel
theorem dX3_falseCut_49 : decode cX3_falseCut 49 = .ok (.invokevirtual 41, 3) := by decide +kernel
theorem dX3_falseCut_52 : decode cX3_falseCut 52 = .ok (.iinc 2 1, 3) := by decide +kernel
theorem dX3_falseCut_55 : decode cX3_falseCut 55 = .ok (.iinc 5 1, 3) := by decide +kernel
theorem dX3_falseCut_58 : decode cX3_falseCut 58 = .ok (.goto (-39), 3) := by decide +kernel
theorem dX3_falseCut_61 : decode cX3_falseCut 61 = .ok (.aload_n 0, 1) := by decide +kernel
theorem dX3_falseCut_62 : decode cX3_falseCut 62 = .ok (.dup, 1) := by decide +kernel
theorem dX3_falseCut_63 : decode cX3_falseCut 63 = .ok (.getfield 56, 3) := by decide +kernel
theorem dX3_falseCut_66 : decode cX3_falseCut 66 = .ok (.iconst 1, 1) := by decide +kernel
theorem dX3_falseCut_67 : decode cX3_falseCut 67 = .ok (.iadd, 1) := by decide +kernel
theorem dX3_falseCut_68 : decode cX3_falseCut 68 = .ok (.putfield 56, 3) := by decide +kernel
theorem dX3_falseCut_71 : decode cX3_falseCut 71 = .ok (.iload_n 2, 1) := by decide +kernel
theorem dX3_falseCut_72 : decode cX3_falseCut 72 = .ok (.ireturn, 1) := by decide +kernel
set_option maxRecDepth 20000 in
theorem ggX3_comes_X3_requireWay : GoodIn wsX3_comes wsX3_requireWay := goodIn_ca (goodIn_r _ [4, 5, 6, 7, 8, 3, 9] (by decide +kernel) (by decide +kernel)) (goodIn_sub (fun _ h => List.mem_cons_of_mem _ (List.mem_append_left _ (List.mem_append_right _ h))) (by decide +kernel))
set_option maxRecDepth 20000 in
theorem gX3_comes_X3_requireWay : GoodIn wsX3_comes (va_wsS RX3 34 yX3_requireWay wsX3_requireWay) := goodIn_app (goodIn_of _ (by decide +kernel)) ggX3_comes_X3_requireWay
set_option maxRecDepth 20000 in
theorem ggX3_comes_X3_requirePlace : GoodIn wsX3_comes wsX3_requirePlace := goodIn_ca (goodIn_r _ [12, 13, 14, 15, 16, 3, 17] (by decide +kernel) (by decide +kernel)) (goodIn_sub (fun _ h => List.mem_cons_of_mem _ (List.mem_append_right _ h)) (by decide +kernel))
set_option maxRecDepth 20000 in
theorem gX3_comes_X3_requirePlace : GoodIn wsX3_comes (va_wsS RX3 59 yX3_requirePlace wsX3_requirePlace) := goodIn_app (goodIn_of _ (by decide +kernel)) ggX3_comes_X3_requirePlace
set_option maxRecDepth 20000 in
theorem ggX3_comes_X3_placeAfter : GoodIn wsX3_comes wsX3_placeAfter := goodIn_r _ [20, 21, 22, 3, 23] (by decide +kernel) (by decide +kernel)
set_option maxRecDepth 20000 in
theorem gX3_comes_X3_placeAfter : GoodIn wsX3_comes (va_wsS RX3 63 yX3_placeAfter wsX3_placeAfter) := goodIn_app (goodIn_of _ (by decide +kernel)) ggX3_comes_X3_placeAfter
theorem dX3_comes_0 : decode cX3_comes 0 = .ok (.iload_n 1, 1) := by decide +kernel
theorem dX3_comes_1 : decode cX3_comes 1 = .ok (.iload_n 2, 1) := by decide +kernel
theorem dX3_comes_2 : decode cX3_comes 2 = .ok (.invokestatic 34, 3) := by decide +kernel
theorem dX3_comes_5 : decode cX3_comes 5 = .ok (.iload_n 3, 1) := by decide +kernel
theorem dX3_comes_6 : decode cX3_comes 6 = .ok (.invokestatic 59, 3) := by decide +kernel
theorem dX3_comes_9 : decode cX3_comes 9 = .ok (.iload_n 1, 1) := by decide +kernel
theorem dX3_comes_10 : decode cX3_comes 10 = .ok (.iload_n 2, 1) := by decide +kernel
theorem dX3_comes_11 : decode cX3_comes 11 = .ok (.iload_n 3, 1) := by decide +kernel
theorem dX3_comes_12 : decode cX3_comes 12 = .ok (.invokestatic 63, 3) := by decide +kernel
theorem dX3_comes_15 : decode cX3_comes 15 = .ok (.ireturn, 1) := by decide +kernel
set_option maxRecDepth 20000 in
theorem ggX3_card_X3_requirePlace : GoodIn wsX3_card wsX3_requirePlace := goodIn_ca (goodIn_r _ [5, 6, 7, 8, 9, 4, 10] (by decide +kernel) (by decide +kernel)) (goodIn_sub (fun _ h => List.mem_cons_of_mem _ (List.mem_append_right _ h)) (by decide +kernel))
set_option maxRecDepth 20000 in
theorem gX3_card_X3_requirePlace : GoodIn wsX3_card (va_wsS RX3 59 yX3_requirePlace wsX3_requirePlace) := goodIn_app (goodIn_of _ (by decide +kernel)) ggX3_card_X3_requirePlace
set_option maxRecDepth 20000 in
theorem ggX3_card_X1_at : GoodIn wsX3_card wsX1_at := goodIn_r _ [15, 16, 9, 4, 10, 27, 28] (by decide +kernel) (by decide +kernel)
set_option maxRecDepth 20000 in
theorem gX3_card_X1_at : GoodIn wsX3_card (wsV RX3 48 RX1 yX1_at wsX1_at) := goodIn_app (goodIn_of _ (by decide +kernel)) ggX3_card_X1_at
theorem dX3_card_0 : decode cX3_card 0 = .ok (.iload_n 1, 1) := by decide +kernel
theorem dX3_card_1 : decode cX3_card 1 = .ok (.invokestatic 59, 3) := by decide +kernel
theorem dX3_card_4 : decode cX3_card 4 = .ok (.aload_n 0, 1) := by decide +kernel
theorem dX3_card_5 : decode cX3_card 5 = .ok (.getfield 12, 3) := by decide +kernel
theorem dX3_card_8 : decode cX3_card 8 = .ok (.iload_n 1, 1) := by decide +kernel
theorem dX3_card_9 : decode cX3_card 9 = .ok (.invokevirtual 48, 3) := by decide +kernel
theorem dX3_card_12 : decode cX3_card 12 = .ok (.ireturn, 1) := by decide +kernel
set_option maxRecDepth 20000 in
theorem ggX3_find_X3_requireCard : GoodIn wsX3_find wsX3_requireCard := goodIn_ca (goodIn_r _ [5, 6, 7, 8, 9, 4, 10] (by decide +kernel) (by decide +kernel)) (goodIn_sub (fun _ h => List.mem_cons_of_mem _ (List.mem_append_right _ h)) (by decide +kernel))
set_option maxRecDepth 20000 in
theorem gX3_find_X3_requireCard : GoodIn wsX3_find (va_wsS RX3 67 yX3_requireCard wsX3_requireCard) := goodIn_app (goodIn_of _ (by decide +kernel)) ggX3_find_X3_requireCard
set_option maxRecDepth 20000 in
theorem ggX3_find_X1_firstPlaceOf : GoodIn wsX3_find wsX1_firstPlaceOf := goodIn_r _ [15, 16, 27, 28] (by decide +kernel) (by decide +kernel)
set_option maxRecDepth 20000 in
theorem gX3_find_X1_firstPlaceOf : GoodIn wsX3_find (wsV RX3 70 RX1 yX1_firstPlaceOf wsX1_firstPlaceOf) := goodIn_app (goodIn_of _ (by decide +kernel)) ggX3_find_X1_firstPlaceOf
theorem dX3_find_0 : decode cX3_find 0 = .ok (.iload_n 1, 1) := by decide +kernel
theorem dX3_find_1 : decode cX3_find 1 = .ok (.invokestatic 67, 3) := by decide +kernel
theorem dX3_find_4 : decode cX3_find 4 = .ok (.aload_n 0, 1) := by decide +kernel
theorem dX3_find_5 : decode cX3_find 5 = .ok (.getfield 12, 3) := by decide +kernel
theorem dX3_find_8 : decode cX3_find 8 = .ok (.iload_n 1, 1) := by decide +kernel
theorem dX3_find_9 : decode cX3_find 9 = .ok (.invokevirtual 70, 3) := by decide +kernel
theorem dX3_find_12 : decode cX3_find 12 = .ok (.ireturn, 1) := by decide +kernel
set_option maxRecDepth 20000 in
theorem ggX3_watch_X2_init : GoodIn wsX3_watch wsX2_init := goodIn_r _ [10, 11, 12, 13, 14, 15, 16, 17, 18, 19, 20, 21, 22, 23, 24, 25, 26, 27, 28, 29, 30, 31, 32, 47, 48, 43, 44, 45, 46] (by decide +kernel) (by decide +kernel)
set_option maxRecDepth 20000 in
theorem gX3_watch_X2_init : GoodIn wsX3_watch (wsX2_init) := ggX3_watch_X2_init
theorem dX3_watch_0 : decode cX3_watch 0 = .ok (.aload_n 0, 1) := by decide +kernel
theorem dX3_watch_1 : decode cX3_watch 1 = .ok (.getfield 73, 3) := by decide +kernel
theorem dX3_watch_4 : decode cX3_watch 4 = .ok (.istore_n 2, 1) := by decide +kernel
theorem dX3_watch_5 : decode cX3_watch 5 = .ok (.iload_n 2, 1) := by decide +kernel
theorem dX3_watch_6 : decode cX3_watch 6 = .ok (.ifCond .lt 12, 3) := by decide +kernel
theorem dX3_watch_9 : decode cX3_watch 9 = .ok (.iload_n 2, 1) := by decide +kernel
theorem dX3_watch_10 : decode cX3_watch 10 = .ok (.aload_n 0, 1) := by decide +kernel
theorem dX3_watch_11 : decode cX3_watch 11 = .ok (.getfield 21, 3) := by decide +kernel
theorem dX3_watch_14 : decode cX3_watch 14 = .ok (.arraylength, 1) := by decide +kernel
theorem dX3_watch_15 : decode cX3_watch 15 = .ok (.if_icmp .lt 13, 3) := by decide +kernel
theorem dX3_watch_18 : decode cX3_watch 18 = .ok (.new 76, 3) := by decide +kernel
theorem dX3_watch_21 : decode cX3_watch 21 = .ok (.dup, 1) := by decide +kernel
theorem dX3_watch_22 : decode cX3_watch 22 = .ok (.ldc 78, 2) := by decide +kernel
theorem dX3_watch_24 : decode cX3_watch 24 = .ok (.invokespecial 80, 3) := by decide +kernel
theorem dX3_watch_27 : decode cX3_watch 27 = .ok (.athrow, 1) := by decide +kernel
theorem dX3_watch_28 : decode cX3_watch 28 = .ok (.aload_n 0, 1) := by decide +kernel
theorem dX3_watch_29 : decode cX3_watch 29 = .ok (.getfield 21, 3) := by decide +kernel
theorem dX3_watch_32 : decode cX3_watch 32 = .ok (.iload_n 2, 1) := by decide +kernel
theorem dX3_watch_33 : decode cX3_watch 33 = .ok (.new 19, 3) := by decide +kernel
theorem dX3_watch_36 : decode cX3_watch 36 = .ok (.dup, 1) := by decide +kernel
theorem dX3_watch_37 : decode cX3_watch 37 = .ok (.iload_n 1, 1) := by decide +kernel
theorem dX3_watch_38 : decode cX3_watch 38 = .ok (.invokespecial 83, 3) := by decide +kernel
theorem dX3_watch_41 : decode cX3_watch 41 = .ok (.aastore, 1) := by decide +kernel
theorem dX3_watch_42 : decode cX3_watch 42 = .ok (.aload_n 0, 1) := by decide +kernel
theorem dX3_watch_43 : decode cX3_watch 43 = .ok (.dup, 1) := by decide +kernel
theorem dX3_watch_44 : decode cX3_watch 44 = .ok (.getfield 73, 3) := by decide +kernel
theorem dX3_watch_47 : decode cX3_watch 47 = .ok (.iconst 1, 1) := by decide +kernel
theorem dX3_watch_48 : decode cX3_watch 48 = .ok (.iadd, 1) := by decide +kernel
theorem dX3_watch_49 : decode cX3_watch 49 = .ok (.putfield 73, 3) := by decide +kernel
theorem dX3_watch_52 : decode cX3_watch 52 = .ok (.iload_n 2, 1) := by decide +kernel
theorem dX3_watch_53 : decode cX3_watch 53 = .ok (.ireturn, 1) := by decide +kernel
set_option maxRecDepth 20000 in
theorem ggX3_glimpse_X3_watcherOf : GoodIn wsX3_glimpse wsX3_watcherOf := goodIn_ca (goodIn_r _ [6, 7, 8, 9, 63, 64, 65, 66, 67, 68, 69, 70, 71, 72] (by decide +kernel) (by decide +kernel)) (goodIn_sub (fun _ h => List.mem_cons_of_mem _ (List.mem_append_right _ h)) (by decide +kernel))
set_option maxRecDepth 20000 in
theorem gX3_glimpse_X3_watcherOf : GoodIn wsX3_glimpse (wsV RX3 86 RX3 yX3_watcherOf wsX3_watcherOf) := goodIn_app (goodIn_of _ (by decide +kernel)) ggX3_glimpse_X3_watcherOf
set_option maxRecDepth 20000 in
theorem ggX3_glimpse_X3_requirePlace : GoodIn wsX3_glimpse wsX3_requirePlace := goodIn_ca (goodIn_r _ [12, 7, 8, 13, 14, 5, 15] (by decide +kernel) (by decide +kernel)) (goodIn_sub (fun _ h => List.mem_cons_of_mem _ (List.mem_append_right _ h)) (by decide +kernel))
set_option maxRecDepth 20000 in
theorem gX3_glimpse_X3_requirePlace : GoodIn wsX3_glimpse (va_wsS RX3 59 yX3_requirePlace wsX3_requirePlace) := goodIn_app (goodIn_of _ (by decide +kernel)) ggX3_glimpse_X3_requirePlace
set_option maxRecDepth 20000 in
theorem ggX3_glimpse_X1_at : GoodIn wsX3_glimpse wsX1_at := goodIn_r _ [20, 21, 14, 5, 15, 73, 74] (by decide +kernel) (by decide +kernel)
set_option maxRecDepth 20000 in
theorem gX3_glimpse_X1_at : GoodIn wsX3_glimpse (wsV RX3 48 RX1 yX1_at wsX1_at) := goodIn_app (goodIn_of _ (by decide +kernel)) ggX3_glimpse_X1_at
set_option maxRecDepth 20000 in
theorem ggX3_glimpse_X2_see : GoodIn wsX3_glimpse wsX2_see := goodIn_r _ [26, 27, 28, 29, 30, 5, 31, 32, 33, 34, 19, 35, 21, 14, 15, 36, 37, 38, 25, 39, 40, 17, 18, 20, 41, 42, 43, 44, 45, 46, 47, 48, 49, 50, 51, 52, 53, 54, 55, 56, 57, 58, 59, 60, 61, 62, 75, 76, 77, 78, 73, 74] (by decide +kernel) (by decide +kernel)
set_option maxRecDepth 20000 in
theorem gX3_glimpse_X2_see : GoodIn wsX3_glimpse (wsV RX3 90 RX2 yX2_see wsX2_see) := goodIn_app (goodIn_of _ (by decide +kernel)) ggX3_glimpse_X2_see
theorem dX3_glimpse_0 : decode cX3_glimpse 0 = .ok (.aload_n 0, 1) := by decide +kernel
theorem dX3_glimpse_1 : decode cX3_glimpse 1 = .ok (.iload_n 1, 1) := by decide +kernel
theorem dX3_glimpse_2 : decode cX3_glimpse 2 = .ok (.invokevirtual 86, 3) := by decide +kernel
theorem dX3_glimpse_5 : decode cX3_glimpse 5 = .ok (.astore_n 3, 1) := by decide +kernel
theorem dX3_glimpse_6 : decode cX3_glimpse 6 = .ok (.iload_n 2, 1) := by decide +kernel
theorem dX3_glimpse_7 : decode cX3_glimpse 7 = .ok (.invokestatic 59, 3) := by decide +kernel
theorem dX3_glimpse_10 : decode cX3_glimpse 10 = .ok (.aload_n 0, 1) := by decide +kernel
theorem dX3_glimpse_11 : decode cX3_glimpse 11 = .ok (.getfield 12, 3) := by decide +kernel
theorem dX3_glimpse_14 : decode cX3_glimpse 14 = .ok (.iload_n 2, 1) := by decide +kernel
theorem dX3_glimpse_15 : decode cX3_glimpse 15 = .ok (.invokevirtual 48, 3) := by decide +kernel
theorem dX3_glimpse_18 : decode cX3_glimpse 18 = .ok (.istore 4, 2) := by decide +kernel
theorem dX3_glimpse_20 : decode cX3_glimpse 20 = .ok (.aload_n 3, 1) := by decide +kernel
theorem dX3_glimpse_21 : decode cX3_glimpse 21 = .ok (.iload_n 2, 1) := by decide +kernel
theorem dX3_glimpse_22 : decode cX3_glimpse 22 = .ok (.iload 4, 2) := by decide +kernel
theorem dX3_glimpse_24 : decode cX3_glimpse 24 = .ok (.invokevirtual 90, 3) := by decide +kernel
theorem dX3_glimpse_27 : decode cX3_glimpse 27 = .ok (.iload 4, 2) := by decide +kernel
theorem dX3_glimpse_29 : decode cX3_glimpse 29 = .ok (.ireturn, 1) := by decide +kernel
set_option maxRecDepth 20000 in
theorem ggX3_thinks_X3_watcherOf : GoodIn wsX3_thinks wsX3_watcherOf := goodIn_ca (goodIn_r _ [5, 6, 7, 8, 25, 26, 27, 28, 29, 30, 31, 32, 33, 34] (by decide +kernel) (by decide +kernel)) (goodIn_sub (fun _ h => List.mem_cons_of_mem _ (List.mem_append_right _ h)) (by decide +kernel))
set_option maxRecDepth 20000 in
theorem gX3_thinks_X3_watcherOf : GoodIn wsX3_thinks (wsV RX3 86 RX3 yX3_watcherOf wsX3_watcherOf) := goodIn_app (goodIn_of _ (by decide +kernel)) ggX3_thinks_X3_watcherOf
set_option maxRecDepth 20000 in
theorem ggX3_thinks_X3_requirePlace : GoodIn wsX3_thinks wsX3_requirePlace := goodIn_ca (goodIn_r _ [11, 6, 7, 12, 13, 4, 14] (by decide +kernel) (by decide +kernel)) (goodIn_sub (fun _ h => List.mem_cons_of_mem _ (List.mem_append_right _ h)) (by decide +kernel))
set_option maxRecDepth 20000 in
theorem gX3_thinks_X3_requirePlace : GoodIn wsX3_thinks (va_wsS RX3 59 yX3_requirePlace wsX3_requirePlace) := goodIn_app (goodIn_of _ (by decide +kernel)) ggX3_thinks_X3_requirePlace
set_option maxRecDepth 20000 in
theorem ggX3_thinks_X1_at : GoodIn wsX3_thinks wsX1_at := goodIn_r _ [19, 20, 13, 4, 14, 35, 36] (by decide +kernel) (by decide +kernel)
set_option maxRecDepth 20000 in
theorem gX3_thinks_X1_at : GoodIn wsX3_thinks (wsV RX3 48 RX1 yX1_at wsX1_at) := goodIn_app (goodIn_of _ (by decide +kernel)) ggX3_thinks_X1_at
theorem dX3_thinks_0 : decode cX3_thinks 0 = .ok (.aload_n 0, 1) := by decide +kernel
theorem dX3_thinks_1 : decode cX3_thinks 1 = .ok (.iload_n 1, 1) := by decide +kernel
theorem dX3_thinks_2 : decode cX3_thinks 2 = .ok (.invokevirtual 86, 3) := by decide +kernel
theorem dX3_thinks_5 : decode cX3_thinks 5 = .ok (.astore_n 3, 1) := by decide +kernel
theorem dX3_thinks_6 : decode cX3_thinks 6 = .ok (.iload_n 2, 1) := by decide +kernel
theorem dX3_thinks_7 : decode cX3_thinks 7 = .ok (.invokestatic 59, 3) := by decide +kernel
theorem dX3_thinks_10 : decode cX3_thinks 10 = .ok (.aload_n 3, 1) := by decide +kernel
theorem dX3_thinks_11 : decode cX3_thinks 11 = .ok (.getfield 93, 3) := by decide +kernel
theorem dX3_thinks_14 : decode cX3_thinks 14 = .ok (.iload_n 2, 1) := by decide +kernel
theorem dX3_thinks_15 : decode cX3_thinks 15 = .ok (.invokevirtual 48, 3) := by decide +kernel
theorem dX3_thinks_18 : decode cX3_thinks 18 = .ok (.ireturn, 1) := by decide +kernel
set_option maxRecDepth 20000 in
theorem ggX3_sure_X3_watcherOf : GoodIn wsX3_sure wsX3_watcherOf := goodIn_ca (goodIn_r _ [5, 6, 7, 8, 28, 29, 30, 31, 32, 33, 34, 35, 36, 37] (by decide +kernel) (by decide +kernel)) (goodIn_sub (fun _ h => List.mem_cons_of_mem _ (List.mem_append_right _ h)) (by decide +kernel))
set_option maxRecDepth 20000 in
theorem gX3_sure_X3_watcherOf : GoodIn wsX3_sure (wsV RX3 86 RX3 yX3_watcherOf wsX3_watcherOf) := goodIn_app (goodIn_of _ (by decide +kernel)) ggX3_sure_X3_watcherOf
set_option maxRecDepth 20000 in
theorem ggX3_sure_X3_requireCard : GoodIn wsX3_sure wsX3_requireCard := goodIn_ca (goodIn_r _ [11, 6, 7, 12, 13, 4, 14] (by decide +kernel) (by decide +kernel)) (goodIn_sub (fun _ h => List.mem_cons_of_mem _ (List.mem_append_right _ h)) (by decide +kernel))
set_option maxRecDepth 20000 in
theorem gX3_sure_X3_requireCard : GoodIn wsX3_sure (va_wsS RX3 67 yX3_requireCard wsX3_requireCard) := goodIn_app (goodIn_of _ (by decide +kernel)) ggX3_sure_X3_requireCard
set_option maxRecDepth 20000 in
theorem ggX3_sure_X3_setOf : GoodIn wsX3_sure wsX3_setOf := goodIn_r _ [17] (by decide +kernel) (by decide +kernel)
set_option maxRecDepth 20000 in
theorem gX3_sure_X3_setOf : GoodIn wsX3_sure (va_wsS RX3 96 yX3_setOf wsX3_setOf) := goodIn_app (goodIn_of _ (by decide +kernel)) ggX3_sure_X3_setOf
set_option maxRecDepth 20000 in
theorem ggX3_sure_X1_firstPlaceOf : GoodIn wsX3_sure wsX1_firstPlaceOf := goodIn_r _ [22, 23, 38, 39] (by decide +kernel) (by decide +kernel)
set_option maxRecDepth 20000 in
theorem gX3_sure_X1_firstPlaceOf : GoodIn wsX3_sure (wsV RX3 70 RX1 yX1_firstPlaceOf wsX1_firstPlaceOf) := goodIn_app (goodIn_of _ (by decide +kernel)) ggX3_sure_X1_firstPlaceOf
theorem dX3_sure_0 : decode cX3_sure 0 = .ok (.aload_n 0, 1) := by decide +kernel
theorem dX3_sure_1 : decode cX3_sure 1 = .ok (.iload_n 1, 1) := by decide +kernel
theorem dX3_sure_2 : decode cX3_sure 2 = .ok (.invokevirtual 86, 3) := by decide +kernel
theorem dX3_sure_5 : decode cX3_sure 5 = .ok (.astore_n 3, 1) := by decide +kernel
theorem dX3_sure_6 : decode cX3_sure 6 = .ok (.iload_n 2, 1) := by decide +kernel
theorem dX3_sure_7 : decode cX3_sure 7 = .ok (.invokestatic 67, 3) := by decide +kernel
theorem dX3_sure_10 : decode cX3_sure 10 = .ok (.aload_n 3, 1) := by decide +kernel
theorem dX3_sure_11 : decode cX3_sure 11 = .ok (.getfield 93, 3) := by decide +kernel
theorem dX3_sure_14 : decode cX3_sure 14 = .ok (.iload_n 2, 1) := by decide +kernel
theorem dX3_sure_15 : decode cX3_sure 15 = .ok (.invokestatic 96, 3) := by decide +kernel
theorem dX3_sure_18 : decode cX3_sure 18 = .ok (.invokevirtual 70, 3) := by decide +kernel
theorem dX3_sure_21 : decode cX3_sure 21 = .ok (.ireturn, 1) := by decide +kernel
set_option maxRecDepth 20000 in
theorem ggX3_watcher_X3_watcherOf : GoodIn wsX3_watcher wsX3_watcherOf := goodIn_ca (goodIn_r _ [8, 1, 2, 9, 47, 48, 49, 50, 51, 52, 53, 54, 55, 56] (by decide +kernel) (by decide +kernel)) (goodIn_sub (fun _ h => List.mem_cons_of_mem _ (List.mem_append_right _ h)) (by decide +kernel))
set_option maxRecDepth 20000 in
theorem gX3_watcher_X3_watcherOf : GoodIn wsX3_watcher (wsV RX3 86 RX3 yX3_watcherOf wsX3_watcherOf) := goodIn_app (goodIn_of _ (by decide +kernel)) ggX3_watcher_X3_watcherOf
set_option maxRecDepth 20000 in
theorem ggX3_watcher_X2_placesHeldPossible : GoodIn wsX3_watcher wsX2_placesHeldPossible := goodIn_r _ [14, 15, 16, 17, 18, 19, 20, 21, 22, 7, 23, 24, 25, 43, 44, 45, 46, 57, 58] (by decide +kernel) (by decide +kernel)
set_option maxRecDepth 20000 in
theorem gX3_watcher_X2_placesHeldPossible : GoodIn wsX3_watcher (wsV RX3 99 RX2 yX2_placesHeldPossible wsX2_placesHeldPossible) := goodIn_app (goodIn_of _ (by decide +kernel)) ggX3_watcher_X2_placesHeldPossible
set_option maxRecDepth 20000 in
theorem ggX3_watcher_X2_placesSettled : GoodIn wsX3_watcher wsX2_placesSettled := goodIn_r _ [29, 15, 16, 17, 18, 19, 20, 21, 22, 7, 23, 30, 31, 32, 33, 34, 35, 36, 37, 38, 43, 44, 45, 46, 57, 58] (by decide +kernel) (by decide +kernel)
set_option maxRecDepth 20000 in
theorem gX3_watcher_X2_placesSettled : GoodIn wsX3_watcher (wsV RX3 103 RX2 yX2_placesSettled wsX2_placesSettled) := goodIn_app (goodIn_of _ (by decide +kernel)) ggX3_watcher_X2_placesSettled
set_option maxRecDepth 20000 in
theorem ggX3_watcher_X2_placesSettledRightly : GoodIn wsX3_watcher wsX2_placesSettledRightly := goodIn_r _ [42, 15, 16, 17, 18, 19, 20, 21, 22, 7, 23, 24, 25, 43, 44, 45, 46, 57, 58] (by decide +kernel) (by decide +kernel)
set_option maxRecDepth 20000 in
theorem gX3_watcher_X2_placesSettledRightly : GoodIn wsX3_watcher (wsV RX3 107 RX2 yX2_placesSettledRightly wsX2_placesSettledRightly) := goodIn_app (goodIn_of _ (by decide +kernel)) ggX3_watcher_X2_placesSettledRightly
theorem dX3_watcher_0 : decode cX3_watcher 0 = .ok (.aload_n 0, 1) := by decide +kernel
theorem dX3_watcher_1 : decode cX3_watcher 1 = .ok (.iload_n 1, 1) := by decide +kernel
theorem dX3_watcher_2 : decode cX3_watcher 2 = .ok (.invokevirtual 86, 3) := by decide +kernel
theorem dX3_watcher_5 : decode cX3_watcher 5 = .ok (.astore_n 3, 1) := by decide +kernel
theorem dX3_watcher_6 : decode cX3_watcher 6 = .ok (.iload_n 2, 1) := by decide +kernel
theorem dX3_watcher_7 : decode cX3_watcher 7 = .ok (.tableswitch 83 0 5 #[37, 50, 59, 64, 73, 78], 37) := by decide +kernel
theorem dX3_watcher_44 : decode cX3_watcher 44 = .ok (.aload_n 3, 1) := by decide +kernel
theorem dX3_watcher_45 : decode cX3_watcher 45 = .ok (.getfield 52, 3) := by decide +kernel
theorem dX3_watcher_48 : decode cX3_watcher 48 = .ok (.ifCond .eq 7, 3) := by decide +kernel
theorem dX3_watcher_51 : decode cX3_watcher 51 = .ok (.iconst 1, 1) := by decide +kernel
theorem dX3_watcher_52 : decode cX3_watcher 52 = .ok (.goto 4, 3) := by decide +kernel
theorem dX3_watcher_55 : decode cX3_watcher 55 = .ok (.iconst 0, 1) := by decide +kernel
theorem dX3_watcher_56 : decode cX3_watcher 56 = .ok (.ireturn, 1) := by decide +kernel
theorem dX3_watcher_57 : decode cX3_watcher 57 = .ok (.aload_n 3, 1) := by decide +kernel
theorem dX3_watcher_58 : decode cX3_watcher 58 = .ok (.aload_n 0, 1) := by decide +kernel
theorem dX3_watcher_59 : decode cX3_watcher 59 = .ok (.getfield 12, 3) := by decide +kernel
theorem dX3_watcher_62 : decode cX3_watcher 62 = .ok (.invokevirtual 99, 3) := by decide +kernel
theorem dX3_watcher_65 : decode cX3_watcher 65 = .ok (.ireturn, 1) := by decide +kernel
theorem dX3_watcher_66 : decode cX3_watcher 66 = .ok (.aload_n 3, 1) := by decide +kernel
theorem dX3_watcher_67 : decode cX3_watcher 67 = .ok (.invokevirtual 103, 3) := by decide +kernel
theorem dX3_watcher_70 : decode cX3_watcher 70 = .ok (.ireturn, 1) := by decide +kernel
theorem dX3_watcher_71 : decode cX3_watcher 71 = .ok (.aload_n 3, 1) := by decide +kernel
theorem dX3_watcher_72 : decode cX3_watcher 72 = .ok (.aload_n 0, 1) := by decide +kernel
theorem dX3_watcher_73 : decode cX3_watcher 73 = .ok (.getfield 12, 3) := by decide +kernel
theorem dX3_watcher_76 : decode cX3_watcher 76 = .ok (.invokevirtual 107, 3) := by decide +kernel
theorem dX3_watcher_79 : decode cX3_watcher 79 = .ok (.ireturn, 1) := by decide +kernel
theorem dX3_watcher_80 : decode cX3_watcher 80 = .ok (.aload_n 3, 1) := by decide +kernel
theorem dX3_watcher_81 : decode cX3_watcher 81 = .ok (.getfield 110, 3) := by decide +kernel
theorem dX3_watcher_84 : decode cX3_watcher 84 = .ok (.ireturn, 1) := by decide +kernel
theorem dX3_watcher_85 : decode cX3_watcher 85 = .ok (.aload_n 3, 1) := by decide +kernel
theorem dX3_watcher_86 : decode cX3_watcher 86 = .ok (.getfield 113, 3) := by decide +kernel
theorem dX3_watcher_89 : decode cX3_watcher 89 = .ok (.ireturn, 1) := by decide +kernel
theorem dX3_watcher_90 : decode cX3_watcher 90 = .ok (.new 116, 3) := by decide +kernel
theorem dX3_watcher_93 : decode cX3_watcher 93 = .ok (.dup, 1) := by decide +kernel
theorem dX3_watcher_94 : decode cX3_watcher 94 = .ok (.ldc 118, 2) := by decide +kernel
theorem dX3_watcher_96 : decode cX3_watcher 96 = .ok (.invokespecial 120, 3) := by decide +kernel
theorem dX3_watcher_99 : decode cX3_watcher 99 = .ok (.athrow, 1) := by decide +kernel
set_option maxRecDepth 20000 in
theorem ggX3_sit_X3_requireSixteenth : GoodIn wsX3_sit wsX3_requireSixteenth := goodIn_ca (goodIn_r _ [11, 12, 13, 14, 15, 10, 16] (by decide +kernel) (by decide +kernel)) (goodIn_sub (fun _ h => List.mem_cons_of_mem _ (List.mem_append_right _ h)) (by decide +kernel))
set_option maxRecDepth 20000 in
theorem gX3_sit_X3_requireSixteenth : GoodIn wsX3_sit (va_wsS RX3 121 yX3_requireSixteenth wsX3_requireSixteenth) := goodIn_app (goodIn_of _ (by decide +kernel)) ggX3_sit_X3_requireSixteenth
set_option maxRecDepth 20000 in
theorem ggX3_sit_X0_init : GoodIn wsX3_sit wsX0_init := goodIn_r _ [19, 20, 21, 22, 23, 24, 35, 36] (by decide +kernel) (by decide +kernel)
set_option maxRecDepth 20000 in
theorem gX3_sit_X0_init : GoodIn wsX3_sit (wsX0_init) := ggX3_sit_X0_init
theorem dX3_sit_0 : decode cX3_sit 0 = .ok (.iload_n 1, 1) := by decide +kernel
theorem dX3_sit_1 : decode cX3_sit 1 = .ok (.invokestatic 121, 3) := by decide +kernel
theorem dX3_sit_4 : decode cX3_sit 4 = .ok (.aload_n 0, 1) := by decide +kernel
theorem dX3_sit_5 : decode cX3_sit 5 = .ok (.getfield 124, 3) := by decide +kernel
theorem dX3_sit_8 : decode cX3_sit 8 = .ok (.istore_n 2, 1) := by decide +kernel
theorem dX3_sit_9 : decode cX3_sit 9 = .ok (.iload_n 2, 1) := by decide +kernel
theorem dX3_sit_10 : decode cX3_sit 10 = .ok (.ifCond .lt 12, 3) := by decide +kernel
theorem dX3_sit_13 : decode cX3_sit 13 = .ok (.iload_n 2, 1) := by decide +kernel
theorem dX3_sit_14 : decode cX3_sit 14 = .ok (.aload_n 0, 1) := by decide +kernel
theorem dX3_sit_15 : decode cX3_sit 15 = .ok (.getfield 27, 3) := by decide +kernel
theorem dX3_sit_18 : decode cX3_sit 18 = .ok (.arraylength, 1) := by decide +kernel
theorem dX3_sit_19 : decode cX3_sit 19 = .ok (.if_icmp .lt 13, 3) := by decide +kernel
theorem dX3_sit_22 : decode cX3_sit 22 = .ok (.new 76, 3) := by decide +kernel
theorem dX3_sit_25 : decode cX3_sit 25 = .ok (.dup, 1) := by decide +kernel
theorem dX3_sit_26 : decode cX3_sit 26 = .ok (.ldc 127, 2) := by decide +kernel
theorem dX3_sit_28 : decode cX3_sit 28 = .ok (.invokespecial 80, 3) := by decide +kernel
theorem dX3_sit_31 : decode cX3_sit 31 = .ok (.athrow, 1) := by decide +kernel
theorem dX3_sit_32 : decode cX3_sit 32 = .ok (.aload_n 0, 1) := by decide +kernel
theorem dX3_sit_33 : decode cX3_sit 33 = .ok (.getfield 27, 3) := by decide +kernel
theorem dX3_sit_36 : decode cX3_sit 36 = .ok (.iload_n 2, 1) := by decide +kernel
theorem dX3_sit_37 : decode cX3_sit 37 = .ok (.new 25, 3) := by decide +kernel
theorem dX3_sit_40 : decode cX3_sit 40 = .ok (.dup, 1) := by decide +kernel
theorem dX3_sit_41 : decode cX3_sit 41 = .ok (.iload_n 1, 1) := by decide +kernel
theorem dX3_sit_42 : decode cX3_sit 42 = .ok (.invokespecial 129, 3) := by decide +kernel
theorem dX3_sit_45 : decode cX3_sit 45 = .ok (.aastore, 1) := by decide +kernel
theorem dX3_sit_46 : decode cX3_sit 46 = .ok (.aload_n 0, 1) := by decide +kernel
theorem dX3_sit_47 : decode cX3_sit 47 = .ok (.dup, 1) := by decide +kernel
theorem dX3_sit_48 : decode cX3_sit 48 = .ok (.getfield 124, 3) := by decide +kernel
theorem dX3_sit_51 : decode cX3_sit 51 = .ok (.iconst 1, 1) := by decide +kernel
theorem dX3_sit_52 : decode cX3_sit 52 = .ok (.iadd, 1) := by decide +kernel
theorem dX3_sit_53 : decode cX3_sit 53 = .ok (.putfield 124, 3) := by decide +kernel
theorem dX3_sit_56 : decode cX3_sit 56 = .ok (.iload_n 2, 1) := by decide +kernel
theorem dX3_sit_57 : decode cX3_sit 57 = .ok (.ireturn, 1) := by decide +kernel
set_option maxRecDepth 20000 in
theorem ggX3_fan_X3_requireSixteenth : GoodIn wsX3_fan wsX3_requireSixteenth := goodIn_ca (goodIn_r _ [5, 6, 7, 8, 9, 4, 10] (by decide +kernel) (by decide +kernel)) (goodIn_sub (fun _ h => List.mem_cons_of_mem _ (List.mem_append_right _ h)) (by decide +kernel))
set_option maxRecDepth 20000 in
theorem gX3_fan_X3_requireSixteenth : GoodIn wsX3_fan (va_wsS RX3 121 yX3_requireSixteenth wsX3_requireSixteenth) := goodIn_app (goodIn_of _ (by decide +kernel)) ggX3_fan_X3_requireSixteenth
theorem dX3_fan_0 : decode cX3_fan 0 = .ok (.iload_n 1, 1) := by decide +kernel
theorem dX3_fan_1 : decode cX3_fan 1 = .ok (.invokestatic 121, 3) := by decide +kernel
theorem dX3_fan_4 : decode cX3_fan 4 = .ok (.aload_n 0, 1) := by decide +kernel
theorem dX3_fan_5 : decode cX3_fan 5 = .ok (.getfield 131, 3) := by decide +kernel
theorem dX3_fan_8 : decode cX3_fan 8 = .ok (.istore_n 2, 1) := by decide +kernel
theorem dX3_fan_9 : decode cX3_fan 9 = .ok (.aload_n 0, 1) := by decide +kernel
theorem dX3_fan_10 : decode cX3_fan 10 = .ok (.iload_n 1, 1) := by decide +kernel
theorem dX3_fan_11 : decode cX3_fan 11 = .ok (.putfield 131, 3) := by decide +kernel
theorem dX3_fan_14 : decode cX3_fan 14 = .ok (.iload_n 2, 1) := by decide +kernel
theorem dX3_fan_15 : decode cX3_fan 15 = .ok (.ireturn, 1) := by decide +kernel
set_option maxRecDepth 20000 in
theorem ggX3_take_X3_playerOf : GoodIn wsX3_take wsX3_playerOf := goodIn_ca (goodIn_r _ [8, 9, 10, 11, 26, 27, 28, 29, 30, 31, 32, 33, 34, 35] (by decide +kernel) (by decide +kernel)) (goodIn_sub (fun _ h => List.mem_cons_of_mem _ (List.mem_append_right _ h)) (by decide +kernel))
set_option maxRecDepth 20000 in
theorem gX3_take_X3_playerOf : GoodIn wsX3_take (wsV RX3 134 RX3 yX3_playerOf wsX3_playerOf) := goodIn_app (goodIn_of _ (by decide +kernel)) ggX3_take_X3_playerOf
set_option maxRecDepth 20000 in
theorem ggX3_take_J9_floorMod_7cf53 : GoodIn wsX3_take wsJ9_floorMod_7cf53 := goodIn_r _ [15] (by decide +kernel) (by decide +kernel)
set_option maxRecDepth 20000 in
theorem gX3_take_J9_floorMod_7cf53 : GoodIn wsX3_take (va_wsS RX3 144 yJ9_floorMod_7cf53 wsJ9_floorMod_7cf53) := goodIn_app (goodIn_of _ (by decide +kernel)) ggX3_take_J9_floorMod_7cf53
set_option maxRecDepth 20000 in
theorem ggX3_take_X1_at : GoodIn wsX3_take wsX1_at := goodIn_r _ [20, 21, 22, 7, 23, 36, 37] (by decide +kernel) (by decide +kernel)
set_option maxRecDepth 20000 in
theorem gX3_take_X1_at : GoodIn wsX3_take (wsV RX3 48 RX1 yX1_at wsX1_at) := goodIn_app (goodIn_of _ (by decide +kernel)) ggX3_take_X1_at
theorem dX3_take_0 : decode cX3_take 0 = .ok (.aload_n 0, 1) := by decide +kernel
theorem dX3_take_1 : decode cX3_take 1 = .ok (.iload_n 1, 1) := by decide +kernel
theorem dX3_take_2 : decode cX3_take 2 = .ok (.invokevirtual 134, 3) := by decide +kernel
theorem dX3_take_5 : decode cX3_take 5 = .ok (.astore_n 2, 1) := by decide +kernel
theorem dX3_take_6 : decode cX3_take 6 = .ok (.aload_n 2, 1) := by decide +kernel
theorem dX3_take_7 : decode cX3_take 7 = .ok (.getfield 138, 3) := by decide +kernel
theorem dX3_take_10 : decode cX3_take 10 = .ok (.aload_n 0, 1) := by decide +kernel
theorem dX3_take_11 : decode cX3_take 11 = .ok (.getfield 131, 3) := by decide +kernel
theorem dX3_take_14 : decode cX3_take 14 = .ok (.iadd, 1) := by decide +kernel
theorem dX3_take_15 : decode cX3_take 15 = .ok (.aload_n 0, 1) := by decide +kernel
theorem dX3_take_16 : decode cX3_take 16 = .ok (.getfield 141, 3) := by decide +kernel
theorem dX3_take_19 : decode cX3_take 19 = .ok (.iadd, 1) := by decide +kernel
theorem dX3_take_20 : decode cX3_take 20 = .ok (.bipush 16, 2) := by decide +kernel
theorem dX3_take_22 : decode cX3_take 22 = .ok (.invokestatic 144, 3) := by decide +kernel
theorem dX3_take_25 : decode cX3_take 25 = .ok (.istore_n 3, 1) := by decide +kernel
theorem dX3_take_26 : decode cX3_take 26 = .ok (.aload_n 2, 1) := by decide +kernel
theorem dX3_take_27 : decode cX3_take 27 = .ok (.aload_n 0, 1) := by decide +kernel
theorem dX3_take_28 : decode cX3_take 28 = .ok (.getfield 12, 3) := by decide +kernel
theorem dX3_take_31 : decode cX3_take 31 = .ok (.iload_n 3, 1) := by decide +kernel
theorem dX3_take_32 : decode cX3_take 32 = .ok (.invokevirtual 48, 3) := by decide +kernel
theorem dX3_take_35 : decode cX3_take 35 = .ok (.putfield 150, 3) := by decide +kernel
theorem dX3_take_38 : decode cX3_take 38 = .ok (.aload_n 0, 1) := by decide +kernel
theorem dX3_take_39 : decode cX3_take 39 = .ok (.dup, 1) := by decide +kernel
theorem dX3_take_40 : decode cX3_take 40 = .ok (.getfield 141, 3) := by decide +kernel
theorem dX3_take_43 : decode cX3_take 43 = .ok (.iconst 1, 1) := by decide +kernel
theorem dX3_take_44 : decode cX3_take 44 = .ok (.iadd, 1) := by decide +kernel
theorem dX3_take_45 : decode cX3_take 45 = .ok (.putfield 141, 3) := by decide +kernel
theorem dX3_take_48 : decode cX3_take 48 = .ok (.aload_n 2, 1) := by decide +kernel
theorem dX3_take_49 : decode cX3_take 49 = .ok (.getfield 150, 3) := by decide +kernel
theorem dX3_take_52 : decode cX3_take 52 = .ok (.ireturn, 1) := by decide +kernel
set_option maxRecDepth 20000 in
theorem ggX3_force_X3_playerOf : GoodIn wsX3_force wsX3_playerOf := goodIn_ca (goodIn_r _ [7, 8, 9, 10, 27, 28, 29, 30, 31, 32, 33, 34, 35, 36] (by decide +kernel) (by decide +kernel)) (goodIn_sub (fun _ h => List.mem_cons_of_mem _ (List.mem_append_right _ h)) (by decide +kernel))
set_option maxRecDepth 20000 in
theorem gX3_force_X3_playerOf : GoodIn wsX3_force (wsV RX3 134 RX3 yX3_playerOf wsX3_playerOf) := goodIn_app (goodIn_of _ (by decide +kernel)) ggX3_force_X3_playerOf
set_option maxRecDepth 20000 in
theorem ggX3_force_X3_requireCard : GoodIn wsX3_force wsX3_requireCard := goodIn_ca (goodIn_r _ [13, 8, 9, 14, 15, 6, 16] (by decide +kernel) (by decide +kernel)) (goodIn_sub (fun _ h => List.mem_cons_of_mem _ (List.mem_append_right _ h)) (by decide +kernel))
set_option maxRecDepth 20000 in
theorem gX3_force_X3_requireCard : GoodIn wsX3_force (va_wsS RX3 67 yX3_requireCard wsX3_requireCard) := goodIn_app (goodIn_of _ (by decide +kernel)) ggX3_force_X3_requireCard
set_option maxRecDepth 20000 in
theorem ggX3_force_X1_firstPlaceOf : GoodIn wsX3_force wsX1_firstPlaceOf := goodIn_r _ [21, 22, 39, 40] (by decide +kernel) (by decide +kernel)
set_option maxRecDepth 20000 in
theorem gX3_force_X1_firstPlaceOf : GoodIn wsX3_force (wsV RX3 70 RX1 yX1_firstPlaceOf wsX1_firstPlaceOf) := goodIn_app (goodIn_of _ (by decide +kernel)) ggX3_force_X1_firstPlaceOf
set_option maxRecDepth 20000 in
theorem ggX3_force_J9_floorMod_7cf53 : GoodIn wsX3_force wsJ9_floorMod_7cf53 := goodIn_r _ [26] (by decide +kernel) (by decide +kernel)
set_option maxRecDepth 20000 in
theorem gX3_force_J9_floorMod_7cf53 : GoodIn wsX3_force (va_wsS RX3 144 yJ9_floorMod_7cf53 wsJ9_floorMod_7cf53) := goodIn_app (goodIn_of _ (by decide +kernel)) ggX3_force_J9_floorMod_7cf53
theorem dX3_force_0 : decode cX3_force 0 = .ok (.aload_n 0, 1) := by decide +kernel
theorem dX3_force_1 : decode cX3_force 1 = .ok (.iload_n 1, 1) := by decide +kernel
theorem dX3_force_2 : decode cX3_force 2 = .ok (.invokevirtual 134, 3) := by decide +kernel
theorem dX3_force_5 : decode cX3_force 5 = .ok (.astore_n 3, 1) := by decide +kernel
theorem dX3_force_6 : decode cX3_force 6 = .ok (.iload_n 2, 1) := by decide +kernel
theorem dX3_force_7 : decode cX3_force 7 = .ok (.invokestatic 67, 3) := by decide +kernel
theorem dX3_force_10 : decode cX3_force 10 = .ok (.aload_n 0, 1) := by decide +kernel
theorem dX3_force_11 : decode cX3_force 11 = .ok (.getfield 12, 3) := by decide +kernel
theorem dX3_force_14 : decode cX3_force 14 = .ok (.iload_n 2, 1) := by decide +kernel
theorem dX3_force_15 : decode cX3_force 15 = .ok (.invokevirtual 70, 3) := by decide +kernel
theorem dX3_force_18 : decode cX3_force 18 = .ok (.aload_n 3, 1) := by decide +kernel
theorem dX3_force_19 : decode cX3_force 19 = .ok (.getfield 138, 3) := by decide +kernel
theorem dX3_force_22 : decode cX3_force 22 = .ok (.isub, 1) := by decide +kernel
theorem dX3_force_23 : decode cX3_force 23 = .ok (.aload_n 0, 1) := by decide +kernel
theorem dX3_force_24 : decode cX3_force 24 = .ok (.getfield 141, 3) := by decide +kernel
theorem dX3_force_27 : decode cX3_force 27 = .ok (.isub, 1) := by decide +kernel
theorem dX3_force_28 : decode cX3_force 28 = .ok (.bipush 16, 2) := by decide +kernel
theorem dX3_force_30 : decode cX3_force 30 = .ok (.invokestatic 144, 3) := by decide +kernel
theorem dX3_force_33 : decode cX3_force 33 = .ok (.ireturn, 1) := by decide +kernel
set_option maxRecDepth 20000 in
theorem ggX3_took_X3_playerOf : GoodIn wsX3_took wsX3_playerOf := goodIn_ca (goodIn_r _ [5, 6, 7, 8, 11, 12, 13, 14, 15, 16, 17, 18, 19, 20] (by decide +kernel) (by decide +kernel)) (goodIn_sub (fun _ h => List.mem_cons_of_mem _ (List.mem_append_right _ h)) (by decide +kernel))
set_option maxRecDepth 20000 in
theorem gX3_took_X3_playerOf : GoodIn wsX3_took (wsV RX3 134 RX3 yX3_playerOf wsX3_playerOf) := goodIn_app (goodIn_of _ (by decide +kernel)) ggX3_took_X3_playerOf
theorem dX3_took_0 : decode cX3_took 0 = .ok (.aload_n 0, 1) := by decide +kernel
theorem dX3_took_1 : decode cX3_took 1 = .ok (.iload_n 1, 1) := by decide +kernel
theorem dX3_took_2 : decode cX3_took 2 = .ok (.invokevirtual 134, 3) := by decide +kernel
theorem dX3_took_5 : decode cX3_took 5 = .ok (.getfield 150, 3) := by decide +kernel
theorem dX3_took_8 : decode cX3_took 8 = .ok (.ireturn, 1) := by decide +kernel
set_option maxRecDepth 20000 in
theorem ggX3_count_X1_placesInOrder : GoodIn wsX3_count wsX1_placesInOrder := goodIn_r _ [14, 15, 26, 27] (by decide +kernel) (by decide +kernel)
set_option maxRecDepth 20000 in
theorem gX3_count_X1_placesInOrder : GoodIn wsX3_count (wsV RX3 153 RX1 yX1_placesInOrder wsX1_placesInOrder) := goodIn_app (goodIn_of _ (by decide +kernel)) ggX3_count_X1_placesInOrder
theorem dX3_count_0 : decode cX3_count 0 = .ok (.iload_n 1, 1) := by decide +kernel
theorem dX3_count_1 : decode cX3_count 1 = .ok (.tableswitch 81 0 6 #[43, 48, 53, 58, 63, 68, 73], 43) := by decide +kernel
theorem dX3_count_44 : decode cX3_count 44 = .ok (.aload_n 0, 1) := by decide +kernel
theorem dX3_count_45 : decode cX3_count 45 = .ok (.getfield 44, 3) := by decide +kernel
theorem dX3_count_48 : decode cX3_count 48 = .ok (.ireturn, 1) := by decide +kernel
theorem dX3_count_49 : decode cX3_count 49 = .ok (.aload_n 0, 1) := by decide +kernel
theorem dX3_count_50 : decode cX3_count 50 = .ok (.getfield 56, 3) := by decide +kernel
theorem dX3_count_53 : decode cX3_count 53 = .ok (.ireturn, 1) := by decide +kernel
theorem dX3_count_54 : decode cX3_count 54 = .ok (.aload_n 0, 1) := by decide +kernel
theorem dX3_count_55 : decode cX3_count 55 = .ok (.getfield 73, 3) := by decide +kernel
theorem dX3_count_58 : decode cX3_count 58 = .ok (.ireturn, 1) := by decide +kernel
theorem dX3_count_59 : decode cX3_count 59 = .ok (.aload_n 0, 1) := by decide +kernel
theorem dX3_count_60 : decode cX3_count 60 = .ok (.getfield 124, 3) := by decide +kernel
theorem dX3_count_63 : decode cX3_count 63 = .ok (.ireturn, 1) := by decide +kernel
theorem dX3_count_64 : decode cX3_count 64 = .ok (.aload_n 0, 1) := by decide +kernel
theorem dX3_count_65 : decode cX3_count 65 = .ok (.getfield 131, 3) := by decide +kernel
theorem dX3_count_68 : decode cX3_count 68 = .ok (.ireturn, 1) := by decide +kernel
theorem dX3_count_69 : decode cX3_count 69 = .ok (.aload_n 0, 1) := by decide +kernel
theorem dX3_count_70 : decode cX3_count 70 = .ok (.getfield 141, 3) := by decide +kernel
theorem dX3_count_73 : decode cX3_count 73 = .ok (.ireturn, 1) := by decide +kernel
theorem dX3_count_74 : decode cX3_count 74 = .ok (.aload_n 0, 1) := by decide +kernel
theorem dX3_count_75 : decode cX3_count 75 = .ok (.getfield 12, 3) := by decide +kernel
theorem dX3_count_78 : decode cX3_count 78 = .ok (.invokevirtual 153, 3) := by decide +kernel
theorem dX3_count_81 : decode cX3_count 81 = .ok (.ireturn, 1) := by decide +kernel
theorem dX3_count_82 : decode cX3_count 82 = .ok (.new 116, 3) := by decide +kernel
theorem dX3_count_85 : decode cX3_count 85 = .ok (.dup, 1) := by decide +kernel
theorem dX3_count_86 : decode cX3_count 86 = .ok (.ldc 156, 2) := by decide +kernel
theorem dX3_count_88 : decode cX3_count 88 = .ok (.invokespecial 120, 3) := by decide +kernel
theorem dX3_count_91 : decode cX3_count 91 = .ok (.athrow, 1) := by decide +kernel
set_option maxRecDepth 20000 in
theorem ggX3_back_X3_requireWay : GoodIn wsX3_back wsX3_requireWay := goodIn_ca (goodIn_r _ [5, 6, 7, 8, 9, 4, 10] (by decide +kernel) (by decide +kernel)) (goodIn_sub (fun _ h => List.mem_cons_of_mem _ (List.mem_append_right _ h)) (by decide +kernel))
set_option maxRecDepth 20000 in
theorem gX3_back_X3_requireWay : GoodIn wsX3_back (va_wsS RX3 34 yX3_requireWay wsX3_requireWay) := goodIn_app (goodIn_of _ (by decide +kernel)) ggX3_back_X3_requireWay
set_option maxRecDepth 20000 in
theorem ggX3_back_X1_putInOrder : GoodIn wsX3_back wsX1_putInOrder := goodIn_r _ [15, 16, 43, 44] (by decide +kernel) (by decide +kernel)
set_option maxRecDepth 20000 in
theorem gX3_back_X1_putInOrder : GoodIn wsX3_back (wsV RX3 31 RX1 yX1_putInOrder wsX1_putInOrder) := goodIn_app (goodIn_of _ (by decide +kernel)) ggX3_back_X1_putInOrder
set_option maxRecDepth 20000 in
theorem ggX3_back_X1_carry : GoodIn wsX3_back wsX1_carry := goodIn_r _ [20, 21, 16, 22, 4, 23, 24, 25, 26, 27, 28, 43, 44] (by decide +kernel) (by decide +kernel)
set_option maxRecDepth 20000 in
theorem gX3_back_X1_carry : GoodIn wsX3_back (wsV RX3 38 RX1 yX1_carry wsX1_carry) := goodIn_app (goodIn_of _ (by decide +kernel)) ggX3_back_X1_carry
set_option maxRecDepth 20000 in
theorem ggX3_back_X1_placesInOrder : GoodIn wsX3_back wsX1_placesInOrder := goodIn_r _ [32, 16, 43, 44] (by decide +kernel) (by decide +kernel)
set_option maxRecDepth 20000 in
theorem gX3_back_X1_placesInOrder : GoodIn wsX3_back (wsV RX3 153 RX1 yX1_placesInOrder wsX1_placesInOrder) := goodIn_app (goodIn_of _ (by decide +kernel)) ggX3_back_X1_placesInOrder
theorem dX3_back_0 : decode cX3_back 0 = .ok (.iload_n 1, 1) := by decide +kernel
theorem dX3_back_1 : decode cX3_back 1 = .ok (.iload_n 2, 1) := by decide +kernel
theorem dX3_back_2 : decode cX3_back 2 = .ok (.invokestatic 34, 3) := by decide +kernel
theorem dX3_back_5 : decode cX3_back 5 = .ok (.aload_n 0, 1) := by decide +kernel
theorem dX3_back_6 : decode cX3_back 6 = .ok (.getfield 16, 3) := by decide +kernel
theorem dX3_back_9 : decode cX3_back 9 = .ok (.invokevirtual 31, 3) := by decide +kernel
theorem dX3_back_12 : decode cX3_back 12 = .ok (.iconst 0, 1) := by decide +kernel
theorem dX3_back_13 : decode cX3_back 13 = .ok (.istore_n 3, 1) := by decide +kernel
theorem dX3_back_14 : decode cX3_back 14 = .ok (.aload_n 0, 1) := by decide +kernel
theorem dX3_back_15 : decode cX3_back 15 = .ok (.getfield 16, 3) := by decide +kernel
theorem dX3_back_18 : decode cX3_back 18 = .ok (.iload_n 1, 1) := by decide +kernel
theorem dX3_back_19 : decode cX3_back 19 = .ok (.iload_n 2, 1) := by decide +kernel
theorem dX3_back_20 : decode cX3_back 20 = .ok (.invokevirtual 38, 3) := by decide +kernel
theorem dX3_back_23 : decode cX3_back 23 = .ok (.iinc 3 1, 3) := by decide +kernel
theorem dX3_back_26 : decode cX3_back 26 = .ok (.aload_n 0, 1) := by decide +kernel
theorem dX3_back_27 : decode cX3_back 27 = .ok (.getfield 16, 3) := by decide +kernel
theorem dX3_back_30 : decode cX3_back 30 = .ok (.invokevirtual 153, 3) := by decide +kernel
theorem dX3_back_33 : decode cX3_back 33 = .ok (.bipush 16, 2) := by decide +kernel
theorem dX3_back_35 : decode cX3_back 35 = .ok (.if_icmp .ge 10, 3) := by decide +kernel
theorem dX3_back_38 : decode cX3_back 38 = .ok (.iload_n 3, 1) := by decide +kernel
theorem dX3_back_39 : decode cX3_back 39 = .ok (.sipush 1000, 3) := by decide +kernel
theorem dX3_back_42 : decode cX3_back 42 = .ok (.if_icmp .lt (-28), 3) := by decide +kernel
theorem dX3_back_45 : decode cX3_back 45 = .ok (.iload_n 3, 1) := by decide +kernel
theorem dX3_back_46 : decode cX3_back 46 = .ok (.ireturn, 1) := by decide +kernel
set_option maxRecDepth 20000 in
theorem ggX3_bring_X3_requireCard : GoodIn wsX3_bring wsX3_requireCard := goodIn_ca (goodIn_r _ [5, 6, 7, 8, 9, 4, 10] (by decide +kernel) (by decide +kernel)) (goodIn_sub (fun _ h => List.mem_cons_of_mem _ (List.mem_append_right _ h)) (by decide +kernel))
set_option maxRecDepth 20000 in
theorem gX3_bring_X3_requireCard : GoodIn wsX3_bring (va_wsS RX3 67 yX3_requireCard wsX3_requireCard) := goodIn_app (goodIn_of _ (by decide +kernel)) ggX3_bring_X3_requireCard
set_option maxRecDepth 20000 in
theorem ggX3_bring_X3_requirePlace : GoodIn wsX3_bring wsX3_requirePlace := goodIn_ca (goodIn_r _ [13, 6, 7, 8, 9, 4, 10] (by decide +kernel) (by decide +kernel)) (goodIn_sub (fun _ h => List.mem_cons_of_mem _ (List.mem_append_right _ h)) (by decide +kernel))
set_option maxRecDepth 20000 in
theorem gX3_bring_X3_requirePlace : GoodIn wsX3_bring (va_wsS RX3 59 yX3_requirePlace wsX3_requirePlace) := goodIn_app (goodIn_of _ (by decide +kernel)) ggX3_bring_X3_requirePlace
set_option maxRecDepth 20000 in
theorem ggX3_bring_X3_setOf : GoodIn wsX3_bring wsX3_setOf := goodIn_r _ [16] (by decide +kernel) (by decide +kernel)
set_option maxRecDepth 20000 in
theorem gX3_bring_X3_setOf : GoodIn wsX3_bring (va_wsS RX3 96 yX3_setOf wsX3_setOf) := goodIn_app (goodIn_of _ (by decide +kernel)) ggX3_bring_X3_setOf
set_option maxRecDepth 20000 in
theorem ggX3_bring_X1_firstPlaceOf : GoodIn wsX3_bring wsX1_firstPlaceOf := goodIn_r _ [21, 22, 42, 43] (by decide +kernel) (by decide +kernel)
set_option maxRecDepth 20000 in
theorem gX3_bring_X1_firstPlaceOf : GoodIn wsX3_bring (wsV RX3 70 RX1 yX1_firstPlaceOf wsX1_firstPlaceOf) := goodIn_app (goodIn_of _ (by decide +kernel)) ggX3_bring_X1_firstPlaceOf
set_option maxRecDepth 20000 in
theorem ggX3_bring_X3_placesOneWayFrom : GoodIn wsX3_bring wsX3_placesOneWayFrom := goodIn_r _ [25, 14, 15, 4, 16, 26, 27, 28, 29, 30, 31] (by decide +kernel) (by decide +kernel)
set_option maxRecDepth 20000 in
theorem gX3_bring_X3_placesOneWayFrom : GoodIn wsX3_bring (va_wsS RX3 158 yX3_placesOneWayFrom wsX3_placesOneWayFrom) := goodIn_app (goodIn_of _ (by decide +kernel)) ggX3_bring_X3_placesOneWayFrom
theorem dX3_bring_0 : decode cX3_bring 0 = .ok (.iload_n 1, 1) := by decide +kernel
theorem dX3_bring_1 : decode cX3_bring 1 = .ok (.invokestatic 67, 3) := by decide +kernel
theorem dX3_bring_4 : decode cX3_bring 4 = .ok (.iload_n 2, 1) := by decide +kernel
theorem dX3_bring_5 : decode cX3_bring 5 = .ok (.invokestatic 59, 3) := by decide +kernel
theorem dX3_bring_8 : decode cX3_bring 8 = .ok (.iload_n 2, 1) := by decide +kernel
theorem dX3_bring_9 : decode cX3_bring 9 = .ok (.invokestatic 96, 3) := by decide +kernel
theorem dX3_bring_12 : decode cX3_bring 12 = .ok (.istore_n 3, 1) := by decide +kernel
theorem dX3_bring_13 : decode cX3_bring 13 = .ok (.aload_n 0, 1) := by decide +kernel
theorem dX3_bring_14 : decode cX3_bring 14 = .ok (.getfield 12, 3) := by decide +kernel
theorem dX3_bring_17 : decode cX3_bring 17 = .ok (.iload_n 1, 1) := by decide +kernel
theorem dX3_bring_18 : decode cX3_bring 18 = .ok (.invokevirtual 70, 3) := by decide +kernel
theorem dX3_bring_21 : decode cX3_bring 21 = .ok (.invokestatic 96, 3) := by decide +kernel
theorem dX3_bring_24 : decode cX3_bring 24 = .ok (.istore 4, 2) := by decide +kernel
theorem dX3_bring_26 : decode cX3_bring 26 = .ok (.iconst 0, 1) := by decide +kernel
theorem dX3_bring_27 : decode cX3_bring 27 = .ok (.istore 5, 2) := by decide +kernel
theorem dX3_bring_29 : decode cX3_bring 29 = .ok (.iload 5, 2) := by decide +kernel
theorem dX3_bring_31 : decode cX3_bring 31 = .ok (.bipush 16, 2) := by decide +kernel
theorem dX3_bring_33 : decode cX3_bring 33 = .ok (.if_icmp .ge 29, 3) := by decide +kernel
theorem dX3_bring_36 : decode cX3_bring 36 = .ok (.iload 4, 2) := by decide +kernel
theorem dX3_bring_38 : decode cX3_bring 38 = .ok (.iload_n 3, 1) := by decide +kernel
theorem dX3_bring_39 : decode cX3_bring 39 = .ok (.iand, 1) := by decide +kernel
theorem dX3_bring_40 : decode cX3_bring 40 = .ok (.ifCond .eq 6, 3) := by decide +kernel
theorem dX3_bring_43 : decode cX3_bring 43 = .ok (.iload 5, 2) := by decide +kernel
theorem dX3_bring_45 : decode cX3_bring 45 = .ok (.ireturn, 1) := by decide +kernel
theorem dX3_bring_46 : decode cX3_bring 46 = .ok (.iload 4, 2) := by decide +kernel
theorem dX3_bring_48 : decode cX3_bring 48 = .ok (.iload 4, 2) := by decide +kernel
theorem dX3_bring_50 : decode cX3_bring 50 = .ok (.invokestatic 158, 3) := by decide +kernel
theorem dX3_bring_53 : decode cX3_bring 53 = .ok (.ior, 1) := by decide +kernel
theorem dX3_bring_54 : decode cX3_bring 54 = .ok (.istore 4, 2) := by decide +kernel
theorem dX3_bring_56 : decode cX3_bring 56 = .ok (.iinc 5 1, 3) := by decide +kernel
theorem dX3_bring_59 : decode cX3_bring 59 = .ok (.goto (-30), 3) := by decide +kernel
theorem dX3_bring_62 : decode cX3_bring 62 = .ok (.iconst (-1), 1) := by decide +kernel
theorem dX3_bring_63 : decode cX3_bring 63 = .ok (.ireturn, 1) := by decide +kernel
set_option maxRecDepth 20000 in
theorem ggX3_riffles_X3_requireCard : GoodIn wsX3_riffles wsX3_requireCard := goodIn_ca (goodIn_r _ [5, 6, 7, 8, 9, 4, 10] (by decide +kernel) (by decide +kernel)) (goodIn_sub (fun _ h => List.mem_cons_of_mem _ (List.mem_append_right _ h)) (by decide +kernel))
set_option maxRecDepth 20000 in
theorem gX3_riffles_X3_requireCard : GoodIn wsX3_riffles (va_wsS RX3 67 yX3_requireCard wsX3_requireCard) := goodIn_app (goodIn_of _ (by decide +kernel)) ggX3_riffles_X3_requireCard
set_option maxRecDepth 20000 in
theorem ggX3_riffles_X3_requirePlace : GoodIn wsX3_riffles wsX3_requirePlace := goodIn_ca (goodIn_r _ [13, 6, 7, 8, 9, 4, 10] (by decide +kernel) (by decide +kernel)) (goodIn_sub (fun _ h => List.mem_cons_of_mem _ (List.mem_append_right _ h)) (by decide +kernel))
set_option maxRecDepth 20000 in
theorem gX3_riffles_X3_requirePlace : GoodIn wsX3_riffles (va_wsS RX3 59 yX3_requirePlace wsX3_requirePlace) := goodIn_app (goodIn_of _ (by decide +kernel)) ggX3_riffles_X3_requirePlace
set_option maxRecDepth 20000 in
theorem ggX3_riffles_X1_firstPlaceOf : GoodIn wsX3_riffles wsX1_firstPlaceOf := goodIn_r _ [18, 19, 39, 40] (by decide +kernel) (by decide +kernel)
set_option maxRecDepth 20000 in
theorem gX3_riffles_X1_firstPlaceOf : GoodIn wsX3_riffles (wsV RX3 70 RX1 yX1_firstPlaceOf wsX1_firstPlaceOf) := goodIn_app (goodIn_of _ (by decide +kernel)) ggX3_riffles_X1_firstPlaceOf
set_option maxRecDepth 20000 in
theorem ggX3_riffles_X3_placeAfterRiffles : GoodIn wsX3_riffles wsX3_placeAfterRiffles := goodIn_r _ [22, 23, 24, 4, 25, 26, 27, 28] (by decide +kernel) (by decide +kernel)
set_option maxRecDepth 20000 in
theorem gX3_riffles_X3_placeAfterRiffles : GoodIn wsX3_riffles (va_wsS RX3 161 yX3_placeAfterRiffles wsX3_placeAfterRiffles) := goodIn_app (goodIn_of _ (by decide +kernel)) ggX3_riffles_X3_placeAfterRiffles
theorem dX3_riffles_0 : decode cX3_riffles 0 = .ok (.iload_n 1, 1) := by decide +kernel
theorem dX3_riffles_1 : decode cX3_riffles 1 = .ok (.invokestatic 67, 3) := by decide +kernel
theorem dX3_riffles_4 : decode cX3_riffles 4 = .ok (.iload_n 2, 1) := by decide +kernel
theorem dX3_riffles_5 : decode cX3_riffles 5 = .ok (.invokestatic 59, 3) := by decide +kernel
theorem dX3_riffles_8 : decode cX3_riffles 8 = .ok (.aload_n 0, 1) := by decide +kernel
theorem dX3_riffles_9 : decode cX3_riffles 9 = .ok (.getfield 12, 3) := by decide +kernel
theorem dX3_riffles_12 : decode cX3_riffles 12 = .ok (.iload_n 1, 1) := by decide +kernel
theorem dX3_riffles_13 : decode cX3_riffles 13 = .ok (.invokevirtual 70, 3) := by decide +kernel
theorem dX3_riffles_16 : decode cX3_riffles 16 = .ok (.istore_n 3, 1) := by decide +kernel
theorem dX3_riffles_17 : decode cX3_riffles 17 = .ok (.iconst 0, 1) := by decide +kernel
theorem dX3_riffles_18 : decode cX3_riffles 18 = .ok (.istore 4, 2) := by decide +kernel
theorem dX3_riffles_20 : decode cX3_riffles 20 = .ok (.iload 4, 2) := by decide +kernel
theorem dX3_riffles_22 : decode cX3_riffles 22 = .ok (.bipush 16, 2) := by decide +kernel
theorem dX3_riffles_24 : decode cX3_riffles 24 = .ok (.if_icmp .ge 49, 3) := by decide +kernel
theorem dX3_riffles_27 : decode cX3_riffles 27 = .ok (.iconst 1, 1) := by decide +kernel
theorem dX3_riffles_28 : decode cX3_riffles 28 = .ok (.iload 4, 2) := by decide +kernel
theorem dX3_riffles_30 : decode cX3_riffles 30 = .ok (.ishl, 1) := by decide +kernel
theorem dX3_riffles_31 : decode cX3_riffles 31 = .ok (.istore 5, 2) := by decide +kernel
theorem dX3_riffles_33 : decode cX3_riffles 33 = .ok (.iconst 0, 1) := by decide +kernel
theorem dX3_riffles_34 : decode cX3_riffles 34 = .ok (.istore 6, 2) := by decide +kernel
theorem dX3_riffles_36 : decode cX3_riffles 36 = .ok (.iload 6, 2) := by decide +kernel
theorem dX3_riffles_38 : decode cX3_riffles 38 = .ok (.iload 5, 2) := by decide +kernel
theorem dX3_riffles_40 : decode cX3_riffles 40 = .ok (.if_icmp .ge 27, 3) := by decide +kernel
theorem dX3_riffles_43 : decode cX3_riffles 43 = .ok (.iload_n 3, 1) := by decide +kernel
theorem dX3_riffles_44 : decode cX3_riffles 44 = .ok (.iload 6, 2) := by decide +kernel
theorem dX3_riffles_46 : decode cX3_riffles 46 = .ok (.iload 4, 2) := by decide +kernel
theorem dX3_riffles_48 : decode cX3_riffles 48 = .ok (.invokestatic 161, 3) := by decide +kernel
theorem dX3_riffles_51 : decode cX3_riffles 51 = .ok (.iload_n 2, 1) := by decide +kernel
theorem dX3_riffles_52 : decode cX3_riffles 52 = .ok (.if_icmp .ne 9, 3) := by decide +kernel
theorem dX3_riffles_55 : decode cX3_riffles 55 = .ok (.iload 5, 2) := by decide +kernel
theorem dX3_riffles_57 : decode cX3_riffles 57 = .ok (.iload 6, 2) := by decide +kernel
theorem dX3_riffles_59 : decode cX3_riffles 59 = .ok (.iadd, 1) := by decide +kernel
theorem dX3_riffles_60 : decode cX3_riffles 60 = .ok (.ireturn, 1) := by decide +kernel
theorem dX3_riffles_61 : decode cX3_riffles 61 = .ok (.iinc 6 1, 3) := by decide +kernel
theorem dX3_riffles_64 : decode cX3_riffles 64 = .ok (.goto (-28), 3) := by decide +kernel
theorem dX3_riffles_67 : decode cX3_riffles 67 = .ok (.iinc 4 1, 3) := by decide +kernel
theorem dX3_riffles_70 : decode cX3_riffles 70 = .ok (.goto (-50), 3) := by decide +kernel
theorem dX3_riffles_73 : decode cX3_riffles 73 = .ok (.iconst (-1), 1) := by decide +kernel
theorem dX3_riffles_74 : decode cX3_riffles 74 = .ok (.ireturn, 1) := by decide +kernel
set_option maxRecDepth 20000 in
theorem ggX3_mean_X2_cardsThought : GoodIn wsX3_mean wsX2_cardsThought := goodIn_r _ [7, 8, 9, 10, 11, 12, 13, 14, 15, 16, 17, 18, 19, 20, 21, 22, 23, 24, 35, 36, 37, 38, 39, 40] (by decide +kernel) (by decide +kernel)
set_option maxRecDepth 20000 in
theorem gX3_mean_X2_cardsThought : GoodIn wsX3_mean (wsV RX3 164 RX2 yX2_cardsThought wsX2_cardsThought) := goodIn_app (goodIn_of _ (by decide +kernel)) ggX3_mean_X2_cardsThought
theorem dX3_mean_0 : decode cX3_mean 0 = .ok (.iconst 0, 1) := by decide +kernel
theorem dX3_mean_1 : decode cX3_mean 1 = .ok (.istore_n 1, 1) := by decide +kernel
theorem dX3_mean_2 : decode cX3_mean 2 = .ok (.aload_n 0, 1) := by decide +kernel
theorem dX3_mean_3 : decode cX3_mean 3 = .ok (.getfield 21, 3) := by decide +kernel
theorem dX3_mean_6 : decode cX3_mean 6 = .ok (.astore_n 2, 1) := by decide +kernel
theorem dX3_mean_7 : decode cX3_mean 7 = .ok (.aload_n 2, 1) := by decide +kernel
theorem dX3_mean_8 : decode cX3_mean 8 = .ok (.arraylength, 1) := by decide +kernel
theorem dX3_mean_9 : decode cX3_mean 9 = .ok (.istore_n 3, 1) := by decide +kernel
theorem dX3_mean_10 : decode cX3_mean 10 = .ok (.iconst 0, 1) := by decide +kernel
theorem dX3_mean_11 : decode cX3_mean 11 = .ok (.istore 4, 2) := by decide +kernel
theorem dX3_mean_13 : decode cX3_mean 13 = .ok (.iload 4, 2) := by decide +kernel
theorem dX3_mean_15 : decode cX3_mean 15 = .ok (.iload_n 3, 1) := by decide +kernel
theorem dX3_mean_16 : decode cX3_mean 16 = .ok (.if_icmp .ge 28, 3) := by decide +kernel
theorem dX3_mean_19 : decode cX3_mean 19 = .ok (.aload_n 2, 1) := by decide +kernel
theorem dX3_mean_20 : decode cX3_mean 20 = .ok (.iload 4, 2) := by decide +kernel
theorem dX3_mean_22 : decode cX3_mean 22 = .ok (.aaload, 1) := by decide +kernel
theorem dX3_mean_23 : decode cX3_mean 23 = .ok (.astore 5, 2) := by decide +kernel
theorem dX3_mean_25 : decode cX3_mean 25 = .ok (.aload 5, 2) := by decide +kernel
theorem dX3_mean_27 : decode cX3_mean 27 = .ok (.ifnull 11, 3) := by decide +kernel
theorem dX3_mean_30 : decode cX3_mean 30 = .ok (.iload_n 1, 1) := by decide +kernel
theorem dX3_mean_31 : decode cX3_mean 31 = .ok (.aload 5, 2) := by decide +kernel
theorem dX3_mean_33 : decode cX3_mean 33 = .ok (.invokevirtual 164, 3) := by decide +kernel
theorem dX3_mean_36 : decode cX3_mean 36 = .ok (.iadd, 1) := by decide +kernel
theorem dX3_mean_37 : decode cX3_mean 37 = .ok (.istore_n 1, 1) := by decide +kernel
theorem dX3_mean_38 : decode cX3_mean 38 = .ok (.iinc 4 1, 3) := by decide +kernel
theorem dX3_mean_41 : decode cX3_mean 41 = .ok (.goto (-28), 3) := by decide +kernel
theorem dX3_mean_44 : decode cX3_mean 44 = .ok (.aload_n 0, 1) := by decide +kernel
theorem dX3_mean_45 : decode cX3_mean 45 = .ok (.getfield 73, 3) := by decide +kernel
theorem dX3_mean_48 : decode cX3_mean 48 = .ok (.bipush 16, 2) := by decide +kernel
theorem dX3_mean_50 : decode cX3_mean 50 = .ok (.imul, 1) := by decide +kernel
theorem dX3_mean_51 : decode cX3_mean 51 = .ok (.istore_n 2, 1) := by decide +kernel
theorem dX3_mean_52 : decode cX3_mean 52 = .ok (.iload_n 2, 1) := by decide +kernel
theorem dX3_mean_53 : decode cX3_mean 53 = .ok (.ifCond .le 11, 3) := by decide +kernel
theorem dX3_mean_56 : decode cX3_mean 56 = .ok (.iload_n 1, 1) := by decide +kernel
theorem dX3_mean_57 : decode cX3_mean 57 = .ok (.i2d, 1) := by decide +kernel
theorem dX3_mean_58 : decode cX3_mean 58 = .ok (.iload_n 2, 1) := by decide +kernel
theorem dX3_mean_59 : decode cX3_mean 59 = .ok (.i2d, 1) := by decide +kernel
theorem dX3_mean_60 : decode cX3_mean 60 = .ok (.ddiv, 1) := by decide +kernel
theorem dX3_mean_61 : decode cX3_mean 61 = .ok (.goto 4, 3) := by decide +kernel
theorem dX3_mean_64 : decode cX3_mean 64 = .ok (.dconst 0, 1) := by decide +kernel
theorem dX3_mean_65 : decode cX3_mean 65 = .ok (.dreturn, 1) := by decide +kernel
set_option maxRecDepth 20000 in
theorem ggX3_digest_X3_count : GoodIn wsX3_digest wsX3_count := goodIn_ca (goodIn_r _ [9, 10, 11, 12, 13, 3, 14, 15, 16, 2, 17, 18, 19, 20, 21, 22, 75, 76, 77, 78, 79, 80, 81, 82, 83, 84, 87, 88] (by decide +kernel) (by decide +kernel)) (goodIn_sub (fun _ h => List.mem_cons_of_mem _ (List.mem_append_right _ h)) (by decide +kernel))
set_option maxRecDepth 20000 in
theorem gX3_digest_X3_count : GoodIn wsX3_digest (wsV RX3 169 RX3 yX3_count wsX3_count) := goodIn_app (goodIn_of _ (by decide +kernel)) ggX3_digest_X3_count
set_option maxRecDepth 20000 in
theorem ggX3_digest_X3_mixed : GoodIn wsX3_digest wsX3_mixed := goodIn_r _ [25, 26] (by decide +kernel) (by decide +kernel)
set_option maxRecDepth 20000 in
theorem gX3_digest_X3_mixed : GoodIn wsX3_digest (va_wsS RX3 172 yX3_mixed wsX3_mixed) := goodIn_app (goodIn_of _ (by decide +kernel)) ggX3_digest_X3_mixed
set_option maxRecDepth 20000 in
theorem ggX3_digest_X1_mixedInto : GoodIn wsX3_digest wsX1_mixedInto := goodIn_r _ [30, 22, 24, 8, 25, 26, 87, 88] (by decide +kernel) (by decide +kernel)
set_option maxRecDepth 20000 in
theorem gX3_digest_X1_mixedInto : GoodIn wsX3_digest (wsV RX3 176 RX1 yX1_mixedInto wsX1_mixedInto) := goodIn_app (goodIn_of _ (by decide +kernel)) ggX3_digest_X1_mixedInto
set_option maxRecDepth 20000 in
theorem ggX3_digest_X3_watcherMixedInto : GoodIn wsX3_digest wsX3_watcherMixedInto := goodIn_ca (goodIn_r _ [34, 35, 36, 37, 8, 38, 10, 11, 2, 39, 40, 41, 42, 43, 44, 45, 46, 47, 48, 49, 50, 51, 52, 20, 53, 22, 54, 55, 56, 57, 58, 59, 60, 61, 62, 63, 64, 65, 66, 67, 68, 69, 70, 71, 72, 73, 74, 23, 24, 25, 26, 27, 28, 29, 30, 89, 90, 91, 92, 75, 76, 77, 78, 79, 80, 81, 82, 83, 84, 87, 88] (by decide +kernel) (by decide +kernel)) (goodIn_sub (fun _ h => List.mem_cons_of_mem _ (List.mem_append_right _ h)) (by decide +kernel))
set_option maxRecDepth 20000 in
theorem gX3_digest_X3_watcherMixedInto : GoodIn wsX3_digest (wsV RX3 180 RX3 yX3_watcherMixedInto wsX3_watcherMixedInto) := goodIn_app (goodIn_of _ (by decide +kernel)) ggX3_digest_X3_watcherMixedInto
theorem dX3_digest_0 : decode cX3_digest 0 = .ok (.ldc2_w 167, 3) := by decide +kernel
theorem dX3_digest_3 : decode cX3_digest 3 = .ok (.lstore_n 1, 1) := by decide +kernel
theorem dX3_digest_4 : decode cX3_digest 4 = .ok (.iconst 0, 1) := by decide +kernel
theorem dX3_digest_5 : decode cX3_digest 5 = .ok (.istore_n 3, 1) := by decide +kernel
theorem dX3_digest_6 : decode cX3_digest 6 = .ok (.iload_n 3, 1) := by decide +kernel
theorem dX3_digest_7 : decode cX3_digest 7 = .ok (.bipush 7, 2) := by decide +kernel
theorem dX3_digest_9 : decode cX3_digest 9 = .ok (.if_icmp .ge 19, 3) := by decide +kernel
theorem dX3_digest_12 : decode cX3_digest 12 = .ok (.lload_n 1, 1) := by decide +kernel
theorem dX3_digest_13 : decode cX3_digest 13 = .ok (.aload_n 0, 1) := by decide +kernel
theorem dX3_digest_14 : decode cX3_digest 14 = .ok (.iload_n 3, 1) := by decide +kernel
theorem dX3_digest_15 : decode cX3_digest 15 = .ok (.invokevirtual 169, 3) := by decide +kernel
theorem dX3_digest_18 : decode cX3_digest 18 = .ok (.invokestatic 172, 3) := by decide +kernel
theorem dX3_digest_21 : decode cX3_digest 21 = .ok (.lstore_n 1, 1) := by decide +kernel
theorem dX3_digest_22 : decode cX3_digest 22 = .ok (.iinc 3 1, 3) := by decide +kernel
theorem dX3_digest_25 : decode cX3_digest 25 = .ok (.goto (-19), 3) := by decide +kernel
theorem dX3_digest_28 : decode cX3_digest 28 = .ok (.aload_n 0, 1) := by decide +kernel
theorem dX3_digest_29 : decode cX3_digest 29 = .ok (.getfield 12, 3) := by decide +kernel
theorem dX3_digest_32 : decode cX3_digest 32 = .ok (.lload_n 1, 1) := by decide +kernel
theorem dX3_digest_33 : decode cX3_digest 33 = .ok (.invokevirtual 176, 3) := by decide +kernel
theorem dX3_digest_36 : decode cX3_digest 36 = .ok (.lstore_n 1, 1) := by decide +kernel
theorem dX3_digest_37 : decode cX3_digest 37 = .ok (.iconst 0, 1) := by decide +kernel
theorem dX3_digest_38 : decode cX3_digest 38 = .ok (.istore_n 3, 1) := by decide +kernel
theorem dX3_digest_39 : decode cX3_digest 39 = .ok (.iload_n 3, 1) := by decide +kernel
theorem dX3_digest_40 : decode cX3_digest 40 = .ok (.aload_n 0, 1) := by decide +kernel
theorem dX3_digest_41 : decode cX3_digest 41 = .ok (.getfield 73, 3) := by decide +kernel
theorem dX3_digest_44 : decode cX3_digest 44 = .ok (.if_icmp .ge 16, 3) := by decide +kernel
theorem dX3_digest_47 : decode cX3_digest 47 = .ok (.aload_n 0, 1) := by decide +kernel
theorem dX3_digest_48 : decode cX3_digest 48 = .ok (.lload_n 1, 1) := by decide +kernel
theorem dX3_digest_49 : decode cX3_digest 49 = .ok (.iload_n 3, 1) := by decide +kernel
theorem dX3_digest_50 : decode cX3_digest 50 = .ok (.invokevirtual 180, 3) := by decide +kernel
theorem dX3_digest_53 : decode cX3_digest 53 = .ok (.lstore_n 1, 1) := by decide +kernel
theorem dX3_digest_54 : decode cX3_digest 54 = .ok (.iinc 3 1, 3) := by decide +kernel
theorem dX3_digest_57 : decode cX3_digest 57 = .ok (.goto (-18), 3) := by decide +kernel
theorem dX3_digest_60 : decode cX3_digest 60 = .ok (.aload_n 0, 1) := by decide +kernel
theorem dX3_digest_61 : decode cX3_digest 61 = .ok (.getfield 27, 3) := by decide +kernel
theorem dX3_digest_64 : decode cX3_digest 64 = .ok (.astore_n 3, 1) := by decide +kernel
theorem dX3_digest_65 : decode cX3_digest 65 = .ok (.aload_n 3, 1) := by decide +kernel
theorem dX3_digest_66 : decode cX3_digest 66 = .ok (.arraylength, 1) := by decide +kernel
theorem dX3_digest_67 : decode cX3_digest 67 = .ok (.istore 4, 2) := by decide +kernel
theorem dX3_digest_69 : decode cX3_digest 69 = .ok (.iconst 0, 1) := by decide +kernel
theorem dX3_digest_70 : decode cX3_digest 70 = .ok (.istore 5, 2) := by decide +kernel
theorem dX3_digest_72 : decode cX3_digest 72 = .ok (.iload 5, 2) := by decide +kernel
theorem dX3_digest_74 : decode cX3_digest 74 = .ok (.iload 4, 2) := by decide +kernel
theorem dX3_digest_76 : decode cX3_digest 76 = .ok (.if_icmp .ge 38, 3) := by decide +kernel
theorem dX3_digest_79 : decode cX3_digest 79 = .ok (.aload_n 3, 1) := by decide +kernel
theorem dX3_digest_80 : decode cX3_digest 80 = .ok (.iload 5, 2) := by decide +kernel
theorem dX3_digest_82 : decode cX3_digest 82 = .ok (.aaload, 1) := by decide +kernel
theorem dX3_digest_83 : decode cX3_digest 83 = .ok (.astore 6, 2) := by decide +kernel
theorem dX3_digest_85 : decode cX3_digest 85 = .ok (.aload 6, 2) := by decide +kernel
theorem dX3_digest_87 : decode cX3_digest 87 = .ok (.ifnull 21, 3) := by decide +kernel
theorem dX3_digest_90 : decode cX3_digest 90 = .ok (.lload_n 1, 1) := by decide +kernel
theorem dX3_digest_91 : decode cX3_digest 91 = .ok (.aload 6, 2) := by decide +kernel
theorem dX3_digest_93 : decode cX3_digest 93 = .ok (.getfield 138, 3) := by decide +kernel
theorem dX3_digest_96 : decode cX3_digest 96 = .ok (.invokestatic 172, 3) := by decide +kernel
theorem dX3_digest_99 : decode cX3_digest 99 = .ok (.aload 6, 2) := by decide +kernel
theorem dX3_digest_101 : decode cX3_digest 101 = .ok (.getfield 150, 3) := by decide +kernel
theorem dX3_digest_104 : decode cX3_digest 104 = .ok (.invokestatic 172, 3) := by decide +kernel
theorem dX3_digest_107 : decode cX3_digest 107 = .ok (.lstore_n 1, 1) := by decide +kernel
theorem dX3_digest_108 : decode cX3_digest 108 = .ok (.iinc 5 1, 3) := by decide +kernel
theorem dX3_digest_111 : decode cX3_digest 111 = .ok (.goto (-39), 3) := by decide +kernel
theorem dX3_digest_114 : decode cX3_digest 114 = .ok (.lload_n 1, 1) := by decide +kernel
theorem dX3_digest_115 : decode cX3_digest 115 = .ok (.lreturn, 1) := by decide +kernel
set_option maxRecDepth 20000 in
theorem ggX3_watcherMixedInto_X3_watcher : GoodIn wsX3_watcherMixedInto wsX3_watcher := goodIn_ca (goodIn_r _ [5, 6, 7, 8, 9, 10, 11, 4, 12, 13, 14, 15, 16, 17, 18, 19, 20, 21, 22, 23, 24, 25, 26, 27, 28, 29, 30, 31, 32, 33, 34, 35, 36, 37, 38, 39, 40, 41, 42, 43, 44, 45, 46, 55, 56, 57, 58, 59, 60, 61, 62, 63, 64, 65, 66, 67, 68, 69, 70] (by decide +kernel) (by decide +kernel)) (goodIn_sub (fun _ h => List.mem_cons_of_mem _ (List.mem_append_right _ h)) (by decide +kernel))
set_option maxRecDepth 20000 in
theorem gX3_watcherMixedInto_X3_watcher : GoodIn wsX3_watcherMixedInto (wsV RX3 183 RX3 yX3_watcher wsX3_watcher) := goodIn_app (goodIn_of _ (by decide +kernel)) ggX3_watcherMixedInto_X3_watcher
set_option maxRecDepth 20000 in
theorem ggX3_watcherMixedInto_X3_mixed : GoodIn wsX3_watcherMixedInto wsX3_mixed := goodIn_r _ [49, 50] (by decide +kernel) (by decide +kernel)
set_option maxRecDepth 20000 in
theorem gX3_watcherMixedInto_X3_mixed : GoodIn wsX3_watcherMixedInto (va_wsS RX3 172 yX3_mixed wsX3_mixed) := goodIn_app (goodIn_of _ (by decide +kernel)) ggX3_watcherMixedInto_X3_mixed
set_option maxRecDepth 20000 in
theorem ggX3_watcherMixedInto_X3_watcherOf : GoodIn wsX3_watcherMixedInto wsX3_watcherOf := goodIn_ca (goodIn_r _ [12, 6, 7, 13, 59, 60, 61, 62, 63, 64, 65, 66, 67, 68] (by decide +kernel) (by decide +kernel)) (goodIn_sub (fun _ h => List.mem_cons_of_mem _ (List.mem_append_right _ h)) (by decide +kernel))
set_option maxRecDepth 20000 in
theorem gX3_watcherMixedInto_X3_watcherOf : GoodIn wsX3_watcherMixedInto (wsV RX3 86 RX3 yX3_watcherOf wsX3_watcherOf) := goodIn_app (goodIn_of _ (by decide +kernel)) ggX3_watcherMixedInto_X3_watcherOf
set_option maxRecDepth 20000 in
theorem ggX3_watcherMixedInto_X1_mixedInto : GoodIn wsX3_watcherMixedInto wsX1_mixedInto := goodIn_r _ [54, 25, 48, 4, 49, 50, 69, 70] (by decide +kernel) (by decide +kernel)
set_option maxRecDepth 20000 in
theorem gX3_watcherMixedInto_X1_mixedInto : GoodIn wsX3_watcherMixedInto (wsV RX3 176 RX1 yX1_mixedInto wsX1_mixedInto) := goodIn_app (goodIn_of _ (by decide +kernel)) ggX3_watcherMixedInto_X1_mixedInto
theorem dX3_watcherMixedInto_0 : decode cX3_watcherMixedInto 0 = .ok (.lload_n 1, 1) := by decide +kernel
theorem dX3_watcherMixedInto_1 : decode cX3_watcherMixedInto 1 = .ok (.lstore 4, 2) := by decide +kernel
theorem dX3_watcherMixedInto_3 : decode cX3_watcherMixedInto 3 = .ok (.iconst 0, 1) := by decide +kernel
theorem dX3_watcherMixedInto_4 : decode cX3_watcherMixedInto 4 = .ok (.istore 6, 2) := by decide +kernel
theorem dX3_watcherMixedInto_6 : decode cX3_watcherMixedInto 6 = .ok (.iload 6, 2) := by decide +kernel
theorem dX3_watcherMixedInto_8 : decode cX3_watcherMixedInto 8 = .ok (.bipush 6, 2) := by decide +kernel
theorem dX3_watcherMixedInto_10 : decode cX3_watcherMixedInto 10 = .ok (.if_icmp .ge 23, 3) := by decide +kernel
theorem dX3_watcherMixedInto_13 : decode cX3_watcherMixedInto 13 = .ok (.lload 4, 2) := by decide +kernel
theorem dX3_watcherMixedInto_15 : decode cX3_watcherMixedInto 15 = .ok (.aload_n 0, 1) := by decide +kernel
theorem dX3_watcherMixedInto_16 : decode cX3_watcherMixedInto 16 = .ok (.iload_n 3, 1) := by decide +kernel
theorem dX3_watcherMixedInto_17 : decode cX3_watcherMixedInto 17 = .ok (.iload 6, 2) := by decide +kernel
theorem dX3_watcherMixedInto_19 : decode cX3_watcherMixedInto 19 = .ok (.invokevirtual 183, 3) := by decide +kernel
theorem dX3_watcherMixedInto_22 : decode cX3_watcherMixedInto 22 = .ok (.invokestatic 172, 3) := by decide +kernel
theorem dX3_watcherMixedInto_25 : decode cX3_watcherMixedInto 25 = .ok (.lstore 4, 2) := by decide +kernel
theorem dX3_watcherMixedInto_27 : decode cX3_watcherMixedInto 27 = .ok (.iinc 6 1, 3) := by decide +kernel
theorem dX3_watcherMixedInto_30 : decode cX3_watcherMixedInto 30 = .ok (.goto (-24), 3) := by decide +kernel
theorem dX3_watcherMixedInto_33 : decode cX3_watcherMixedInto 33 = .ok (.aload_n 0, 1) := by decide +kernel
theorem dX3_watcherMixedInto_34 : decode cX3_watcherMixedInto 34 = .ok (.iload_n 3, 1) := by decide +kernel
theorem dX3_watcherMixedInto_35 : decode cX3_watcherMixedInto 35 = .ok (.invokevirtual 86, 3) := by decide +kernel
theorem dX3_watcherMixedInto_38 : decode cX3_watcherMixedInto 38 = .ok (.getfield 93, 3) := by decide +kernel
theorem dX3_watcherMixedInto_41 : decode cX3_watcherMixedInto 41 = .ok (.lload 4, 2) := by decide +kernel
theorem dX3_watcherMixedInto_43 : decode cX3_watcherMixedInto 43 = .ok (.invokevirtual 176, 3) := by decide +kernel
theorem dX3_watcherMixedInto_46 : decode cX3_watcherMixedInto 46 = .ok (.lreturn, 1) := by decide +kernel
theorem dX3_mixed_0 : decode cX3_mixed 0 = .ok (.lload_n 0, 1) := by decide +kernel
theorem dX3_mixed_1 : decode cX3_mixed 1 = .ok (.ldc2_w 186, 3) := by decide +kernel
theorem dX3_mixed_4 : decode cX3_mixed 4 = .ok (.lmul, 1) := by decide +kernel
theorem dX3_mixed_5 : decode cX3_mixed 5 = .ok (.iload_n 2, 1) := by decide +kernel
theorem dX3_mixed_6 : decode cX3_mixed 6 = .ok (.i2l, 1) := by decide +kernel
theorem dX3_mixed_7 : decode cX3_mixed 7 = .ok (.ladd, 1) := by decide +kernel
theorem dX3_mixed_8 : decode cX3_mixed 8 = .ok (.lreturn, 1) := by decide +kernel
theorem dX3_watcherOf_0 : decode cX3_watcherOf 0 = .ok (.iload_n 1, 1) := by decide +kernel
theorem dX3_watcherOf_1 : decode cX3_watcherOf 1 = .ok (.ifCond .lt 21, 3) := by decide +kernel
theorem dX3_watcherOf_4 : decode cX3_watcherOf 4 = .ok (.iload_n 1, 1) := by decide +kernel
theorem dX3_watcherOf_5 : decode cX3_watcherOf 5 = .ok (.aload_n 0, 1) := by decide +kernel
theorem dX3_watcherOf_6 : decode cX3_watcherOf 6 = .ok (.getfield 21, 3) := by decide +kernel
theorem dX3_watcherOf_9 : decode cX3_watcherOf 9 = .ok (.arraylength, 1) := by decide +kernel
theorem dX3_watcherOf_10 : decode cX3_watcherOf 10 = .ok (.if_icmp .ge 12, 3) := by decide +kernel
theorem dX3_watcherOf_13 : decode cX3_watcherOf 13 = .ok (.aload_n 0, 1) := by decide +kernel
theorem dX3_watcherOf_14 : decode cX3_watcherOf 14 = .ok (.getfield 21, 3) := by decide +kernel
theorem dX3_watcherOf_17 : decode cX3_watcherOf 17 = .ok (.iload_n 1, 1) := by decide +kernel
theorem dX3_watcherOf_18 : decode cX3_watcherOf 18 = .ok (.aaload, 1) := by decide +kernel
theorem dX3_watcherOf_19 : decode cX3_watcherOf 19 = .ok (.goto 4, 3) := by decide +kernel
theorem dX3_watcherOf_22 : decode cX3_watcherOf 22 = .ok (.aconst_null, 1) := by decide +kernel
theorem dX3_watcherOf_23 : decode cX3_watcherOf 23 = .ok (.astore_n 2, 1) := by decide +kernel
theorem dX3_watcherOf_24 : decode cX3_watcherOf 24 = .ok (.aload_n 2, 1) := by decide +kernel
theorem dX3_watcherOf_25 : decode cX3_watcherOf 25 = .ok (.ifnonnull 13, 3) := by decide +kernel
theorem dX3_watcherOf_28 : decode cX3_watcherOf 28 = .ok (.new 116, 3) := by decide +kernel
theorem dX3_watcherOf_31 : decode cX3_watcherOf 31 = .ok (.dup, 1) := by decide +kernel
theorem dX3_watcherOf_32 : decode cX3_watcherOf 32 = .ok (.ldc 188, 2) := by decide +kernel
theorem dX3_watcherOf_34 : decode cX3_watcherOf 34 = .ok (.invokespecial 120, 3) := by decide +kernel
theorem dX3_watcherOf_37 : decode cX3_watcherOf 37 = .ok (.athrow, 1) := by decide +kernel
theorem dX3_watcherOf_38 : decode cX3_watcherOf 38 = .ok (.aload_n 2, 1) := by decide +kernel
theorem dX3_watcherOf_39 : decode cX3_watcherOf 39 = .ok (.areturn, 1) := by decide +kernel
theorem dX3_playerOf_0 : decode cX3_playerOf 0 = .ok (.iload_n 1, 1) := by decide +kernel
theorem dX3_playerOf_1 : decode cX3_playerOf 1 = .ok (.ifCond .lt 21, 3) := by decide +kernel
theorem dX3_playerOf_4 : decode cX3_playerOf 4 = .ok (.iload_n 1, 1) := by decide +kernel
theorem dX3_playerOf_5 : decode cX3_playerOf 5 = .ok (.aload_n 0, 1) := by decide +kernel
theorem dX3_playerOf_6 : decode cX3_playerOf 6 = .ok (.getfield 27, 3) := by decide +kernel
theorem dX3_playerOf_9 : decode cX3_playerOf 9 = .ok (.arraylength, 1) := by decide +kernel
theorem dX3_playerOf_10 : decode cX3_playerOf 10 = .ok (.if_icmp .ge 12, 3) := by decide +kernel
theorem dX3_playerOf_13 : decode cX3_playerOf 13 = .ok (.aload_n 0, 1) := by decide +kernel
theorem dX3_playerOf_14 : decode cX3_playerOf 14 = .ok (.getfield 27, 3) := by decide +kernel
theorem dX3_playerOf_17 : decode cX3_playerOf 17 = .ok (.iload_n 1, 1) := by decide +kernel
theorem dX3_playerOf_18 : decode cX3_playerOf 18 = .ok (.aaload, 1) := by decide +kernel
theorem dX3_playerOf_19 : decode cX3_playerOf 19 = .ok (.goto 4, 3) := by decide +kernel
theorem dX3_playerOf_22 : decode cX3_playerOf 22 = .ok (.aconst_null, 1) := by decide +kernel
theorem dX3_playerOf_23 : decode cX3_playerOf 23 = .ok (.astore_n 2, 1) := by decide +kernel
theorem dX3_playerOf_24 : decode cX3_playerOf 24 = .ok (.aload_n 2, 1) := by decide +kernel
theorem dX3_playerOf_25 : decode cX3_playerOf 25 = .ok (.ifnonnull 13, 3) := by decide +kernel
theorem dX3_playerOf_28 : decode cX3_playerOf 28 = .ok (.new 116, 3) := by decide +kernel
theorem dX3_playerOf_31 : decode cX3_playerOf 31 = .ok (.dup, 1) := by decide +kernel
theorem dX3_playerOf_32 : decode cX3_playerOf 32 = .ok (.ldc 190, 2) := by decide +kernel
theorem dX3_playerOf_34 : decode cX3_playerOf 34 = .ok (.invokespecial 120, 3) := by decide +kernel
theorem dX3_playerOf_37 : decode cX3_playerOf 37 = .ok (.athrow, 1) := by decide +kernel
theorem dX3_playerOf_38 : decode cX3_playerOf 38 = .ok (.aload_n 2, 1) := by decide +kernel
theorem dX3_playerOf_39 : decode cX3_playerOf 39 = .ok (.areturn, 1) := by decide +kernel
set_option maxRecDepth 20000 in
theorem ggX3_requireWay_X3_isWay : GoodIn wsX3_requireWay wsX3_isWay := goodIn_r _ [6] (by decide +kernel) (by decide +kernel)
set_option maxRecDepth 20000 in
theorem gX3_requireWay_X3_isWay : GoodIn wsX3_requireWay (va_wsS RX3 192 yX3_isWay wsX3_isWay) := goodIn_app (goodIn_of _ (by decide +kernel)) ggX3_requireWay_X3_isWay
theorem dX3_requireWay_0 : decode cX3_requireWay 0 = .ok (.iload_n 0, 1) := by decide +kernel
theorem dX3_requireWay_1 : decode cX3_requireWay 1 = .ok (.iload_n 1, 1) := by decide +kernel
theorem dX3_requireWay_2 : decode cX3_requireWay 2 = .ok (.invokestatic 192, 3) := by decide +kernel
theorem dX3_requireWay_5 : decode cX3_requireWay 5 = .ok (.ifCond .ne 13, 3) := by decide +kernel
theorem dX3_requireWay_8 : decode cX3_requireWay 8 = .ok (.new 196, 3) := by decide +kernel
theorem dX3_requireWay_11 : decode cX3_requireWay 11 = .ok (.dup, 1) := by decide +kernel
theorem dX3_requireWay_12 : decode cX3_requireWay 12 = .ok (.ldc 198, 2) := by decide +kernel
theorem dX3_requireWay_14 : decode cX3_requireWay 14 = .ok (.invokespecial 200, 3) := by decide +kernel
theorem dX3_requireWay_17 : decode cX3_requireWay 17 = .ok (.athrow, 1) := by decide +kernel
theorem dX3_requireWay_18 : decode cX3_requireWay 18 = .ok (.return_, 1) := by decide +kernel
set_option maxRecDepth 20000 in
theorem ggX3_requirePlace_X3_isSixteenth : GoodIn wsX3_requirePlace wsX3_isSixteenth := goodIn_r _ [6] (by decide +kernel) (by decide +kernel)
set_option maxRecDepth 20000 in
theorem gX3_requirePlace_X3_isSixteenth : GoodIn wsX3_requirePlace (va_wsS RX3 201 yX3_isSixteenth wsX3_isSixteenth) := goodIn_app (goodIn_of _ (by decide +kernel)) ggX3_requirePlace_X3_isSixteenth
theorem dX3_requirePlace_0 : decode cX3_requirePlace 0 = .ok (.iload_n 0, 1) := by decide +kernel
theorem dX3_requirePlace_1 : decode cX3_requirePlace 1 = .ok (.invokestatic 201, 3) := by decide +kernel
theorem dX3_requirePlace_4 : decode cX3_requirePlace 4 = .ok (.ifCond .ne 13, 3) := by decide +kernel
theorem dX3_requirePlace_7 : decode cX3_requirePlace 7 = .ok (.new 116, 3) := by decide +kernel
theorem dX3_requirePlace_10 : decode cX3_requirePlace 10 = .ok (.dup, 1) := by decide +kernel
theorem dX3_requirePlace_11 : decode cX3_requirePlace 11 = .ok (.ldc 205, 2) := by decide +kernel
theorem dX3_requirePlace_13 : decode cX3_requirePlace 13 = .ok (.invokespecial 120, 3) := by decide +kernel
theorem dX3_requirePlace_16 : decode cX3_requirePlace 16 = .ok (.athrow, 1) := by decide +kernel
theorem dX3_requirePlace_17 : decode cX3_requirePlace 17 = .ok (.return_, 1) := by decide +kernel
set_option maxRecDepth 20000 in
theorem ggX3_requireCard_X3_isSixteenth : GoodIn wsX3_requireCard wsX3_isSixteenth := goodIn_r _ [6] (by decide +kernel) (by decide +kernel)
set_option maxRecDepth 20000 in
theorem gX3_requireCard_X3_isSixteenth : GoodIn wsX3_requireCard (va_wsS RX3 201 yX3_isSixteenth wsX3_isSixteenth) := goodIn_app (goodIn_of _ (by decide +kernel)) ggX3_requireCard_X3_isSixteenth
theorem dX3_requireCard_0 : decode cX3_requireCard 0 = .ok (.iload_n 0, 1) := by decide +kernel
theorem dX3_requireCard_1 : decode cX3_requireCard 1 = .ok (.invokestatic 201, 3) := by decide +kernel
theorem dX3_requireCard_4 : decode cX3_requireCard 4 = .ok (.ifCond .ne 13, 3) := by decide +kernel
theorem dX3_requireCard_7 : decode cX3_requireCard 7 = .ok (.new 116, 3) := by decide +kernel
theorem dX3_requireCard_10 : decode cX3_requireCard 10 = .ok (.dup, 1) := by decide +kernel
theorem dX3_requireCard_11 : decode cX3_requireCard 11 = .ok (.ldc 207, 2) := by decide +kernel
theorem dX3_requireCard_13 : decode cX3_requireCard 13 = .ok (.invokespecial 120, 3) := by decide +kernel
theorem dX3_requireCard_16 : decode cX3_requireCard 16 = .ok (.athrow, 1) := by decide +kernel
theorem dX3_requireCard_17 : decode cX3_requireCard 17 = .ok (.return_, 1) := by decide +kernel
set_option maxRecDepth 20000 in
theorem ggX3_requireSixteenth_X3_isSixteenth : GoodIn wsX3_requireSixteenth wsX3_isSixteenth := goodIn_r _ [6] (by decide +kernel) (by decide +kernel)
set_option maxRecDepth 20000 in
theorem gX3_requireSixteenth_X3_isSixteenth : GoodIn wsX3_requireSixteenth (va_wsS RX3 201 yX3_isSixteenth wsX3_isSixteenth) := goodIn_app (goodIn_of _ (by decide +kernel)) ggX3_requireSixteenth_X3_isSixteenth
theorem dX3_requireSixteenth_0 : decode cX3_requireSixteenth 0 = .ok (.iload_n 0, 1) := by decide +kernel
theorem dX3_requireSixteenth_1 : decode cX3_requireSixteenth 1 = .ok (.invokestatic 201, 3) := by decide +kernel
theorem dX3_requireSixteenth_4 : decode cX3_requireSixteenth 4 = .ok (.ifCond .ne 13, 3) := by decide +kernel
theorem dX3_requireSixteenth_7 : decode cX3_requireSixteenth 7 = .ok (.new 196, 3) := by decide +kernel
theorem dX3_requireSixteenth_10 : decode cX3_requireSixteenth 10 = .ok (.dup, 1) := by decide +kernel
theorem dX3_requireSixteenth_11 : decode cX3_requireSixteenth 11 = .ok (.ldc 209, 2) := by decide +kernel
theorem dX3_requireSixteenth_13 : decode cX3_requireSixteenth 13 = .ok (.invokespecial 200, 3) := by decide +kernel
theorem dX3_requireSixteenth_16 : decode cX3_requireSixteenth 16 = .ok (.athrow, 1) := by decide +kernel
theorem dX3_requireSixteenth_17 : decode cX3_requireSixteenth 17 = .ok (.return_, 1) := by decide +kernel
theorem dX3_isSixteenth_0 : decode cX3_isSixteenth 0 = .ok (.iload_n 0, 1) := by decide +kernel
theorem dX3_isSixteenth_1 : decode cX3_isSixteenth 1 = .ok (.ifCond .lt 13, 3) := by decide +kernel
theorem dX3_isSixteenth_4 : decode cX3_isSixteenth 4 = .ok (.iload_n 0, 1) := by decide +kernel
theorem dX3_isSixteenth_5 : decode cX3_isSixteenth 5 = .ok (.bipush 16, 2) := by decide +kernel
theorem dX3_isSixteenth_7 : decode cX3_isSixteenth 7 = .ok (.if_icmp .ge 7, 3) := by decide +kernel
theorem dX3_isSixteenth_10 : decode cX3_isSixteenth 10 = .ok (.iconst 1, 1) := by decide +kernel
theorem dX3_isSixteenth_11 : decode cX3_isSixteenth 11 = .ok (.goto 4, 3) := by decide +kernel
theorem dX3_isSixteenth_14 : decode cX3_isSixteenth 14 = .ok (.iconst 0, 1) := by decide +kernel
theorem dX3_isSixteenth_15 : decode cX3_isSixteenth 15 = .ok (.ireturn, 1) := by decide +kernel
theorem dX3_isWay_0 : decode cX3_isWay 0 = .ok (.iload_n 0, 1) := by decide +kernel
theorem dX3_isWay_1 : decode cX3_isWay 1 = .ok (.tableswitch 79 0 4 #[35, 69, 69, 52, 69], 35) := by decide +kernel
theorem dX3_isWay_36 : decode cX3_isWay 36 = .ok (.iload_n 1, 1) := by decide +kernel
theorem dX3_isWay_37 : decode cX3_isWay 37 = .ok (.iconst 1, 1) := by decide +kernel
theorem dX3_isWay_38 : decode cX3_isWay 38 = .ok (.if_icmp .lt 13, 3) := by decide +kernel
theorem dX3_isWay_41 : decode cX3_isWay 41 = .ok (.iload_n 1, 1) := by decide +kernel
theorem dX3_isWay_42 : decode cX3_isWay 42 = .ok (.bipush 16, 2) := by decide +kernel
theorem dX3_isWay_44 : decode cX3_isWay 44 = .ok (.if_icmp .ge 7, 3) := by decide +kernel
theorem dX3_isWay_47 : decode cX3_isWay 47 = .ok (.iconst 1, 1) := by decide +kernel
theorem dX3_isWay_48 : decode cX3_isWay 48 = .ok (.goto 4, 3) := by decide +kernel
theorem dX3_isWay_51 : decode cX3_isWay 51 = .ok (.iconst 0, 1) := by decide +kernel
theorem dX3_isWay_52 : decode cX3_isWay 52 = .ok (.ireturn, 1) := by decide +kernel
theorem dX3_isWay_53 : decode cX3_isWay 53 = .ok (.iload_n 1, 1) := by decide +kernel
theorem dX3_isWay_54 : decode cX3_isWay 54 = .ok (.iconst 2, 1) := by decide +kernel
theorem dX3_isWay_55 : decode cX3_isWay 55 = .ok (.if_icmp .lt 13, 3) := by decide +kernel
theorem dX3_isWay_58 : decode cX3_isWay 58 = .ok (.iload_n 1, 1) := by decide +kernel
theorem dX3_isWay_59 : decode cX3_isWay 59 = .ok (.bipush 16, 2) := by decide +kernel
theorem dX3_isWay_61 : decode cX3_isWay 61 = .ok (.if_icmp .gt 7, 3) := by decide +kernel
theorem dX3_isWay_64 : decode cX3_isWay 64 = .ok (.iconst 1, 1) := by decide +kernel
theorem dX3_isWay_65 : decode cX3_isWay 65 = .ok (.goto 4, 3) := by decide +kernel
theorem dX3_isWay_68 : decode cX3_isWay 68 = .ok (.iconst 0, 1) := by decide +kernel
theorem dX3_isWay_69 : decode cX3_isWay 69 = .ok (.ireturn, 1) := by decide +kernel
theorem dX3_isWay_70 : decode cX3_isWay 70 = .ok (.iload_n 1, 1) := by decide +kernel
theorem dX3_isWay_71 : decode cX3_isWay 71 = .ok (.ifCond .ne 7, 3) := by decide +kernel
theorem dX3_isWay_74 : decode cX3_isWay 74 = .ok (.iconst 1, 1) := by decide +kernel
theorem dX3_isWay_75 : decode cX3_isWay 75 = .ok (.goto 4, 3) := by decide +kernel
theorem dX3_isWay_78 : decode cX3_isWay 78 = .ok (.iconst 0, 1) := by decide +kernel
theorem dX3_isWay_79 : decode cX3_isWay 79 = .ok (.ireturn, 1) := by decide +kernel
theorem dX3_isWay_80 : decode cX3_isWay 80 = .ok (.iconst 0, 1) := by decide +kernel
theorem dX3_isWay_81 : decode cX3_isWay 81 = .ok (.ireturn, 1) := by decide +kernel
set_option maxRecDepth 20000 in
theorem ggX3_placeAfter_X3_placeAfterDeal : GoodIn wsX3_placeAfter wsX3_placeAfterDeal := goodIn_r _ [4] (by decide +kernel) (by decide +kernel)
set_option maxRecDepth 20000 in
theorem gX3_placeAfter_X3_placeAfterDeal : GoodIn wsX3_placeAfter (va_wsS RX3 211 yX3_placeAfterDeal wsX3_placeAfterDeal) := goodIn_app (goodIn_of _ (by decide +kernel)) ggX3_placeAfter_X3_placeAfterDeal
theorem dX3_placeAfter_0 : decode cX3_placeAfter 0 = .ok (.iload_n 0, 1) := by decide +kernel
theorem dX3_placeAfter_1 : decode cX3_placeAfter 1 = .ok (.tableswitch 106 0 3 #[31, 49, 70, 91], 31) := by decide +kernel
theorem dX3_placeAfter_32 : decode cX3_placeAfter 32 = .ok (.iload_n 2, 1) := by decide +kernel
theorem dX3_placeAfter_33 : decode cX3_placeAfter 33 = .ok (.iload_n 1, 1) := by decide +kernel
theorem dX3_placeAfter_34 : decode cX3_placeAfter 34 = .ok (.if_icmp .ge 12, 3) := by decide +kernel
theorem dX3_placeAfter_37 : decode cX3_placeAfter 37 = .ok (.iload_n 2, 1) := by decide +kernel
theorem dX3_placeAfter_38 : decode cX3_placeAfter 38 = .ok (.bipush 16, 2) := by decide +kernel
theorem dX3_placeAfter_40 : decode cX3_placeAfter 40 = .ok (.iadd, 1) := by decide +kernel
theorem dX3_placeAfter_41 : decode cX3_placeAfter 41 = .ok (.iload_n 1, 1) := by decide +kernel
theorem dX3_placeAfter_42 : decode cX3_placeAfter 42 = .ok (.isub, 1) := by decide +kernel
theorem dX3_placeAfter_43 : decode cX3_placeAfter 43 = .ok (.goto 6, 3) := by decide +kernel
theorem dX3_placeAfter_46 : decode cX3_placeAfter 46 = .ok (.iload_n 2, 1) := by decide +kernel
theorem dX3_placeAfter_47 : decode cX3_placeAfter 47 = .ok (.iload_n 1, 1) := by decide +kernel
theorem dX3_placeAfter_48 : decode cX3_placeAfter 48 = .ok (.isub, 1) := by decide +kernel
theorem dX3_placeAfter_49 : decode cX3_placeAfter 49 = .ok (.ireturn, 1) := by decide +kernel
theorem dX3_placeAfter_50 : decode cX3_placeAfter 50 = .ok (.iload_n 2, 1) := by decide +kernel
theorem dX3_placeAfter_51 : decode cX3_placeAfter 51 = .ok (.bipush 8, 2) := by decide +kernel
theorem dX3_placeAfter_53 : decode cX3_placeAfter 53 = .ok (.if_icmp .ge 9, 3) := by decide +kernel
theorem dX3_placeAfter_56 : decode cX3_placeAfter 56 = .ok (.iconst 2, 1) := by decide +kernel
theorem dX3_placeAfter_57 : decode cX3_placeAfter 57 = .ok (.iload_n 2, 1) := by decide +kernel
theorem dX3_placeAfter_58 : decode cX3_placeAfter 58 = .ok (.imul, 1) := by decide +kernel
theorem dX3_placeAfter_59 : decode cX3_placeAfter 59 = .ok (.goto 11, 3) := by decide +kernel
theorem dX3_placeAfter_62 : decode cX3_placeAfter 62 = .ok (.iconst 2, 1) := by decide +kernel
theorem dX3_placeAfter_63 : decode cX3_placeAfter 63 = .ok (.iload_n 2, 1) := by decide +kernel
theorem dX3_placeAfter_64 : decode cX3_placeAfter 64 = .ok (.bipush 8, 2) := by decide +kernel
theorem dX3_placeAfter_66 : decode cX3_placeAfter 66 = .ok (.isub, 1) := by decide +kernel
theorem dX3_placeAfter_67 : decode cX3_placeAfter 67 = .ok (.imul, 1) := by decide +kernel
theorem dX3_placeAfter_68 : decode cX3_placeAfter 68 = .ok (.iconst 1, 1) := by decide +kernel
theorem dX3_placeAfter_69 : decode cX3_placeAfter 69 = .ok (.iadd, 1) := by decide +kernel
theorem dX3_placeAfter_70 : decode cX3_placeAfter 70 = .ok (.ireturn, 1) := by decide +kernel
theorem dX3_placeAfter_71 : decode cX3_placeAfter 71 = .ok (.iload_n 2, 1) := by decide +kernel
theorem dX3_placeAfter_72 : decode cX3_placeAfter 72 = .ok (.bipush 8, 2) := by decide +kernel
theorem dX3_placeAfter_74 : decode cX3_placeAfter 74 = .ok (.if_icmp .ge 11, 3) := by decide +kernel
theorem dX3_placeAfter_77 : decode cX3_placeAfter 77 = .ok (.iconst 2, 1) := by decide +kernel
theorem dX3_placeAfter_78 : decode cX3_placeAfter 78 = .ok (.iload_n 2, 1) := by decide +kernel
theorem dX3_placeAfter_79 : decode cX3_placeAfter 79 = .ok (.imul, 1) := by decide +kernel
theorem dX3_placeAfter_80 : decode cX3_placeAfter 80 = .ok (.iconst 1, 1) := by decide +kernel
theorem dX3_placeAfter_81 : decode cX3_placeAfter 81 = .ok (.iadd, 1) := by decide +kernel
theorem dX3_placeAfter_82 : decode cX3_placeAfter 82 = .ok (.goto 9, 3) := by decide +kernel
theorem dX3_placeAfter_85 : decode cX3_placeAfter 85 = .ok (.iconst 2, 1) := by decide +kernel
theorem dX3_placeAfter_86 : decode cX3_placeAfter 86 = .ok (.iload_n 2, 1) := by decide +kernel
theorem dX3_placeAfter_87 : decode cX3_placeAfter 87 = .ok (.bipush 8, 2) := by decide +kernel
theorem dX3_placeAfter_89 : decode cX3_placeAfter 89 = .ok (.isub, 1) := by decide +kernel
theorem dX3_placeAfter_90 : decode cX3_placeAfter 90 = .ok (.imul, 1) := by decide +kernel
theorem dX3_placeAfter_91 : decode cX3_placeAfter 91 = .ok (.ireturn, 1) := by decide +kernel
theorem dX3_placeAfter_92 : decode cX3_placeAfter 92 = .ok (.iload_n 2, 1) := by decide +kernel
theorem dX3_placeAfter_93 : decode cX3_placeAfter 93 = .ok (.iload_n 1, 1) := by decide +kernel
theorem dX3_placeAfter_94 : decode cX3_placeAfter 94 = .ok (.if_icmp .ge 11, 3) := by decide +kernel
theorem dX3_placeAfter_97 : decode cX3_placeAfter 97 = .ok (.iload_n 1, 1) := by decide +kernel
theorem dX3_placeAfter_98 : decode cX3_placeAfter 98 = .ok (.iconst 1, 1) := by decide +kernel
theorem dX3_placeAfter_99 : decode cX3_placeAfter 99 = .ok (.isub, 1) := by decide +kernel
theorem dX3_placeAfter_100 : decode cX3_placeAfter 100 = .ok (.iload_n 2, 1) := by decide +kernel
theorem dX3_placeAfter_101 : decode cX3_placeAfter 101 = .ok (.isub, 1) := by decide +kernel
theorem dX3_placeAfter_102 : decode cX3_placeAfter 102 = .ok (.goto 4, 3) := by decide +kernel
theorem dX3_placeAfter_105 : decode cX3_placeAfter 105 = .ok (.iload_n 2, 1) := by decide +kernel
theorem dX3_placeAfter_106 : decode cX3_placeAfter 106 = .ok (.ireturn, 1) := by decide +kernel
theorem dX3_placeAfter_107 : decode cX3_placeAfter 107 = .ok (.iload_n 2, 1) := by decide +kernel
theorem dX3_placeAfter_108 : decode cX3_placeAfter 108 = .ok (.invokestatic 211, 3) := by decide +kernel
theorem dX3_placeAfter_111 : decode cX3_placeAfter 111 = .ok (.ireturn, 1) := by decide +kernel
theorem dX3_placeAfterDeal_0 : decode cX3_placeAfterDeal 0 = .ok (.iload_n 0, 1) := by decide +kernel
theorem dX3_placeAfterDeal_1 : decode cX3_placeAfterDeal 1 = .ok (.istore_n 1, 1) := by decide +kernel
theorem dX3_placeAfterDeal_2 : decode cX3_placeAfterDeal 2 = .ok (.iconst 0, 1) := by decide +kernel
theorem dX3_placeAfterDeal_3 : decode cX3_placeAfterDeal 3 = .ok (.istore_n 2, 1) := by decide +kernel
theorem dX3_placeAfterDeal_4 : decode cX3_placeAfterDeal 4 = .ok (.bipush 16, 2) := by decide +kernel
theorem dX3_placeAfterDeal_6 : decode cX3_placeAfterDeal 6 = .ok (.istore_n 3, 1) := by decide +kernel
theorem dX3_placeAfterDeal_7 : decode cX3_placeAfterDeal 7 = .ok (.iload_n 3, 1) := by decide +kernel
theorem dX3_placeAfterDeal_8 : decode cX3_placeAfterDeal 8 = .ok (.iconst 1, 1) := by decide +kernel
theorem dX3_placeAfterDeal_9 : decode cX3_placeAfterDeal 9 = .ok (.if_icmp .le 26, 3) := by decide +kernel
theorem dX3_placeAfterDeal_12 : decode cX3_placeAfterDeal 12 = .ok (.iload_n 1, 1) := by decide +kernel
theorem dX3_placeAfterDeal_13 : decode cX3_placeAfterDeal 13 = .ok (.iconst 2, 1) := by decide +kernel
theorem dX3_placeAfterDeal_14 : decode cX3_placeAfterDeal 14 = .ok (.irem, 1) := by decide +kernel
theorem dX3_placeAfterDeal_15 : decode cX3_placeAfterDeal 15 = .ok (.ifCond .ne 20, 3) := by decide +kernel
theorem dX3_placeAfterDeal_18 : decode cX3_placeAfterDeal 18 = .ok (.iload_n 2, 1) := by decide +kernel
theorem dX3_placeAfterDeal_19 : decode cX3_placeAfterDeal 19 = .ok (.iload_n 3, 1) := by decide +kernel
theorem dX3_placeAfterDeal_20 : decode cX3_placeAfterDeal 20 = .ok (.iconst 2, 1) := by decide +kernel
theorem dX3_placeAfterDeal_21 : decode cX3_placeAfterDeal 21 = .ok (.idiv, 1) := by decide +kernel
theorem dX3_placeAfterDeal_22 : decode cX3_placeAfterDeal 22 = .ok (.iadd, 1) := by decide +kernel
theorem dX3_placeAfterDeal_23 : decode cX3_placeAfterDeal 23 = .ok (.istore_n 2, 1) := by decide +kernel
theorem dX3_placeAfterDeal_24 : decode cX3_placeAfterDeal 24 = .ok (.iload_n 1, 1) := by decide +kernel
theorem dX3_placeAfterDeal_25 : decode cX3_placeAfterDeal 25 = .ok (.iconst 2, 1) := by decide +kernel
theorem dX3_placeAfterDeal_26 : decode cX3_placeAfterDeal 26 = .ok (.idiv, 1) := by decide +kernel
theorem dX3_placeAfterDeal_27 : decode cX3_placeAfterDeal 27 = .ok (.istore_n 1, 1) := by decide +kernel
theorem dX3_placeAfterDeal_28 : decode cX3_placeAfterDeal 28 = .ok (.iload_n 3, 1) := by decide +kernel
theorem dX3_placeAfterDeal_29 : decode cX3_placeAfterDeal 29 = .ok (.iconst 2, 1) := by decide +kernel
theorem dX3_placeAfterDeal_30 : decode cX3_placeAfterDeal 30 = .ok (.idiv, 1) := by decide +kernel
theorem dX3_placeAfterDeal_31 : decode cX3_placeAfterDeal 31 = .ok (.istore_n 3, 1) := by decide +kernel
theorem dX3_placeAfterDeal_32 : decode cX3_placeAfterDeal 32 = .ok (.goto (-25), 3) := by decide +kernel
theorem dX3_placeAfterDeal_35 : decode cX3_placeAfterDeal 35 = .ok (.bipush 15, 2) := by decide +kernel
theorem dX3_placeAfterDeal_37 : decode cX3_placeAfterDeal 37 = .ok (.iload_n 2, 1) := by decide +kernel
theorem dX3_placeAfterDeal_38 : decode cX3_placeAfterDeal 38 = .ok (.isub, 1) := by decide +kernel
theorem dX3_placeAfterDeal_39 : decode cX3_placeAfterDeal 39 = .ok (.iload_n 1, 1) := by decide +kernel
theorem dX3_placeAfterDeal_40 : decode cX3_placeAfterDeal 40 = .ok (.iconst 2, 1) := by decide +kernel
theorem dX3_placeAfterDeal_41 : decode cX3_placeAfterDeal 41 = .ok (.idiv, 1) := by decide +kernel
theorem dX3_placeAfterDeal_42 : decode cX3_placeAfterDeal 42 = .ok (.isub, 1) := by decide +kernel
theorem dX3_placeAfterDeal_43 : decode cX3_placeAfterDeal 43 = .ok (.ireturn, 1) := by decide +kernel
set_option maxRecDepth 20000 in
theorem ggX3_placeAfterRiffles_X3_placeAfter : GoodIn wsX3_placeAfterRiffles wsX3_placeAfter := goodIn_r _ [4, 5, 6, 3, 7] (by decide +kernel) (by decide +kernel)
set_option maxRecDepth 20000 in
theorem gX3_placeAfterRiffles_X3_placeAfter : GoodIn wsX3_placeAfterRiffles (va_wsS RX3 63 yX3_placeAfter wsX3_placeAfter) := goodIn_app (goodIn_of _ (by decide +kernel)) ggX3_placeAfterRiffles_X3_placeAfter
theorem dX3_placeAfterRiffles_0 : decode cX3_placeAfterRiffles 0 = .ok (.iload_n 0, 1) := by decide +kernel
theorem dX3_placeAfterRiffles_1 : decode cX3_placeAfterRiffles 1 = .ok (.istore_n 3, 1) := by decide +kernel
theorem dX3_placeAfterRiffles_2 : decode cX3_placeAfterRiffles 2 = .ok (.iload_n 2, 1) := by decide +kernel
theorem dX3_placeAfterRiffles_3 : decode cX3_placeAfterRiffles 3 = .ok (.iconst 1, 1) := by decide +kernel
theorem dX3_placeAfterRiffles_4 : decode cX3_placeAfterRiffles 4 = .ok (.isub, 1) := by decide +kernel
theorem dX3_placeAfterRiffles_5 : decode cX3_placeAfterRiffles 5 = .ok (.istore 4, 2) := by decide +kernel
theorem dX3_placeAfterRiffles_7 : decode cX3_placeAfterRiffles 7 = .ok (.iload 4, 2) := by decide +kernel
theorem dX3_placeAfterRiffles_9 : decode cX3_placeAfterRiffles 9 = .ok (.ifCond .lt 42, 3) := by decide +kernel
theorem dX3_placeAfterRiffles_12 : decode cX3_placeAfterRiffles 12 = .ok (.iload_n 1, 1) := by decide +kernel
theorem dX3_placeAfterRiffles_13 : decode cX3_placeAfterRiffles 13 = .ok (.iload 4, 2) := by decide +kernel
theorem dX3_placeAfterRiffles_15 : decode cX3_placeAfterRiffles 15 = .ok (.ishr, 1) := by decide +kernel
theorem dX3_placeAfterRiffles_16 : decode cX3_placeAfterRiffles 16 = .ok (.iconst 1, 1) := by decide +kernel
theorem dX3_placeAfterRiffles_17 : decode cX3_placeAfterRiffles 17 = .ok (.iand, 1) := by decide +kernel
theorem dX3_placeAfterRiffles_18 : decode cX3_placeAfterRiffles 18 = .ok (.iconst 1, 1) := by decide +kernel
theorem dX3_placeAfterRiffles_19 : decode cX3_placeAfterRiffles 19 = .ok (.if_icmp .ne 7, 3) := by decide +kernel
theorem dX3_placeAfterRiffles_22 : decode cX3_placeAfterRiffles 22 = .ok (.iconst 1, 1) := by decide +kernel
theorem dX3_placeAfterRiffles_23 : decode cX3_placeAfterRiffles 23 = .ok (.goto 4, 3) := by decide +kernel
theorem dX3_placeAfterRiffles_26 : decode cX3_placeAfterRiffles 26 = .ok (.iconst 0, 1) := by decide +kernel
theorem dX3_placeAfterRiffles_27 : decode cX3_placeAfterRiffles 27 = .ok (.istore 5, 2) := by decide +kernel
theorem dX3_placeAfterRiffles_29 : decode cX3_placeAfterRiffles 29 = .ok (.iload 5, 2) := by decide +kernel
theorem dX3_placeAfterRiffles_31 : decode cX3_placeAfterRiffles 31 = .ok (.ifCond .eq 7, 3) := by decide +kernel
theorem dX3_placeAfterRiffles_34 : decode cX3_placeAfterRiffles 34 = .ok (.iconst 2, 1) := by decide +kernel
theorem dX3_placeAfterRiffles_35 : decode cX3_placeAfterRiffles 35 = .ok (.goto 4, 3) := by decide +kernel
theorem dX3_placeAfterRiffles_38 : decode cX3_placeAfterRiffles 38 = .ok (.iconst 1, 1) := by decide +kernel
theorem dX3_placeAfterRiffles_39 : decode cX3_placeAfterRiffles 39 = .ok (.iconst 0, 1) := by decide +kernel
theorem dX3_placeAfterRiffles_40 : decode cX3_placeAfterRiffles 40 = .ok (.iload_n 3, 1) := by decide +kernel
theorem dX3_placeAfterRiffles_41 : decode cX3_placeAfterRiffles 41 = .ok (.invokestatic 63, 3) := by decide +kernel
theorem dX3_placeAfterRiffles_44 : decode cX3_placeAfterRiffles 44 = .ok (.istore_n 3, 1) := by decide +kernel
theorem dX3_placeAfterRiffles_45 : decode cX3_placeAfterRiffles 45 = .ok (.iinc 4 (-1), 3) := by decide +kernel
theorem dX3_placeAfterRiffles_48 : decode cX3_placeAfterRiffles 48 = .ok (.goto (-41), 3) := by decide +kernel
theorem dX3_placeAfterRiffles_51 : decode cX3_placeAfterRiffles 51 = .ok (.iload_n 3, 1) := by decide +kernel
theorem dX3_placeAfterRiffles_52 : decode cX3_placeAfterRiffles 52 = .ok (.ireturn, 1) := by decide +kernel
set_option maxRecDepth 20000 in
theorem ggX3_placesOneWayFrom_X3_setOf : GoodIn wsX3_placesOneWayFrom wsX3_setOf := goodIn_r _ [4] (by decide +kernel) (by decide +kernel)
set_option maxRecDepth 20000 in
theorem gX3_placesOneWayFrom_X3_setOf : GoodIn wsX3_placesOneWayFrom (va_wsS RX3 96 yX3_setOf wsX3_setOf) := goodIn_app (goodIn_of _ (by decide +kernel)) ggX3_placesOneWayFrom_X3_setOf
set_option maxRecDepth 20000 in
theorem ggX3_placesOneWayFrom_X3_placeAfter : GoodIn wsX3_placesOneWayFrom wsX3_placeAfter := goodIn_r _ [7, 8, 9, 3, 10] (by decide +kernel) (by decide +kernel)
set_option maxRecDepth 20000 in
theorem gX3_placesOneWayFrom_X3_placeAfter : GoodIn wsX3_placesOneWayFrom (va_wsS RX3 63 yX3_placeAfter wsX3_placeAfter) := goodIn_app (goodIn_of _ (by decide +kernel)) ggX3_placesOneWayFrom_X3_placeAfter
theorem dX3_placesOneWayFrom_0 : decode cX3_placesOneWayFrom 0 = .ok (.iconst 0, 1) := by decide +kernel
theorem dX3_placesOneWayFrom_1 : decode cX3_placesOneWayFrom 1 = .ok (.istore_n 1, 1) := by decide +kernel
theorem dX3_placesOneWayFrom_2 : decode cX3_placesOneWayFrom 2 = .ok (.iconst 0, 1) := by decide +kernel
theorem dX3_placesOneWayFrom_3 : decode cX3_placesOneWayFrom 3 = .ok (.istore_n 2, 1) := by decide +kernel
theorem dX3_placesOneWayFrom_4 : decode cX3_placesOneWayFrom 4 = .ok (.iload_n 2, 1) := by decide +kernel
theorem dX3_placesOneWayFrom_5 : decode cX3_placesOneWayFrom 5 = .ok (.bipush 16, 2) := by decide +kernel
theorem dX3_placesOneWayFrom_7 : decode cX3_placesOneWayFrom 7 = .ok (.if_icmp .ge 67, 3) := by decide +kernel
theorem dX3_placesOneWayFrom_10 : decode cX3_placesOneWayFrom 10 = .ok (.iload_n 0, 1) := by decide +kernel
theorem dX3_placesOneWayFrom_11 : decode cX3_placesOneWayFrom 11 = .ok (.iload_n 2, 1) := by decide +kernel
theorem dX3_placesOneWayFrom_12 : decode cX3_placesOneWayFrom 12 = .ok (.invokestatic 96, 3) := by decide +kernel
theorem dX3_placesOneWayFrom_15 : decode cX3_placesOneWayFrom 15 = .ok (.iand, 1) := by decide +kernel
theorem dX3_placesOneWayFrom_16 : decode cX3_placesOneWayFrom 16 = .ok (.ifCond .eq 52, 3) := by decide +kernel
theorem dX3_placesOneWayFrom_19 : decode cX3_placesOneWayFrom 19 = .ok (.iload_n 1, 1) := by decide +kernel
theorem dX3_placesOneWayFrom_20 : decode cX3_placesOneWayFrom 20 = .ok (.iconst 1, 1) := by decide +kernel
theorem dX3_placesOneWayFrom_21 : decode cX3_placesOneWayFrom 21 = .ok (.iconst 0, 1) := by decide +kernel
theorem dX3_placesOneWayFrom_22 : decode cX3_placesOneWayFrom 22 = .ok (.iload_n 2, 1) := by decide +kernel
theorem dX3_placesOneWayFrom_23 : decode cX3_placesOneWayFrom 23 = .ok (.invokestatic 63, 3) := by decide +kernel
theorem dX3_placesOneWayFrom_26 : decode cX3_placesOneWayFrom 26 = .ok (.invokestatic 96, 3) := by decide +kernel
theorem dX3_placesOneWayFrom_29 : decode cX3_placesOneWayFrom 29 = .ok (.ior, 1) := by decide +kernel
theorem dX3_placesOneWayFrom_30 : decode cX3_placesOneWayFrom 30 = .ok (.istore_n 1, 1) := by decide +kernel
theorem dX3_placesOneWayFrom_31 : decode cX3_placesOneWayFrom 31 = .ok (.iload_n 1, 1) := by decide +kernel
theorem dX3_placesOneWayFrom_32 : decode cX3_placesOneWayFrom 32 = .ok (.iconst 2, 1) := by decide +kernel
theorem dX3_placesOneWayFrom_33 : decode cX3_placesOneWayFrom 33 = .ok (.iconst 0, 1) := by decide +kernel
theorem dX3_placesOneWayFrom_34 : decode cX3_placesOneWayFrom 34 = .ok (.iload_n 2, 1) := by decide +kernel
theorem dX3_placesOneWayFrom_35 : decode cX3_placesOneWayFrom 35 = .ok (.invokestatic 63, 3) := by decide +kernel
theorem dX3_placesOneWayFrom_38 : decode cX3_placesOneWayFrom 38 = .ok (.invokestatic 96, 3) := by decide +kernel
theorem dX3_placesOneWayFrom_41 : decode cX3_placesOneWayFrom 41 = .ok (.ior, 1) := by decide +kernel
theorem dX3_placesOneWayFrom_42 : decode cX3_placesOneWayFrom 42 = .ok (.istore_n 1, 1) := by decide +kernel
theorem dX3_placesOneWayFrom_43 : decode cX3_placesOneWayFrom 43 = .ok (.iload_n 1, 1) := by decide +kernel
theorem dX3_placesOneWayFrom_44 : decode cX3_placesOneWayFrom 44 = .ok (.iconst 4, 1) := by decide +kernel
theorem dX3_placesOneWayFrom_45 : decode cX3_placesOneWayFrom 45 = .ok (.iconst 0, 1) := by decide +kernel
theorem dX3_placesOneWayFrom_46 : decode cX3_placesOneWayFrom 46 = .ok (.iload_n 2, 1) := by decide +kernel
theorem dX3_placesOneWayFrom_47 : decode cX3_placesOneWayFrom 47 = .ok (.invokestatic 63, 3) := by decide +kernel
theorem dX3_placesOneWayFrom_50 : decode cX3_placesOneWayFrom 50 = .ok (.invokestatic 96, 3) := by decide +kernel
theorem dX3_placesOneWayFrom_53 : decode cX3_placesOneWayFrom 53 = .ok (.ior, 1) := by decide +kernel
theorem dX3_placesOneWayFrom_54 : decode cX3_placesOneWayFrom 54 = .ok (.istore_n 1, 1) := by decide +kernel
theorem dX3_placesOneWayFrom_55 : decode cX3_placesOneWayFrom 55 = .ok (.iload_n 1, 1) := by decide +kernel
theorem dX3_placesOneWayFrom_56 : decode cX3_placesOneWayFrom 56 = .ok (.iconst 3, 1) := by decide +kernel
theorem dX3_placesOneWayFrom_57 : decode cX3_placesOneWayFrom 57 = .ok (.bipush 8, 2) := by decide +kernel
theorem dX3_placesOneWayFrom_59 : decode cX3_placesOneWayFrom 59 = .ok (.iload_n 2, 1) := by decide +kernel
theorem dX3_placesOneWayFrom_60 : decode cX3_placesOneWayFrom 60 = .ok (.invokestatic 63, 3) := by decide +kernel
theorem dX3_placesOneWayFrom_63 : decode cX3_placesOneWayFrom 63 = .ok (.invokestatic 96, 3) := by decide +kernel
theorem dX3_placesOneWayFrom_66 : decode cX3_placesOneWayFrom 66 = .ok (.ior, 1) := by decide +kernel
theorem dX3_placesOneWayFrom_67 : decode cX3_placesOneWayFrom 67 = .ok (.istore_n 1, 1) := by decide +kernel
theorem dX3_placesOneWayFrom_68 : decode cX3_placesOneWayFrom 68 = .ok (.iinc 2 1, 3) := by decide +kernel
theorem dX3_placesOneWayFrom_71 : decode cX3_placesOneWayFrom 71 = .ok (.goto (-67), 3) := by decide +kernel
theorem dX3_placesOneWayFrom_74 : decode cX3_placesOneWayFrom 74 = .ok (.iload_n 1, 1) := by decide +kernel
theorem dX3_placesOneWayFrom_75 : decode cX3_placesOneWayFrom 75 = .ok (.ireturn, 1) := by decide +kernel
theorem dX3_setOf_0 : decode cX3_setOf 0 = .ok (.iconst 1, 1) := by decide +kernel
theorem dX3_setOf_1 : decode cX3_setOf 1 = .ok (.iload_n 0, 1) := by decide +kernel
theorem dX3_setOf_2 : decode cX3_setOf 2 = .ok (.ishl, 1) := by decide +kernel
theorem dX3_setOf_3 : decode cX3_setOf 3 = .ok (.ireturn, 1) := by decide +kernel
set_option maxRecDepth 20000 in
theorem ggX3_isOneAlone_J6_bitCount_0f7a4 : GoodIn wsX3_isOneAlone wsJ6_bitCount_0f7a4 := goodIn_r _ [4, 5, 6, 7] (by decide +kernel) (by decide +kernel)
set_option maxRecDepth 20000 in
theorem gX3_isOneAlone_J6_bitCount_0f7a4 : GoodIn wsX3_isOneAlone (va_wsS RX3 214 yJ6_bitCount_0f7a4 wsJ6_bitCount_0f7a4) := goodIn_app (goodIn_of _ (by decide +kernel)) ggX3_isOneAlone_J6_bitCount_0f7a4
theorem dX3_isOneAlone_0 : decode cX3_isOneAlone 0 = .ok (.iload_n 0, 1) := by decide +kernel
theorem dX3_isOneAlone_1 : decode cX3_isOneAlone 1 = .ok (.invokestatic 214, 3) := by decide +kernel
theorem dX3_isOneAlone_4 : decode cX3_isOneAlone 4 = .ok (.iconst 1, 1) := by decide +kernel
theorem dX3_isOneAlone_5 : decode cX3_isOneAlone 5 = .ok (.if_icmp .ne 7, 3) := by decide +kernel
theorem dX3_isOneAlone_8 : decode cX3_isOneAlone 8 = .ok (.iconst 1, 1) := by decide +kernel
theorem dX3_isOneAlone_9 : decode cX3_isOneAlone 9 = .ok (.goto 4, 3) := by decide +kernel
theorem dX3_isOneAlone_12 : decode cX3_isOneAlone 12 = .ok (.iconst 0, 1) := by decide +kernel
theorem dX3_isOneAlone_13 : decode cX3_isOneAlone 13 = .ok (.ireturn, 1) := by decide +kernel
end
section
theorem dX4_init_0 : decode cX4_init 0 = .ok (.aload_n 0, 1) := by decide +kernel
theorem dX4_init_1 : decode cX4_init 1 = .ok (.invokespecial 1, 3) := by decide +kernel
theorem dX4_init_4 : decode cX4_init 4 = .ok (.aload_n 0, 1) := by decide +kernel
theorem dX4_init_5 : decode cX4_init 5 = .ok (.bipush 16, 2) := by decide +kernel
theorem dX4_init_7 : decode cX4_init 7 = .ok (.newarray .int, 2) := by decide +kernel
theorem dX4_init_9 : decode cX4_init 9 = .ok (.putfield 9, 3) := by decide +kernel
theorem dX4_init_12 : decode cX4_init 12 = .ok (.aload_n 0, 1) := by decide +kernel
theorem dX4_init_13 : decode cX4_init 13 = .ok (.iconst 4, 1) := by decide +kernel
theorem dX4_init_14 : decode cX4_init 14 = .ok (.newarray .int, 2) := by decide +kernel
theorem dX4_init_16 : decode cX4_init 16 = .ok (.putfield 13, 3) := by decide +kernel
theorem dX4_init_19 : decode cX4_init 19 = .ok (.aload_n 0, 1) := by decide +kernel
theorem dX4_init_20 : decode cX4_init 20 = .ok (.iconst 4, 1) := by decide +kernel
theorem dX4_init_21 : decode cX4_init 21 = .ok (.bipush 16, 2) := by decide +kernel
theorem dX4_init_23 : decode cX4_init 23 = .ok (.multianewarray 16 2, 4) := by decide +kernel
theorem dX4_init_27 : decode cX4_init 27 = .ok (.putfield 18, 3) := by decide +kernel
theorem dX4_init_30 : decode cX4_init 30 = .ok (.aload_n 0, 1) := by decide +kernel
theorem dX4_init_31 : decode cX4_init 31 = .ok (.iconst 4, 1) := by decide +kernel
theorem dX4_init_32 : decode cX4_init 32 = .ok (.newarray .int, 2) := by decide +kernel
theorem dX4_init_34 : decode cX4_init 34 = .ok (.putfield 21, 3) := by decide +kernel
theorem dX4_init_37 : decode cX4_init 37 = .ok (.aload_n 0, 1) := by decide +kernel
theorem dX4_init_38 : decode cX4_init 38 = .ok (.iconst 4, 1) := by decide +kernel
theorem dX4_init_39 : decode cX4_init 39 = .ok (.newarray .int, 2) := by decide +kernel
theorem dX4_init_41 : decode cX4_init 41 = .ok (.putfield 24, 3) := by decide +kernel
theorem dX4_init_44 : decode cX4_init 44 = .ok (.aload_n 0, 1) := by decide +kernel
theorem dX4_init_45 : decode cX4_init 45 = .ok (.iconst 4, 1) := by decide +kernel
theorem dX4_init_46 : decode cX4_init 46 = .ok (.newarray .int, 2) := by decide +kernel
theorem dX4_init_48 : decode cX4_init 48 = .ok (.putfield 27, 3) := by decide +kernel
theorem dX4_init_51 : decode cX4_init 51 = .ok (.aload_n 0, 1) := by decide +kernel
theorem dX4_init_52 : decode cX4_init 52 = .ok (.iconst 4, 1) := by decide +kernel
theorem dX4_init_53 : decode cX4_init 53 = .ok (.newarray .int, 2) := by decide +kernel
theorem dX4_init_55 : decode cX4_init 55 = .ok (.putfield 30, 3) := by decide +kernel
theorem dX4_init_58 : decode cX4_init 58 = .ok (.iconst 0, 1) := by decide +kernel
theorem dX4_init_59 : decode cX4_init 59 = .ok (.istore_n 1, 1) := by decide +kernel
theorem dX4_init_60 : decode cX4_init 60 = .ok (.iload_n 1, 1) := by decide +kernel
theorem dX4_init_61 : decode cX4_init 61 = .ok (.bipush 16, 2) := by decide +kernel
theorem dX4_init_63 : decode cX4_init 63 = .ok (.if_icmp .ge 16, 3) := by decide +kernel
theorem dX4_init_66 : decode cX4_init 66 = .ok (.aload_n 0, 1) := by decide +kernel
theorem dX4_init_67 : decode cX4_init 67 = .ok (.getfield 9, 3) := by decide +kernel
theorem dX4_init_70 : decode cX4_init 70 = .ok (.iload_n 1, 1) := by decide +kernel
theorem dX4_init_71 : decode cX4_init 71 = .ok (.iload_n 1, 1) := by decide +kernel
theorem dX4_init_72 : decode cX4_init 72 = .ok (.iastore, 1) := by decide +kernel
theorem dX4_init_73 : decode cX4_init 73 = .ok (.iinc 1 1, 3) := by decide +kernel
theorem dX4_init_76 : decode cX4_init 76 = .ok (.goto (-16), 3) := by decide +kernel
theorem dX4_init_79 : decode cX4_init 79 = .ok (.return_, 1) := by decide +kernel
theorem dX4_thrown_0 : decode cX4_thrown 0 = .ok (.aload_n 0, 1) := by decide +kernel
theorem dX4_thrown_1 : decode cX4_thrown 1 = .ok (.getfield 33, 3) := by decide +kernel
theorem dX4_thrown_4 : decode cX4_thrown 4 = .ok (.ireturn, 1) := by decide +kernel
theorem dX4_no_0 : decode cX4_no 0 = .ok (.aload_n 0, 1) := by decide +kernel
theorem dX4_no_1 : decode cX4_no 1 = .ok (.iload_n 1, 1) := by decide +kernel
theorem dX4_no_2 : decode cX4_no 2 = .ok (.putfield 33, 3) := by decide +kernel
theorem dX4_no_5 : decode cX4_no 5 = .ok (.iconst 0, 1) := by decide +kernel
theorem dX4_no_6 : decode cX4_no 6 = .ok (.ireturn, 1) := by decide +kernel
theorem dX4_isIn_0 : decode cX4_isIn 0 = .ok (.iload_n 0, 1) := by decide +kernel
theorem dX4_isIn_1 : decode cX4_isIn 1 = .ok (.iload_n 1, 1) := by decide +kernel
theorem dX4_isIn_2 : decode cX4_isIn 2 = .ok (.if_icmp .lt 12, 3) := by decide +kernel
theorem dX4_isIn_5 : decode cX4_isIn 5 = .ok (.iload_n 0, 1) := by decide +kernel
theorem dX4_isIn_6 : decode cX4_isIn 6 = .ok (.iload_n 2, 1) := by decide +kernel
theorem dX4_isIn_7 : decode cX4_isIn 7 = .ok (.if_icmp .gt 7, 3) := by decide +kernel
theorem dX4_isIn_10 : decode cX4_isIn 10 = .ok (.iconst 1, 1) := by decide +kernel
theorem dX4_isIn_11 : decode cX4_isIn 11 = .ok (.goto 4, 3) := by decide +kernel
theorem dX4_isIn_14 : decode cX4_isIn 14 = .ok (.iconst 0, 1) := by decide +kernel
theorem dX4_isIn_15 : decode cX4_isIn 15 = .ok (.ireturn, 1) := by decide +kernel
set_option maxRecDepth 20000 in
theorem ggX4_isPlace_X4_isIn : GoodIn wsX4_isPlace wsX4_isIn := goodIn_r _ [4] (by decide +kernel) (by decide +kernel)
set_option maxRecDepth 20000 in
theorem gX4_isPlace_X4_isIn : GoodIn wsX4_isPlace (va_wsS RX4 37 yX4_isIn wsX4_isIn) := goodIn_app (goodIn_of _ (by decide +kernel)) ggX4_isPlace_X4_isIn
theorem dX4_isPlace_0 : decode cX4_isPlace 0 = .ok (.iload_n 0, 1) := by decide +kernel
theorem dX4_isPlace_1 : decode cX4_isPlace 1 = .ok (.iconst 0, 1) := by decide +kernel
theorem dX4_isPlace_2 : decode cX4_isPlace 2 = .ok (.bipush 15, 2) := by decide +kernel
theorem dX4_isPlace_4 : decode cX4_isPlace 4 = .ok (.invokestatic 37, 3) := by decide +kernel
theorem dX4_isPlace_7 : decode cX4_isPlace 7 = .ok (.ireturn, 1) := by decide +kernel
set_option maxRecDepth 20000 in
theorem ggX4_isWatcher_X4_isIn : GoodIn wsX4_isWatcher wsX4_isIn := goodIn_r _ [5] (by decide +kernel) (by decide +kernel)
set_option maxRecDepth 20000 in
theorem gX4_isWatcher_X4_isIn : GoodIn wsX4_isWatcher (va_wsS RX4 37 yX4_isIn wsX4_isIn) := goodIn_app (goodIn_of _ (by decide +kernel)) ggX4_isWatcher_X4_isIn
theorem dX4_isWatcher_0 : decode cX4_isWatcher 0 = .ok (.iload_n 1, 1) := by decide +kernel
theorem dX4_isWatcher_1 : decode cX4_isWatcher 1 = .ok (.iconst 0, 1) := by decide +kernel
theorem dX4_isWatcher_2 : decode cX4_isWatcher 2 = .ok (.aload_n 0, 1) := by decide +kernel
theorem dX4_isWatcher_3 : decode cX4_isWatcher 3 = .ok (.getfield 41, 3) := by decide +kernel
theorem dX4_isWatcher_6 : decode cX4_isWatcher 6 = .ok (.iconst 1, 1) := by decide +kernel
theorem dX4_isWatcher_7 : decode cX4_isWatcher 7 = .ok (.isub, 1) := by decide +kernel
theorem dX4_isWatcher_8 : decode cX4_isWatcher 8 = .ok (.invokestatic 37, 3) := by decide +kernel
theorem dX4_isWatcher_11 : decode cX4_isWatcher 11 = .ok (.ireturn, 1) := by decide +kernel
set_option maxRecDepth 20000 in
theorem ggX4_isPlayer_X4_isIn : GoodIn wsX4_isPlayer wsX4_isIn := goodIn_r _ [5] (by decide +kernel) (by decide +kernel)
set_option maxRecDepth 20000 in
theorem gX4_isPlayer_X4_isIn : GoodIn wsX4_isPlayer (va_wsS RX4 37 yX4_isIn wsX4_isIn) := goodIn_app (goodIn_of _ (by decide +kernel)) ggX4_isPlayer_X4_isIn
theorem dX4_isPlayer_0 : decode cX4_isPlayer 0 = .ok (.iload_n 1, 1) := by decide +kernel
theorem dX4_isPlayer_1 : decode cX4_isPlayer 1 = .ok (.iconst 0, 1) := by decide +kernel
theorem dX4_isPlayer_2 : decode cX4_isPlayer 2 = .ok (.aload_n 0, 1) := by decide +kernel
theorem dX4_isPlayer_3 : decode cX4_isPlayer 3 = .ok (.getfield 44, 3) := by decide +kernel
theorem dX4_isPlayer_6 : decode cX4_isPlayer 6 = .ok (.iconst 1, 1) := by decide +kernel
theorem dX4_isPlayer_7 : decode cX4_isPlayer 7 = .ok (.isub, 1) := by decide +kernel
theorem dX4_isPlayer_8 : decode cX4_isPlayer 8 = .ok (.invokestatic 37, 3) := by decide +kernel
theorem dX4_isPlayer_11 : decode cX4_isPlayer 11 = .ok (.ireturn, 1) := by decide +kernel
set_option maxRecDepth 20000 in
theorem ggX4_isWay_X4_isIn : GoodIn wsX4_isWay wsX4_isIn := goodIn_r _ [4] (by decide +kernel) (by decide +kernel)
set_option maxRecDepth 20000 in
theorem gX4_isWay_X4_isIn : GoodIn wsX4_isWay (va_wsS RX4 37 yX4_isIn wsX4_isIn) := goodIn_app (goodIn_of _ (by decide +kernel)) ggX4_isWay_X4_isIn
theorem dX4_isWay_0 : decode cX4_isWay 0 = .ok (.iload_n 0, 1) := by decide +kernel
theorem dX4_isWay_1 : decode cX4_isWay 1 = .ok (.ifCond .ne 11, 3) := by decide +kernel
theorem dX4_isWay_4 : decode cX4_isWay 4 = .ok (.iload_n 1, 1) := by decide +kernel
theorem dX4_isWay_5 : decode cX4_isWay 5 = .ok (.iconst 1, 1) := by decide +kernel
theorem dX4_isWay_6 : decode cX4_isWay 6 = .ok (.bipush 15, 2) := by decide +kernel
theorem dX4_isWay_8 : decode cX4_isWay 8 = .ok (.invokestatic 37, 3) := by decide +kernel
theorem dX4_isWay_11 : decode cX4_isWay 11 = .ok (.ireturn, 1) := by decide +kernel
theorem dX4_isWay_12 : decode cX4_isWay 12 = .ok (.iload_n 0, 1) := by decide +kernel
theorem dX4_isWay_13 : decode cX4_isWay 13 = .ok (.iconst 3, 1) := by decide +kernel
theorem dX4_isWay_14 : decode cX4_isWay 14 = .ok (.if_icmp .ne 11, 3) := by decide +kernel
theorem dX4_isWay_17 : decode cX4_isWay 17 = .ok (.iload_n 1, 1) := by decide +kernel
theorem dX4_isWay_18 : decode cX4_isWay 18 = .ok (.iconst 2, 1) := by decide +kernel
theorem dX4_isWay_19 : decode cX4_isWay 19 = .ok (.bipush 16, 2) := by decide +kernel
theorem dX4_isWay_21 : decode cX4_isWay 21 = .ok (.invokestatic 37, 3) := by decide +kernel
theorem dX4_isWay_24 : decode cX4_isWay 24 = .ok (.ireturn, 1) := by decide +kernel
theorem dX4_isWay_25 : decode cX4_isWay 25 = .ok (.iload_n 0, 1) := by decide +kernel
theorem dX4_isWay_26 : decode cX4_isWay 26 = .ok (.iconst 0, 1) := by decide +kernel
theorem dX4_isWay_27 : decode cX4_isWay 27 = .ok (.iconst 4, 1) := by decide +kernel
theorem dX4_isWay_28 : decode cX4_isWay 28 = .ok (.invokestatic 37, 3) := by decide +kernel
theorem dX4_isWay_31 : decode cX4_isWay 31 = .ok (.ifCond .eq 11, 3) := by decide +kernel
theorem dX4_isWay_34 : decode cX4_isWay 34 = .ok (.iload_n 1, 1) := by decide +kernel
theorem dX4_isWay_35 : decode cX4_isWay 35 = .ok (.ifCond .ne 7, 3) := by decide +kernel
theorem dX4_isWay_38 : decode cX4_isWay 38 = .ok (.iconst 1, 1) := by decide +kernel
theorem dX4_isWay_39 : decode cX4_isWay 39 = .ok (.goto 4, 3) := by decide +kernel
theorem dX4_isWay_42 : decode cX4_isWay 42 = .ok (.iconst 0, 1) := by decide +kernel
theorem dX4_isWay_43 : decode cX4_isWay 43 = .ok (.ireturn, 1) := by decide +kernel
theorem dX4_to_0 : decode cX4_to 0 = .ok (.iload_n 0, 1) := by decide +kernel
theorem dX4_to_1 : decode cX4_to 1 = .ok (.tableswitch 96 0 3 #[31, 41, 60, 81], 31) := by decide +kernel
theorem dX4_to_32 : decode cX4_to 32 = .ok (.iload_n 2, 1) := by decide +kernel
theorem dX4_to_33 : decode cX4_to 33 = .ok (.bipush 16, 2) := by decide +kernel
theorem dX4_to_35 : decode cX4_to 35 = .ok (.iadd, 1) := by decide +kernel
theorem dX4_to_36 : decode cX4_to 36 = .ok (.iload_n 1, 1) := by decide +kernel
theorem dX4_to_37 : decode cX4_to 37 = .ok (.isub, 1) := by decide +kernel
theorem dX4_to_38 : decode cX4_to 38 = .ok (.bipush 16, 2) := by decide +kernel
theorem dX4_to_40 : decode cX4_to 40 = .ok (.irem, 1) := by decide +kernel
theorem dX4_to_41 : decode cX4_to 41 = .ok (.ireturn, 1) := by decide +kernel
theorem dX4_to_42 : decode cX4_to 42 = .ok (.iload_n 2, 1) := by decide +kernel
theorem dX4_to_43 : decode cX4_to 43 = .ok (.bipush 8, 2) := by decide +kernel
theorem dX4_to_45 : decode cX4_to 45 = .ok (.if_icmp .ge 9, 3) := by decide +kernel
theorem dX4_to_48 : decode cX4_to 48 = .ok (.iconst 2, 1) := by decide +kernel
theorem dX4_to_49 : decode cX4_to 49 = .ok (.iload_n 2, 1) := by decide +kernel
theorem dX4_to_50 : decode cX4_to 50 = .ok (.imul, 1) := by decide +kernel
theorem dX4_to_51 : decode cX4_to 51 = .ok (.goto 9, 3) := by decide +kernel
theorem dX4_to_54 : decode cX4_to 54 = .ok (.iconst 2, 1) := by decide +kernel
theorem dX4_to_55 : decode cX4_to 55 = .ok (.iload_n 2, 1) := by decide +kernel
theorem dX4_to_56 : decode cX4_to 56 = .ok (.imul, 1) := by decide +kernel
theorem dX4_to_57 : decode cX4_to 57 = .ok (.bipush 15, 2) := by decide +kernel
theorem dX4_to_59 : decode cX4_to 59 = .ok (.isub, 1) := by decide +kernel
theorem dX4_to_60 : decode cX4_to 60 = .ok (.ireturn, 1) := by decide +kernel
theorem dX4_to_61 : decode cX4_to 61 = .ok (.iload_n 2, 1) := by decide +kernel
theorem dX4_to_62 : decode cX4_to 62 = .ok (.bipush 8, 2) := by decide +kernel
theorem dX4_to_64 : decode cX4_to 64 = .ok (.if_icmp .ge 11, 3) := by decide +kernel
theorem dX4_to_67 : decode cX4_to 67 = .ok (.iconst 2, 1) := by decide +kernel
theorem dX4_to_68 : decode cX4_to 68 = .ok (.iload_n 2, 1) := by decide +kernel
theorem dX4_to_69 : decode cX4_to 69 = .ok (.imul, 1) := by decide +kernel
theorem dX4_to_70 : decode cX4_to 70 = .ok (.iconst 1, 1) := by decide +kernel
theorem dX4_to_71 : decode cX4_to 71 = .ok (.iadd, 1) := by decide +kernel
theorem dX4_to_72 : decode cX4_to 72 = .ok (.goto 9, 3) := by decide +kernel
theorem dX4_to_75 : decode cX4_to 75 = .ok (.iconst 2, 1) := by decide +kernel
theorem dX4_to_76 : decode cX4_to 76 = .ok (.iload_n 2, 1) := by decide +kernel
theorem dX4_to_77 : decode cX4_to 77 = .ok (.imul, 1) := by decide +kernel
theorem dX4_to_78 : decode cX4_to 78 = .ok (.bipush 16, 2) := by decide +kernel
theorem dX4_to_80 : decode cX4_to 80 = .ok (.isub, 1) := by decide +kernel
theorem dX4_to_81 : decode cX4_to 81 = .ok (.ireturn, 1) := by decide +kernel
theorem dX4_to_82 : decode cX4_to 82 = .ok (.iload_n 2, 1) := by decide +kernel
theorem dX4_to_83 : decode cX4_to 83 = .ok (.iload_n 1, 1) := by decide +kernel
theorem dX4_to_84 : decode cX4_to 84 = .ok (.if_icmp .ge 11, 3) := by decide +kernel
theorem dX4_to_87 : decode cX4_to 87 = .ok (.iload_n 1, 1) := by decide +kernel
theorem dX4_to_88 : decode cX4_to 88 = .ok (.iconst 1, 1) := by decide +kernel
theorem dX4_to_89 : decode cX4_to 89 = .ok (.isub, 1) := by decide +kernel
theorem dX4_to_90 : decode cX4_to 90 = .ok (.iload_n 2, 1) := by decide +kernel
theorem dX4_to_91 : decode cX4_to 91 = .ok (.isub, 1) := by decide +kernel
theorem dX4_to_92 : decode cX4_to 92 = .ok (.goto 4, 3) := by decide +kernel
theorem dX4_to_95 : decode cX4_to 95 = .ok (.iload_n 2, 1) := by decide +kernel
theorem dX4_to_96 : decode cX4_to 96 = .ok (.ireturn, 1) := by decide +kernel
theorem dX4_to_97 : decode cX4_to 97 = .ok (.getstatic 47, 3) := by decide +kernel
theorem dX4_to_100 : decode cX4_to 100 = .ok (.iload_n 2, 1) := by decide +kernel
theorem dX4_to_101 : decode cX4_to 101 = .ok (.iaload, 1) := by decide +kernel
theorem dX4_to_102 : decode cX4_to 102 = .ok (.ireturn, 1) := by decide +kernel
set_option maxRecDepth 20000 in
theorem ggX4_move_X4_to : GoodIn wsX4_move wsX4_to := goodIn_r _ [10, 11] (by decide +kernel) (by decide +kernel)
set_option maxRecDepth 20000 in
theorem gX4_move_X4_to : GoodIn wsX4_move (va_wsS RX4 55 yX4_to wsX4_to) := goodIn_app (goodIn_of _ (by decide +kernel)) ggX4_move_X4_to
theorem dX4_move_0 : decode cX4_move 0 = .ok (.aload_n 0, 1) := by decide +kernel
theorem dX4_move_1 : decode cX4_move 1 = .ok (.invokevirtual 50, 3) := by decide +kernel
theorem dX4_move_4 : decode cX4_move 4 = .ok (.checkcast 51, 3) := by decide +kernel
theorem dX4_move_7 : decode cX4_move 7 = .ok (.astore_n 3, 1) := by decide +kernel
theorem dX4_move_8 : decode cX4_move 8 = .ok (.iconst 0, 1) := by decide +kernel
theorem dX4_move_9 : decode cX4_move 9 = .ok (.istore 4, 2) := by decide +kernel
theorem dX4_move_11 : decode cX4_move 11 = .ok (.iload 4, 2) := by decide +kernel
theorem dX4_move_13 : decode cX4_move 13 = .ok (.bipush 16, 2) := by decide +kernel
theorem dX4_move_15 : decode cX4_move 15 = .ok (.if_icmp .ge 22, 3) := by decide +kernel
theorem dX4_move_18 : decode cX4_move 18 = .ok (.aload_n 0, 1) := by decide +kernel
theorem dX4_move_19 : decode cX4_move 19 = .ok (.iload_n 1, 1) := by decide +kernel
theorem dX4_move_20 : decode cX4_move 20 = .ok (.iload_n 2, 1) := by decide +kernel
theorem dX4_move_21 : decode cX4_move 21 = .ok (.iload 4, 2) := by decide +kernel
theorem dX4_move_23 : decode cX4_move 23 = .ok (.invokestatic 55, 3) := by decide +kernel
theorem dX4_move_26 : decode cX4_move 26 = .ok (.aload_n 3, 1) := by decide +kernel
theorem dX4_move_27 : decode cX4_move 27 = .ok (.iload 4, 2) := by decide +kernel
theorem dX4_move_29 : decode cX4_move 29 = .ok (.iaload, 1) := by decide +kernel
theorem dX4_move_30 : decode cX4_move 30 = .ok (.iastore, 1) := by decide +kernel
theorem dX4_move_31 : decode cX4_move 31 = .ok (.iinc 4 1, 3) := by decide +kernel
theorem dX4_move_34 : decode cX4_move 34 = .ok (.goto (-23), 3) := by decide +kernel
theorem dX4_move_37 : decode cX4_move 37 = .ok (.return_, 1) := by decide +kernel
set_option maxRecDepth 20000 in
theorem ggX4_go_X4_isWay : GoodIn wsX4_go wsX4_isWay := goodIn_r _ [9, 10, 11, 8, 12] (by decide +kernel) (by decide +kernel)
set_option maxRecDepth 20000 in
theorem gX4_go_X4_isWay : GoodIn wsX4_go (va_wsS RX4 59 yX4_isWay wsX4_isWay) := goodIn_app (goodIn_of _ (by decide +kernel)) ggX4_go_X4_isWay
set_option maxRecDepth 20000 in
theorem ggX4_go_X4_no : GoodIn wsX4_go wsX4_no := goodIn_r _ [16, 1, 30, 31, 32, 33, 34, 35, 36, 37, 38, 39, 40, 41, 42, 43] (by decide +kernel) (by decide +kernel)
set_option maxRecDepth 20000 in
theorem gX4_go_X4_no : GoodIn wsX4_go (wsV RX4 63 RX4 yX4_no wsX4_no) := goodIn_app (goodIn_of _ (by decide +kernel)) ggX4_go_X4_no
set_option maxRecDepth 20000 in
theorem ggX4_go_X4_move : GoodIn wsX4_go wsX4_move := goodIn_r _ [19, 20, 21, 22, 23, 24, 25, 26, 27, 8, 28, 29] (by decide +kernel) (by decide +kernel)
set_option maxRecDepth 20000 in
theorem gX4_go_X4_move : GoodIn wsX4_go (va_wsS RX4 67 yX4_move wsX4_move) := goodIn_app (goodIn_of _ (by decide +kernel)) ggX4_go_X4_move
theorem dX4_go_0 : decode cX4_go 0 = .ok (.aload_n 0, 1) := by decide +kernel
theorem dX4_go_1 : decode cX4_go 1 = .ok (.iconst 0, 1) := by decide +kernel
theorem dX4_go_2 : decode cX4_go 2 = .ok (.putfield 33, 3) := by decide +kernel
theorem dX4_go_5 : decode cX4_go 5 = .ok (.iload_n 1, 1) := by decide +kernel
theorem dX4_go_6 : decode cX4_go 6 = .ok (.iload_n 2, 1) := by decide +kernel
theorem dX4_go_7 : decode cX4_go 7 = .ok (.invokestatic 59, 3) := by decide +kernel
theorem dX4_go_10 : decode cX4_go 10 = .ok (.ifCond .ne 9, 3) := by decide +kernel
theorem dX4_go_13 : decode cX4_go 13 = .ok (.aload_n 0, 1) := by decide +kernel
theorem dX4_go_14 : decode cX4_go 14 = .ok (.iconst 1, 1) := by decide +kernel
theorem dX4_go_15 : decode cX4_go 15 = .ok (.invokevirtual 63, 3) := by decide +kernel
theorem dX4_go_18 : decode cX4_go 18 = .ok (.ireturn, 1) := by decide +kernel
theorem dX4_go_19 : decode cX4_go 19 = .ok (.aload_n 0, 1) := by decide +kernel
theorem dX4_go_20 : decode cX4_go 20 = .ok (.getfield 9, 3) := by decide +kernel
theorem dX4_go_23 : decode cX4_go 23 = .ok (.iload_n 1, 1) := by decide +kernel
theorem dX4_go_24 : decode cX4_go 24 = .ok (.iload_n 2, 1) := by decide +kernel
theorem dX4_go_25 : decode cX4_go 25 = .ok (.invokestatic 67, 3) := by decide +kernel
theorem dX4_go_28 : decode cX4_go 28 = .ok (.iconst 0, 1) := by decide +kernel
theorem dX4_go_29 : decode cX4_go 29 = .ok (.istore 4, 2) := by decide +kernel
theorem dX4_go_31 : decode cX4_go 31 = .ok (.iload 4, 2) := by decide +kernel
theorem dX4_go_33 : decode cX4_go 33 = .ok (.aload_n 0, 1) := by decide +kernel
theorem dX4_go_34 : decode cX4_go 34 = .ok (.getfield 41, 3) := by decide +kernel
theorem dX4_go_37 : decode cX4_go 37 = .ok (.if_icmp .ge 25, 3) := by decide +kernel
theorem dX4_go_40 : decode cX4_go 40 = .ok (.iload_n 3, 1) := by decide +kernel
theorem dX4_go_41 : decode cX4_go 41 = .ok (.ifCond .eq 21, 3) := by decide +kernel
theorem dX4_go_44 : decode cX4_go 44 = .ok (.aload_n 0, 1) := by decide +kernel
theorem dX4_go_45 : decode cX4_go 45 = .ok (.getfield 18, 3) := by decide +kernel
theorem dX4_go_48 : decode cX4_go 48 = .ok (.iload 4, 2) := by decide +kernel
theorem dX4_go_50 : decode cX4_go 50 = .ok (.aaload, 1) := by decide +kernel
theorem dX4_go_51 : decode cX4_go 51 = .ok (.iload_n 1, 1) := by decide +kernel
theorem dX4_go_52 : decode cX4_go 52 = .ok (.iload_n 2, 1) := by decide +kernel
theorem dX4_go_53 : decode cX4_go 53 = .ok (.invokestatic 67, 3) := by decide +kernel
theorem dX4_go_56 : decode cX4_go 56 = .ok (.iinc 4 1, 3) := by decide +kernel
theorem dX4_go_59 : decode cX4_go 59 = .ok (.goto (-28), 3) := by decide +kernel
theorem dX4_go_62 : decode cX4_go 62 = .ok (.aload_n 0, 1) := by decide +kernel
theorem dX4_go_63 : decode cX4_go 63 = .ok (.dup, 1) := by decide +kernel
theorem dX4_go_64 : decode cX4_go 64 = .ok (.getfield 71, 3) := by decide +kernel
theorem dX4_go_67 : decode cX4_go 67 = .ok (.iconst 1, 1) := by decide +kernel
theorem dX4_go_68 : decode cX4_go 68 = .ok (.iadd, 1) := by decide +kernel
theorem dX4_go_69 : decode cX4_go 69 = .ok (.putfield 71, 3) := by decide +kernel
theorem dX4_go_72 : decode cX4_go 72 = .ok (.aload_n 0, 1) := by decide +kernel
theorem dX4_go_73 : decode cX4_go 73 = .ok (.getfield 9, 3) := by decide +kernel
theorem dX4_go_76 : decode cX4_go 76 = .ok (.iconst 0, 1) := by decide +kernel
theorem dX4_go_77 : decode cX4_go 77 = .ok (.iaload, 1) := by decide +kernel
theorem dX4_go_78 : decode cX4_go 78 = .ok (.ireturn, 1) := by decide +kernel
set_option maxRecDepth 20000 in
theorem ggX4_falseCut_X4_isWay : GoodIn wsX4_falseCut wsX4_isWay := goodIn_r _ [9, 10, 11, 8, 12] (by decide +kernel) (by decide +kernel)
set_option maxRecDepth 20000 in
theorem gX4_falseCut_X4_isWay : GoodIn wsX4_falseCut (va_wsS RX4 59 yX4_isWay wsX4_isWay) := goodIn_app (goodIn_of _ (by decide +kernel)) ggX4_falseCut_X4_isWay
set_option maxRecDepth 20000 in
theorem ggX4_falseCut_X4_no : GoodIn wsX4_falseCut wsX4_no := goodIn_r _ [16, 1, 30, 31, 32, 33, 34, 35, 36, 37, 38, 39, 40, 41, 42, 43] (by decide +kernel) (by decide +kernel)
set_option maxRecDepth 20000 in
theorem gX4_falseCut_X4_no : GoodIn wsX4_falseCut (wsV RX4 63 RX4 yX4_no wsX4_no) := goodIn_app (goodIn_of _ (by decide +kernel)) ggX4_falseCut_X4_no
set_option maxRecDepth 20000 in
theorem ggX4_falseCut_X4_move : GoodIn wsX4_falseCut wsX4_move := goodIn_r _ [19, 20, 21, 22, 23, 24, 25, 26, 27, 8, 28, 29] (by decide +kernel) (by decide +kernel)
set_option maxRecDepth 20000 in
theorem gX4_falseCut_X4_move : GoodIn wsX4_falseCut (va_wsS RX4 67 yX4_move wsX4_move) := goodIn_app (goodIn_of _ (by decide +kernel)) ggX4_falseCut_X4_move
theorem dX4_falseCut_0 : decode cX4_falseCut 0 = .ok (.aload_n 0, 1) := by decide +kernel
theorem dX4_falseCut_1 : decode cX4_falseCut 1 = .ok (.iconst 0, 1) := by decide +kernel
theorem dX4_falseCut_2 : decode cX4_falseCut 2 = .ok (.putfield 33, 3) := by decide +kernel
theorem dX4_falseCut_5 : decode cX4_falseCut 5 = .ok (.iconst 0, 1) := by decide +kernel
theorem dX4_falseCut_6 : decode cX4_falseCut 6 = .ok (.iload_n 1, 1) := by decide +kernel
theorem dX4_falseCut_7 : decode cX4_falseCut 7 = .ok (.invokestatic 59, 3) := by decide +kernel
theorem dX4_falseCut_10 : decode cX4_falseCut 10 = .ok (.ifCond .ne 9, 3) := by decide +kernel
theorem dX4_falseCut_13 : decode cX4_falseCut 13 = .ok (.aload_n 0, 1) := by decide +kernel
theorem dX4_falseCut_14 : decode cX4_falseCut 14 = .ok (.iconst 1, 1) := by decide +kernel
theorem dX4_falseCut_15 : decode cX4_falseCut 15 = .ok (.invokevirtual 63, 3) := by decide +kernel
theorem dX4_falseCut_18 : decode cX4_falseCut 18 = .ok (.ireturn, 1) := by decide +kernel
theorem dX4_falseCut_19 : decode cX4_falseCut 19 = .ok (.iconst 0, 1) := by decide +kernel
theorem dX4_falseCut_20 : decode cX4_falseCut 20 = .ok (.istore_n 2, 1) := by decide +kernel
theorem dX4_falseCut_21 : decode cX4_falseCut 21 = .ok (.iconst 0, 1) := by decide +kernel
theorem dX4_falseCut_22 : decode cX4_falseCut 22 = .ok (.istore_n 3, 1) := by decide +kernel
theorem dX4_falseCut_23 : decode cX4_falseCut 23 = .ok (.iload_n 3, 1) := by decide +kernel
theorem dX4_falseCut_24 : decode cX4_falseCut 24 = .ok (.aload_n 0, 1) := by decide +kernel
theorem dX4_falseCut_25 : decode cX4_falseCut 25 = .ok (.getfield 41, 3) := by decide +kernel
theorem dX4_falseCut_28 : decode cX4_falseCut 28 = .ok (.if_icmp .ge 36, 3) := by decide +kernel
theorem dX4_falseCut_31 : decode cX4_falseCut 31 = .ok (.aload_n 0, 1) := by decide +kernel
theorem dX4_falseCut_32 : decode cX4_falseCut 32 = .ok (.getfield 13, 3) := by decide +kernel
theorem dX4_falseCut_35 : decode cX4_falseCut 35 = .ok (.iload_n 3, 1) := by decide +kernel
theorem dX4_falseCut_36 : decode cX4_falseCut 36 = .ok (.iaload, 1) := by decide +kernel
theorem dX4_falseCut_37 : decode cX4_falseCut 37 = .ok (.iconst 1, 1) := by decide +kernel
theorem dX4_falseCut_38 : decode cX4_falseCut 38 = .ok (.if_icmp .ne 6, 3) := by decide +kernel
theorem dX4_falseCut_41 : decode cX4_falseCut 41 = .ok (.goto 17, 3) := by decide +kernel
theorem dX4_falseCut_44 : decode cX4_falseCut 44 = .ok (.aload_n 0, 1) := by decide +kernel
theorem dX4_falseCut_45 : decode cX4_falseCut 45 = .ok (.getfield 18, 3) := by decide +kernel
theorem dX4_falseCut_48 : decode cX4_falseCut 48 = .ok (.iload_n 3, 1) := by decide +kernel
theorem dX4_falseCut_49 : decode cX4_falseCut 49 = .ok (.aaload, 1) := by decide +kernel
theorem dX4_falseCut_50 : decode cX4_falseCut 50 = .ok (.iconst 0, 1) := by decide +kernel
theorem dX4_falseCut_51 : decode cX4_falseCut 51 = .ok (.iload_n 1, 1) := by decide +kernel
theorem dX4_falseCut_52 : decode cX4_falseCut 52 = .ok (.invokestatic 67, 3) := by decide +kernel
theorem dX4_falseCut_55 : decode cX4_falseCut 55 = .ok (.iinc 2 1, 3) := by decide +kernel
theorem dX4_falseCut_58 : decode cX4_falseCut 58 = .ok (.iinc 3 1, 3) := by decide +kernel
theorem dX4_falseCut_61 : decode cX4_falseCut 61 = .ok (.goto (-38), 3) := by decide +kernel
theorem dX4_falseCut_64 : decode cX4_falseCut 64 = .ok (.aload_n 0, 1) := by decide +kernel
theorem dX4_falseCut_65 : decode cX4_falseCut 65 = .ok (.dup, 1) := by decide +kernel
theorem dX4_falseCut_66 : decode cX4_falseCut 66 = .ok (.getfield 74, 3) := by decide +kernel
theorem dX4_falseCut_69 : decode cX4_falseCut 69 = .ok (.iconst 1, 1) := by decide +kernel
theorem dX4_falseCut_70 : decode cX4_falseCut 70 = .ok (.iadd, 1) := by decide +kernel
theorem dX4_falseCut_71 : decode cX4_falseCut 71 = .ok (.putfield 74, 3) := by decide +kernel
theorem dX4_falseCut_74 : decode cX4_falseCut 74 = .ok (.iload_n 2, 1) := by decide +kernel
theorem dX4_falseCut_75 : decode cX4_falseCut 75 = .ok (.ireturn, 1) := by decide +kernel
set_option maxRecDepth 20000 in
theorem ggX4_comes_X4_isWay : GoodIn wsX4_comes wsX4_isWay := goodIn_r _ [5, 6, 7, 4, 8] (by decide +kernel) (by decide +kernel)
set_option maxRecDepth 20000 in
theorem gX4_comes_X4_isWay : GoodIn wsX4_comes (va_wsS RX4 59 yX4_isWay wsX4_isWay) := goodIn_app (goodIn_of _ (by decide +kernel)) ggX4_comes_X4_isWay
set_option maxRecDepth 20000 in
theorem ggX4_comes_X4_no : GoodIn wsX4_comes wsX4_no := goodIn_r _ [12, 1, 20, 21, 22, 23, 24, 25, 26, 27, 28, 29, 30, 31, 32, 33] (by decide +kernel) (by decide +kernel)
set_option maxRecDepth 20000 in
theorem gX4_comes_X4_no : GoodIn wsX4_comes (wsV RX4 63 RX4 yX4_no wsX4_no) := goodIn_app (goodIn_of _ (by decide +kernel)) ggX4_comes_X4_no
set_option maxRecDepth 20000 in
theorem ggX4_comes_X4_isPlace : GoodIn wsX4_comes wsX4_isPlace := goodIn_r _ [15, 6, 7, 4, 8] (by decide +kernel) (by decide +kernel)
set_option maxRecDepth 20000 in
theorem gX4_comes_X4_isPlace : GoodIn wsX4_comes (va_wsS RX4 77 yX4_isPlace wsX4_isPlace) := goodIn_app (goodIn_of _ (by decide +kernel)) ggX4_comes_X4_isPlace
set_option maxRecDepth 20000 in
theorem ggX4_comes_X4_to : GoodIn wsX4_comes wsX4_to := goodIn_r _ [18, 19] (by decide +kernel) (by decide +kernel)
set_option maxRecDepth 20000 in
theorem gX4_comes_X4_to : GoodIn wsX4_comes (va_wsS RX4 55 yX4_to wsX4_to) := goodIn_app (goodIn_of _ (by decide +kernel)) ggX4_comes_X4_to
theorem dX4_comes_0 : decode cX4_comes 0 = .ok (.aload_n 0, 1) := by decide +kernel
theorem dX4_comes_1 : decode cX4_comes 1 = .ok (.iconst 0, 1) := by decide +kernel
theorem dX4_comes_2 : decode cX4_comes 2 = .ok (.putfield 33, 3) := by decide +kernel
theorem dX4_comes_5 : decode cX4_comes 5 = .ok (.iload_n 1, 1) := by decide +kernel
theorem dX4_comes_6 : decode cX4_comes 6 = .ok (.iload_n 2, 1) := by decide +kernel
theorem dX4_comes_7 : decode cX4_comes 7 = .ok (.invokestatic 59, 3) := by decide +kernel
theorem dX4_comes_10 : decode cX4_comes 10 = .ok (.ifCond .ne 9, 3) := by decide +kernel
theorem dX4_comes_13 : decode cX4_comes 13 = .ok (.aload_n 0, 1) := by decide +kernel
theorem dX4_comes_14 : decode cX4_comes 14 = .ok (.iconst 1, 1) := by decide +kernel
theorem dX4_comes_15 : decode cX4_comes 15 = .ok (.invokevirtual 63, 3) := by decide +kernel
theorem dX4_comes_18 : decode cX4_comes 18 = .ok (.ireturn, 1) := by decide +kernel
theorem dX4_comes_19 : decode cX4_comes 19 = .ok (.iload_n 3, 1) := by decide +kernel
theorem dX4_comes_20 : decode cX4_comes 20 = .ok (.invokestatic 77, 3) := by decide +kernel
theorem dX4_comes_23 : decode cX4_comes 23 = .ok (.ifCond .eq 12, 3) := by decide +kernel
theorem dX4_comes_26 : decode cX4_comes 26 = .ok (.iload_n 1, 1) := by decide +kernel
theorem dX4_comes_27 : decode cX4_comes 27 = .ok (.iload_n 2, 1) := by decide +kernel
theorem dX4_comes_28 : decode cX4_comes 28 = .ok (.iload_n 3, 1) := by decide +kernel
theorem dX4_comes_29 : decode cX4_comes 29 = .ok (.invokestatic 55, 3) := by decide +kernel
theorem dX4_comes_32 : decode cX4_comes 32 = .ok (.goto 8, 3) := by decide +kernel
theorem dX4_comes_35 : decode cX4_comes 35 = .ok (.aload_n 0, 1) := by decide +kernel
theorem dX4_comes_36 : decode cX4_comes 36 = .ok (.iconst 2, 1) := by decide +kernel
theorem dX4_comes_37 : decode cX4_comes 37 = .ok (.invokevirtual 63, 3) := by decide +kernel
theorem dX4_comes_40 : decode cX4_comes 40 = .ok (.ireturn, 1) := by decide +kernel
set_option maxRecDepth 20000 in
theorem ggX4_card_X4_isPlace : GoodIn wsX4_card wsX4_isPlace := goodIn_r _ [6, 7, 8, 5, 9] (by decide +kernel) (by decide +kernel)
set_option maxRecDepth 20000 in
theorem gX4_card_X4_isPlace : GoodIn wsX4_card (va_wsS RX4 77 yX4_isPlace wsX4_isPlace) := goodIn_app (goodIn_of _ (by decide +kernel)) ggX4_card_X4_isPlace
set_option maxRecDepth 20000 in
theorem ggX4_card_X4_no : GoodIn wsX4_card wsX4_no := goodIn_r _ [13, 1, 14, 15, 16, 17, 18, 19, 20, 21, 22, 23, 24, 25, 26, 27] (by decide +kernel) (by decide +kernel)
set_option maxRecDepth 20000 in
theorem gX4_card_X4_no : GoodIn wsX4_card (wsV RX4 63 RX4 yX4_no wsX4_no) := goodIn_app (goodIn_of _ (by decide +kernel)) ggX4_card_X4_no
theorem dX4_card_0 : decode cX4_card 0 = .ok (.aload_n 0, 1) := by decide +kernel
theorem dX4_card_1 : decode cX4_card 1 = .ok (.iconst 0, 1) := by decide +kernel
theorem dX4_card_2 : decode cX4_card 2 = .ok (.putfield 33, 3) := by decide +kernel
theorem dX4_card_5 : decode cX4_card 5 = .ok (.iload_n 1, 1) := by decide +kernel
theorem dX4_card_6 : decode cX4_card 6 = .ok (.invokestatic 77, 3) := by decide +kernel
theorem dX4_card_9 : decode cX4_card 9 = .ok (.ifCond .eq 12, 3) := by decide +kernel
theorem dX4_card_12 : decode cX4_card 12 = .ok (.aload_n 0, 1) := by decide +kernel
theorem dX4_card_13 : decode cX4_card 13 = .ok (.getfield 9, 3) := by decide +kernel
theorem dX4_card_16 : decode cX4_card 16 = .ok (.iload_n 1, 1) := by decide +kernel
theorem dX4_card_17 : decode cX4_card 17 = .ok (.iaload, 1) := by decide +kernel
theorem dX4_card_18 : decode cX4_card 18 = .ok (.goto 8, 3) := by decide +kernel
theorem dX4_card_21 : decode cX4_card 21 = .ok (.aload_n 0, 1) := by decide +kernel
theorem dX4_card_22 : decode cX4_card 22 = .ok (.iconst 1, 1) := by decide +kernel
theorem dX4_card_23 : decode cX4_card 23 = .ok (.invokevirtual 63, 3) := by decide +kernel
theorem dX4_card_26 : decode cX4_card 26 = .ok (.ireturn, 1) := by decide +kernel
theorem dX4_placeOf_0 : decode cX4_placeOf 0 = .ok (.iconst 0, 1) := by decide +kernel
theorem dX4_placeOf_1 : decode cX4_placeOf 1 = .ok (.istore_n 2, 1) := by decide +kernel
theorem dX4_placeOf_2 : decode cX4_placeOf 2 = .ok (.aload_n 0, 1) := by decide +kernel
theorem dX4_placeOf_3 : decode cX4_placeOf 3 = .ok (.getfield 9, 3) := by decide +kernel
theorem dX4_placeOf_6 : decode cX4_placeOf 6 = .ok (.iload_n 2, 1) := by decide +kernel
theorem dX4_placeOf_7 : decode cX4_placeOf 7 = .ok (.iaload, 1) := by decide +kernel
theorem dX4_placeOf_8 : decode cX4_placeOf 8 = .ok (.iload_n 1, 1) := by decide +kernel
theorem dX4_placeOf_9 : decode cX4_placeOf 9 = .ok (.if_icmp .eq 9, 3) := by decide +kernel
theorem dX4_placeOf_12 : decode cX4_placeOf 12 = .ok (.iinc 2 1, 3) := by decide +kernel
theorem dX4_placeOf_15 : decode cX4_placeOf 15 = .ok (.goto (-13), 3) := by decide +kernel
theorem dX4_placeOf_18 : decode cX4_placeOf 18 = .ok (.iload_n 2, 1) := by decide +kernel
theorem dX4_placeOf_19 : decode cX4_placeOf 19 = .ok (.ireturn, 1) := by decide +kernel
set_option maxRecDepth 20000 in
theorem ggX4_find_X4_isPlace : GoodIn wsX4_find wsX4_isPlace := goodIn_r _ [5, 6, 7, 4, 8] (by decide +kernel) (by decide +kernel)
set_option maxRecDepth 20000 in
theorem gX4_find_X4_isPlace : GoodIn wsX4_find (va_wsS RX4 77 yX4_isPlace wsX4_isPlace) := goodIn_app (goodIn_of _ (by decide +kernel)) ggX4_find_X4_isPlace
set_option maxRecDepth 20000 in
theorem ggX4_find_X4_placeOf : GoodIn wsX4_find wsX4_placeOf := goodIn_r _ [12, 13, 18, 19, 20, 21, 22, 23, 24, 25, 26, 27, 28, 29, 30, 31] (by decide +kernel) (by decide +kernel)
set_option maxRecDepth 20000 in
theorem gX4_find_X4_placeOf : GoodIn wsX4_find (wsV RX4 81 RX4 yX4_placeOf wsX4_placeOf) := goodIn_app (goodIn_of _ (by decide +kernel)) ggX4_find_X4_placeOf
set_option maxRecDepth 20000 in
theorem ggX4_find_X4_no : GoodIn wsX4_find wsX4_no := goodIn_r _ [17, 1, 18, 19, 20, 21, 22, 23, 24, 25, 26, 27, 28, 29, 30, 31] (by decide +kernel) (by decide +kernel)
set_option maxRecDepth 20000 in
theorem gX4_find_X4_no : GoodIn wsX4_find (wsV RX4 63 RX4 yX4_no wsX4_no) := goodIn_app (goodIn_of _ (by decide +kernel)) ggX4_find_X4_no
theorem dX4_find_0 : decode cX4_find 0 = .ok (.aload_n 0, 1) := by decide +kernel
theorem dX4_find_1 : decode cX4_find 1 = .ok (.iconst 0, 1) := by decide +kernel
theorem dX4_find_2 : decode cX4_find 2 = .ok (.putfield 33, 3) := by decide +kernel
theorem dX4_find_5 : decode cX4_find 5 = .ok (.iload_n 1, 1) := by decide +kernel
theorem dX4_find_6 : decode cX4_find 6 = .ok (.invokestatic 77, 3) := by decide +kernel
theorem dX4_find_9 : decode cX4_find 9 = .ok (.ifCond .eq 11, 3) := by decide +kernel
theorem dX4_find_12 : decode cX4_find 12 = .ok (.aload_n 0, 1) := by decide +kernel
theorem dX4_find_13 : decode cX4_find 13 = .ok (.iload_n 1, 1) := by decide +kernel
theorem dX4_find_14 : decode cX4_find 14 = .ok (.invokevirtual 81, 3) := by decide +kernel
theorem dX4_find_17 : decode cX4_find 17 = .ok (.goto 8, 3) := by decide +kernel
theorem dX4_find_20 : decode cX4_find 20 = .ok (.aload_n 0, 1) := by decide +kernel
theorem dX4_find_21 : decode cX4_find 21 = .ok (.iconst 1, 1) := by decide +kernel
theorem dX4_find_22 : decode cX4_find 22 = .ok (.invokevirtual 63, 3) := by decide +kernel
theorem dX4_find_25 : decode cX4_find 25 = .ok (.ireturn, 1) := by decide +kernel
set_option maxRecDepth 20000 in
theorem ggX4_watch_X4_no : GoodIn wsX4_watch wsX4_no := goodIn_r _ [10, 1, 11, 12, 13, 14, 15, 16, 17, 18, 19, 20, 21, 22, 23, 24] (by decide +kernel) (by decide +kernel)
set_option maxRecDepth 20000 in
theorem gX4_watch_X4_no : GoodIn wsX4_watch (wsV RX4 63 RX4 yX4_no wsX4_no) := goodIn_app (goodIn_of _ (by decide +kernel)) ggX4_watch_X4_no
theorem dX4_watch_0 : decode cX4_watch 0 = .ok (.aload_n 0, 1) := by decide +kernel
theorem dX4_watch_1 : decode cX4_watch 1 = .ok (.iconst 0, 1) := by decide +kernel
theorem dX4_watch_2 : decode cX4_watch 2 = .ok (.putfield 33, 3) := by decide +kernel
theorem dX4_watch_5 : decode cX4_watch 5 = .ok (.aload_n 0, 1) := by decide +kernel
theorem dX4_watch_6 : decode cX4_watch 6 = .ok (.getfield 41, 3) := by decide +kernel
theorem dX4_watch_9 : decode cX4_watch 9 = .ok (.iconst 4, 1) := by decide +kernel
theorem dX4_watch_10 : decode cX4_watch 10 = .ok (.if_icmp .ne 9, 3) := by decide +kernel
theorem dX4_watch_13 : decode cX4_watch 13 = .ok (.aload_n 0, 1) := by decide +kernel
theorem dX4_watch_14 : decode cX4_watch 14 = .ok (.iconst 1, 1) := by decide +kernel
theorem dX4_watch_15 : decode cX4_watch 15 = .ok (.invokevirtual 63, 3) := by decide +kernel
theorem dX4_watch_18 : decode cX4_watch 18 = .ok (.ireturn, 1) := by decide +kernel
theorem dX4_watch_19 : decode cX4_watch 19 = .ok (.aload_n 0, 1) := by decide +kernel
theorem dX4_watch_20 : decode cX4_watch 20 = .ok (.getfield 13, 3) := by decide +kernel
theorem dX4_watch_23 : decode cX4_watch 23 = .ok (.aload_n 0, 1) := by decide +kernel
theorem dX4_watch_24 : decode cX4_watch 24 = .ok (.getfield 41, 3) := by decide +kernel
theorem dX4_watch_27 : decode cX4_watch 27 = .ok (.iload_n 1, 1) := by decide +kernel
theorem dX4_watch_28 : decode cX4_watch 28 = .ok (.ifCond .eq 7, 3) := by decide +kernel
theorem dX4_watch_31 : decode cX4_watch 31 = .ok (.iconst 1, 1) := by decide +kernel
theorem dX4_watch_32 : decode cX4_watch 32 = .ok (.goto 4, 3) := by decide +kernel
theorem dX4_watch_35 : decode cX4_watch 35 = .ok (.iconst 0, 1) := by decide +kernel
theorem dX4_watch_36 : decode cX4_watch 36 = .ok (.iastore, 1) := by decide +kernel
theorem dX4_watch_37 : decode cX4_watch 37 = .ok (.iconst 0, 1) := by decide +kernel
theorem dX4_watch_38 : decode cX4_watch 38 = .ok (.istore_n 2, 1) := by decide +kernel
theorem dX4_watch_39 : decode cX4_watch 39 = .ok (.iload_n 2, 1) := by decide +kernel
theorem dX4_watch_40 : decode cX4_watch 40 = .ok (.bipush 16, 2) := by decide +kernel
theorem dX4_watch_42 : decode cX4_watch 42 = .ok (.if_icmp .ge 22, 3) := by decide +kernel
theorem dX4_watch_45 : decode cX4_watch 45 = .ok (.aload_n 0, 1) := by decide +kernel
theorem dX4_watch_46 : decode cX4_watch 46 = .ok (.getfield 18, 3) := by decide +kernel
theorem dX4_watch_49 : decode cX4_watch 49 = .ok (.aload_n 0, 1) := by decide +kernel
theorem dX4_watch_50 : decode cX4_watch 50 = .ok (.getfield 41, 3) := by decide +kernel
theorem dX4_watch_53 : decode cX4_watch 53 = .ok (.aaload, 1) := by decide +kernel
theorem dX4_watch_54 : decode cX4_watch 54 = .ok (.iload_n 2, 1) := by decide +kernel
theorem dX4_watch_55 : decode cX4_watch 55 = .ok (.ldc 84, 2) := by decide +kernel
theorem dX4_watch_57 : decode cX4_watch 57 = .ok (.iastore, 1) := by decide +kernel
theorem dX4_watch_58 : decode cX4_watch 58 = .ok (.iinc 2 1, 3) := by decide +kernel
theorem dX4_watch_61 : decode cX4_watch 61 = .ok (.goto (-22), 3) := by decide +kernel
theorem dX4_watch_64 : decode cX4_watch 64 = .ok (.aload_n 0, 1) := by decide +kernel
theorem dX4_watch_65 : decode cX4_watch 65 = .ok (.dup, 1) := by decide +kernel
theorem dX4_watch_66 : decode cX4_watch 66 = .ok (.getfield 41, 3) := by decide +kernel
theorem dX4_watch_69 : decode cX4_watch 69 = .ok (.iconst 1, 1) := by decide +kernel
theorem dX4_watch_70 : decode cX4_watch 70 = .ok (.iadd, 1) := by decide +kernel
theorem dX4_watch_71 : decode cX4_watch 71 = .ok (.putfield 41, 3) := by decide +kernel
theorem dX4_watch_74 : decode cX4_watch 74 = .ok (.aload_n 0, 1) := by decide +kernel
theorem dX4_watch_75 : decode cX4_watch 75 = .ok (.getfield 41, 3) := by decide +kernel
theorem dX4_watch_78 : decode cX4_watch 78 = .ok (.iconst 1, 1) := by decide +kernel
theorem dX4_watch_79 : decode cX4_watch 79 = .ok (.isub, 1) := by decide +kernel
theorem dX4_watch_80 : decode cX4_watch 80 = .ok (.ireturn, 1) := by decide +kernel
set_option maxRecDepth 20000 in
theorem ggX4_isOne_J6_bitCount_0f7a4 : GoodIn wsX4_isOne wsJ6_bitCount_0f7a4 := goodIn_r _ [4, 5, 6, 7] (by decide +kernel) (by decide +kernel)
set_option maxRecDepth 20000 in
theorem gX4_isOne_J6_bitCount_0f7a4 : GoodIn wsX4_isOne (va_wsS RX4 85 yJ6_bitCount_0f7a4 wsJ6_bitCount_0f7a4) := goodIn_app (goodIn_of _ (by decide +kernel)) ggX4_isOne_J6_bitCount_0f7a4
theorem dX4_isOne_0 : decode cX4_isOne 0 = .ok (.iload_n 0, 1) := by decide +kernel
theorem dX4_isOne_1 : decode cX4_isOne 1 = .ok (.invokestatic 85, 3) := by decide +kernel
theorem dX4_isOne_4 : decode cX4_isOne 4 = .ok (.iconst 1, 1) := by decide +kernel
theorem dX4_isOne_5 : decode cX4_isOne 5 = .ok (.if_icmp .ne 7, 3) := by decide +kernel
theorem dX4_isOne_8 : decode cX4_isOne 8 = .ok (.iconst 1, 1) := by decide +kernel
theorem dX4_isOne_9 : decode cX4_isOne 9 = .ok (.goto 4, 3) := by decide +kernel
theorem dX4_isOne_12 : decode cX4_isOne 12 = .ok (.iconst 0, 1) := by decide +kernel
theorem dX4_isOne_13 : decode cX4_isOne 13 = .ok (.ireturn, 1) := by decide +kernel
set_option maxRecDepth 20000 in
theorem ggX4_isLeft_X4_isOne : GoodIn wsX4_isLeft wsX4_isOne := goodIn_r _ [4, 5, 6, 7, 8, 9, 10, 11] (by decide +kernel) (by decide +kernel)
set_option maxRecDepth 20000 in
theorem gX4_isLeft_X4_isOne : GoodIn wsX4_isLeft (va_wsS RX4 90 yX4_isOne wsX4_isOne) := goodIn_app (goodIn_of _ (by decide +kernel)) ggX4_isLeft_X4_isOne
theorem dX4_isLeft_0 : decode cX4_isLeft 0 = .ok (.iconst 1, 1) := by decide +kernel
theorem dX4_isLeft_1 : decode cX4_isLeft 1 = .ok (.istore_n 1, 1) := by decide +kernel
theorem dX4_isLeft_2 : decode cX4_isLeft 2 = .ok (.iload_n 1, 1) := by decide +kernel
theorem dX4_isLeft_3 : decode cX4_isLeft 3 = .ok (.ifCond .eq 84, 3) := by decide +kernel
theorem dX4_isLeft_6 : decode cX4_isLeft 6 = .ok (.iconst 0, 1) := by decide +kernel
theorem dX4_isLeft_7 : decode cX4_isLeft 7 = .ok (.istore_n 1, 1) := by decide +kernel
theorem dX4_isLeft_8 : decode cX4_isLeft 8 = .ok (.iconst 0, 1) := by decide +kernel
theorem dX4_isLeft_9 : decode cX4_isLeft 9 = .ok (.istore_n 2, 1) := by decide +kernel
theorem dX4_isLeft_10 : decode cX4_isLeft 10 = .ok (.iload_n 2, 1) := by decide +kernel
theorem dX4_isLeft_11 : decode cX4_isLeft 11 = .ok (.bipush 16, 2) := by decide +kernel
theorem dX4_isLeft_13 : decode cX4_isLeft 13 = .ok (.if_icmp .ge 71, 3) := by decide +kernel
theorem dX4_isLeft_16 : decode cX4_isLeft 16 = .ok (.iconst 0, 1) := by decide +kernel
theorem dX4_isLeft_17 : decode cX4_isLeft 17 = .ok (.istore_n 3, 1) := by decide +kernel
theorem dX4_isLeft_18 : decode cX4_isLeft 18 = .ok (.iload_n 3, 1) := by decide +kernel
theorem dX4_isLeft_19 : decode cX4_isLeft 19 = .ok (.bipush 16, 2) := by decide +kernel
theorem dX4_isLeft_21 : decode cX4_isLeft 21 = .ok (.if_icmp .ge 57, 3) := by decide +kernel
theorem dX4_isLeft_24 : decode cX4_isLeft 24 = .ok (.aload_n 0, 1) := by decide +kernel
theorem dX4_isLeft_25 : decode cX4_isLeft 25 = .ok (.iload_n 2, 1) := by decide +kernel
theorem dX4_isLeft_26 : decode cX4_isLeft 26 = .ok (.iaload, 1) := by decide +kernel
theorem dX4_isLeft_27 : decode cX4_isLeft 27 = .ok (.invokestatic 90, 3) := by decide +kernel
theorem dX4_isLeft_30 : decode cX4_isLeft 30 = .ok (.ifCond .eq 48, 3) := by decide +kernel
theorem dX4_isLeft_33 : decode cX4_isLeft 33 = .ok (.iload_n 3, 1) := by decide +kernel
theorem dX4_isLeft_34 : decode cX4_isLeft 34 = .ok (.iload_n 2, 1) := by decide +kernel
theorem dX4_isLeft_35 : decode cX4_isLeft 35 = .ok (.if_icmp .eq 37, 3) := by decide +kernel
theorem dX4_isLeft_38 : decode cX4_isLeft 38 = .ok (.aload_n 0, 1) := by decide +kernel
theorem dX4_isLeft_39 : decode cX4_isLeft 39 = .ok (.iload_n 3, 1) := by decide +kernel
theorem dX4_isLeft_40 : decode cX4_isLeft 40 = .ok (.iaload, 1) := by decide +kernel
theorem dX4_isLeft_41 : decode cX4_isLeft 41 = .ok (.aload_n 0, 1) := by decide +kernel
theorem dX4_isLeft_42 : decode cX4_isLeft 42 = .ok (.iload_n 2, 1) := by decide +kernel
theorem dX4_isLeft_43 : decode cX4_isLeft 43 = .ok (.iaload, 1) := by decide +kernel
theorem dX4_isLeft_44 : decode cX4_isLeft 44 = .ok (.iand, 1) := by decide +kernel
theorem dX4_isLeft_45 : decode cX4_isLeft 45 = .ok (.ifCond .ne 6, 3) := by decide +kernel
theorem dX4_isLeft_48 : decode cX4_isLeft 48 = .ok (.goto 24, 3) := by decide +kernel
theorem dX4_isLeft_51 : decode cX4_isLeft 51 = .ok (.aload_n 0, 1) := by decide +kernel
theorem dX4_isLeft_52 : decode cX4_isLeft 52 = .ok (.iload_n 3, 1) := by decide +kernel
theorem dX4_isLeft_53 : decode cX4_isLeft 53 = .ok (.dup2, 1) := by decide +kernel
theorem dX4_isLeft_54 : decode cX4_isLeft 54 = .ok (.iaload, 1) := by decide +kernel
theorem dX4_isLeft_55 : decode cX4_isLeft 55 = .ok (.aload_n 0, 1) := by decide +kernel
theorem dX4_isLeft_56 : decode cX4_isLeft 56 = .ok (.iload_n 2, 1) := by decide +kernel
theorem dX4_isLeft_57 : decode cX4_isLeft 57 = .ok (.iaload, 1) := by decide +kernel
theorem dX4_isLeft_58 : decode cX4_isLeft 58 = .ok (.iconst (-1), 1) := by decide +kernel
theorem dX4_isLeft_59 : decode cX4_isLeft 59 = .ok (.ixor, 1) := by decide +kernel
theorem dX4_isLeft_60 : decode cX4_isLeft 60 = .ok (.iand, 1) := by decide +kernel
theorem dX4_isLeft_61 : decode cX4_isLeft 61 = .ok (.iastore, 1) := by decide +kernel
theorem dX4_isLeft_62 : decode cX4_isLeft 62 = .ok (.iconst 1, 1) := by decide +kernel
theorem dX4_isLeft_63 : decode cX4_isLeft 63 = .ok (.istore_n 1, 1) := by decide +kernel
theorem dX4_isLeft_64 : decode cX4_isLeft 64 = .ok (.aload_n 0, 1) := by decide +kernel
theorem dX4_isLeft_65 : decode cX4_isLeft 65 = .ok (.iload_n 3, 1) := by decide +kernel
theorem dX4_isLeft_66 : decode cX4_isLeft 66 = .ok (.iaload, 1) := by decide +kernel
theorem dX4_isLeft_67 : decode cX4_isLeft 67 = .ok (.ifCond .ne 5, 3) := by decide +kernel
theorem dX4_isLeft_70 : decode cX4_isLeft 70 = .ok (.iconst 0, 1) := by decide +kernel
theorem dX4_isLeft_71 : decode cX4_isLeft 71 = .ok (.ireturn, 1) := by decide +kernel
theorem dX4_isLeft_72 : decode cX4_isLeft 72 = .ok (.iinc 3 1, 3) := by decide +kernel
theorem dX4_isLeft_75 : decode cX4_isLeft 75 = .ok (.goto (-57), 3) := by decide +kernel
theorem dX4_isLeft_78 : decode cX4_isLeft 78 = .ok (.iinc 2 1, 3) := by decide +kernel
theorem dX4_isLeft_81 : decode cX4_isLeft 81 = .ok (.goto (-71), 3) := by decide +kernel
theorem dX4_isLeft_84 : decode cX4_isLeft 84 = .ok (.goto (-82), 3) := by decide +kernel
theorem dX4_isLeft_87 : decode cX4_isLeft 87 = .ok (.iconst 1, 1) := by decide +kernel
theorem dX4_isLeft_88 : decode cX4_isLeft 88 = .ok (.ireturn, 1) := by decide +kernel
set_option maxRecDepth 20000 in
theorem ggX4_glimpse_X4_isWatcher : GoodIn wsX4_glimpse wsX4_isWatcher := goodIn_r _ [11, 12, 13, 14, 10, 15, 36, 37, 38, 39, 40, 41, 42, 43, 44, 45, 46, 47, 48, 49] (by decide +kernel) (by decide +kernel)
set_option maxRecDepth 20000 in
theorem gX4_glimpse_X4_isWatcher : GoodIn wsX4_glimpse (wsV RX4 93 RX4 yX4_isWatcher wsX4_isWatcher) := goodIn_app (goodIn_of _ (by decide +kernel)) ggX4_glimpse_X4_isWatcher
set_option maxRecDepth 20000 in
theorem ggX4_glimpse_X4_isPlace : GoodIn wsX4_glimpse wsX4_isPlace := goodIn_r _ [18, 13, 14, 10, 15] (by decide +kernel) (by decide +kernel)
set_option maxRecDepth 20000 in
theorem gX4_glimpse_X4_isPlace : GoodIn wsX4_glimpse (va_wsS RX4 77 yX4_isPlace wsX4_isPlace) := goodIn_app (goodIn_of _ (by decide +kernel)) ggX4_glimpse_X4_isPlace
set_option maxRecDepth 20000 in
theorem ggX4_glimpse_X4_no : GoodIn wsX4_glimpse wsX4_no := goodIn_r _ [22, 1, 36, 37, 38, 39, 40, 41, 42, 43, 44, 45, 46, 47, 48, 49] (by decide +kernel) (by decide +kernel)
set_option maxRecDepth 20000 in
theorem gX4_glimpse_X4_no : GoodIn wsX4_glimpse (wsV RX4 63 RX4 yX4_no wsX4_no) := goodIn_app (goodIn_of _ (by decide +kernel)) ggX4_glimpse_X4_no
set_option maxRecDepth 20000 in
theorem ggX4_glimpse_X4_isLeft : GoodIn wsX4_glimpse wsX4_isLeft := goodIn_r _ [25, 26, 27, 10, 28, 29, 30, 31, 32, 33, 34, 35] (by decide +kernel) (by decide +kernel)
set_option maxRecDepth 20000 in
theorem gX4_glimpse_X4_isLeft : GoodIn wsX4_glimpse (va_wsS RX4 96 yX4_isLeft wsX4_isLeft) := goodIn_app (goodIn_of _ (by decide +kernel)) ggX4_glimpse_X4_isLeft
theorem dX4_glimpse_0 : decode cX4_glimpse 0 = .ok (.aload_n 0, 1) := by decide +kernel
theorem dX4_glimpse_1 : decode cX4_glimpse 1 = .ok (.iconst 0, 1) := by decide +kernel
theorem dX4_glimpse_2 : decode cX4_glimpse 2 = .ok (.putfield 33, 3) := by decide +kernel
theorem dX4_glimpse_5 : decode cX4_glimpse 5 = .ok (.aload_n 0, 1) := by decide +kernel
theorem dX4_glimpse_6 : decode cX4_glimpse 6 = .ok (.iload_n 1, 1) := by decide +kernel
theorem dX4_glimpse_7 : decode cX4_glimpse 7 = .ok (.invokevirtual 93, 3) := by decide +kernel
theorem dX4_glimpse_10 : decode cX4_glimpse 10 = .ok (.ifCond .eq 10, 3) := by decide +kernel
theorem dX4_glimpse_13 : decode cX4_glimpse 13 = .ok (.iload_n 2, 1) := by decide +kernel
theorem dX4_glimpse_14 : decode cX4_glimpse 14 = .ok (.invokestatic 77, 3) := by decide +kernel
theorem dX4_glimpse_17 : decode cX4_glimpse 17 = .ok (.ifCond .ne 9, 3) := by decide +kernel
theorem dX4_glimpse_20 : decode cX4_glimpse 20 = .ok (.aload_n 0, 1) := by decide +kernel
theorem dX4_glimpse_21 : decode cX4_glimpse 21 = .ok (.iconst 1, 1) := by decide +kernel
theorem dX4_glimpse_22 : decode cX4_glimpse 22 = .ok (.invokevirtual 63, 3) := by decide +kernel
theorem dX4_glimpse_25 : decode cX4_glimpse 25 = .ok (.ireturn, 1) := by decide +kernel
theorem dX4_glimpse_26 : decode cX4_glimpse 26 = .ok (.aload_n 0, 1) := by decide +kernel
theorem dX4_glimpse_27 : decode cX4_glimpse 27 = .ok (.getfield 18, 3) := by decide +kernel
theorem dX4_glimpse_30 : decode cX4_glimpse 30 = .ok (.iload_n 1, 1) := by decide +kernel
theorem dX4_glimpse_31 : decode cX4_glimpse 31 = .ok (.aaload, 1) := by decide +kernel
theorem dX4_glimpse_32 : decode cX4_glimpse 32 = .ok (.astore_n 3, 1) := by decide +kernel
theorem dX4_glimpse_33 : decode cX4_glimpse 33 = .ok (.iconst 1, 1) := by decide +kernel
theorem dX4_glimpse_34 : decode cX4_glimpse 34 = .ok (.aload_n 0, 1) := by decide +kernel
theorem dX4_glimpse_35 : decode cX4_glimpse 35 = .ok (.getfield 9, 3) := by decide +kernel
theorem dX4_glimpse_38 : decode cX4_glimpse 38 = .ok (.iload_n 2, 1) := by decide +kernel
theorem dX4_glimpse_39 : decode cX4_glimpse 39 = .ok (.iaload, 1) := by decide +kernel
theorem dX4_glimpse_40 : decode cX4_glimpse 40 = .ok (.ishl, 1) := by decide +kernel
theorem dX4_glimpse_41 : decode cX4_glimpse 41 = .ok (.istore 4, 2) := by decide +kernel
theorem dX4_glimpse_43 : decode cX4_glimpse 43 = .ok (.aload_n 0, 1) := by decide +kernel
theorem dX4_glimpse_44 : decode cX4_glimpse 44 = .ok (.getfield 24, 3) := by decide +kernel
theorem dX4_glimpse_47 : decode cX4_glimpse 47 = .ok (.iload_n 1, 1) := by decide +kernel
theorem dX4_glimpse_48 : decode cX4_glimpse 48 = .ok (.dup2, 1) := by decide +kernel
theorem dX4_glimpse_49 : decode cX4_glimpse 49 = .ok (.iaload, 1) := by decide +kernel
theorem dX4_glimpse_50 : decode cX4_glimpse 50 = .ok (.iconst 1, 1) := by decide +kernel
theorem dX4_glimpse_51 : decode cX4_glimpse 51 = .ok (.iadd, 1) := by decide +kernel
theorem dX4_glimpse_52 : decode cX4_glimpse 52 = .ok (.iastore, 1) := by decide +kernel
theorem dX4_glimpse_53 : decode cX4_glimpse 53 = .ok (.aload_n 3, 1) := by decide +kernel
theorem dX4_glimpse_54 : decode cX4_glimpse 54 = .ok (.iload_n 2, 1) := by decide +kernel
theorem dX4_glimpse_55 : decode cX4_glimpse 55 = .ok (.iload 4, 2) := by decide +kernel
theorem dX4_glimpse_57 : decode cX4_glimpse 57 = .ok (.iastore, 1) := by decide +kernel
theorem dX4_glimpse_58 : decode cX4_glimpse 58 = .ok (.aload_n 3, 1) := by decide +kernel
theorem dX4_glimpse_59 : decode cX4_glimpse 59 = .ok (.invokestatic 96, 3) := by decide +kernel
theorem dX4_glimpse_62 : decode cX4_glimpse 62 = .ok (.ifCond .eq 10, 3) := by decide +kernel
theorem dX4_glimpse_65 : decode cX4_glimpse 65 = .ok (.aload_n 0, 1) := by decide +kernel
theorem dX4_glimpse_66 : decode cX4_glimpse 66 = .ok (.getfield 9, 3) := by decide +kernel
theorem dX4_glimpse_69 : decode cX4_glimpse 69 = .ok (.iload_n 2, 1) := by decide +kernel
theorem dX4_glimpse_70 : decode cX4_glimpse 70 = .ok (.iaload, 1) := by decide +kernel
theorem dX4_glimpse_71 : decode cX4_glimpse 71 = .ok (.ireturn, 1) := by decide +kernel
theorem dX4_glimpse_72 : decode cX4_glimpse 72 = .ok (.aload_n 0, 1) := by decide +kernel
theorem dX4_glimpse_73 : decode cX4_glimpse 73 = .ok (.getfield 21, 3) := by decide +kernel
theorem dX4_glimpse_76 : decode cX4_glimpse 76 = .ok (.iload_n 1, 1) := by decide +kernel
theorem dX4_glimpse_77 : decode cX4_glimpse 77 = .ok (.dup2, 1) := by decide +kernel
theorem dX4_glimpse_78 : decode cX4_glimpse 78 = .ok (.iaload, 1) := by decide +kernel
theorem dX4_glimpse_79 : decode cX4_glimpse 79 = .ok (.iconst 1, 1) := by decide +kernel
theorem dX4_glimpse_80 : decode cX4_glimpse 80 = .ok (.iadd, 1) := by decide +kernel
theorem dX4_glimpse_81 : decode cX4_glimpse 81 = .ok (.iastore, 1) := by decide +kernel
theorem dX4_glimpse_82 : decode cX4_glimpse 82 = .ok (.iconst 0, 1) := by decide +kernel
theorem dX4_glimpse_83 : decode cX4_glimpse 83 = .ok (.istore 5, 2) := by decide +kernel
theorem dX4_glimpse_85 : decode cX4_glimpse 85 = .ok (.iload 5, 2) := by decide +kernel
theorem dX4_glimpse_87 : decode cX4_glimpse 87 = .ok (.bipush 16, 2) := by decide +kernel
theorem dX4_glimpse_89 : decode cX4_glimpse 89 = .ok (.if_icmp .ge 31, 3) := by decide +kernel
theorem dX4_glimpse_92 : decode cX4_glimpse 92 = .ok (.aload_n 3, 1) := by decide +kernel
theorem dX4_glimpse_93 : decode cX4_glimpse 93 = .ok (.iload 5, 2) := by decide +kernel
theorem dX4_glimpse_95 : decode cX4_glimpse 95 = .ok (.iload 5, 2) := by decide +kernel
theorem dX4_glimpse_97 : decode cX4_glimpse 97 = .ok (.iload_n 2, 1) := by decide +kernel
theorem dX4_glimpse_98 : decode cX4_glimpse 98 = .ok (.if_icmp .ne 8, 3) := by decide +kernel
theorem dX4_glimpse_101 : decode cX4_glimpse 101 = .ok (.iload 4, 2) := by decide +kernel
theorem dX4_glimpse_103 : decode cX4_glimpse 103 = .ok (.goto 10, 3) := by decide +kernel
theorem dX4_glimpse_106 : decode cX4_glimpse 106 = .ok (.ldc 84, 2) := by decide +kernel
theorem dX4_glimpse_108 : decode cX4_glimpse 108 = .ok (.iload 4, 2) := by decide +kernel
theorem dX4_glimpse_110 : decode cX4_glimpse 110 = .ok (.iconst (-1), 1) := by decide +kernel
theorem dX4_glimpse_111 : decode cX4_glimpse 111 = .ok (.ixor, 1) := by decide +kernel
theorem dX4_glimpse_112 : decode cX4_glimpse 112 = .ok (.iand, 1) := by decide +kernel
theorem dX4_glimpse_113 : decode cX4_glimpse 113 = .ok (.iastore, 1) := by decide +kernel
theorem dX4_glimpse_114 : decode cX4_glimpse 114 = .ok (.iinc 5 1, 3) := by decide +kernel
theorem dX4_glimpse_117 : decode cX4_glimpse 117 = .ok (.goto (-32), 3) := by decide +kernel
theorem dX4_glimpse_120 : decode cX4_glimpse 120 = .ok (.aload_n 0, 1) := by decide +kernel
theorem dX4_glimpse_121 : decode cX4_glimpse 121 = .ok (.getfield 9, 3) := by decide +kernel
theorem dX4_glimpse_124 : decode cX4_glimpse 124 = .ok (.iload_n 2, 1) := by decide +kernel
theorem dX4_glimpse_125 : decode cX4_glimpse 125 = .ok (.iaload, 1) := by decide +kernel
theorem dX4_glimpse_126 : decode cX4_glimpse 126 = .ok (.ireturn, 1) := by decide +kernel
set_option maxRecDepth 20000 in
theorem ggX4_thinks_X4_isWatcher : GoodIn wsX4_thinks wsX4_isWatcher := goodIn_r _ [7, 8, 9, 10, 6, 11, 19, 20, 21, 22, 23, 24, 25, 26, 27, 28, 29, 30, 31, 32] (by decide +kernel) (by decide +kernel)
set_option maxRecDepth 20000 in
theorem gX4_thinks_X4_isWatcher : GoodIn wsX4_thinks (wsV RX4 93 RX4 yX4_isWatcher wsX4_isWatcher) := goodIn_app (goodIn_of _ (by decide +kernel)) ggX4_thinks_X4_isWatcher
set_option maxRecDepth 20000 in
theorem ggX4_thinks_X4_isPlace : GoodIn wsX4_thinks wsX4_isPlace := goodIn_r _ [14, 9, 10, 6, 11] (by decide +kernel) (by decide +kernel)
set_option maxRecDepth 20000 in
theorem gX4_thinks_X4_isPlace : GoodIn wsX4_thinks (va_wsS RX4 77 yX4_isPlace wsX4_isPlace) := goodIn_app (goodIn_of _ (by decide +kernel)) ggX4_thinks_X4_isPlace
set_option maxRecDepth 20000 in
theorem ggX4_thinks_X4_no : GoodIn wsX4_thinks wsX4_no := goodIn_r _ [18, 1, 19, 20, 21, 22, 23, 24, 25, 26, 27, 28, 29, 30, 31, 32] (by decide +kernel) (by decide +kernel)
set_option maxRecDepth 20000 in
theorem gX4_thinks_X4_no : GoodIn wsX4_thinks (wsV RX4 63 RX4 yX4_no wsX4_no) := goodIn_app (goodIn_of _ (by decide +kernel)) ggX4_thinks_X4_no
theorem dX4_thinks_0 : decode cX4_thinks 0 = .ok (.aload_n 0, 1) := by decide +kernel
theorem dX4_thinks_1 : decode cX4_thinks 1 = .ok (.iconst 0, 1) := by decide +kernel
theorem dX4_thinks_2 : decode cX4_thinks 2 = .ok (.putfield 33, 3) := by decide +kernel
theorem dX4_thinks_5 : decode cX4_thinks 5 = .ok (.aload_n 0, 1) := by decide +kernel
theorem dX4_thinks_6 : decode cX4_thinks 6 = .ok (.iload_n 1, 1) := by decide +kernel
theorem dX4_thinks_7 : decode cX4_thinks 7 = .ok (.invokevirtual 93, 3) := by decide +kernel
theorem dX4_thinks_10 : decode cX4_thinks 10 = .ok (.ifCond .eq 21, 3) := by decide +kernel
theorem dX4_thinks_13 : decode cX4_thinks 13 = .ok (.iload_n 2, 1) := by decide +kernel
theorem dX4_thinks_14 : decode cX4_thinks 14 = .ok (.invokestatic 77, 3) := by decide +kernel
theorem dX4_thinks_17 : decode cX4_thinks 17 = .ok (.ifCond .eq 14, 3) := by decide +kernel
theorem dX4_thinks_20 : decode cX4_thinks 20 = .ok (.aload_n 0, 1) := by decide +kernel
theorem dX4_thinks_21 : decode cX4_thinks 21 = .ok (.getfield 18, 3) := by decide +kernel
theorem dX4_thinks_24 : decode cX4_thinks 24 = .ok (.iload_n 1, 1) := by decide +kernel
theorem dX4_thinks_25 : decode cX4_thinks 25 = .ok (.aaload, 1) := by decide +kernel
theorem dX4_thinks_26 : decode cX4_thinks 26 = .ok (.iload_n 2, 1) := by decide +kernel
theorem dX4_thinks_27 : decode cX4_thinks 27 = .ok (.iaload, 1) := by decide +kernel
theorem dX4_thinks_28 : decode cX4_thinks 28 = .ok (.goto 8, 3) := by decide +kernel
theorem dX4_thinks_31 : decode cX4_thinks 31 = .ok (.aload_n 0, 1) := by decide +kernel
theorem dX4_thinks_32 : decode cX4_thinks 32 = .ok (.iconst 1, 1) := by decide +kernel
theorem dX4_thinks_33 : decode cX4_thinks 33 = .ok (.invokevirtual 63, 3) := by decide +kernel
theorem dX4_thinks_36 : decode cX4_thinks 36 = .ok (.ireturn, 1) := by decide +kernel
set_option maxRecDepth 20000 in
theorem ggX4_sure_X4_isWatcher : GoodIn wsX4_sure wsX4_isWatcher := goodIn_r _ [7, 8, 9, 10, 6, 11, 19, 20, 21, 22, 23, 24, 25, 26, 27, 28, 29, 30, 31, 32] (by decide +kernel) (by decide +kernel)
set_option maxRecDepth 20000 in
theorem gX4_sure_X4_isWatcher : GoodIn wsX4_sure (wsV RX4 93 RX4 yX4_isWatcher wsX4_isWatcher) := goodIn_app (goodIn_of _ (by decide +kernel)) ggX4_sure_X4_isWatcher
set_option maxRecDepth 20000 in
theorem ggX4_sure_X4_isPlace : GoodIn wsX4_sure wsX4_isPlace := goodIn_r _ [14, 9, 10, 6, 11] (by decide +kernel) (by decide +kernel)
set_option maxRecDepth 20000 in
theorem gX4_sure_X4_isPlace : GoodIn wsX4_sure (va_wsS RX4 77 yX4_isPlace wsX4_isPlace) := goodIn_app (goodIn_of _ (by decide +kernel)) ggX4_sure_X4_isPlace
set_option maxRecDepth 20000 in
theorem ggX4_sure_X4_no : GoodIn wsX4_sure wsX4_no := goodIn_r _ [18, 1, 19, 20, 21, 22, 23, 24, 25, 26, 27, 28, 29, 30, 31, 32] (by decide +kernel) (by decide +kernel)
set_option maxRecDepth 20000 in
theorem gX4_sure_X4_no : GoodIn wsX4_sure (wsV RX4 63 RX4 yX4_no wsX4_no) := goodIn_app (goodIn_of _ (by decide +kernel)) ggX4_sure_X4_no
theorem dX4_sure_0 : decode cX4_sure 0 = .ok (.aload_n 0, 1) := by decide +kernel
theorem dX4_sure_1 : decode cX4_sure 1 = .ok (.iconst 0, 1) := by decide +kernel
theorem dX4_sure_2 : decode cX4_sure 2 = .ok (.putfield 33, 3) := by decide +kernel
theorem dX4_sure_5 : decode cX4_sure 5 = .ok (.aload_n 0, 1) := by decide +kernel
theorem dX4_sure_6 : decode cX4_sure 6 = .ok (.iload_n 1, 1) := by decide +kernel
theorem dX4_sure_7 : decode cX4_sure 7 = .ok (.invokevirtual 93, 3) := by decide +kernel
theorem dX4_sure_10 : decode cX4_sure 10 = .ok (.ifCond .eq 10, 3) := by decide +kernel
theorem dX4_sure_13 : decode cX4_sure 13 = .ok (.iload_n 2, 1) := by decide +kernel
theorem dX4_sure_14 : decode cX4_sure 14 = .ok (.invokestatic 77, 3) := by decide +kernel
theorem dX4_sure_17 : decode cX4_sure 17 = .ok (.ifCond .ne 9, 3) := by decide +kernel
theorem dX4_sure_20 : decode cX4_sure 20 = .ok (.aload_n 0, 1) := by decide +kernel
theorem dX4_sure_21 : decode cX4_sure 21 = .ok (.iconst 1, 1) := by decide +kernel
theorem dX4_sure_22 : decode cX4_sure 22 = .ok (.invokevirtual 63, 3) := by decide +kernel
theorem dX4_sure_25 : decode cX4_sure 25 = .ok (.ireturn, 1) := by decide +kernel
theorem dX4_sure_26 : decode cX4_sure 26 = .ok (.iconst 0, 1) := by decide +kernel
theorem dX4_sure_27 : decode cX4_sure 27 = .ok (.istore_n 3, 1) := by decide +kernel
theorem dX4_sure_28 : decode cX4_sure 28 = .ok (.iload_n 3, 1) := by decide +kernel
theorem dX4_sure_29 : decode cX4_sure 29 = .ok (.bipush 16, 2) := by decide +kernel
theorem dX4_sure_31 : decode cX4_sure 31 = .ok (.if_icmp .ge 25, 3) := by decide +kernel
theorem dX4_sure_34 : decode cX4_sure 34 = .ok (.aload_n 0, 1) := by decide +kernel
theorem dX4_sure_35 : decode cX4_sure 35 = .ok (.getfield 18, 3) := by decide +kernel
theorem dX4_sure_38 : decode cX4_sure 38 = .ok (.iload_n 1, 1) := by decide +kernel
theorem dX4_sure_39 : decode cX4_sure 39 = .ok (.aaload, 1) := by decide +kernel
theorem dX4_sure_40 : decode cX4_sure 40 = .ok (.iload_n 3, 1) := by decide +kernel
theorem dX4_sure_41 : decode cX4_sure 41 = .ok (.iaload, 1) := by decide +kernel
theorem dX4_sure_42 : decode cX4_sure 42 = .ok (.iconst 1, 1) := by decide +kernel
theorem dX4_sure_43 : decode cX4_sure 43 = .ok (.iload_n 2, 1) := by decide +kernel
theorem dX4_sure_44 : decode cX4_sure 44 = .ok (.ishl, 1) := by decide +kernel
theorem dX4_sure_45 : decode cX4_sure 45 = .ok (.if_icmp .ne 5, 3) := by decide +kernel
theorem dX4_sure_48 : decode cX4_sure 48 = .ok (.iload_n 3, 1) := by decide +kernel
theorem dX4_sure_49 : decode cX4_sure 49 = .ok (.ireturn, 1) := by decide +kernel
theorem dX4_sure_50 : decode cX4_sure 50 = .ok (.iinc 3 1, 3) := by decide +kernel
theorem dX4_sure_53 : decode cX4_sure 53 = .ok (.goto (-25), 3) := by decide +kernel
theorem dX4_sure_56 : decode cX4_sure 56 = .ok (.iconst (-1), 1) := by decide +kernel
theorem dX4_sure_57 : decode cX4_sure 57 = .ok (.ireturn, 1) := by decide +kernel
set_option maxRecDepth 20000 in
theorem ggX4_watcherTold_X4_isOne : GoodIn wsX4_watcherTold wsX4_isOne := goodIn_r _ [10, 11, 12, 13, 14, 15, 16, 17] (by decide +kernel) (by decide +kernel)
set_option maxRecDepth 20000 in
theorem gX4_watcherTold_X4_isOne : GoodIn wsX4_watcherTold (va_wsS RX4 90 yX4_isOne wsX4_isOne) := goodIn_app (goodIn_of _ (by decide +kernel)) ggX4_watcherTold_X4_isOne
theorem dX4_watcherTold_0 : decode cX4_watcherTold 0 = .ok (.iconst 0, 1) := by decide +kernel
theorem dX4_watcherTold_1 : decode cX4_watcherTold 1 = .ok (.istore_n 3, 1) := by decide +kernel
theorem dX4_watcherTold_2 : decode cX4_watcherTold 2 = .ok (.iconst 0, 1) := by decide +kernel
theorem dX4_watcherTold_3 : decode cX4_watcherTold 3 = .ok (.istore 4, 2) := by decide +kernel
theorem dX4_watcherTold_5 : decode cX4_watcherTold 5 = .ok (.iconst 0, 1) := by decide +kernel
theorem dX4_watcherTold_6 : decode cX4_watcherTold 6 = .ok (.istore 5, 2) := by decide +kernel
theorem dX4_watcherTold_8 : decode cX4_watcherTold 8 = .ok (.iconst 0, 1) := by decide +kernel
theorem dX4_watcherTold_9 : decode cX4_watcherTold 9 = .ok (.istore 6, 2) := by decide +kernel
theorem dX4_watcherTold_11 : decode cX4_watcherTold 11 = .ok (.iload 6, 2) := by decide +kernel
theorem dX4_watcherTold_13 : decode cX4_watcherTold 13 = .ok (.bipush 16, 2) := by decide +kernel
theorem dX4_watcherTold_15 : decode cX4_watcherTold 15 = .ok (.if_icmp .ge 107, 3) := by decide +kernel
theorem dX4_watcherTold_18 : decode cX4_watcherTold 18 = .ok (.aload_n 0, 1) := by decide +kernel
theorem dX4_watcherTold_19 : decode cX4_watcherTold 19 = .ok (.getfield 18, 3) := by decide +kernel
theorem dX4_watcherTold_22 : decode cX4_watcherTold 22 = .ok (.iload_n 1, 1) := by decide +kernel
theorem dX4_watcherTold_23 : decode cX4_watcherTold 23 = .ok (.aaload, 1) := by decide +kernel
theorem dX4_watcherTold_24 : decode cX4_watcherTold 24 = .ok (.iload 6, 2) := by decide +kernel
theorem dX4_watcherTold_26 : decode cX4_watcherTold 26 = .ok (.iaload, 1) := by decide +kernel
theorem dX4_watcherTold_27 : decode cX4_watcherTold 27 = .ok (.aload_n 0, 1) := by decide +kernel
theorem dX4_watcherTold_28 : decode cX4_watcherTold 28 = .ok (.getfield 9, 3) := by decide +kernel
theorem dX4_watcherTold_31 : decode cX4_watcherTold 31 = .ok (.iload 6, 2) := by decide +kernel
theorem dX4_watcherTold_33 : decode cX4_watcherTold 33 = .ok (.iaload, 1) := by decide +kernel
theorem dX4_watcherTold_34 : decode cX4_watcherTold 34 = .ok (.ishr, 1) := by decide +kernel
theorem dX4_watcherTold_35 : decode cX4_watcherTold 35 = .ok (.iconst 1, 1) := by decide +kernel
theorem dX4_watcherTold_36 : decode cX4_watcherTold 36 = .ok (.iand, 1) := by decide +kernel
theorem dX4_watcherTold_37 : decode cX4_watcherTold 37 = .ok (.iconst 1, 1) := by decide +kernel
theorem dX4_watcherTold_38 : decode cX4_watcherTold 38 = .ok (.if_icmp .ne 7, 3) := by decide +kernel
theorem dX4_watcherTold_41 : decode cX4_watcherTold 41 = .ok (.iconst 1, 1) := by decide +kernel
theorem dX4_watcherTold_42 : decode cX4_watcherTold 42 = .ok (.goto 4, 3) := by decide +kernel
theorem dX4_watcherTold_45 : decode cX4_watcherTold 45 = .ok (.iconst 0, 1) := by decide +kernel
theorem dX4_watcherTold_46 : decode cX4_watcherTold 46 = .ok (.istore 7, 2) := by decide +kernel
theorem dX4_watcherTold_48 : decode cX4_watcherTold 48 = .ok (.iload_n 3, 1) := by decide +kernel
theorem dX4_watcherTold_49 : decode cX4_watcherTold 49 = .ok (.iload 7, 2) := by decide +kernel
theorem dX4_watcherTold_51 : decode cX4_watcherTold 51 = .ok (.ifCond .eq 7, 3) := by decide +kernel
theorem dX4_watcherTold_54 : decode cX4_watcherTold 54 = .ok (.iconst 1, 1) := by decide +kernel
theorem dX4_watcherTold_55 : decode cX4_watcherTold 55 = .ok (.goto 4, 3) := by decide +kernel
theorem dX4_watcherTold_58 : decode cX4_watcherTold 58 = .ok (.iconst 0, 1) := by decide +kernel
theorem dX4_watcherTold_59 : decode cX4_watcherTold 59 = .ok (.iadd, 1) := by decide +kernel
theorem dX4_watcherTold_60 : decode cX4_watcherTold 60 = .ok (.istore_n 3, 1) := by decide +kernel
theorem dX4_watcherTold_61 : decode cX4_watcherTold 61 = .ok (.iload 4, 2) := by decide +kernel
theorem dX4_watcherTold_63 : decode cX4_watcherTold 63 = .ok (.aload_n 0, 1) := by decide +kernel
theorem dX4_watcherTold_64 : decode cX4_watcherTold 64 = .ok (.getfield 18, 3) := by decide +kernel
theorem dX4_watcherTold_67 : decode cX4_watcherTold 67 = .ok (.iload_n 1, 1) := by decide +kernel
theorem dX4_watcherTold_68 : decode cX4_watcherTold 68 = .ok (.aaload, 1) := by decide +kernel
theorem dX4_watcherTold_69 : decode cX4_watcherTold 69 = .ok (.iload 6, 2) := by decide +kernel
theorem dX4_watcherTold_71 : decode cX4_watcherTold 71 = .ok (.iaload, 1) := by decide +kernel
theorem dX4_watcherTold_72 : decode cX4_watcherTold 72 = .ok (.invokestatic 90, 3) := by decide +kernel
theorem dX4_watcherTold_75 : decode cX4_watcherTold 75 = .ok (.ifCond .eq 7, 3) := by decide +kernel
theorem dX4_watcherTold_78 : decode cX4_watcherTold 78 = .ok (.iconst 1, 1) := by decide +kernel
theorem dX4_watcherTold_79 : decode cX4_watcherTold 79 = .ok (.goto 4, 3) := by decide +kernel
theorem dX4_watcherTold_82 : decode cX4_watcherTold 82 = .ok (.iconst 0, 1) := by decide +kernel
theorem dX4_watcherTold_83 : decode cX4_watcherTold 83 = .ok (.iadd, 1) := by decide +kernel
theorem dX4_watcherTold_84 : decode cX4_watcherTold 84 = .ok (.istore 4, 2) := by decide +kernel
theorem dX4_watcherTold_86 : decode cX4_watcherTold 86 = .ok (.iload 5, 2) := by decide +kernel
theorem dX4_watcherTold_88 : decode cX4_watcherTold 88 = .ok (.iload 7, 2) := by decide +kernel
theorem dX4_watcherTold_90 : decode cX4_watcherTold 90 = .ok (.ifCond .eq 22, 3) := by decide +kernel
theorem dX4_watcherTold_93 : decode cX4_watcherTold 93 = .ok (.aload_n 0, 1) := by decide +kernel
theorem dX4_watcherTold_94 : decode cX4_watcherTold 94 = .ok (.getfield 18, 3) := by decide +kernel
theorem dX4_watcherTold_97 : decode cX4_watcherTold 97 = .ok (.iload_n 1, 1) := by decide +kernel
theorem dX4_watcherTold_98 : decode cX4_watcherTold 98 = .ok (.aaload, 1) := by decide +kernel
theorem dX4_watcherTold_99 : decode cX4_watcherTold 99 = .ok (.iload 6, 2) := by decide +kernel
theorem dX4_watcherTold_101 : decode cX4_watcherTold 101 = .ok (.iaload, 1) := by decide +kernel
theorem dX4_watcherTold_102 : decode cX4_watcherTold 102 = .ok (.invokestatic 90, 3) := by decide +kernel
theorem dX4_watcherTold_105 : decode cX4_watcherTold 105 = .ok (.ifCond .eq 7, 3) := by decide +kernel
theorem dX4_watcherTold_108 : decode cX4_watcherTold 108 = .ok (.iconst 1, 1) := by decide +kernel
theorem dX4_watcherTold_109 : decode cX4_watcherTold 109 = .ok (.goto 4, 3) := by decide +kernel
theorem dX4_watcherTold_112 : decode cX4_watcherTold 112 = .ok (.iconst 0, 1) := by decide +kernel
theorem dX4_watcherTold_113 : decode cX4_watcherTold 113 = .ok (.iadd, 1) := by decide +kernel
theorem dX4_watcherTold_114 : decode cX4_watcherTold 114 = .ok (.istore 5, 2) := by decide +kernel
theorem dX4_watcherTold_116 : decode cX4_watcherTold 116 = .ok (.iinc 6 1, 3) := by decide +kernel
theorem dX4_watcherTold_119 : decode cX4_watcherTold 119 = .ok (.goto (-108), 3) := by decide +kernel
theorem dX4_watcherTold_122 : decode cX4_watcherTold 122 = .ok (.bipush 6, 2) := by decide +kernel
theorem dX4_watcherTold_124 : decode cX4_watcherTold 124 = .ok (.newarray .int, 2) := by decide +kernel
theorem dX4_watcherTold_126 : decode cX4_watcherTold 126 = .ok (.dup, 1) := by decide +kernel
theorem dX4_watcherTold_127 : decode cX4_watcherTold 127 = .ok (.iconst 0, 1) := by decide +kernel
theorem dX4_watcherTold_128 : decode cX4_watcherTold 128 = .ok (.aload_n 0, 1) := by decide +kernel
theorem dX4_watcherTold_129 : decode cX4_watcherTold 129 = .ok (.getfield 13, 3) := by decide +kernel
theorem dX4_watcherTold_132 : decode cX4_watcherTold 132 = .ok (.iload_n 1, 1) := by decide +kernel
theorem dX4_watcherTold_133 : decode cX4_watcherTold 133 = .ok (.iaload, 1) := by decide +kernel
theorem dX4_watcherTold_134 : decode cX4_watcherTold 134 = .ok (.iastore, 1) := by decide +kernel
theorem dX4_watcherTold_135 : decode cX4_watcherTold 135 = .ok (.dup, 1) := by decide +kernel
theorem dX4_watcherTold_136 : decode cX4_watcherTold 136 = .ok (.iconst 1, 1) := by decide +kernel
theorem dX4_watcherTold_137 : decode cX4_watcherTold 137 = .ok (.iload_n 3, 1) := by decide +kernel
theorem dX4_watcherTold_138 : decode cX4_watcherTold 138 = .ok (.iastore, 1) := by decide +kernel
theorem dX4_watcherTold_139 : decode cX4_watcherTold 139 = .ok (.dup, 1) := by decide +kernel
theorem dX4_watcherTold_140 : decode cX4_watcherTold 140 = .ok (.iconst 2, 1) := by decide +kernel
theorem dX4_watcherTold_141 : decode cX4_watcherTold 141 = .ok (.iload 4, 2) := by decide +kernel
theorem dX4_watcherTold_143 : decode cX4_watcherTold 143 = .ok (.iastore, 1) := by decide +kernel
theorem dX4_watcherTold_144 : decode cX4_watcherTold 144 = .ok (.dup, 1) := by decide +kernel
theorem dX4_watcherTold_145 : decode cX4_watcherTold 145 = .ok (.iconst 3, 1) := by decide +kernel
theorem dX4_watcherTold_146 : decode cX4_watcherTold 146 = .ok (.iload 5, 2) := by decide +kernel
theorem dX4_watcherTold_148 : decode cX4_watcherTold 148 = .ok (.iastore, 1) := by decide +kernel
theorem dX4_watcherTold_149 : decode cX4_watcherTold 149 = .ok (.dup, 1) := by decide +kernel
theorem dX4_watcherTold_150 : decode cX4_watcherTold 150 = .ok (.iconst 4, 1) := by decide +kernel
theorem dX4_watcherTold_151 : decode cX4_watcherTold 151 = .ok (.aload_n 0, 1) := by decide +kernel
theorem dX4_watcherTold_152 : decode cX4_watcherTold 152 = .ok (.getfield 21, 3) := by decide +kernel
theorem dX4_watcherTold_155 : decode cX4_watcherTold 155 = .ok (.iload_n 1, 1) := by decide +kernel
theorem dX4_watcherTold_156 : decode cX4_watcherTold 156 = .ok (.iaload, 1) := by decide +kernel
theorem dX4_watcherTold_157 : decode cX4_watcherTold 157 = .ok (.iastore, 1) := by decide +kernel
theorem dX4_watcherTold_158 : decode cX4_watcherTold 158 = .ok (.dup, 1) := by decide +kernel
theorem dX4_watcherTold_159 : decode cX4_watcherTold 159 = .ok (.iconst 5, 1) := by decide +kernel
theorem dX4_watcherTold_160 : decode cX4_watcherTold 160 = .ok (.aload_n 0, 1) := by decide +kernel
theorem dX4_watcherTold_161 : decode cX4_watcherTold 161 = .ok (.getfield 24, 3) := by decide +kernel
theorem dX4_watcherTold_164 : decode cX4_watcherTold 164 = .ok (.iload_n 1, 1) := by decide +kernel
theorem dX4_watcherTold_165 : decode cX4_watcherTold 165 = .ok (.iaload, 1) := by decide +kernel
theorem dX4_watcherTold_166 : decode cX4_watcherTold 166 = .ok (.iastore, 1) := by decide +kernel
theorem dX4_watcherTold_167 : decode cX4_watcherTold 167 = .ok (.astore 6, 2) := by decide +kernel
theorem dX4_watcherTold_169 : decode cX4_watcherTold 169 = .ok (.aload 6, 2) := by decide +kernel
theorem dX4_watcherTold_171 : decode cX4_watcherTold 171 = .ok (.iload_n 2, 1) := by decide +kernel
theorem dX4_watcherTold_172 : decode cX4_watcherTold 172 = .ok (.iaload, 1) := by decide +kernel
theorem dX4_watcherTold_173 : decode cX4_watcherTold 173 = .ok (.ireturn, 1) := by decide +kernel
set_option maxRecDepth 20000 in
theorem ggX4_watcher_X4_isWatcher : GoodIn wsX4_watcher wsX4_isWatcher := goodIn_r _ [6, 7, 8, 9, 5, 10, 35, 36, 37, 38, 39, 40, 41, 42, 43, 44, 45, 46, 47, 48] (by decide +kernel) (by decide +kernel)
set_option maxRecDepth 20000 in
theorem gX4_watcher_X4_isWatcher : GoodIn wsX4_watcher (wsV RX4 93 RX4 yX4_isWatcher wsX4_isWatcher) := goodIn_app (goodIn_of _ (by decide +kernel)) ggX4_watcher_X4_isWatcher
set_option maxRecDepth 20000 in
theorem ggX4_watcher_X4_isIn : GoodIn wsX4_watcher wsX4_isIn := goodIn_r _ [10] (by decide +kernel) (by decide +kernel)
set_option maxRecDepth 20000 in
theorem gX4_watcher_X4_isIn : GoodIn wsX4_watcher (va_wsS RX4 37 yX4_isIn wsX4_isIn) := goodIn_app (goodIn_of _ (by decide +kernel)) ggX4_watcher_X4_isIn
set_option maxRecDepth 20000 in
theorem ggX4_watcher_X4_watcherTold : GoodIn wsX4_watcher wsX4_watcherTold := goodIn_r _ [14, 15, 16, 17, 18, 19, 20, 21, 22, 5, 23, 24, 25, 26, 27, 28, 29, 30, 35, 36, 37, 38, 39, 40, 41, 42, 43, 44, 45, 46, 47, 48] (by decide +kernel) (by decide +kernel)
set_option maxRecDepth 20000 in
theorem gX4_watcher_X4_watcherTold : GoodIn wsX4_watcher (wsV RX4 100 RX4 yX4_watcherTold wsX4_watcherTold) := goodIn_app (goodIn_of _ (by decide +kernel)) ggX4_watcher_X4_watcherTold
set_option maxRecDepth 20000 in
theorem ggX4_watcher_X4_no : GoodIn wsX4_watcher wsX4_no := goodIn_r _ [34, 1, 35, 36, 37, 38, 39, 40, 41, 42, 43, 44, 45, 46, 47, 48] (by decide +kernel) (by decide +kernel)
set_option maxRecDepth 20000 in
theorem gX4_watcher_X4_no : GoodIn wsX4_watcher (wsV RX4 63 RX4 yX4_no wsX4_no) := goodIn_app (goodIn_of _ (by decide +kernel)) ggX4_watcher_X4_no
theorem dX4_watcher_0 : decode cX4_watcher 0 = .ok (.aload_n 0, 1) := by decide +kernel
theorem dX4_watcher_1 : decode cX4_watcher 1 = .ok (.iconst 0, 1) := by decide +kernel
theorem dX4_watcher_2 : decode cX4_watcher 2 = .ok (.putfield 33, 3) := by decide +kernel
theorem dX4_watcher_5 : decode cX4_watcher 5 = .ok (.aload_n 0, 1) := by decide +kernel
theorem dX4_watcher_6 : decode cX4_watcher 6 = .ok (.iload_n 1, 1) := by decide +kernel
theorem dX4_watcher_7 : decode cX4_watcher 7 = .ok (.invokevirtual 93, 3) := by decide +kernel
theorem dX4_watcher_10 : decode cX4_watcher 10 = .ok (.ifCond .eq 21, 3) := by decide +kernel
theorem dX4_watcher_13 : decode cX4_watcher 13 = .ok (.iload_n 2, 1) := by decide +kernel
theorem dX4_watcher_14 : decode cX4_watcher 14 = .ok (.iconst 0, 1) := by decide +kernel
theorem dX4_watcher_15 : decode cX4_watcher 15 = .ok (.iconst 5, 1) := by decide +kernel
theorem dX4_watcher_16 : decode cX4_watcher 16 = .ok (.invokestatic 37, 3) := by decide +kernel
theorem dX4_watcher_19 : decode cX4_watcher 19 = .ok (.ifCond .eq 12, 3) := by decide +kernel
theorem dX4_watcher_22 : decode cX4_watcher 22 = .ok (.aload_n 0, 1) := by decide +kernel
theorem dX4_watcher_23 : decode cX4_watcher 23 = .ok (.iload_n 1, 1) := by decide +kernel
theorem dX4_watcher_24 : decode cX4_watcher 24 = .ok (.iload_n 2, 1) := by decide +kernel
theorem dX4_watcher_25 : decode cX4_watcher 25 = .ok (.invokevirtual 100, 3) := by decide +kernel
theorem dX4_watcher_28 : decode cX4_watcher 28 = .ok (.goto 8, 3) := by decide +kernel
theorem dX4_watcher_31 : decode cX4_watcher 31 = .ok (.aload_n 0, 1) := by decide +kernel
theorem dX4_watcher_32 : decode cX4_watcher 32 = .ok (.iconst 1, 1) := by decide +kernel
theorem dX4_watcher_33 : decode cX4_watcher 33 = .ok (.invokevirtual 63, 3) := by decide +kernel
theorem dX4_watcher_36 : decode cX4_watcher 36 = .ok (.ireturn, 1) := by decide +kernel
set_option maxRecDepth 20000 in
theorem ggX4_sit_X4_isPlace : GoodIn wsX4_sit wsX4_isPlace := goodIn_r _ [8, 9, 10, 7, 11] (by decide +kernel) (by decide +kernel)
set_option maxRecDepth 20000 in
theorem gX4_sit_X4_isPlace : GoodIn wsX4_sit (va_wsS RX4 77 yX4_isPlace wsX4_isPlace) := goodIn_app (goodIn_of _ (by decide +kernel)) ggX4_sit_X4_isPlace
set_option maxRecDepth 20000 in
theorem ggX4_sit_X4_no : GoodIn wsX4_sit wsX4_no := goodIn_r _ [15, 1, 16, 17, 18, 19, 20, 21, 22, 23, 24, 25, 26, 27, 28, 29] (by decide +kernel) (by decide +kernel)
set_option maxRecDepth 20000 in
theorem gX4_sit_X4_no : GoodIn wsX4_sit (wsV RX4 63 RX4 yX4_no wsX4_no) := goodIn_app (goodIn_of _ (by decide +kernel)) ggX4_sit_X4_no
theorem dX4_sit_0 : decode cX4_sit 0 = .ok (.aload_n 0, 1) := by decide +kernel
theorem dX4_sit_1 : decode cX4_sit 1 = .ok (.iconst 0, 1) := by decide +kernel
theorem dX4_sit_2 : decode cX4_sit 2 = .ok (.putfield 33, 3) := by decide +kernel
theorem dX4_sit_5 : decode cX4_sit 5 = .ok (.iload_n 1, 1) := by decide +kernel
theorem dX4_sit_6 : decode cX4_sit 6 = .ok (.invokestatic 77, 3) := by decide +kernel
theorem dX4_sit_9 : decode cX4_sit 9 = .ok (.ifCond .ne 9, 3) := by decide +kernel
theorem dX4_sit_12 : decode cX4_sit 12 = .ok (.aload_n 0, 1) := by decide +kernel
theorem dX4_sit_13 : decode cX4_sit 13 = .ok (.iconst 1, 1) := by decide +kernel
theorem dX4_sit_14 : decode cX4_sit 14 = .ok (.invokevirtual 63, 3) := by decide +kernel
theorem dX4_sit_17 : decode cX4_sit 17 = .ok (.ireturn, 1) := by decide +kernel
theorem dX4_sit_18 : decode cX4_sit 18 = .ok (.aload_n 0, 1) := by decide +kernel
theorem dX4_sit_19 : decode cX4_sit 19 = .ok (.getfield 44, 3) := by decide +kernel
theorem dX4_sit_22 : decode cX4_sit 22 = .ok (.iconst 4, 1) := by decide +kernel
theorem dX4_sit_23 : decode cX4_sit 23 = .ok (.if_icmp .ne 9, 3) := by decide +kernel
theorem dX4_sit_26 : decode cX4_sit 26 = .ok (.aload_n 0, 1) := by decide +kernel
theorem dX4_sit_27 : decode cX4_sit 27 = .ok (.iconst 2, 1) := by decide +kernel
theorem dX4_sit_28 : decode cX4_sit 28 = .ok (.invokevirtual 63, 3) := by decide +kernel
theorem dX4_sit_31 : decode cX4_sit 31 = .ok (.ireturn, 1) := by decide +kernel
theorem dX4_sit_32 : decode cX4_sit 32 = .ok (.aload_n 0, 1) := by decide +kernel
theorem dX4_sit_33 : decode cX4_sit 33 = .ok (.getfield 27, 3) := by decide +kernel
theorem dX4_sit_36 : decode cX4_sit 36 = .ok (.aload_n 0, 1) := by decide +kernel
theorem dX4_sit_37 : decode cX4_sit 37 = .ok (.getfield 44, 3) := by decide +kernel
theorem dX4_sit_40 : decode cX4_sit 40 = .ok (.iload_n 1, 1) := by decide +kernel
theorem dX4_sit_41 : decode cX4_sit 41 = .ok (.iastore, 1) := by decide +kernel
theorem dX4_sit_42 : decode cX4_sit 42 = .ok (.aload_n 0, 1) := by decide +kernel
theorem dX4_sit_43 : decode cX4_sit 43 = .ok (.getfield 30, 3) := by decide +kernel
theorem dX4_sit_46 : decode cX4_sit 46 = .ok (.aload_n 0, 1) := by decide +kernel
theorem dX4_sit_47 : decode cX4_sit 47 = .ok (.getfield 44, 3) := by decide +kernel
theorem dX4_sit_50 : decode cX4_sit 50 = .ok (.iconst (-1), 1) := by decide +kernel
theorem dX4_sit_51 : decode cX4_sit 51 = .ok (.iastore, 1) := by decide +kernel
theorem dX4_sit_52 : decode cX4_sit 52 = .ok (.aload_n 0, 1) := by decide +kernel
theorem dX4_sit_53 : decode cX4_sit 53 = .ok (.dup, 1) := by decide +kernel
theorem dX4_sit_54 : decode cX4_sit 54 = .ok (.getfield 44, 3) := by decide +kernel
theorem dX4_sit_57 : decode cX4_sit 57 = .ok (.iconst 1, 1) := by decide +kernel
theorem dX4_sit_58 : decode cX4_sit 58 = .ok (.iadd, 1) := by decide +kernel
theorem dX4_sit_59 : decode cX4_sit 59 = .ok (.putfield 44, 3) := by decide +kernel
theorem dX4_sit_62 : decode cX4_sit 62 = .ok (.aload_n 0, 1) := by decide +kernel
theorem dX4_sit_63 : decode cX4_sit 63 = .ok (.getfield 44, 3) := by decide +kernel
theorem dX4_sit_66 : decode cX4_sit 66 = .ok (.iconst 1, 1) := by decide +kernel
theorem dX4_sit_67 : decode cX4_sit 67 = .ok (.isub, 1) := by decide +kernel
theorem dX4_sit_68 : decode cX4_sit 68 = .ok (.ireturn, 1) := by decide +kernel
set_option maxRecDepth 20000 in
theorem ggX4_fan_X4_isPlace : GoodIn wsX4_fan wsX4_isPlace := goodIn_r _ [6, 7, 8, 5, 9] (by decide +kernel) (by decide +kernel)
set_option maxRecDepth 20000 in
theorem gX4_fan_X4_isPlace : GoodIn wsX4_fan (va_wsS RX4 77 yX4_isPlace wsX4_isPlace) := goodIn_app (goodIn_of _ (by decide +kernel)) ggX4_fan_X4_isPlace
set_option maxRecDepth 20000 in
theorem ggX4_fan_X4_no : GoodIn wsX4_fan wsX4_no := goodIn_r _ [13, 1, 14, 15, 16, 17, 18, 19, 20, 21, 22, 23, 24, 25, 26, 27] (by decide +kernel) (by decide +kernel)
set_option maxRecDepth 20000 in
theorem gX4_fan_X4_no : GoodIn wsX4_fan (wsV RX4 63 RX4 yX4_no wsX4_no) := goodIn_app (goodIn_of _ (by decide +kernel)) ggX4_fan_X4_no
theorem dX4_fan_0 : decode cX4_fan 0 = .ok (.aload_n 0, 1) := by decide +kernel
theorem dX4_fan_1 : decode cX4_fan 1 = .ok (.iconst 0, 1) := by decide +kernel
theorem dX4_fan_2 : decode cX4_fan 2 = .ok (.putfield 33, 3) := by decide +kernel
theorem dX4_fan_5 : decode cX4_fan 5 = .ok (.iload_n 1, 1) := by decide +kernel
theorem dX4_fan_6 : decode cX4_fan 6 = .ok (.invokestatic 77, 3) := by decide +kernel
theorem dX4_fan_9 : decode cX4_fan 9 = .ok (.ifCond .ne 9, 3) := by decide +kernel
theorem dX4_fan_12 : decode cX4_fan 12 = .ok (.aload_n 0, 1) := by decide +kernel
theorem dX4_fan_13 : decode cX4_fan 13 = .ok (.iconst 1, 1) := by decide +kernel
theorem dX4_fan_14 : decode cX4_fan 14 = .ok (.invokevirtual 63, 3) := by decide +kernel
theorem dX4_fan_17 : decode cX4_fan 17 = .ok (.ireturn, 1) := by decide +kernel
theorem dX4_fan_18 : decode cX4_fan 18 = .ok (.aload_n 0, 1) := by decide +kernel
theorem dX4_fan_19 : decode cX4_fan 19 = .ok (.getfield 104, 3) := by decide +kernel
theorem dX4_fan_22 : decode cX4_fan 22 = .ok (.istore_n 2, 1) := by decide +kernel
theorem dX4_fan_23 : decode cX4_fan 23 = .ok (.aload_n 0, 1) := by decide +kernel
theorem dX4_fan_24 : decode cX4_fan 24 = .ok (.iload_n 1, 1) := by decide +kernel
theorem dX4_fan_25 : decode cX4_fan 25 = .ok (.putfield 104, 3) := by decide +kernel
theorem dX4_fan_28 : decode cX4_fan 28 = .ok (.iload_n 2, 1) := by decide +kernel
theorem dX4_fan_29 : decode cX4_fan 29 = .ok (.ireturn, 1) := by decide +kernel
set_option maxRecDepth 20000 in
theorem ggX4_take_X4_isPlayer : GoodIn wsX4_take wsX4_isPlayer := goodIn_r _ [11, 12, 13, 14, 10, 15, 20, 21, 22, 23, 24, 25, 26, 27, 28, 29, 30, 31, 32, 33] (by decide +kernel) (by decide +kernel)
set_option maxRecDepth 20000 in
theorem gX4_take_X4_isPlayer : GoodIn wsX4_take (wsV RX4 107 RX4 yX4_isPlayer wsX4_isPlayer) := goodIn_app (goodIn_of _ (by decide +kernel)) ggX4_take_X4_isPlayer
set_option maxRecDepth 20000 in
theorem ggX4_take_X4_no : GoodIn wsX4_take wsX4_no := goodIn_r _ [19, 1, 20, 21, 22, 23, 24, 25, 26, 27, 28, 29, 30, 31, 32, 33] (by decide +kernel) (by decide +kernel)
set_option maxRecDepth 20000 in
theorem gX4_take_X4_no : GoodIn wsX4_take (wsV RX4 63 RX4 yX4_no wsX4_no) := goodIn_app (goodIn_of _ (by decide +kernel)) ggX4_take_X4_no
theorem dX4_take_0 : decode cX4_take 0 = .ok (.aload_n 0, 1) := by decide +kernel
theorem dX4_take_1 : decode cX4_take 1 = .ok (.iconst 0, 1) := by decide +kernel
theorem dX4_take_2 : decode cX4_take 2 = .ok (.putfield 33, 3) := by decide +kernel
theorem dX4_take_5 : decode cX4_take 5 = .ok (.aload_n 0, 1) := by decide +kernel
theorem dX4_take_6 : decode cX4_take 6 = .ok (.iload_n 1, 1) := by decide +kernel
theorem dX4_take_7 : decode cX4_take 7 = .ok (.invokevirtual 107, 3) := by decide +kernel
theorem dX4_take_10 : decode cX4_take 10 = .ok (.ifCond .ne 9, 3) := by decide +kernel
theorem dX4_take_13 : decode cX4_take 13 = .ok (.aload_n 0, 1) := by decide +kernel
theorem dX4_take_14 : decode cX4_take 14 = .ok (.iconst 1, 1) := by decide +kernel
theorem dX4_take_15 : decode cX4_take 15 = .ok (.invokevirtual 63, 3) := by decide +kernel
theorem dX4_take_18 : decode cX4_take 18 = .ok (.ireturn, 1) := by decide +kernel
theorem dX4_take_19 : decode cX4_take 19 = .ok (.aload_n 0, 1) := by decide +kernel
theorem dX4_take_20 : decode cX4_take 20 = .ok (.getfield 30, 3) := by decide +kernel
theorem dX4_take_23 : decode cX4_take 23 = .ok (.iload_n 1, 1) := by decide +kernel
theorem dX4_take_24 : decode cX4_take 24 = .ok (.aload_n 0, 1) := by decide +kernel
theorem dX4_take_25 : decode cX4_take 25 = .ok (.getfield 9, 3) := by decide +kernel
theorem dX4_take_28 : decode cX4_take 28 = .ok (.aload_n 0, 1) := by decide +kernel
theorem dX4_take_29 : decode cX4_take 29 = .ok (.getfield 27, 3) := by decide +kernel
theorem dX4_take_32 : decode cX4_take 32 = .ok (.iload_n 1, 1) := by decide +kernel
theorem dX4_take_33 : decode cX4_take 33 = .ok (.iaload, 1) := by decide +kernel
theorem dX4_take_34 : decode cX4_take 34 = .ok (.aload_n 0, 1) := by decide +kernel
theorem dX4_take_35 : decode cX4_take 35 = .ok (.getfield 104, 3) := by decide +kernel
theorem dX4_take_38 : decode cX4_take 38 = .ok (.iadd, 1) := by decide +kernel
theorem dX4_take_39 : decode cX4_take 39 = .ok (.aload_n 0, 1) := by decide +kernel
theorem dX4_take_40 : decode cX4_take 40 = .ok (.getfield 110, 3) := by decide +kernel
theorem dX4_take_43 : decode cX4_take 43 = .ok (.iadd, 1) := by decide +kernel
theorem dX4_take_44 : decode cX4_take 44 = .ok (.bipush 16, 2) := by decide +kernel
theorem dX4_take_46 : decode cX4_take 46 = .ok (.irem, 1) := by decide +kernel
theorem dX4_take_47 : decode cX4_take 47 = .ok (.iaload, 1) := by decide +kernel
theorem dX4_take_48 : decode cX4_take 48 = .ok (.iastore, 1) := by decide +kernel
theorem dX4_take_49 : decode cX4_take 49 = .ok (.aload_n 0, 1) := by decide +kernel
theorem dX4_take_50 : decode cX4_take 50 = .ok (.dup, 1) := by decide +kernel
theorem dX4_take_51 : decode cX4_take 51 = .ok (.getfield 110, 3) := by decide +kernel
theorem dX4_take_54 : decode cX4_take 54 = .ok (.iconst 1, 1) := by decide +kernel
theorem dX4_take_55 : decode cX4_take 55 = .ok (.iadd, 1) := by decide +kernel
theorem dX4_take_56 : decode cX4_take 56 = .ok (.putfield 110, 3) := by decide +kernel
theorem dX4_take_59 : decode cX4_take 59 = .ok (.aload_n 0, 1) := by decide +kernel
theorem dX4_take_60 : decode cX4_take 60 = .ok (.getfield 30, 3) := by decide +kernel
theorem dX4_take_63 : decode cX4_take 63 = .ok (.iload_n 1, 1) := by decide +kernel
theorem dX4_take_64 : decode cX4_take 64 = .ok (.iaload, 1) := by decide +kernel
theorem dX4_take_65 : decode cX4_take 65 = .ok (.ireturn, 1) := by decide +kernel
set_option maxRecDepth 20000 in
theorem ggX4_force_X4_isPlayer : GoodIn wsX4_force wsX4_isPlayer := goodIn_r _ [8, 9, 10, 11, 7, 12, 29, 30, 31, 32, 33, 34, 35, 36, 37, 38, 39, 40, 41, 42] (by decide +kernel) (by decide +kernel)
set_option maxRecDepth 20000 in
theorem gX4_force_X4_isPlayer : GoodIn wsX4_force (wsV RX4 107 RX4 yX4_isPlayer wsX4_isPlayer) := goodIn_app (goodIn_of _ (by decide +kernel)) ggX4_force_X4_isPlayer
set_option maxRecDepth 20000 in
theorem ggX4_force_X4_isPlace : GoodIn wsX4_force wsX4_isPlace := goodIn_r _ [15, 10, 11, 7, 12] (by decide +kernel) (by decide +kernel)
set_option maxRecDepth 20000 in
theorem gX4_force_X4_isPlace : GoodIn wsX4_force (va_wsS RX4 77 yX4_isPlace wsX4_isPlace) := goodIn_app (goodIn_of _ (by decide +kernel)) ggX4_force_X4_isPlace
set_option maxRecDepth 20000 in
theorem ggX4_force_X4_no : GoodIn wsX4_force wsX4_no := goodIn_r _ [19, 1, 29, 30, 31, 32, 33, 34, 35, 36, 37, 38, 39, 40, 41, 42] (by decide +kernel) (by decide +kernel)
set_option maxRecDepth 20000 in
theorem gX4_force_X4_no : GoodIn wsX4_force (wsV RX4 63 RX4 yX4_no wsX4_no) := goodIn_app (goodIn_of _ (by decide +kernel)) ggX4_force_X4_no
set_option maxRecDepth 20000 in
theorem ggX4_force_X4_placeOf : GoodIn wsX4_force wsX4_placeOf := goodIn_r _ [23, 24, 29, 30, 31, 32, 33, 34, 35, 36, 37, 38, 39, 40, 41, 42] (by decide +kernel) (by decide +kernel)
set_option maxRecDepth 20000 in
theorem gX4_force_X4_placeOf : GoodIn wsX4_force (wsV RX4 81 RX4 yX4_placeOf wsX4_placeOf) := goodIn_app (goodIn_of _ (by decide +kernel)) ggX4_force_X4_placeOf
set_option maxRecDepth 20000 in
theorem ggX4_force_J9_floorMod_7cf53 : GoodIn wsX4_force wsJ9_floorMod_7cf53 := goodIn_r _ [28] (by decide +kernel) (by decide +kernel)
set_option maxRecDepth 20000 in
theorem gX4_force_J9_floorMod_7cf53 : GoodIn wsX4_force (va_wsS RX4 113 yJ9_floorMod_7cf53 wsJ9_floorMod_7cf53) := goodIn_app (goodIn_of _ (by decide +kernel)) ggX4_force_J9_floorMod_7cf53
theorem dX4_force_0 : decode cX4_force 0 = .ok (.aload_n 0, 1) := by decide +kernel
theorem dX4_force_1 : decode cX4_force 1 = .ok (.iconst 0, 1) := by decide +kernel
theorem dX4_force_2 : decode cX4_force 2 = .ok (.putfield 33, 3) := by decide +kernel
theorem dX4_force_5 : decode cX4_force 5 = .ok (.aload_n 0, 1) := by decide +kernel
theorem dX4_force_6 : decode cX4_force 6 = .ok (.iload_n 1, 1) := by decide +kernel
theorem dX4_force_7 : decode cX4_force 7 = .ok (.invokevirtual 107, 3) := by decide +kernel
theorem dX4_force_10 : decode cX4_force 10 = .ok (.ifCond .eq 10, 3) := by decide +kernel
theorem dX4_force_13 : decode cX4_force 13 = .ok (.iload_n 2, 1) := by decide +kernel
theorem dX4_force_14 : decode cX4_force 14 = .ok (.invokestatic 77, 3) := by decide +kernel
theorem dX4_force_17 : decode cX4_force 17 = .ok (.ifCond .ne 9, 3) := by decide +kernel
theorem dX4_force_20 : decode cX4_force 20 = .ok (.aload_n 0, 1) := by decide +kernel
theorem dX4_force_21 : decode cX4_force 21 = .ok (.iconst 1, 1) := by decide +kernel
theorem dX4_force_22 : decode cX4_force 22 = .ok (.invokevirtual 63, 3) := by decide +kernel
theorem dX4_force_25 : decode cX4_force 25 = .ok (.ireturn, 1) := by decide +kernel
theorem dX4_force_26 : decode cX4_force 26 = .ok (.aload_n 0, 1) := by decide +kernel
theorem dX4_force_27 : decode cX4_force 27 = .ok (.iload_n 2, 1) := by decide +kernel
theorem dX4_force_28 : decode cX4_force 28 = .ok (.invokevirtual 81, 3) := by decide +kernel
theorem dX4_force_31 : decode cX4_force 31 = .ok (.aload_n 0, 1) := by decide +kernel
theorem dX4_force_32 : decode cX4_force 32 = .ok (.getfield 27, 3) := by decide +kernel
theorem dX4_force_35 : decode cX4_force 35 = .ok (.iload_n 1, 1) := by decide +kernel
theorem dX4_force_36 : decode cX4_force 36 = .ok (.iaload, 1) := by decide +kernel
theorem dX4_force_37 : decode cX4_force 37 = .ok (.isub, 1) := by decide +kernel
theorem dX4_force_38 : decode cX4_force 38 = .ok (.aload_n 0, 1) := by decide +kernel
theorem dX4_force_39 : decode cX4_force 39 = .ok (.getfield 110, 3) := by decide +kernel
theorem dX4_force_42 : decode cX4_force 42 = .ok (.isub, 1) := by decide +kernel
theorem dX4_force_43 : decode cX4_force 43 = .ok (.bipush 16, 2) := by decide +kernel
theorem dX4_force_45 : decode cX4_force 45 = .ok (.invokestatic 113, 3) := by decide +kernel
theorem dX4_force_48 : decode cX4_force 48 = .ok (.ireturn, 1) := by decide +kernel
set_option maxRecDepth 20000 in
theorem ggX4_took_X4_isPlayer : GoodIn wsX4_took wsX4_isPlayer := goodIn_r _ [7, 8, 9, 10, 6, 11, 16, 17, 18, 19, 20, 21, 22, 23, 24, 25, 26, 27, 28, 29] (by decide +kernel) (by decide +kernel)
set_option maxRecDepth 20000 in
theorem gX4_took_X4_isPlayer : GoodIn wsX4_took (wsV RX4 107 RX4 yX4_isPlayer wsX4_isPlayer) := goodIn_app (goodIn_of _ (by decide +kernel)) ggX4_took_X4_isPlayer
set_option maxRecDepth 20000 in
theorem ggX4_took_X4_no : GoodIn wsX4_took wsX4_no := goodIn_r _ [15, 1, 16, 17, 18, 19, 20, 21, 22, 23, 24, 25, 26, 27, 28, 29] (by decide +kernel) (by decide +kernel)
set_option maxRecDepth 20000 in
theorem gX4_took_X4_no : GoodIn wsX4_took (wsV RX4 63 RX4 yX4_no wsX4_no) := goodIn_app (goodIn_of _ (by decide +kernel)) ggX4_took_X4_no
theorem dX4_took_0 : decode cX4_took 0 = .ok (.aload_n 0, 1) := by decide +kernel
theorem dX4_took_1 : decode cX4_took 1 = .ok (.iconst 0, 1) := by decide +kernel
theorem dX4_took_2 : decode cX4_took 2 = .ok (.putfield 33, 3) := by decide +kernel
theorem dX4_took_5 : decode cX4_took 5 = .ok (.aload_n 0, 1) := by decide +kernel
theorem dX4_took_6 : decode cX4_took 6 = .ok (.iload_n 1, 1) := by decide +kernel
theorem dX4_took_7 : decode cX4_took 7 = .ok (.invokevirtual 107, 3) := by decide +kernel
theorem dX4_took_10 : decode cX4_took 10 = .ok (.ifCond .eq 12, 3) := by decide +kernel
theorem dX4_took_13 : decode cX4_took 13 = .ok (.aload_n 0, 1) := by decide +kernel
theorem dX4_took_14 : decode cX4_took 14 = .ok (.getfield 30, 3) := by decide +kernel
theorem dX4_took_17 : decode cX4_took 17 = .ok (.iload_n 1, 1) := by decide +kernel
theorem dX4_took_18 : decode cX4_took 18 = .ok (.iaload, 1) := by decide +kernel
theorem dX4_took_19 : decode cX4_took 19 = .ok (.goto 8, 3) := by decide +kernel
theorem dX4_took_22 : decode cX4_took 22 = .ok (.aload_n 0, 1) := by decide +kernel
theorem dX4_took_23 : decode cX4_took 23 = .ok (.iconst 1, 1) := by decide +kernel
theorem dX4_took_24 : decode cX4_took 24 = .ok (.invokevirtual 63, 3) := by decide +kernel
theorem dX4_took_27 : decode cX4_took 27 = .ok (.ireturn, 1) := by decide +kernel
theorem dX4_counted_0 : decode cX4_counted 0 = .ok (.iconst 0, 1) := by decide +kernel
theorem dX4_counted_1 : decode cX4_counted 1 = .ok (.istore_n 2, 1) := by decide +kernel
theorem dX4_counted_2 : decode cX4_counted 2 = .ok (.iconst 0, 1) := by decide +kernel
theorem dX4_counted_3 : decode cX4_counted 3 = .ok (.istore_n 3, 1) := by decide +kernel
theorem dX4_counted_4 : decode cX4_counted 4 = .ok (.iload_n 3, 1) := by decide +kernel
theorem dX4_counted_5 : decode cX4_counted 5 = .ok (.bipush 16, 2) := by decide +kernel
theorem dX4_counted_7 : decode cX4_counted 7 = .ok (.if_icmp .ge 27, 3) := by decide +kernel
theorem dX4_counted_10 : decode cX4_counted 10 = .ok (.iload_n 2, 1) := by decide +kernel
theorem dX4_counted_11 : decode cX4_counted 11 = .ok (.aload_n 0, 1) := by decide +kernel
theorem dX4_counted_12 : decode cX4_counted 12 = .ok (.getfield 9, 3) := by decide +kernel
theorem dX4_counted_15 : decode cX4_counted 15 = .ok (.iload_n 3, 1) := by decide +kernel
theorem dX4_counted_16 : decode cX4_counted 16 = .ok (.iaload, 1) := by decide +kernel
theorem dX4_counted_17 : decode cX4_counted 17 = .ok (.iload_n 3, 1) := by decide +kernel
theorem dX4_counted_18 : decode cX4_counted 18 = .ok (.if_icmp .ne 7, 3) := by decide +kernel
theorem dX4_counted_21 : decode cX4_counted 21 = .ok (.iconst 1, 1) := by decide +kernel
theorem dX4_counted_22 : decode cX4_counted 22 = .ok (.goto 4, 3) := by decide +kernel
theorem dX4_counted_25 : decode cX4_counted 25 = .ok (.iconst 0, 1) := by decide +kernel
theorem dX4_counted_26 : decode cX4_counted 26 = .ok (.iadd, 1) := by decide +kernel
theorem dX4_counted_27 : decode cX4_counted 27 = .ok (.istore_n 2, 1) := by decide +kernel
theorem dX4_counted_28 : decode cX4_counted 28 = .ok (.iinc 3 1, 3) := by decide +kernel
theorem dX4_counted_31 : decode cX4_counted 31 = .ok (.goto (-27), 3) := by decide +kernel
theorem dX4_counted_34 : decode cX4_counted 34 = .ok (.bipush 7, 2) := by decide +kernel
theorem dX4_counted_36 : decode cX4_counted 36 = .ok (.newarray .int, 2) := by decide +kernel
theorem dX4_counted_38 : decode cX4_counted 38 = .ok (.dup, 1) := by decide +kernel
theorem dX4_counted_39 : decode cX4_counted 39 = .ok (.iconst 0, 1) := by decide +kernel
theorem dX4_counted_40 : decode cX4_counted 40 = .ok (.aload_n 0, 1) := by decide +kernel
theorem dX4_counted_41 : decode cX4_counted 41 = .ok (.getfield 71, 3) := by decide +kernel
theorem dX4_counted_44 : decode cX4_counted 44 = .ok (.iastore, 1) := by decide +kernel
theorem dX4_counted_45 : decode cX4_counted 45 = .ok (.dup, 1) := by decide +kernel
theorem dX4_counted_46 : decode cX4_counted 46 = .ok (.iconst 1, 1) := by decide +kernel
theorem dX4_counted_47 : decode cX4_counted 47 = .ok (.aload_n 0, 1) := by decide +kernel
theorem dX4_counted_48 : decode cX4_counted 48 = .ok (.getfield 74, 3) := by decide +kernel
theorem dX4_counted_51 : decode cX4_counted 51 = .ok (.iastore, 1) := by decide +kernel
theorem dX4_counted_52 : decode cX4_counted 52 = .ok (.dup, 1) := by decide +kernel
theorem dX4_counted_53 : decode cX4_counted 53 = .ok (.iconst 2, 1) := by decide +kernel
theorem dX4_counted_54 : decode cX4_counted 54 = .ok (.aload_n 0, 1) := by decide +kernel
theorem dX4_counted_55 : decode cX4_counted 55 = .ok (.getfield 41, 3) := by decide +kernel
theorem dX4_counted_58 : decode cX4_counted 58 = .ok (.iastore, 1) := by decide +kernel
theorem dX4_counted_59 : decode cX4_counted 59 = .ok (.dup, 1) := by decide +kernel
theorem dX4_counted_60 : decode cX4_counted 60 = .ok (.iconst 3, 1) := by decide +kernel
theorem dX4_counted_61 : decode cX4_counted 61 = .ok (.aload_n 0, 1) := by decide +kernel
theorem dX4_counted_62 : decode cX4_counted 62 = .ok (.getfield 44, 3) := by decide +kernel
theorem dX4_counted_65 : decode cX4_counted 65 = .ok (.iastore, 1) := by decide +kernel
theorem dX4_counted_66 : decode cX4_counted 66 = .ok (.dup, 1) := by decide +kernel
theorem dX4_counted_67 : decode cX4_counted 67 = .ok (.iconst 4, 1) := by decide +kernel
theorem dX4_counted_68 : decode cX4_counted 68 = .ok (.aload_n 0, 1) := by decide +kernel
theorem dX4_counted_69 : decode cX4_counted 69 = .ok (.getfield 104, 3) := by decide +kernel
theorem dX4_counted_72 : decode cX4_counted 72 = .ok (.iastore, 1) := by decide +kernel
theorem dX4_counted_73 : decode cX4_counted 73 = .ok (.dup, 1) := by decide +kernel
theorem dX4_counted_74 : decode cX4_counted 74 = .ok (.iconst 5, 1) := by decide +kernel
theorem dX4_counted_75 : decode cX4_counted 75 = .ok (.aload_n 0, 1) := by decide +kernel
theorem dX4_counted_76 : decode cX4_counted 76 = .ok (.getfield 110, 3) := by decide +kernel
theorem dX4_counted_79 : decode cX4_counted 79 = .ok (.iastore, 1) := by decide +kernel
theorem dX4_counted_80 : decode cX4_counted 80 = .ok (.dup, 1) := by decide +kernel
theorem dX4_counted_81 : decode cX4_counted 81 = .ok (.bipush 6, 2) := by decide +kernel
theorem dX4_counted_83 : decode cX4_counted 83 = .ok (.iload_n 2, 1) := by decide +kernel
theorem dX4_counted_84 : decode cX4_counted 84 = .ok (.iastore, 1) := by decide +kernel
theorem dX4_counted_85 : decode cX4_counted 85 = .ok (.astore_n 3, 1) := by decide +kernel
theorem dX4_counted_86 : decode cX4_counted 86 = .ok (.aload_n 3, 1) := by decide +kernel
theorem dX4_counted_87 : decode cX4_counted 87 = .ok (.iload_n 1, 1) := by decide +kernel
theorem dX4_counted_88 : decode cX4_counted 88 = .ok (.iaload, 1) := by decide +kernel
theorem dX4_counted_89 : decode cX4_counted 89 = .ok (.ireturn, 1) := by decide +kernel
set_option maxRecDepth 20000 in
theorem ggX4_count_X4_isIn : GoodIn wsX4_count wsX4_isIn := goodIn_r _ [5] (by decide +kernel) (by decide +kernel)
set_option maxRecDepth 20000 in
theorem gX4_count_X4_isIn : GoodIn wsX4_count (va_wsS RX4 37 yX4_isIn wsX4_isIn) := goodIn_app (goodIn_of _ (by decide +kernel)) ggX4_count_X4_isIn
set_option maxRecDepth 20000 in
theorem ggX4_count_X4_counted : GoodIn wsX4_count wsX4_counted := goodIn_r _ [9, 10, 11, 12, 13, 14, 15, 16, 17, 22, 23, 24, 25, 26, 27, 28, 29, 30, 31, 32, 33, 34, 35] (by decide +kernel) (by decide +kernel)
set_option maxRecDepth 20000 in
theorem gX4_count_X4_counted : GoodIn wsX4_count (wsV RX4 118 RX4 yX4_counted wsX4_counted) := goodIn_app (goodIn_of _ (by decide +kernel)) ggX4_count_X4_counted
set_option maxRecDepth 20000 in
theorem ggX4_count_X4_no : GoodIn wsX4_count wsX4_no := goodIn_r _ [21, 1, 22, 23, 24, 25, 26, 27, 28, 29, 30, 31, 32, 33, 34, 35] (by decide +kernel) (by decide +kernel)
set_option maxRecDepth 20000 in
theorem gX4_count_X4_no : GoodIn wsX4_count (wsV RX4 63 RX4 yX4_no wsX4_no) := goodIn_app (goodIn_of _ (by decide +kernel)) ggX4_count_X4_no
theorem dX4_count_0 : decode cX4_count 0 = .ok (.aload_n 0, 1) := by decide +kernel
theorem dX4_count_1 : decode cX4_count 1 = .ok (.iconst 0, 1) := by decide +kernel
theorem dX4_count_2 : decode cX4_count 2 = .ok (.putfield 33, 3) := by decide +kernel
theorem dX4_count_5 : decode cX4_count 5 = .ok (.iload_n 1, 1) := by decide +kernel
theorem dX4_count_6 : decode cX4_count 6 = .ok (.iconst 0, 1) := by decide +kernel
theorem dX4_count_7 : decode cX4_count 7 = .ok (.bipush 6, 2) := by decide +kernel
theorem dX4_count_9 : decode cX4_count 9 = .ok (.invokestatic 37, 3) := by decide +kernel
theorem dX4_count_12 : decode cX4_count 12 = .ok (.ifCond .eq 11, 3) := by decide +kernel
theorem dX4_count_15 : decode cX4_count 15 = .ok (.aload_n 0, 1) := by decide +kernel
theorem dX4_count_16 : decode cX4_count 16 = .ok (.iload_n 1, 1) := by decide +kernel
theorem dX4_count_17 : decode cX4_count 17 = .ok (.invokevirtual 118, 3) := by decide +kernel
theorem dX4_count_20 : decode cX4_count 20 = .ok (.goto 8, 3) := by decide +kernel
theorem dX4_count_23 : decode cX4_count 23 = .ok (.aload_n 0, 1) := by decide +kernel
theorem dX4_count_24 : decode cX4_count 24 = .ok (.iconst 1, 1) := by decide +kernel
theorem dX4_count_25 : decode cX4_count 25 = .ok (.invokevirtual 63, 3) := by decide +kernel
theorem dX4_count_28 : decode cX4_count 28 = .ok (.ireturn, 1) := by decide +kernel
set_option maxRecDepth 20000 in
theorem ggX4_back_X4_isWay : GoodIn wsX4_back wsX4_isWay := goodIn_r _ [5, 6, 7, 4, 8] (by decide +kernel) (by decide +kernel)
set_option maxRecDepth 20000 in
theorem gX4_back_X4_isWay : GoodIn wsX4_back (va_wsS RX4 59 yX4_isWay wsX4_isWay) := goodIn_app (goodIn_of _ (by decide +kernel)) ggX4_back_X4_isWay
set_option maxRecDepth 20000 in
theorem ggX4_back_X4_no : GoodIn wsX4_back wsX4_no := goodIn_r _ [12, 1, 17, 18, 19, 20, 21, 22, 23, 24, 25, 26, 27, 28, 29, 30] (by decide +kernel) (by decide +kernel)
set_option maxRecDepth 20000 in
theorem gX4_back_X4_no : GoodIn wsX4_back (wsV RX4 63 RX4 yX4_no wsX4_no) := goodIn_app (goodIn_of _ (by decide +kernel)) ggX4_back_X4_no
set_option maxRecDepth 20000 in
theorem ggX4_back_X4_to : GoodIn wsX4_back wsX4_to := goodIn_r _ [15, 16] (by decide +kernel) (by decide +kernel)
set_option maxRecDepth 20000 in
theorem gX4_back_X4_to : GoodIn wsX4_back (va_wsS RX4 55 yX4_to wsX4_to) := goodIn_app (goodIn_of _ (by decide +kernel)) ggX4_back_X4_to
theorem dX4_back_0 : decode cX4_back 0 = .ok (.aload_n 0, 1) := by decide +kernel
theorem dX4_back_1 : decode cX4_back 1 = .ok (.iconst 0, 1) := by decide +kernel
theorem dX4_back_2 : decode cX4_back 2 = .ok (.putfield 33, 3) := by decide +kernel
theorem dX4_back_5 : decode cX4_back 5 = .ok (.iload_n 1, 1) := by decide +kernel
theorem dX4_back_6 : decode cX4_back 6 = .ok (.iload_n 2, 1) := by decide +kernel
theorem dX4_back_7 : decode cX4_back 7 = .ok (.invokestatic 59, 3) := by decide +kernel
theorem dX4_back_10 : decode cX4_back 10 = .ok (.ifCond .ne 9, 3) := by decide +kernel
theorem dX4_back_13 : decode cX4_back 13 = .ok (.aload_n 0, 1) := by decide +kernel
theorem dX4_back_14 : decode cX4_back 14 = .ok (.iconst 1, 1) := by decide +kernel
theorem dX4_back_15 : decode cX4_back 15 = .ok (.invokevirtual 63, 3) := by decide +kernel
theorem dX4_back_18 : decode cX4_back 18 = .ok (.ireturn, 1) := by decide +kernel
theorem dX4_back_19 : decode cX4_back 19 = .ok (.iconst 1, 1) := by decide +kernel
theorem dX4_back_20 : decode cX4_back 20 = .ok (.istore_n 3, 1) := by decide +kernel
theorem dX4_back_21 : decode cX4_back 21 = .ok (.iconst 0, 1) := by decide +kernel
theorem dX4_back_22 : decode cX4_back 22 = .ok (.istore 4, 2) := by decide +kernel
theorem dX4_back_24 : decode cX4_back 24 = .ok (.iload 4, 2) := by decide +kernel
theorem dX4_back_26 : decode cX4_back 26 = .ok (.bipush 16, 2) := by decide +kernel
theorem dX4_back_28 : decode cX4_back 28 = .ok (.if_icmp .ge 76, 3) := by decide +kernel
theorem dX4_back_31 : decode cX4_back 31 = .ok (.iconst 1, 1) := by decide +kernel
theorem dX4_back_32 : decode cX4_back 32 = .ok (.istore 5, 2) := by decide +kernel
theorem dX4_back_34 : decode cX4_back 34 = .ok (.iload_n 1, 1) := by decide +kernel
theorem dX4_back_35 : decode cX4_back 35 = .ok (.iload_n 2, 1) := by decide +kernel
theorem dX4_back_36 : decode cX4_back 36 = .ok (.iload 4, 2) := by decide +kernel
theorem dX4_back_38 : decode cX4_back 38 = .ok (.invokestatic 55, 3) := by decide +kernel
theorem dX4_back_41 : decode cX4_back 41 = .ok (.istore 6, 2) := by decide +kernel
theorem dX4_back_43 : decode cX4_back 43 = .ok (.iload 6, 2) := by decide +kernel
theorem dX4_back_45 : decode cX4_back 45 = .ok (.iload 4, 2) := by decide +kernel
theorem dX4_back_47 : decode cX4_back 47 = .ok (.if_icmp .eq 18, 3) := by decide +kernel
theorem dX4_back_50 : decode cX4_back 50 = .ok (.iinc 5 1, 3) := by decide +kernel
theorem dX4_back_53 : decode cX4_back 53 = .ok (.iload_n 1, 1) := by decide +kernel
theorem dX4_back_54 : decode cX4_back 54 = .ok (.iload_n 2, 1) := by decide +kernel
theorem dX4_back_55 : decode cX4_back 55 = .ok (.iload 6, 2) := by decide +kernel
theorem dX4_back_57 : decode cX4_back 57 = .ok (.invokestatic 55, 3) := by decide +kernel
theorem dX4_back_60 : decode cX4_back 60 = .ok (.istore 6, 2) := by decide +kernel
theorem dX4_back_62 : decode cX4_back 62 = .ok (.goto (-19), 3) := by decide +kernel
theorem dX4_back_65 : decode cX4_back 65 = .ok (.iload 5, 2) := by decide +kernel
theorem dX4_back_67 : decode cX4_back 67 = .ok (.istore 6, 2) := by decide +kernel
theorem dX4_back_69 : decode cX4_back 69 = .ok (.iload_n 3, 1) := by decide +kernel
theorem dX4_back_70 : decode cX4_back 70 = .ok (.iload 6, 2) := by decide +kernel
theorem dX4_back_72 : decode cX4_back 72 = .ok (.irem, 1) := by decide +kernel
theorem dX4_back_73 : decode cX4_back 73 = .ok (.ifCond .ne 11, 3) := by decide +kernel
theorem dX4_back_76 : decode cX4_back 76 = .ok (.iload 5, 2) := by decide +kernel
theorem dX4_back_78 : decode cX4_back 78 = .ok (.iload 6, 2) := by decide +kernel
theorem dX4_back_80 : decode cX4_back 80 = .ok (.irem, 1) := by decide +kernel
theorem dX4_back_81 : decode cX4_back 81 = .ok (.ifCond .eq 9, 3) := by decide +kernel
theorem dX4_back_84 : decode cX4_back 84 = .ok (.iinc 6 (-1), 3) := by decide +kernel
theorem dX4_back_87 : decode cX4_back 87 = .ok (.goto (-18), 3) := by decide +kernel
theorem dX4_back_90 : decode cX4_back 90 = .ok (.iload_n 3, 1) := by decide +kernel
theorem dX4_back_91 : decode cX4_back 91 = .ok (.iload 6, 2) := by decide +kernel
theorem dX4_back_93 : decode cX4_back 93 = .ok (.idiv, 1) := by decide +kernel
theorem dX4_back_94 : decode cX4_back 94 = .ok (.iload 5, 2) := by decide +kernel
theorem dX4_back_96 : decode cX4_back 96 = .ok (.imul, 1) := by decide +kernel
theorem dX4_back_97 : decode cX4_back 97 = .ok (.istore_n 3, 1) := by decide +kernel
theorem dX4_back_98 : decode cX4_back 98 = .ok (.iinc 4 1, 3) := by decide +kernel
theorem dX4_back_101 : decode cX4_back 101 = .ok (.goto (-77), 3) := by decide +kernel
theorem dX4_back_104 : decode cX4_back 104 = .ok (.iload_n 3, 1) := by decide +kernel
theorem dX4_back_105 : decode cX4_back 105 = .ok (.ireturn, 1) := by decide +kernel
set_option maxRecDepth 20000 in
theorem ggX4_bring_X4_isPlace : GoodIn wsX4_bring wsX4_isPlace := goodIn_r _ [5, 6, 7, 4, 8] (by decide +kernel) (by decide +kernel)
set_option maxRecDepth 20000 in
theorem gX4_bring_X4_isPlace : GoodIn wsX4_bring (va_wsS RX4 77 yX4_isPlace wsX4_isPlace) := goodIn_app (goodIn_of _ (by decide +kernel)) ggX4_bring_X4_isPlace
set_option maxRecDepth 20000 in
theorem ggX4_bring_X4_no : GoodIn wsX4_bring wsX4_no := goodIn_r _ [12, 1, 22, 23, 24, 25, 26, 27, 28, 29, 30, 31, 32, 33, 34, 35] (by decide +kernel) (by decide +kernel)
set_option maxRecDepth 20000 in
theorem gX4_bring_X4_no : GoodIn wsX4_bring (wsV RX4 63 RX4 yX4_no wsX4_no) := goodIn_app (goodIn_of _ (by decide +kernel)) ggX4_bring_X4_no
set_option maxRecDepth 20000 in
theorem ggX4_bring_X4_placeOf : GoodIn wsX4_bring wsX4_placeOf := goodIn_r _ [16, 17, 22, 23, 24, 25, 26, 27, 28, 29, 30, 31, 32, 33, 34, 35] (by decide +kernel) (by decide +kernel)
set_option maxRecDepth 20000 in
theorem gX4_bring_X4_placeOf : GoodIn wsX4_bring (wsV RX4 81 RX4 yX4_placeOf wsX4_placeOf) := goodIn_app (goodIn_of _ (by decide +kernel)) ggX4_bring_X4_placeOf
set_option maxRecDepth 20000 in
theorem ggX4_bring_X4_to : GoodIn wsX4_bring wsX4_to := goodIn_r _ [20, 21] (by decide +kernel) (by decide +kernel)
set_option maxRecDepth 20000 in
theorem gX4_bring_X4_to : GoodIn wsX4_bring (va_wsS RX4 55 yX4_to wsX4_to) := goodIn_app (goodIn_of _ (by decide +kernel)) ggX4_bring_X4_to
theorem dX4_bring_0 : decode cX4_bring 0 = .ok (.aload_n 0, 1) := by decide +kernel
theorem dX4_bring_1 : decode cX4_bring 1 = .ok (.iconst 0, 1) := by decide +kernel
theorem dX4_bring_2 : decode cX4_bring 2 = .ok (.putfield 33, 3) := by decide +kernel
theorem dX4_bring_5 : decode cX4_bring 5 = .ok (.iload_n 1, 1) := by decide +kernel
theorem dX4_bring_6 : decode cX4_bring 6 = .ok (.invokestatic 77, 3) := by decide +kernel
theorem dX4_bring_9 : decode cX4_bring 9 = .ok (.ifCond .eq 10, 3) := by decide +kernel
theorem dX4_bring_12 : decode cX4_bring 12 = .ok (.iload_n 2, 1) := by decide +kernel
theorem dX4_bring_13 : decode cX4_bring 13 = .ok (.invokestatic 77, 3) := by decide +kernel
theorem dX4_bring_16 : decode cX4_bring 16 = .ok (.ifCond .ne 9, 3) := by decide +kernel
theorem dX4_bring_19 : decode cX4_bring 19 = .ok (.aload_n 0, 1) := by decide +kernel
theorem dX4_bring_20 : decode cX4_bring 20 = .ok (.iconst 1, 1) := by decide +kernel
theorem dX4_bring_21 : decode cX4_bring 21 = .ok (.invokevirtual 63, 3) := by decide +kernel
theorem dX4_bring_24 : decode cX4_bring 24 = .ok (.ireturn, 1) := by decide +kernel
theorem dX4_bring_25 : decode cX4_bring 25 = .ok (.iconst 1, 1) := by decide +kernel
theorem dX4_bring_26 : decode cX4_bring 26 = .ok (.aload_n 0, 1) := by decide +kernel
theorem dX4_bring_27 : decode cX4_bring 27 = .ok (.iload_n 1, 1) := by decide +kernel
theorem dX4_bring_28 : decode cX4_bring 28 = .ok (.invokevirtual 81, 3) := by decide +kernel
theorem dX4_bring_31 : decode cX4_bring 31 = .ok (.ishl, 1) := by decide +kernel
theorem dX4_bring_32 : decode cX4_bring 32 = .ok (.istore_n 3, 1) := by decide +kernel
theorem dX4_bring_33 : decode cX4_bring 33 = .ok (.iconst 0, 1) := by decide +kernel
theorem dX4_bring_34 : decode cX4_bring 34 = .ok (.istore 4, 2) := by decide +kernel
theorem dX4_bring_36 : decode cX4_bring 36 = .ok (.iload 4, 2) := by decide +kernel
theorem dX4_bring_38 : decode cX4_bring 38 = .ok (.bipush 16, 2) := by decide +kernel
theorem dX4_bring_40 : decode cX4_bring 40 = .ok (.if_icmp .gt 98, 3) := by decide +kernel
theorem dX4_bring_43 : decode cX4_bring 43 = .ok (.iload_n 3, 1) := by decide +kernel
theorem dX4_bring_44 : decode cX4_bring 44 = .ok (.iload_n 2, 1) := by decide +kernel
theorem dX4_bring_45 : decode cX4_bring 45 = .ok (.ishr, 1) := by decide +kernel
theorem dX4_bring_46 : decode cX4_bring 46 = .ok (.iconst 1, 1) := by decide +kernel
theorem dX4_bring_47 : decode cX4_bring 47 = .ok (.iand, 1) := by decide +kernel
theorem dX4_bring_48 : decode cX4_bring 48 = .ok (.iconst 1, 1) := by decide +kernel
theorem dX4_bring_49 : decode cX4_bring 49 = .ok (.if_icmp .ne 6, 3) := by decide +kernel
theorem dX4_bring_52 : decode cX4_bring 52 = .ok (.iload 4, 2) := by decide +kernel
theorem dX4_bring_54 : decode cX4_bring 54 = .ok (.ireturn, 1) := by decide +kernel
theorem dX4_bring_55 : decode cX4_bring 55 = .ok (.iload_n 3, 1) := by decide +kernel
theorem dX4_bring_56 : decode cX4_bring 56 = .ok (.istore 5, 2) := by decide +kernel
theorem dX4_bring_58 : decode cX4_bring 58 = .ok (.iconst 0, 1) := by decide +kernel
theorem dX4_bring_59 : decode cX4_bring 59 = .ok (.istore 6, 2) := by decide +kernel
theorem dX4_bring_61 : decode cX4_bring 61 = .ok (.iload 6, 2) := by decide +kernel
theorem dX4_bring_63 : decode cX4_bring 63 = .ok (.bipush 16, 2) := by decide +kernel
theorem dX4_bring_65 : decode cX4_bring 65 = .ok (.if_icmp .ge 64, 3) := by decide +kernel
theorem dX4_bring_68 : decode cX4_bring 68 = .ok (.iload_n 3, 1) := by decide +kernel
theorem dX4_bring_69 : decode cX4_bring 69 = .ok (.iload 6, 2) := by decide +kernel
theorem dX4_bring_71 : decode cX4_bring 71 = .ok (.ishr, 1) := by decide +kernel
theorem dX4_bring_72 : decode cX4_bring 72 = .ok (.iconst 1, 1) := by decide +kernel
theorem dX4_bring_73 : decode cX4_bring 73 = .ok (.iand, 1) := by decide +kernel
theorem dX4_bring_74 : decode cX4_bring 74 = .ok (.iconst 1, 1) := by decide +kernel
theorem dX4_bring_75 : decode cX4_bring 75 = .ok (.if_icmp .ne 48, 3) := by decide +kernel
theorem dX4_bring_78 : decode cX4_bring 78 = .ok (.iload 5, 2) := by decide +kernel
theorem dX4_bring_80 : decode cX4_bring 80 = .ok (.iconst 1, 1) := by decide +kernel
theorem dX4_bring_81 : decode cX4_bring 81 = .ok (.iconst 1, 1) := by decide +kernel
theorem dX4_bring_82 : decode cX4_bring 82 = .ok (.iconst 0, 1) := by decide +kernel
theorem dX4_bring_83 : decode cX4_bring 83 = .ok (.iload 6, 2) := by decide +kernel
theorem dX4_bring_85 : decode cX4_bring 85 = .ok (.invokestatic 55, 3) := by decide +kernel
theorem dX4_bring_88 : decode cX4_bring 88 = .ok (.ishl, 1) := by decide +kernel
theorem dX4_bring_89 : decode cX4_bring 89 = .ok (.iconst 1, 1) := by decide +kernel
theorem dX4_bring_90 : decode cX4_bring 90 = .ok (.iconst 2, 1) := by decide +kernel
theorem dX4_bring_91 : decode cX4_bring 91 = .ok (.iconst 0, 1) := by decide +kernel
theorem dX4_bring_92 : decode cX4_bring 92 = .ok (.iload 6, 2) := by decide +kernel
theorem dX4_bring_94 : decode cX4_bring 94 = .ok (.invokestatic 55, 3) := by decide +kernel
theorem dX4_bring_97 : decode cX4_bring 97 = .ok (.ishl, 1) := by decide +kernel
theorem dX4_bring_98 : decode cX4_bring 98 = .ok (.ior, 1) := by decide +kernel
theorem dX4_bring_99 : decode cX4_bring 99 = .ok (.iconst 1, 1) := by decide +kernel
theorem dX4_bring_100 : decode cX4_bring 100 = .ok (.iconst 4, 1) := by decide +kernel
theorem dX4_bring_101 : decode cX4_bring 101 = .ok (.iconst 0, 1) := by decide +kernel
theorem dX4_bring_102 : decode cX4_bring 102 = .ok (.iload 6, 2) := by decide +kernel
theorem dX4_bring_104 : decode cX4_bring 104 = .ok (.invokestatic 55, 3) := by decide +kernel
theorem dX4_bring_107 : decode cX4_bring 107 = .ok (.ishl, 1) := by decide +kernel
theorem dX4_bring_108 : decode cX4_bring 108 = .ok (.ior, 1) := by decide +kernel
theorem dX4_bring_109 : decode cX4_bring 109 = .ok (.iconst 1, 1) := by decide +kernel
theorem dX4_bring_110 : decode cX4_bring 110 = .ok (.iconst 3, 1) := by decide +kernel
theorem dX4_bring_111 : decode cX4_bring 111 = .ok (.bipush 8, 2) := by decide +kernel
theorem dX4_bring_113 : decode cX4_bring 113 = .ok (.iload 6, 2) := by decide +kernel
theorem dX4_bring_115 : decode cX4_bring 115 = .ok (.invokestatic 55, 3) := by decide +kernel
theorem dX4_bring_118 : decode cX4_bring 118 = .ok (.ishl, 1) := by decide +kernel
theorem dX4_bring_119 : decode cX4_bring 119 = .ok (.ior, 1) := by decide +kernel
theorem dX4_bring_120 : decode cX4_bring 120 = .ok (.ior, 1) := by decide +kernel
theorem dX4_bring_121 : decode cX4_bring 121 = .ok (.istore 5, 2) := by decide +kernel
theorem dX4_bring_123 : decode cX4_bring 123 = .ok (.iinc 6 1, 3) := by decide +kernel
theorem dX4_bring_126 : decode cX4_bring 126 = .ok (.goto (-65), 3) := by decide +kernel
theorem dX4_bring_129 : decode cX4_bring 129 = .ok (.iload 5, 2) := by decide +kernel
theorem dX4_bring_131 : decode cX4_bring 131 = .ok (.istore_n 3, 1) := by decide +kernel
theorem dX4_bring_132 : decode cX4_bring 132 = .ok (.iinc 4 1, 3) := by decide +kernel
theorem dX4_bring_135 : decode cX4_bring 135 = .ok (.goto (-99), 3) := by decide +kernel
theorem dX4_bring_138 : decode cX4_bring 138 = .ok (.iconst (-1), 1) := by decide +kernel
theorem dX4_bring_139 : decode cX4_bring 139 = .ok (.ireturn, 1) := by decide +kernel
set_option maxRecDepth 20000 in
theorem ggX4_riffles_X4_isPlace : GoodIn wsX4_riffles wsX4_isPlace := goodIn_r _ [12, 13, 14, 11, 15] (by decide +kernel) (by decide +kernel)
set_option maxRecDepth 20000 in
theorem gX4_riffles_X4_isPlace : GoodIn wsX4_riffles (va_wsS RX4 77 yX4_isPlace wsX4_isPlace) := goodIn_app (goodIn_of _ (by decide +kernel)) ggX4_riffles_X4_isPlace
set_option maxRecDepth 20000 in
theorem ggX4_riffles_X4_no : GoodIn wsX4_riffles wsX4_no := goodIn_r _ [19, 1, 29, 30, 31, 32, 33, 34, 35, 36, 37, 38, 39, 40, 41, 42] (by decide +kernel) (by decide +kernel)
set_option maxRecDepth 20000 in
theorem gX4_riffles_X4_no : GoodIn wsX4_riffles (wsV RX4 63 RX4 yX4_no wsX4_no) := goodIn_app (goodIn_of _ (by decide +kernel)) ggX4_riffles_X4_no
set_option maxRecDepth 20000 in
theorem ggX4_riffles_X4_placeOf : GoodIn wsX4_riffles wsX4_placeOf := goodIn_r _ [23, 24, 29, 30, 31, 32, 33, 34, 35, 36, 37, 38, 39, 40, 41, 42] (by decide +kernel) (by decide +kernel)
set_option maxRecDepth 20000 in
theorem gX4_riffles_X4_placeOf : GoodIn wsX4_riffles (wsV RX4 81 RX4 yX4_placeOf wsX4_placeOf) := goodIn_app (goodIn_of _ (by decide +kernel)) ggX4_riffles_X4_placeOf
set_option maxRecDepth 20000 in
theorem ggX4_riffles_X4_to : GoodIn wsX4_riffles wsX4_to := goodIn_r _ [27, 28] (by decide +kernel) (by decide +kernel)
set_option maxRecDepth 20000 in
theorem gX4_riffles_X4_to : GoodIn wsX4_riffles (va_wsS RX4 55 yX4_to wsX4_to) := goodIn_app (goodIn_of _ (by decide +kernel)) ggX4_riffles_X4_to
theorem dX4_riffles_0 : decode cX4_riffles 0 = .ok (.aload_n 0, 1) := by decide +kernel
theorem dX4_riffles_1 : decode cX4_riffles 1 = .ok (.iconst 0, 1) := by decide +kernel
theorem dX4_riffles_2 : decode cX4_riffles 2 = .ok (.putfield 33, 3) := by decide +kernel
theorem dX4_riffles_5 : decode cX4_riffles 5 = .ok (.iload_n 1, 1) := by decide +kernel
theorem dX4_riffles_6 : decode cX4_riffles 6 = .ok (.invokestatic 77, 3) := by decide +kernel
theorem dX4_riffles_9 : decode cX4_riffles 9 = .ok (.ifCond .eq 10, 3) := by decide +kernel
theorem dX4_riffles_12 : decode cX4_riffles 12 = .ok (.iload_n 2, 1) := by decide +kernel
theorem dX4_riffles_13 : decode cX4_riffles 13 = .ok (.invokestatic 77, 3) := by decide +kernel
theorem dX4_riffles_16 : decode cX4_riffles 16 = .ok (.ifCond .ne 9, 3) := by decide +kernel
theorem dX4_riffles_19 : decode cX4_riffles 19 = .ok (.aload_n 0, 1) := by decide +kernel
theorem dX4_riffles_20 : decode cX4_riffles 20 = .ok (.iconst 1, 1) := by decide +kernel
theorem dX4_riffles_21 : decode cX4_riffles 21 = .ok (.invokevirtual 63, 3) := by decide +kernel
theorem dX4_riffles_24 : decode cX4_riffles 24 = .ok (.ireturn, 1) := by decide +kernel
theorem dX4_riffles_25 : decode cX4_riffles 25 = .ok (.bipush 16, 2) := by decide +kernel
theorem dX4_riffles_27 : decode cX4_riffles 27 = .ok (.newarray .int, 2) := by decide +kernel
theorem dX4_riffles_29 : decode cX4_riffles 29 = .ok (.astore_n 3, 1) := by decide +kernel
theorem dX4_riffles_30 : decode cX4_riffles 30 = .ok (.aload_n 3, 1) := by decide +kernel
theorem dX4_riffles_31 : decode cX4_riffles 31 = .ok (.aload_n 0, 1) := by decide +kernel
theorem dX4_riffles_32 : decode cX4_riffles 32 = .ok (.iload_n 1, 1) := by decide +kernel
theorem dX4_riffles_33 : decode cX4_riffles 33 = .ok (.invokevirtual 81, 3) := by decide +kernel
theorem dX4_riffles_36 : decode cX4_riffles 36 = .ok (.iconst 1, 1) := by decide +kernel
theorem dX4_riffles_37 : decode cX4_riffles 37 = .ok (.iastore, 1) := by decide +kernel
theorem dX4_riffles_38 : decode cX4_riffles 38 = .ok (.iconst 0, 1) := by decide +kernel
theorem dX4_riffles_39 : decode cX4_riffles 39 = .ok (.istore 4, 2) := by decide +kernel
theorem dX4_riffles_41 : decode cX4_riffles 41 = .ok (.iload 4, 2) := by decide +kernel
theorem dX4_riffles_43 : decode cX4_riffles 43 = .ok (.bipush 16, 2) := by decide +kernel
theorem dX4_riffles_45 : decode cX4_riffles 45 = .ok (.if_icmp .ge 121, 3) := by decide +kernel
theorem dX4_riffles_48 : decode cX4_riffles 48 = .ok (.aload_n 3, 1) := by decide +kernel
theorem dX4_riffles_49 : decode cX4_riffles 49 = .ok (.iload_n 2, 1) := by decide +kernel
theorem dX4_riffles_50 : decode cX4_riffles 50 = .ok (.iaload, 1) := by decide +kernel
theorem dX4_riffles_51 : decode cX4_riffles 51 = .ok (.ifCond .ne 115, 3) := by decide +kernel
theorem dX4_riffles_54 : decode cX4_riffles 54 = .ok (.aload_n 3, 1) := by decide +kernel
theorem dX4_riffles_55 : decode cX4_riffles 55 = .ok (.invokevirtual 50, 3) := by decide +kernel
theorem dX4_riffles_58 : decode cX4_riffles 58 = .ok (.checkcast 51, 3) := by decide +kernel
theorem dX4_riffles_61 : decode cX4_riffles 61 = .ok (.astore 5, 2) := by decide +kernel
theorem dX4_riffles_63 : decode cX4_riffles 63 = .ok (.iconst 0, 1) := by decide +kernel
theorem dX4_riffles_64 : decode cX4_riffles 64 = .ok (.istore 6, 2) := by decide +kernel
theorem dX4_riffles_66 : decode cX4_riffles 66 = .ok (.iload 6, 2) := by decide +kernel
theorem dX4_riffles_68 : decode cX4_riffles 68 = .ok (.bipush 16, 2) := by decide +kernel
theorem dX4_riffles_70 : decode cX4_riffles 70 = .ok (.if_icmp .ge 90, 3) := by decide +kernel
theorem dX4_riffles_73 : decode cX4_riffles 73 = .ok (.iconst 0, 1) := by decide +kernel
theorem dX4_riffles_74 : decode cX4_riffles 74 = .ok (.istore 7, 2) := by decide +kernel
theorem dX4_riffles_76 : decode cX4_riffles 76 = .ok (.iload 7, 2) := by decide +kernel
theorem dX4_riffles_78 : decode cX4_riffles 78 = .ok (.iconst 2, 1) := by decide +kernel
theorem dX4_riffles_79 : decode cX4_riffles 79 = .ok (.if_icmp .ge 75, 3) := by decide +kernel
theorem dX4_riffles_82 : decode cX4_riffles 82 = .ok (.aload 5, 2) := by decide +kernel
theorem dX4_riffles_84 : decode cX4_riffles 84 = .ok (.iload 6, 2) := by decide +kernel
theorem dX4_riffles_86 : decode cX4_riffles 86 = .ok (.iaload, 1) := by decide +kernel
theorem dX4_riffles_87 : decode cX4_riffles 87 = .ok (.iload 4, 2) := by decide +kernel
theorem dX4_riffles_89 : decode cX4_riffles 89 = .ok (.ishr, 1) := by decide +kernel
theorem dX4_riffles_90 : decode cX4_riffles 90 = .ok (.iconst 1, 1) := by decide +kernel
theorem dX4_riffles_91 : decode cX4_riffles 91 = .ok (.if_icmp .ne 63, 3) := by decide +kernel
theorem dX4_riffles_94 : decode cX4_riffles 94 = .ok (.iconst 1, 1) := by decide +kernel
theorem dX4_riffles_95 : decode cX4_riffles 95 = .ok (.iload 7, 2) := by decide +kernel
theorem dX4_riffles_97 : decode cX4_riffles 97 = .ok (.iadd, 1) := by decide +kernel
theorem dX4_riffles_98 : decode cX4_riffles 98 = .ok (.iconst 0, 1) := by decide +kernel
theorem dX4_riffles_99 : decode cX4_riffles 99 = .ok (.iload 6, 2) := by decide +kernel
theorem dX4_riffles_101 : decode cX4_riffles 101 = .ok (.invokestatic 55, 3) := by decide +kernel
theorem dX4_riffles_104 : decode cX4_riffles 104 = .ok (.istore 8, 2) := by decide +kernel
theorem dX4_riffles_106 : decode cX4_riffles 106 = .ok (.iconst 2, 1) := by decide +kernel
theorem dX4_riffles_107 : decode cX4_riffles 107 = .ok (.aload 5, 2) := by decide +kernel
theorem dX4_riffles_109 : decode cX4_riffles 109 = .ok (.iload 6, 2) := by decide +kernel
theorem dX4_riffles_111 : decode cX4_riffles 111 = .ok (.iaload, 1) := by decide +kernel
theorem dX4_riffles_112 : decode cX4_riffles 112 = .ok (.imul, 1) := by decide +kernel
theorem dX4_riffles_113 : decode cX4_riffles 113 = .ok (.iload 7, 2) := by decide +kernel
theorem dX4_riffles_115 : decode cX4_riffles 115 = .ok (.iadd, 1) := by decide +kernel
theorem dX4_riffles_116 : decode cX4_riffles 116 = .ok (.istore 9, 2) := by decide +kernel
theorem dX4_riffles_118 : decode cX4_riffles 118 = .ok (.aload 5, 2) := by decide +kernel
theorem dX4_riffles_120 : decode cX4_riffles 120 = .ok (.iload 8, 2) := by decide +kernel
theorem dX4_riffles_122 : decode cX4_riffles 122 = .ok (.iaload, 1) := by decide +kernel
theorem dX4_riffles_123 : decode cX4_riffles 123 = .ok (.ifCond .ne 25, 3) := by decide +kernel
theorem dX4_riffles_126 : decode cX4_riffles 126 = .ok (.aload_n 3, 1) := by decide +kernel
theorem dX4_riffles_127 : decode cX4_riffles 127 = .ok (.iload 8, 2) := by decide +kernel
theorem dX4_riffles_129 : decode cX4_riffles 129 = .ok (.iaload, 1) := by decide +kernel
theorem dX4_riffles_130 : decode cX4_riffles 130 = .ok (.ifCond .eq 12, 3) := by decide +kernel
theorem dX4_riffles_133 : decode cX4_riffles 133 = .ok (.iload 9, 2) := by decide +kernel
theorem dX4_riffles_135 : decode cX4_riffles 135 = .ok (.aload_n 3, 1) := by decide +kernel
theorem dX4_riffles_136 : decode cX4_riffles 136 = .ok (.iload 8, 2) := by decide +kernel
theorem dX4_riffles_138 : decode cX4_riffles 138 = .ok (.iaload, 1) := by decide +kernel
theorem dX4_riffles_139 : decode cX4_riffles 139 = .ok (.if_icmp .ge 9, 3) := by decide +kernel
theorem dX4_riffles_142 : decode cX4_riffles 142 = .ok (.aload_n 3, 1) := by decide +kernel
theorem dX4_riffles_143 : decode cX4_riffles 143 = .ok (.iload 8, 2) := by decide +kernel
theorem dX4_riffles_145 : decode cX4_riffles 145 = .ok (.iload 9, 2) := by decide +kernel
theorem dX4_riffles_147 : decode cX4_riffles 147 = .ok (.iastore, 1) := by decide +kernel
theorem dX4_riffles_148 : decode cX4_riffles 148 = .ok (.iinc 7 1, 3) := by decide +kernel
theorem dX4_riffles_151 : decode cX4_riffles 151 = .ok (.goto (-75), 3) := by decide +kernel
theorem dX4_riffles_154 : decode cX4_riffles 154 = .ok (.iinc 6 1, 3) := by decide +kernel
theorem dX4_riffles_157 : decode cX4_riffles 157 = .ok (.goto (-91), 3) := by decide +kernel
theorem dX4_riffles_160 : decode cX4_riffles 160 = .ok (.iinc 4 1, 3) := by decide +kernel
theorem dX4_riffles_163 : decode cX4_riffles 163 = .ok (.goto (-122), 3) := by decide +kernel
theorem dX4_riffles_166 : decode cX4_riffles 166 = .ok (.aload_n 3, 1) := by decide +kernel
theorem dX4_riffles_167 : decode cX4_riffles 167 = .ok (.iload_n 2, 1) := by decide +kernel
theorem dX4_riffles_168 : decode cX4_riffles 168 = .ok (.iaload, 1) := by decide +kernel
theorem dX4_riffles_169 : decode cX4_riffles 169 = .ok (.ifCond .ne 7, 3) := by decide +kernel
theorem dX4_riffles_172 : decode cX4_riffles 172 = .ok (.iconst (-1), 1) := by decide +kernel
theorem dX4_riffles_173 : decode cX4_riffles 173 = .ok (.goto 6, 3) := by decide +kernel
theorem dX4_riffles_176 : decode cX4_riffles 176 = .ok (.aload_n 3, 1) := by decide +kernel
theorem dX4_riffles_177 : decode cX4_riffles 177 = .ok (.iload_n 2, 1) := by decide +kernel
theorem dX4_riffles_178 : decode cX4_riffles 178 = .ok (.iaload, 1) := by decide +kernel
theorem dX4_riffles_179 : decode cX4_riffles 179 = .ok (.ireturn, 1) := by decide +kernel
set_option maxRecDepth 20000 in
theorem ggX4_mean_J6_bitCount_0f7a4 : GoodIn wsX4_mean wsJ6_bitCount_0f7a4 := goodIn_r _ [7, 8, 9, 10] (by decide +kernel) (by decide +kernel)
set_option maxRecDepth 20000 in
theorem gX4_mean_J6_bitCount_0f7a4 : GoodIn wsX4_mean (va_wsS RX4 85 yJ6_bitCount_0f7a4 wsJ6_bitCount_0f7a4) := goodIn_app (goodIn_of _ (by decide +kernel)) ggX4_mean_J6_bitCount_0f7a4
theorem dX4_mean_0 : decode cX4_mean 0 = .ok (.aload_n 0, 1) := by decide +kernel
theorem dX4_mean_1 : decode cX4_mean 1 = .ok (.iconst 0, 1) := by decide +kernel
theorem dX4_mean_2 : decode cX4_mean 2 = .ok (.putfield 33, 3) := by decide +kernel
theorem dX4_mean_5 : decode cX4_mean 5 = .ok (.iconst 0, 1) := by decide +kernel
theorem dX4_mean_6 : decode cX4_mean 6 = .ok (.istore_n 1, 1) := by decide +kernel
theorem dX4_mean_7 : decode cX4_mean 7 = .ok (.iconst 0, 1) := by decide +kernel
theorem dX4_mean_8 : decode cX4_mean 8 = .ok (.istore_n 2, 1) := by decide +kernel
theorem dX4_mean_9 : decode cX4_mean 9 = .ok (.iload_n 2, 1) := by decide +kernel
theorem dX4_mean_10 : decode cX4_mean 10 = .ok (.aload_n 0, 1) := by decide +kernel
theorem dX4_mean_11 : decode cX4_mean 11 = .ok (.getfield 41, 3) := by decide +kernel
theorem dX4_mean_14 : decode cX4_mean 14 = .ok (.if_icmp .ge 37, 3) := by decide +kernel
theorem dX4_mean_17 : decode cX4_mean 17 = .ok (.iconst 0, 1) := by decide +kernel
theorem dX4_mean_18 : decode cX4_mean 18 = .ok (.istore_n 3, 1) := by decide +kernel
theorem dX4_mean_19 : decode cX4_mean 19 = .ok (.iload_n 3, 1) := by decide +kernel
theorem dX4_mean_20 : decode cX4_mean 20 = .ok (.bipush 16, 2) := by decide +kernel
theorem dX4_mean_22 : decode cX4_mean 22 = .ok (.if_icmp .ge 23, 3) := by decide +kernel
theorem dX4_mean_25 : decode cX4_mean 25 = .ok (.iload_n 1, 1) := by decide +kernel
theorem dX4_mean_26 : decode cX4_mean 26 = .ok (.aload_n 0, 1) := by decide +kernel
theorem dX4_mean_27 : decode cX4_mean 27 = .ok (.getfield 18, 3) := by decide +kernel
theorem dX4_mean_30 : decode cX4_mean 30 = .ok (.iload_n 2, 1) := by decide +kernel
theorem dX4_mean_31 : decode cX4_mean 31 = .ok (.aaload, 1) := by decide +kernel
theorem dX4_mean_32 : decode cX4_mean 32 = .ok (.iload_n 3, 1) := by decide +kernel
theorem dX4_mean_33 : decode cX4_mean 33 = .ok (.iaload, 1) := by decide +kernel
theorem dX4_mean_34 : decode cX4_mean 34 = .ok (.invokestatic 85, 3) := by decide +kernel
theorem dX4_mean_37 : decode cX4_mean 37 = .ok (.iadd, 1) := by decide +kernel
theorem dX4_mean_38 : decode cX4_mean 38 = .ok (.istore_n 1, 1) := by decide +kernel
theorem dX4_mean_39 : decode cX4_mean 39 = .ok (.iinc 3 1, 3) := by decide +kernel
theorem dX4_mean_42 : decode cX4_mean 42 = .ok (.goto (-23), 3) := by decide +kernel
theorem dX4_mean_45 : decode cX4_mean 45 = .ok (.iinc 2 1, 3) := by decide +kernel
theorem dX4_mean_48 : decode cX4_mean 48 = .ok (.goto (-39), 3) := by decide +kernel
theorem dX4_mean_51 : decode cX4_mean 51 = .ok (.aload_n 0, 1) := by decide +kernel
theorem dX4_mean_52 : decode cX4_mean 52 = .ok (.getfield 41, 3) := by decide +kernel
theorem dX4_mean_55 : decode cX4_mean 55 = .ok (.ifCond .ne 7, 3) := by decide +kernel
theorem dX4_mean_58 : decode cX4_mean 58 = .ok (.dconst 0, 1) := by decide +kernel
theorem dX4_mean_59 : decode cX4_mean 59 = .ok (.goto 14, 3) := by decide +kernel
theorem dX4_mean_62 : decode cX4_mean 62 = .ok (.iload_n 1, 1) := by decide +kernel
theorem dX4_mean_63 : decode cX4_mean 63 = .ok (.i2d, 1) := by decide +kernel
theorem dX4_mean_64 : decode cX4_mean 64 = .ok (.bipush 16, 2) := by decide +kernel
theorem dX4_mean_66 : decode cX4_mean 66 = .ok (.aload_n 0, 1) := by decide +kernel
theorem dX4_mean_67 : decode cX4_mean 67 = .ok (.getfield 41, 3) := by decide +kernel
theorem dX4_mean_70 : decode cX4_mean 70 = .ok (.imul, 1) := by decide +kernel
theorem dX4_mean_71 : decode cX4_mean 71 = .ok (.i2d, 1) := by decide +kernel
theorem dX4_mean_72 : decode cX4_mean 72 = .ok (.ddiv, 1) := by decide +kernel
theorem dX4_mean_73 : decode cX4_mean 73 = .ok (.dreturn, 1) := by decide +kernel
set_option maxRecDepth 20000 in
theorem ggX4_digest_X4_counted : GoodIn wsX4_digest wsX4_counted := goodIn_r _ [14, 4, 15, 16, 17, 5, 7, 18, 19, 37, 38, 39, 40, 41, 42, 43, 44, 45, 46, 47, 48, 49, 50] (by decide +kernel) (by decide +kernel)
set_option maxRecDepth 20000 in
theorem gX4_digest_X4_counted : GoodIn wsX4_digest (wsV RX4 118 RX4 yX4_counted wsX4_counted) := goodIn_app (goodIn_of _ (by decide +kernel)) ggX4_digest_X4_counted
set_option maxRecDepth 20000 in
theorem ggX4_digest_X4_watcherTold : GoodIn wsX4_digest wsX4_watcherTold := goodIn_r _ [23, 6, 4, 15, 24, 25, 26, 27, 28, 13, 29, 30, 31, 32, 33, 34, 35, 36, 37, 38, 39, 40, 41, 42, 43, 44, 45, 46, 47, 48, 49, 50] (by decide +kernel) (by decide +kernel)
set_option maxRecDepth 20000 in
theorem gX4_digest_X4_watcherTold : GoodIn wsX4_digest (wsV RX4 100 RX4 yX4_watcherTold wsX4_watcherTold) := goodIn_app (goodIn_of _ (by decide +kernel)) ggX4_digest_X4_watcherTold
theorem dX4_digest_0 : decode cX4_digest 0 = .ok (.aload_n 0, 1) := by decide +kernel
theorem dX4_digest_1 : decode cX4_digest 1 = .ok (.iconst 0, 1) := by decide +kernel
theorem dX4_digest_2 : decode cX4_digest 2 = .ok (.putfield 33, 3) := by decide +kernel
theorem dX4_digest_5 : decode cX4_digest 5 = .ok (.ldc2_w 121, 3) := by decide +kernel
theorem dX4_digest_8 : decode cX4_digest 8 = .ok (.lstore_n 1, 1) := by decide +kernel
theorem dX4_digest_9 : decode cX4_digest 9 = .ok (.iconst 0, 1) := by decide +kernel
theorem dX4_digest_10 : decode cX4_digest 10 = .ok (.istore_n 3, 1) := by decide +kernel
theorem dX4_digest_11 : decode cX4_digest 11 = .ok (.iload_n 3, 1) := by decide +kernel
theorem dX4_digest_12 : decode cX4_digest 12 = .ok (.bipush 7, 2) := by decide +kernel
theorem dX4_digest_14 : decode cX4_digest 14 = .ok (.if_icmp .ge 22, 3) := by decide +kernel
theorem dX4_digest_17 : decode cX4_digest 17 = .ok (.lload_n 1, 1) := by decide +kernel
theorem dX4_digest_18 : decode cX4_digest 18 = .ok (.ldc2_w 123, 3) := by decide +kernel
theorem dX4_digest_21 : decode cX4_digest 21 = .ok (.lmul, 1) := by decide +kernel
theorem dX4_digest_22 : decode cX4_digest 22 = .ok (.aload_n 0, 1) := by decide +kernel
theorem dX4_digest_23 : decode cX4_digest 23 = .ok (.iload_n 3, 1) := by decide +kernel
theorem dX4_digest_24 : decode cX4_digest 24 = .ok (.invokevirtual 118, 3) := by decide +kernel
theorem dX4_digest_27 : decode cX4_digest 27 = .ok (.i2l, 1) := by decide +kernel
theorem dX4_digest_28 : decode cX4_digest 28 = .ok (.ladd, 1) := by decide +kernel
theorem dX4_digest_29 : decode cX4_digest 29 = .ok (.lstore_n 1, 1) := by decide +kernel
theorem dX4_digest_30 : decode cX4_digest 30 = .ok (.iinc 3 1, 3) := by decide +kernel
theorem dX4_digest_33 : decode cX4_digest 33 = .ok (.goto (-22), 3) := by decide +kernel
theorem dX4_digest_36 : decode cX4_digest 36 = .ok (.iconst 0, 1) := by decide +kernel
theorem dX4_digest_37 : decode cX4_digest 37 = .ok (.istore_n 3, 1) := by decide +kernel
theorem dX4_digest_38 : decode cX4_digest 38 = .ok (.iload_n 3, 1) := by decide +kernel
theorem dX4_digest_39 : decode cX4_digest 39 = .ok (.bipush 16, 2) := by decide +kernel
theorem dX4_digest_41 : decode cX4_digest 41 = .ok (.if_icmp .ge 23, 3) := by decide +kernel
theorem dX4_digest_44 : decode cX4_digest 44 = .ok (.lload_n 1, 1) := by decide +kernel
theorem dX4_digest_45 : decode cX4_digest 45 = .ok (.ldc2_w 123, 3) := by decide +kernel
theorem dX4_digest_48 : decode cX4_digest 48 = .ok (.lmul, 1) := by decide +kernel
theorem dX4_digest_49 : decode cX4_digest 49 = .ok (.aload_n 0, 1) := by decide +kernel
theorem dX4_digest_50 : decode cX4_digest 50 = .ok (.getfield 9, 3) := by decide +kernel
theorem dX4_digest_53 : decode cX4_digest 53 = .ok (.iload_n 3, 1) := by decide +kernel
theorem dX4_digest_54 : decode cX4_digest 54 = .ok (.iaload, 1) := by decide +kernel
theorem dX4_digest_55 : decode cX4_digest 55 = .ok (.i2l, 1) := by decide +kernel
theorem dX4_digest_56 : decode cX4_digest 56 = .ok (.ladd, 1) := by decide +kernel
theorem dX4_digest_57 : decode cX4_digest 57 = .ok (.lstore_n 1, 1) := by decide +kernel
theorem dX4_digest_58 : decode cX4_digest 58 = .ok (.iinc 3 1, 3) := by decide +kernel
theorem dX4_digest_61 : decode cX4_digest 61 = .ok (.goto (-23), 3) := by decide +kernel
theorem dX4_digest_64 : decode cX4_digest 64 = .ok (.iconst 0, 1) := by decide +kernel
theorem dX4_digest_65 : decode cX4_digest 65 = .ok (.istore_n 3, 1) := by decide +kernel
theorem dX4_digest_66 : decode cX4_digest 66 = .ok (.iload_n 3, 1) := by decide +kernel
theorem dX4_digest_67 : decode cX4_digest 67 = .ok (.aload_n 0, 1) := by decide +kernel
theorem dX4_digest_68 : decode cX4_digest 68 = .ok (.getfield 41, 3) := by decide +kernel
theorem dX4_digest_71 : decode cX4_digest 71 = .ok (.if_icmp .ge 73, 3) := by decide +kernel
theorem dX4_digest_74 : decode cX4_digest 74 = .ok (.iconst 0, 1) := by decide +kernel
theorem dX4_digest_75 : decode cX4_digest 75 = .ok (.istore 4, 2) := by decide +kernel
theorem dX4_digest_77 : decode cX4_digest 77 = .ok (.iload 4, 2) := by decide +kernel
theorem dX4_digest_79 : decode cX4_digest 79 = .ok (.bipush 6, 2) := by decide +kernel
theorem dX4_digest_81 : decode cX4_digest 81 = .ok (.if_icmp .ge 24, 3) := by decide +kernel
theorem dX4_digest_84 : decode cX4_digest 84 = .ok (.lload_n 1, 1) := by decide +kernel
theorem dX4_digest_85 : decode cX4_digest 85 = .ok (.ldc2_w 123, 3) := by decide +kernel
theorem dX4_digest_88 : decode cX4_digest 88 = .ok (.lmul, 1) := by decide +kernel
theorem dX4_digest_89 : decode cX4_digest 89 = .ok (.aload_n 0, 1) := by decide +kernel
theorem dX4_digest_90 : decode cX4_digest 90 = .ok (.iload_n 3, 1) := by decide +kernel
theorem dX4_digest_91 : decode cX4_digest 91 = .ok (.iload 4, 2) := by decide +kernel
theorem dX4_digest_93 : decode cX4_digest 93 = .ok (.invokevirtual 100, 3) := by decide +kernel
theorem dX4_digest_96 : decode cX4_digest 96 = .ok (.i2l, 1) := by decide +kernel
theorem dX4_digest_97 : decode cX4_digest 97 = .ok (.ladd, 1) := by decide +kernel
theorem dX4_digest_98 : decode cX4_digest 98 = .ok (.lstore_n 1, 1) := by decide +kernel
theorem dX4_digest_99 : decode cX4_digest 99 = .ok (.iinc 4 1, 3) := by decide +kernel
theorem dX4_digest_102 : decode cX4_digest 102 = .ok (.goto (-25), 3) := by decide +kernel
theorem dX4_digest_105 : decode cX4_digest 105 = .ok (.iconst 0, 1) := by decide +kernel
theorem dX4_digest_106 : decode cX4_digest 106 = .ok (.istore 4, 2) := by decide +kernel
theorem dX4_digest_108 : decode cX4_digest 108 = .ok (.iload 4, 2) := by decide +kernel
theorem dX4_digest_110 : decode cX4_digest 110 = .ok (.bipush 16, 2) := by decide +kernel
theorem dX4_digest_112 : decode cX4_digest 112 = .ok (.if_icmp .ge 26, 3) := by decide +kernel
theorem dX4_digest_115 : decode cX4_digest 115 = .ok (.lload_n 1, 1) := by decide +kernel
theorem dX4_digest_116 : decode cX4_digest 116 = .ok (.ldc2_w 123, 3) := by decide +kernel
theorem dX4_digest_119 : decode cX4_digest 119 = .ok (.lmul, 1) := by decide +kernel
theorem dX4_digest_120 : decode cX4_digest 120 = .ok (.aload_n 0, 1) := by decide +kernel
theorem dX4_digest_121 : decode cX4_digest 121 = .ok (.getfield 18, 3) := by decide +kernel
theorem dX4_digest_124 : decode cX4_digest 124 = .ok (.iload_n 3, 1) := by decide +kernel
theorem dX4_digest_125 : decode cX4_digest 125 = .ok (.aaload, 1) := by decide +kernel
theorem dX4_digest_126 : decode cX4_digest 126 = .ok (.iload 4, 2) := by decide +kernel
theorem dX4_digest_128 : decode cX4_digest 128 = .ok (.iaload, 1) := by decide +kernel
theorem dX4_digest_129 : decode cX4_digest 129 = .ok (.i2l, 1) := by decide +kernel
theorem dX4_digest_130 : decode cX4_digest 130 = .ok (.ladd, 1) := by decide +kernel
theorem dX4_digest_131 : decode cX4_digest 131 = .ok (.lstore_n 1, 1) := by decide +kernel
theorem dX4_digest_132 : decode cX4_digest 132 = .ok (.iinc 4 1, 3) := by decide +kernel
theorem dX4_digest_135 : decode cX4_digest 135 = .ok (.goto (-27), 3) := by decide +kernel
theorem dX4_digest_138 : decode cX4_digest 138 = .ok (.iinc 3 1, 3) := by decide +kernel
theorem dX4_digest_141 : decode cX4_digest 141 = .ok (.goto (-75), 3) := by decide +kernel
theorem dX4_digest_144 : decode cX4_digest 144 = .ok (.iconst 0, 1) := by decide +kernel
theorem dX4_digest_145 : decode cX4_digest 145 = .ok (.istore_n 3, 1) := by decide +kernel
theorem dX4_digest_146 : decode cX4_digest 146 = .ok (.iload_n 3, 1) := by decide +kernel
theorem dX4_digest_147 : decode cX4_digest 147 = .ok (.aload_n 0, 1) := by decide +kernel
theorem dX4_digest_148 : decode cX4_digest 148 = .ok (.getfield 44, 3) := by decide +kernel
theorem dX4_digest_151 : decode cX4_digest 151 = .ok (.if_icmp .ge 35, 3) := by decide +kernel
theorem dX4_digest_154 : decode cX4_digest 154 = .ok (.lload_n 1, 1) := by decide +kernel
theorem dX4_digest_155 : decode cX4_digest 155 = .ok (.ldc2_w 123, 3) := by decide +kernel
theorem dX4_digest_158 : decode cX4_digest 158 = .ok (.lmul, 1) := by decide +kernel
theorem dX4_digest_159 : decode cX4_digest 159 = .ok (.aload_n 0, 1) := by decide +kernel
theorem dX4_digest_160 : decode cX4_digest 160 = .ok (.getfield 27, 3) := by decide +kernel
theorem dX4_digest_163 : decode cX4_digest 163 = .ok (.iload_n 3, 1) := by decide +kernel
theorem dX4_digest_164 : decode cX4_digest 164 = .ok (.iaload, 1) := by decide +kernel
theorem dX4_digest_165 : decode cX4_digest 165 = .ok (.i2l, 1) := by decide +kernel
theorem dX4_digest_166 : decode cX4_digest 166 = .ok (.ladd, 1) := by decide +kernel
theorem dX4_digest_167 : decode cX4_digest 167 = .ok (.ldc2_w 123, 3) := by decide +kernel
theorem dX4_digest_170 : decode cX4_digest 170 = .ok (.lmul, 1) := by decide +kernel
theorem dX4_digest_171 : decode cX4_digest 171 = .ok (.aload_n 0, 1) := by decide +kernel
theorem dX4_digest_172 : decode cX4_digest 172 = .ok (.getfield 30, 3) := by decide +kernel
theorem dX4_digest_175 : decode cX4_digest 175 = .ok (.iload_n 3, 1) := by decide +kernel
theorem dX4_digest_176 : decode cX4_digest 176 = .ok (.iaload, 1) := by decide +kernel
theorem dX4_digest_177 : decode cX4_digest 177 = .ok (.i2l, 1) := by decide +kernel
theorem dX4_digest_178 : decode cX4_digest 178 = .ok (.ladd, 1) := by decide +kernel
theorem dX4_digest_179 : decode cX4_digest 179 = .ok (.lstore_n 1, 1) := by decide +kernel
theorem dX4_digest_180 : decode cX4_digest 180 = .ok (.iinc 3 1, 3) := by decide +kernel
theorem dX4_digest_183 : decode cX4_digest 183 = .ok (.goto (-37), 3) := by decide +kernel
theorem dX4_digest_186 : decode cX4_digest 186 = .ok (.lload_n 1, 1) := by decide +kernel
theorem dX4_digest_187 : decode cX4_digest 187 = .ok (.lreturn, 1) := by decide +kernel
end
section
set_option maxRecDepth 20000 in
theorem ggL_go_X3_go : GoodIn wsL_go wsX3_go := goodIn_ca (goodIn_r _ [6, 7, 8, 9, 10, 11, 5, 12, 13, 14, 15, 16, 17, 18, 19, 20, 21, 22, 23, 24, 25, 26, 27, 28, 29, 30, 31, 32, 33, 34, 35, 36, 37, 38, 39, 40, 41, 42, 43, 44, 45, 46, 47, 48, 49, 50, 51, 52, 53, 54, 55, 56, 57, 58] (by decide +kernel) (by decide +kernel)) (goodIn_sub (fun _ h => List.mem_cons_of_mem _ (List.mem_append_right _ h)) (by decide +kernel))
set_option maxRecDepth 20000 in
theorem gL_go_X3_go : GoodIn wsL_go (wsV RL 7 RX3 yX3_go wsX3_go) := goodIn_app (goodIn_of _ (by decide +kernel)) ggL_go_X3_go
theorem dL_go_0 : decode cL_go 0 = .ok (.aload 4, 2) := by decide +kernel
theorem dL_go_2 : decode cL_go 2 = .ok (.iconst 0, 1) := by decide +kernel
theorem dL_go_3 : decode cL_go 3 = .ok (.aload_n 0, 1) := by decide +kernel
theorem dL_go_4 : decode cL_go 4 = .ok (.iload_n 1, 1) := by decide +kernel
theorem dL_go_5 : decode cL_go 5 = .ok (.iload_n 2, 1) := by decide +kernel
theorem dL_go_6 : decode cL_go 6 = .ok (.iload_n 3, 1) := by decide +kernel
theorem dL_go_7 : decode cL_go 7 = .ok (.invokevirtual 7, 3) := by decide +kernel
theorem dL_go_10 : decode cL_go 10 = .ok (.i2l, 1) := by decide +kernel
theorem dL_go_11 : decode cL_go 11 = .ok (.lastore, 1) := by decide +kernel
theorem dL_go_12 : decode cL_go 12 = .ok (.goto 7, 3) := by decide +kernel
theorem dL_go_15 : decode cL_go 15 = .ok (.astore 5, 2) := by decide +kernel
theorem dL_go_17 : decode cL_go 17 = .ok (.iconst 1, 1) := by decide +kernel
theorem dL_go_18 : decode cL_go 18 = .ok (.ireturn, 1) := by decide +kernel
theorem dL_go_19 : decode cL_go 19 = .ok (.iconst 0, 1) := by decide +kernel
theorem dL_go_20 : decode cL_go 20 = .ok (.ireturn, 1) := by decide +kernel
set_option maxRecDepth 20000 in
theorem ggL_falseCut_X3_falseCut : GoodIn wsL_falseCut wsX3_falseCut := goodIn_ca (goodIn_r _ [6, 7, 8, 9, 10, 5, 11, 12, 13, 14, 15, 16, 17, 18, 19, 20, 21, 22, 23, 24, 25, 26, 27, 28, 29, 30, 31, 32, 33, 34, 35, 36, 37, 38, 39, 40, 41, 42, 43, 44, 45, 46, 47, 48, 49, 50, 51, 52] (by decide +kernel) (by decide +kernel)) (goodIn_sub (fun _ h => List.mem_cons_of_mem _ (List.mem_append_right _ h)) (by decide +kernel))
set_option maxRecDepth 20000 in
theorem gL_falseCut_X3_falseCut : GoodIn wsL_falseCut (wsV RL 15 RX3 yX3_falseCut wsX3_falseCut) := goodIn_app (goodIn_of _ (by decide +kernel)) ggL_falseCut_X3_falseCut
theorem dL_falseCut_0 : decode cL_falseCut 0 = .ok (.aload_n 2, 1) := by decide +kernel
theorem dL_falseCut_1 : decode cL_falseCut 1 = .ok (.iconst 0, 1) := by decide +kernel
theorem dL_falseCut_2 : decode cL_falseCut 2 = .ok (.aload_n 0, 1) := by decide +kernel
theorem dL_falseCut_3 : decode cL_falseCut 3 = .ok (.iload_n 1, 1) := by decide +kernel
theorem dL_falseCut_4 : decode cL_falseCut 4 = .ok (.invokevirtual 15, 3) := by decide +kernel
theorem dL_falseCut_7 : decode cL_falseCut 7 = .ok (.i2l, 1) := by decide +kernel
theorem dL_falseCut_8 : decode cL_falseCut 8 = .ok (.lastore, 1) := by decide +kernel
theorem dL_falseCut_9 : decode cL_falseCut 9 = .ok (.goto 6, 3) := by decide +kernel
theorem dL_falseCut_12 : decode cL_falseCut 12 = .ok (.astore_n 3, 1) := by decide +kernel
theorem dL_falseCut_13 : decode cL_falseCut 13 = .ok (.iconst 1, 1) := by decide +kernel
theorem dL_falseCut_14 : decode cL_falseCut 14 = .ok (.ireturn, 1) := by decide +kernel
theorem dL_falseCut_15 : decode cL_falseCut 15 = .ok (.iconst 0, 1) := by decide +kernel
theorem dL_falseCut_16 : decode cL_falseCut 16 = .ok (.ireturn, 1) := by decide +kernel
set_option maxRecDepth 20000 in
theorem ggL_comes_X3_comes : GoodIn wsL_comes wsX3_comes := goodIn_ca (goodIn_ca (goodIn_r _ [7, 8, 9, 6, 10, 11, 12, 13, 14, 15, 16, 17, 18, 19, 20, 21, 22, 23, 24, 25, 26, 27, 28, 29] (by decide +kernel) (by decide +kernel)) (goodIn_sub (fun _ h => List.mem_cons_of_mem _ (List.mem_append_left _ (List.mem_append_right _ h))) (by decide +kernel))) (goodIn_sub (fun _ h => List.mem_cons_of_mem _ (List.mem_append_right _ h)) (by decide +kernel))
set_option maxRecDepth 20000 in
theorem gL_comes_X3_comes : GoodIn wsL_comes (wsV RL 19 RX3 yX3_comes wsX3_comes) := goodIn_app (goodIn_of _ (by decide +kernel)) ggL_comes_X3_comes
theorem dL_comes_0 : decode cL_comes 0 = .ok (.aload 4, 2) := by decide +kernel
theorem dL_comes_2 : decode cL_comes 2 = .ok (.iconst 0, 1) := by decide +kernel
theorem dL_comes_3 : decode cL_comes 3 = .ok (.aload_n 0, 1) := by decide +kernel
theorem dL_comes_4 : decode cL_comes 4 = .ok (.iload_n 1, 1) := by decide +kernel
theorem dL_comes_5 : decode cL_comes 5 = .ok (.iload_n 2, 1) := by decide +kernel
theorem dL_comes_6 : decode cL_comes 6 = .ok (.iload_n 3, 1) := by decide +kernel
theorem dL_comes_7 : decode cL_comes 7 = .ok (.invokevirtual 19, 3) := by decide +kernel
theorem dL_comes_10 : decode cL_comes 10 = .ok (.i2l, 1) := by decide +kernel
theorem dL_comes_11 : decode cL_comes 11 = .ok (.lastore, 1) := by decide +kernel
theorem dL_comes_12 : decode cL_comes 12 = .ok (.goto 11, 3) := by decide +kernel
theorem dL_comes_15 : decode cL_comes 15 = .ok (.astore 5, 2) := by decide +kernel
theorem dL_comes_17 : decode cL_comes 17 = .ok (.iconst 1, 1) := by decide +kernel
theorem dL_comes_18 : decode cL_comes 18 = .ok (.ireturn, 1) := by decide +kernel
theorem dL_comes_19 : decode cL_comes 19 = .ok (.astore 5, 2) := by decide +kernel
theorem dL_comes_21 : decode cL_comes 21 = .ok (.iconst 2, 1) := by decide +kernel
theorem dL_comes_22 : decode cL_comes 22 = .ok (.ireturn, 1) := by decide +kernel
theorem dL_comes_23 : decode cL_comes 23 = .ok (.iconst 0, 1) := by decide +kernel
theorem dL_comes_24 : decode cL_comes 24 = .ok (.ireturn, 1) := by decide +kernel
set_option maxRecDepth 20000 in
theorem ggL_card_X3_card : GoodIn wsL_card wsX3_card := goodIn_ca (goodIn_r _ [6, 7, 8, 9, 5, 10, 11, 12, 13, 14, 15, 16, 17, 18, 19, 20, 21, 22, 23, 24, 25, 26, 27, 28, 29, 30, 31, 32, 33] (by decide +kernel) (by decide +kernel)) (goodIn_sub (fun _ h => List.mem_cons_of_mem _ (List.mem_append_right _ h)) (by decide +kernel))
set_option maxRecDepth 20000 in
theorem gL_card_X3_card : GoodIn wsL_card (wsV RL 25 RX3 yX3_card wsX3_card) := goodIn_app (goodIn_of _ (by decide +kernel)) ggL_card_X3_card
theorem dL_card_0 : decode cL_card 0 = .ok (.aload_n 2, 1) := by decide +kernel
theorem dL_card_1 : decode cL_card 1 = .ok (.iconst 0, 1) := by decide +kernel
theorem dL_card_2 : decode cL_card 2 = .ok (.aload_n 0, 1) := by decide +kernel
theorem dL_card_3 : decode cL_card 3 = .ok (.iload_n 1, 1) := by decide +kernel
theorem dL_card_4 : decode cL_card 4 = .ok (.invokevirtual 25, 3) := by decide +kernel
theorem dL_card_7 : decode cL_card 7 = .ok (.i2l, 1) := by decide +kernel
theorem dL_card_8 : decode cL_card 8 = .ok (.lastore, 1) := by decide +kernel
theorem dL_card_9 : decode cL_card 9 = .ok (.goto 6, 3) := by decide +kernel
theorem dL_card_12 : decode cL_card 12 = .ok (.astore_n 3, 1) := by decide +kernel
theorem dL_card_13 : decode cL_card 13 = .ok (.iconst 1, 1) := by decide +kernel
theorem dL_card_14 : decode cL_card 14 = .ok (.ireturn, 1) := by decide +kernel
theorem dL_card_15 : decode cL_card 15 = .ok (.iconst 0, 1) := by decide +kernel
theorem dL_card_16 : decode cL_card 16 = .ok (.ireturn, 1) := by decide +kernel
set_option maxRecDepth 20000 in
theorem ggL_find_X3_find : GoodIn wsL_find wsX3_find := goodIn_ca (goodIn_r _ [6, 7, 8, 9, 5, 10, 11, 12, 13, 14, 15, 16, 17, 18, 19, 20, 21, 22, 23, 24, 25, 26, 27, 28, 29, 30, 31, 32, 33] (by decide +kernel) (by decide +kernel)) (goodIn_sub (fun _ h => List.mem_cons_of_mem _ (List.mem_append_right _ h)) (by decide +kernel))
set_option maxRecDepth 20000 in
theorem gL_find_X3_find : GoodIn wsL_find (wsV RL 28 RX3 yX3_find wsX3_find) := goodIn_app (goodIn_of _ (by decide +kernel)) ggL_find_X3_find
theorem dL_find_0 : decode cL_find 0 = .ok (.aload_n 2, 1) := by decide +kernel
theorem dL_find_1 : decode cL_find 1 = .ok (.iconst 0, 1) := by decide +kernel
theorem dL_find_2 : decode cL_find 2 = .ok (.aload_n 0, 1) := by decide +kernel
theorem dL_find_3 : decode cL_find 3 = .ok (.iload_n 1, 1) := by decide +kernel
theorem dL_find_4 : decode cL_find 4 = .ok (.invokevirtual 28, 3) := by decide +kernel
theorem dL_find_7 : decode cL_find 7 = .ok (.i2l, 1) := by decide +kernel
theorem dL_find_8 : decode cL_find 8 = .ok (.lastore, 1) := by decide +kernel
theorem dL_find_9 : decode cL_find 9 = .ok (.goto 6, 3) := by decide +kernel
theorem dL_find_12 : decode cL_find 12 = .ok (.astore_n 3, 1) := by decide +kernel
theorem dL_find_13 : decode cL_find 13 = .ok (.iconst 1, 1) := by decide +kernel
theorem dL_find_14 : decode cL_find 14 = .ok (.ireturn, 1) := by decide +kernel
theorem dL_find_15 : decode cL_find 15 = .ok (.iconst 0, 1) := by decide +kernel
theorem dL_find_16 : decode cL_find 16 = .ok (.ireturn, 1) := by decide +kernel
set_option maxRecDepth 20000 in
theorem ggL_watch_X3_watch : GoodIn wsL_watch wsX3_watch := goodIn_ca (goodIn_r _ [6, 7, 8, 9, 10, 11, 12, 13, 14, 15, 16, 17, 18, 19, 20, 21, 22, 23, 24, 25, 26, 27, 28, 29, 30, 31, 32, 33, 34, 35, 36, 5, 37, 38, 39, 40, 41, 42, 43, 44, 45, 46, 47, 48, 49, 50, 51, 52, 53] (by decide +kernel) (by decide +kernel)) (goodIn_sub (fun _ h => List.mem_cons_of_mem _ (List.mem_append_right _ h)) (by decide +kernel))
set_option maxRecDepth 20000 in
theorem gL_watch_X3_watch : GoodIn wsL_watch (wsV RL 31 RX3 yX3_watch wsX3_watch) := goodIn_app (goodIn_of _ (by decide +kernel)) ggL_watch_X3_watch
theorem dL_watch_0 : decode cL_watch 0 = .ok (.aload_n 2, 1) := by decide +kernel
theorem dL_watch_1 : decode cL_watch 1 = .ok (.iconst 0, 1) := by decide +kernel
theorem dL_watch_2 : decode cL_watch 2 = .ok (.aload_n 0, 1) := by decide +kernel
theorem dL_watch_3 : decode cL_watch 3 = .ok (.iload_n 1, 1) := by decide +kernel
theorem dL_watch_4 : decode cL_watch 4 = .ok (.invokevirtual 31, 3) := by decide +kernel
theorem dL_watch_7 : decode cL_watch 7 = .ok (.i2l, 1) := by decide +kernel
theorem dL_watch_8 : decode cL_watch 8 = .ok (.lastore, 1) := by decide +kernel
theorem dL_watch_9 : decode cL_watch 9 = .ok (.goto 6, 3) := by decide +kernel
theorem dL_watch_12 : decode cL_watch 12 = .ok (.astore_n 3, 1) := by decide +kernel
theorem dL_watch_13 : decode cL_watch 13 = .ok (.iconst 1, 1) := by decide +kernel
theorem dL_watch_14 : decode cL_watch 14 = .ok (.ireturn, 1) := by decide +kernel
theorem dL_watch_15 : decode cL_watch 15 = .ok (.iconst 0, 1) := by decide +kernel
theorem dL_watch_16 : decode cL_watch 16 = .ok (.ireturn, 1) := by decide +kernel
set_option maxRecDepth 20000 in
theorem ggL_glimpse_X3_glimpse : GoodIn wsL_glimpse wsX3_glimpse := goodIn_ca (goodIn_r _ [6, 7, 8, 9, 10, 5, 11, 12, 13, 14, 15, 16, 17, 18, 19, 20, 21, 22, 23, 24, 25, 26, 27, 28, 29, 30, 31, 32, 33, 34, 35, 36, 37, 38, 39, 40, 41, 42, 43, 44, 45, 46, 47, 48, 49, 50, 51, 52, 53, 54, 55, 56, 57, 58, 59, 60, 61, 62, 63, 64, 65, 66, 67, 68, 69, 70, 71, 72, 73, 74, 75, 76, 77, 78, 79, 80, 81, 82, 83] (by decide +kernel) (by decide +kernel)) (goodIn_sub (fun _ h => List.mem_cons_of_mem _ (List.mem_append_right _ h)) (by decide +kernel))
set_option maxRecDepth 20000 in
theorem gL_glimpse_X3_glimpse : GoodIn wsL_glimpse (wsV RL 37 RX3 yX3_glimpse wsX3_glimpse) := goodIn_app (goodIn_of _ (by decide +kernel)) ggL_glimpse_X3_glimpse
theorem dL_glimpse_0 : decode cL_glimpse 0 = .ok (.aload_n 3, 1) := by decide +kernel
theorem dL_glimpse_1 : decode cL_glimpse 1 = .ok (.iconst 0, 1) := by decide +kernel
theorem dL_glimpse_2 : decode cL_glimpse 2 = .ok (.aload_n 0, 1) := by decide +kernel
theorem dL_glimpse_3 : decode cL_glimpse 3 = .ok (.iload_n 1, 1) := by decide +kernel
theorem dL_glimpse_4 : decode cL_glimpse 4 = .ok (.iload_n 2, 1) := by decide +kernel
theorem dL_glimpse_5 : decode cL_glimpse 5 = .ok (.invokevirtual 37, 3) := by decide +kernel
theorem dL_glimpse_8 : decode cL_glimpse 8 = .ok (.i2l, 1) := by decide +kernel
theorem dL_glimpse_9 : decode cL_glimpse 9 = .ok (.lastore, 1) := by decide +kernel
theorem dL_glimpse_10 : decode cL_glimpse 10 = .ok (.goto 7, 3) := by decide +kernel
theorem dL_glimpse_13 : decode cL_glimpse 13 = .ok (.astore 4, 2) := by decide +kernel
theorem dL_glimpse_15 : decode cL_glimpse 15 = .ok (.iconst 1, 1) := by decide +kernel
theorem dL_glimpse_16 : decode cL_glimpse 16 = .ok (.ireturn, 1) := by decide +kernel
theorem dL_glimpse_17 : decode cL_glimpse 17 = .ok (.iconst 0, 1) := by decide +kernel
theorem dL_glimpse_18 : decode cL_glimpse 18 = .ok (.ireturn, 1) := by decide +kernel
set_option maxRecDepth 20000 in
theorem ggL_thinks_X3_thinks : GoodIn wsL_thinks wsX3_thinks := goodIn_ca (goodIn_r _ [6, 7, 8, 9, 5, 10, 11, 12, 13, 14, 15, 16, 17, 18, 19, 20, 21, 22, 23, 24, 25, 26, 27, 28, 29, 30, 31, 32, 33, 34, 35, 36, 37, 38, 39, 40, 41] (by decide +kernel) (by decide +kernel)) (goodIn_sub (fun _ h => List.mem_cons_of_mem _ (List.mem_append_right _ h)) (by decide +kernel))
set_option maxRecDepth 20000 in
theorem gL_thinks_X3_thinks : GoodIn wsL_thinks (wsV RL 41 RX3 yX3_thinks wsX3_thinks) := goodIn_app (goodIn_of _ (by decide +kernel)) ggL_thinks_X3_thinks
theorem dL_thinks_0 : decode cL_thinks 0 = .ok (.aload_n 3, 1) := by decide +kernel
theorem dL_thinks_1 : decode cL_thinks 1 = .ok (.iconst 0, 1) := by decide +kernel
theorem dL_thinks_2 : decode cL_thinks 2 = .ok (.aload_n 0, 1) := by decide +kernel
theorem dL_thinks_3 : decode cL_thinks 3 = .ok (.iload_n 1, 1) := by decide +kernel
theorem dL_thinks_4 : decode cL_thinks 4 = .ok (.iload_n 2, 1) := by decide +kernel
theorem dL_thinks_5 : decode cL_thinks 5 = .ok (.invokevirtual 41, 3) := by decide +kernel
theorem dL_thinks_8 : decode cL_thinks 8 = .ok (.i2l, 1) := by decide +kernel
theorem dL_thinks_9 : decode cL_thinks 9 = .ok (.lastore, 1) := by decide +kernel
theorem dL_thinks_10 : decode cL_thinks 10 = .ok (.goto 7, 3) := by decide +kernel
theorem dL_thinks_13 : decode cL_thinks 13 = .ok (.astore 4, 2) := by decide +kernel
theorem dL_thinks_15 : decode cL_thinks 15 = .ok (.iconst 1, 1) := by decide +kernel
theorem dL_thinks_16 : decode cL_thinks 16 = .ok (.ireturn, 1) := by decide +kernel
theorem dL_thinks_17 : decode cL_thinks 17 = .ok (.iconst 0, 1) := by decide +kernel
theorem dL_thinks_18 : decode cL_thinks 18 = .ok (.ireturn, 1) := by decide +kernel
set_option maxRecDepth 20000 in
theorem ggL_sure_X3_sure : GoodIn wsL_sure wsX3_sure := goodIn_ca (goodIn_r _ [6, 7, 8, 9, 5, 10, 11, 12, 13, 14, 15, 16, 17, 18, 19, 20, 21, 22, 23, 24, 25, 26, 27, 28, 29, 30, 31, 32, 33, 34, 35, 36, 37, 38, 39, 40, 41, 42, 43, 44] (by decide +kernel) (by decide +kernel)) (goodIn_sub (fun _ h => List.mem_cons_of_mem _ (List.mem_append_right _ h)) (by decide +kernel))
set_option maxRecDepth 20000 in
theorem gL_sure_X3_sure : GoodIn wsL_sure (wsV RL 44 RX3 yX3_sure wsX3_sure) := goodIn_app (goodIn_of _ (by decide +kernel)) ggL_sure_X3_sure
theorem dL_sure_0 : decode cL_sure 0 = .ok (.aload_n 3, 1) := by decide +kernel
theorem dL_sure_1 : decode cL_sure 1 = .ok (.iconst 0, 1) := by decide +kernel
theorem dL_sure_2 : decode cL_sure 2 = .ok (.aload_n 0, 1) := by decide +kernel
theorem dL_sure_3 : decode cL_sure 3 = .ok (.iload_n 1, 1) := by decide +kernel
theorem dL_sure_4 : decode cL_sure 4 = .ok (.iload_n 2, 1) := by decide +kernel
theorem dL_sure_5 : decode cL_sure 5 = .ok (.invokevirtual 44, 3) := by decide +kernel
theorem dL_sure_8 : decode cL_sure 8 = .ok (.i2l, 1) := by decide +kernel
theorem dL_sure_9 : decode cL_sure 9 = .ok (.lastore, 1) := by decide +kernel
theorem dL_sure_10 : decode cL_sure 10 = .ok (.goto 7, 3) := by decide +kernel
theorem dL_sure_13 : decode cL_sure 13 = .ok (.astore 4, 2) := by decide +kernel
theorem dL_sure_15 : decode cL_sure 15 = .ok (.iconst 1, 1) := by decide +kernel
theorem dL_sure_16 : decode cL_sure 16 = .ok (.ireturn, 1) := by decide +kernel
theorem dL_sure_17 : decode cL_sure 17 = .ok (.iconst 0, 1) := by decide +kernel
theorem dL_sure_18 : decode cL_sure 18 = .ok (.ireturn, 1) := by decide +kernel
set_option maxRecDepth 20000 in
theorem ggL_watcher_X3_watcher : GoodIn wsL_watcher wsX3_watcher := goodIn_ca (goodIn_r _ [6, 7, 8, 9, 10, 11, 12, 5, 13, 14, 15, 16, 17, 18, 19, 20, 21, 22, 23, 24, 25, 26, 27, 28, 29, 30, 31, 32, 33, 34, 35, 36, 37, 38, 39, 40, 41, 42, 43, 44, 45, 46, 47, 48, 49, 50, 51, 52, 53, 54, 55, 56, 57, 58, 59, 60, 61, 62, 63] (by decide +kernel) (by decide +kernel)) (goodIn_sub (fun _ h => List.mem_cons_of_mem _ (List.mem_append_right _ h)) (by decide +kernel))
set_option maxRecDepth 20000 in
theorem gL_watcher_X3_watcher : GoodIn wsL_watcher (wsV RL 47 RX3 yX3_watcher wsX3_watcher) := goodIn_app (goodIn_of _ (by decide +kernel)) ggL_watcher_X3_watcher
theorem dL_watcher_0 : decode cL_watcher 0 = .ok (.aload_n 3, 1) := by decide +kernel
theorem dL_watcher_1 : decode cL_watcher 1 = .ok (.iconst 0, 1) := by decide +kernel
theorem dL_watcher_2 : decode cL_watcher 2 = .ok (.aload_n 0, 1) := by decide +kernel
theorem dL_watcher_3 : decode cL_watcher 3 = .ok (.iload_n 1, 1) := by decide +kernel
theorem dL_watcher_4 : decode cL_watcher 4 = .ok (.iload_n 2, 1) := by decide +kernel
theorem dL_watcher_5 : decode cL_watcher 5 = .ok (.invokevirtual 47, 3) := by decide +kernel
theorem dL_watcher_8 : decode cL_watcher 8 = .ok (.i2l, 1) := by decide +kernel
theorem dL_watcher_9 : decode cL_watcher 9 = .ok (.lastore, 1) := by decide +kernel
theorem dL_watcher_10 : decode cL_watcher 10 = .ok (.goto 7, 3) := by decide +kernel
theorem dL_watcher_13 : decode cL_watcher 13 = .ok (.astore 4, 2) := by decide +kernel
theorem dL_watcher_15 : decode cL_watcher 15 = .ok (.iconst 1, 1) := by decide +kernel
theorem dL_watcher_16 : decode cL_watcher 16 = .ok (.ireturn, 1) := by decide +kernel
theorem dL_watcher_17 : decode cL_watcher 17 = .ok (.iconst 0, 1) := by decide +kernel
theorem dL_watcher_18 : decode cL_watcher 18 = .ok (.ireturn, 1) := by decide +kernel
set_option maxRecDepth 20000 in
theorem ggL_sit_X3_sit : GoodIn wsL_sit wsX3_sit := goodIn_ca (goodIn_ca (goodIn_r _ [7, 8, 9, 10, 11, 12, 13, 14, 15, 16, 6, 17, 18, 19, 20, 21, 22, 23, 24, 25, 26, 27, 28, 29, 30, 31, 32, 33, 34, 35, 36, 37, 38, 39, 40, 41, 42] (by decide +kernel) (by decide +kernel)) (goodIn_sub (fun _ h => List.mem_cons_of_mem _ (List.mem_append_left _ (List.mem_append_right _ h))) (by decide +kernel))) (goodIn_sub (fun _ h => List.mem_cons_of_mem _ (List.mem_append_right _ h)) (by decide +kernel))
set_option maxRecDepth 20000 in
theorem gL_sit_X3_sit : GoodIn wsL_sit (wsV RL 50 RX3 yX3_sit wsX3_sit) := goodIn_app (goodIn_of _ (by decide +kernel)) ggL_sit_X3_sit
theorem dL_sit_0 : decode cL_sit 0 = .ok (.aload_n 2, 1) := by decide +kernel
theorem dL_sit_1 : decode cL_sit 1 = .ok (.iconst 0, 1) := by decide +kernel
theorem dL_sit_2 : decode cL_sit 2 = .ok (.aload_n 0, 1) := by decide +kernel
theorem dL_sit_3 : decode cL_sit 3 = .ok (.iload_n 1, 1) := by decide +kernel
theorem dL_sit_4 : decode cL_sit 4 = .ok (.invokevirtual 50, 3) := by decide +kernel
theorem dL_sit_7 : decode cL_sit 7 = .ok (.i2l, 1) := by decide +kernel
theorem dL_sit_8 : decode cL_sit 8 = .ok (.lastore, 1) := by decide +kernel
theorem dL_sit_9 : decode cL_sit 9 = .ok (.goto 9, 3) := by decide +kernel
theorem dL_sit_12 : decode cL_sit 12 = .ok (.astore_n 3, 1) := by decide +kernel
theorem dL_sit_13 : decode cL_sit 13 = .ok (.iconst 1, 1) := by decide +kernel
theorem dL_sit_14 : decode cL_sit 14 = .ok (.ireturn, 1) := by decide +kernel
theorem dL_sit_15 : decode cL_sit 15 = .ok (.astore_n 3, 1) := by decide +kernel
theorem dL_sit_16 : decode cL_sit 16 = .ok (.iconst 2, 1) := by decide +kernel
theorem dL_sit_17 : decode cL_sit 17 = .ok (.ireturn, 1) := by decide +kernel
theorem dL_sit_18 : decode cL_sit 18 = .ok (.iconst 0, 1) := by decide +kernel
theorem dL_sit_19 : decode cL_sit 19 = .ok (.ireturn, 1) := by decide +kernel
set_option maxRecDepth 20000 in
theorem ggL_fan_X3_fan : GoodIn wsL_fan wsX3_fan := goodIn_ca (goodIn_r _ [6, 7, 8, 9, 5, 10, 11, 12, 13, 14, 15, 16, 17, 18, 19, 20, 21, 22, 23, 24, 25] (by decide +kernel) (by decide +kernel)) (goodIn_sub (fun _ h => List.mem_cons_of_mem _ (List.mem_append_right _ h)) (by decide +kernel))
set_option maxRecDepth 20000 in
theorem gL_fan_X3_fan : GoodIn wsL_fan (wsV RL 53 RX3 yX3_fan wsX3_fan) := goodIn_app (goodIn_of _ (by decide +kernel)) ggL_fan_X3_fan
theorem dL_fan_0 : decode cL_fan 0 = .ok (.aload_n 2, 1) := by decide +kernel
theorem dL_fan_1 : decode cL_fan 1 = .ok (.iconst 0, 1) := by decide +kernel
theorem dL_fan_2 : decode cL_fan 2 = .ok (.aload_n 0, 1) := by decide +kernel
theorem dL_fan_3 : decode cL_fan 3 = .ok (.iload_n 1, 1) := by decide +kernel
theorem dL_fan_4 : decode cL_fan 4 = .ok (.invokevirtual 53, 3) := by decide +kernel
theorem dL_fan_7 : decode cL_fan 7 = .ok (.i2l, 1) := by decide +kernel
theorem dL_fan_8 : decode cL_fan 8 = .ok (.lastore, 1) := by decide +kernel
theorem dL_fan_9 : decode cL_fan 9 = .ok (.goto 6, 3) := by decide +kernel
theorem dL_fan_12 : decode cL_fan 12 = .ok (.astore_n 3, 1) := by decide +kernel
theorem dL_fan_13 : decode cL_fan 13 = .ok (.iconst 1, 1) := by decide +kernel
theorem dL_fan_14 : decode cL_fan 14 = .ok (.ireturn, 1) := by decide +kernel
theorem dL_fan_15 : decode cL_fan 15 = .ok (.iconst 0, 1) := by decide +kernel
theorem dL_fan_16 : decode cL_fan 16 = .ok (.ireturn, 1) := by decide +kernel
set_option maxRecDepth 20000 in
theorem ggL_take_X3_take : GoodIn wsL_take wsX3_take := goodIn_ca (goodIn_r _ [6, 7, 8, 9, 10, 11, 12, 5, 13, 14, 15, 16, 17, 18, 19, 20, 21, 22, 23, 24, 25, 26, 27, 28, 29, 30, 31, 32, 33, 34, 35, 36, 37, 38, 39, 40, 41, 42] (by decide +kernel) (by decide +kernel)) (goodIn_sub (fun _ h => List.mem_cons_of_mem _ (List.mem_append_right _ h)) (by decide +kernel))
set_option maxRecDepth 20000 in
theorem gL_take_X3_take : GoodIn wsL_take (wsV RL 56 RX3 yX3_take wsX3_take) := goodIn_app (goodIn_of _ (by decide +kernel)) ggL_take_X3_take
theorem dL_take_0 : decode cL_take 0 = .ok (.aload_n 2, 1) := by decide +kernel
theorem dL_take_1 : decode cL_take 1 = .ok (.iconst 0, 1) := by decide +kernel
theorem dL_take_2 : decode cL_take 2 = .ok (.aload_n 0, 1) := by decide +kernel
theorem dL_take_3 : decode cL_take 3 = .ok (.iload_n 1, 1) := by decide +kernel
theorem dL_take_4 : decode cL_take 4 = .ok (.invokevirtual 56, 3) := by decide +kernel
theorem dL_take_7 : decode cL_take 7 = .ok (.i2l, 1) := by decide +kernel
theorem dL_take_8 : decode cL_take 8 = .ok (.lastore, 1) := by decide +kernel
theorem dL_take_9 : decode cL_take 9 = .ok (.goto 6, 3) := by decide +kernel
theorem dL_take_12 : decode cL_take 12 = .ok (.astore_n 3, 1) := by decide +kernel
theorem dL_take_13 : decode cL_take 13 = .ok (.iconst 1, 1) := by decide +kernel
theorem dL_take_14 : decode cL_take 14 = .ok (.ireturn, 1) := by decide +kernel
theorem dL_take_15 : decode cL_take 15 = .ok (.iconst 0, 1) := by decide +kernel
theorem dL_take_16 : decode cL_take 16 = .ok (.ireturn, 1) := by decide +kernel
set_option maxRecDepth 20000 in
theorem ggL_force_X3_force : GoodIn wsL_force wsX3_force := goodIn_ca (goodIn_r _ [6, 7, 8, 9, 10, 11, 5, 12, 13, 14, 15, 16, 17, 18, 19, 20, 21, 22, 23, 24, 25, 26, 27, 28, 29, 30, 31, 32, 33, 34, 35, 36, 37, 38, 39, 40, 41, 42, 43, 44, 45] (by decide +kernel) (by decide +kernel)) (goodIn_sub (fun _ h => List.mem_cons_of_mem _ (List.mem_append_right _ h)) (by decide +kernel))
set_option maxRecDepth 20000 in
theorem gL_force_X3_force : GoodIn wsL_force (wsV RL 59 RX3 yX3_force wsX3_force) := goodIn_app (goodIn_of _ (by decide +kernel)) ggL_force_X3_force
theorem dL_force_0 : decode cL_force 0 = .ok (.aload_n 3, 1) := by decide +kernel
theorem dL_force_1 : decode cL_force 1 = .ok (.iconst 0, 1) := by decide +kernel
theorem dL_force_2 : decode cL_force 2 = .ok (.aload_n 0, 1) := by decide +kernel
theorem dL_force_3 : decode cL_force 3 = .ok (.iload_n 1, 1) := by decide +kernel
theorem dL_force_4 : decode cL_force 4 = .ok (.iload_n 2, 1) := by decide +kernel
theorem dL_force_5 : decode cL_force 5 = .ok (.invokevirtual 59, 3) := by decide +kernel
theorem dL_force_8 : decode cL_force 8 = .ok (.i2l, 1) := by decide +kernel
theorem dL_force_9 : decode cL_force 9 = .ok (.lastore, 1) := by decide +kernel
theorem dL_force_10 : decode cL_force 10 = .ok (.goto 7, 3) := by decide +kernel
theorem dL_force_13 : decode cL_force 13 = .ok (.astore 4, 2) := by decide +kernel
theorem dL_force_15 : decode cL_force 15 = .ok (.iconst 1, 1) := by decide +kernel
theorem dL_force_16 : decode cL_force 16 = .ok (.ireturn, 1) := by decide +kernel
theorem dL_force_17 : decode cL_force 17 = .ok (.iconst 0, 1) := by decide +kernel
theorem dL_force_18 : decode cL_force 18 = .ok (.ireturn, 1) := by decide +kernel
set_option maxRecDepth 20000 in
theorem ggL_took_X3_took : GoodIn wsL_took wsX3_took := goodIn_ca (goodIn_r _ [6, 7, 8, 9, 5, 10, 11, 12, 13, 14, 15, 16, 17, 18, 19, 20, 21, 22, 23, 24, 25] (by decide +kernel) (by decide +kernel)) (goodIn_sub (fun _ h => List.mem_cons_of_mem _ (List.mem_append_right _ h)) (by decide +kernel))
set_option maxRecDepth 20000 in
theorem gL_took_X3_took : GoodIn wsL_took (wsV RL 62 RX3 yX3_took wsX3_took) := goodIn_app (goodIn_of _ (by decide +kernel)) ggL_took_X3_took
theorem dL_took_0 : decode cL_took 0 = .ok (.aload_n 2, 1) := by decide +kernel
theorem dL_took_1 : decode cL_took 1 = .ok (.iconst 0, 1) := by decide +kernel
theorem dL_took_2 : decode cL_took 2 = .ok (.aload_n 0, 1) := by decide +kernel
theorem dL_took_3 : decode cL_took 3 = .ok (.iload_n 1, 1) := by decide +kernel
theorem dL_took_4 : decode cL_took 4 = .ok (.invokevirtual 62, 3) := by decide +kernel
theorem dL_took_7 : decode cL_took 7 = .ok (.i2l, 1) := by decide +kernel
theorem dL_took_8 : decode cL_took 8 = .ok (.lastore, 1) := by decide +kernel
theorem dL_took_9 : decode cL_took 9 = .ok (.goto 6, 3) := by decide +kernel
theorem dL_took_12 : decode cL_took 12 = .ok (.astore_n 3, 1) := by decide +kernel
theorem dL_took_13 : decode cL_took 13 = .ok (.iconst 1, 1) := by decide +kernel
theorem dL_took_14 : decode cL_took 14 = .ok (.ireturn, 1) := by decide +kernel
theorem dL_took_15 : decode cL_took 15 = .ok (.iconst 0, 1) := by decide +kernel
theorem dL_took_16 : decode cL_took 16 = .ok (.ireturn, 1) := by decide +kernel
set_option maxRecDepth 20000 in
theorem ggL_count_X3_count : GoodIn wsL_count wsX3_count := goodIn_ca (goodIn_r _ [6, 7, 8, 9, 10, 11, 12, 13, 14, 15, 16, 17, 18, 19, 20, 21, 22, 23, 24, 25, 26, 27, 28, 29, 30, 31, 32, 33] (by decide +kernel) (by decide +kernel)) (goodIn_sub (fun _ h => List.mem_cons_of_mem _ (List.mem_append_right _ h)) (by decide +kernel))
set_option maxRecDepth 20000 in
theorem gL_count_X3_count : GoodIn wsL_count (wsV RL 65 RX3 yX3_count wsX3_count) := goodIn_app (goodIn_of _ (by decide +kernel)) ggL_count_X3_count
theorem dL_count_0 : decode cL_count 0 = .ok (.aload_n 2, 1) := by decide +kernel
theorem dL_count_1 : decode cL_count 1 = .ok (.iconst 0, 1) := by decide +kernel
theorem dL_count_2 : decode cL_count 2 = .ok (.aload_n 0, 1) := by decide +kernel
theorem dL_count_3 : decode cL_count 3 = .ok (.iload_n 1, 1) := by decide +kernel
theorem dL_count_4 : decode cL_count 4 = .ok (.invokevirtual 65, 3) := by decide +kernel
theorem dL_count_7 : decode cL_count 7 = .ok (.i2l, 1) := by decide +kernel
theorem dL_count_8 : decode cL_count 8 = .ok (.lastore, 1) := by decide +kernel
theorem dL_count_9 : decode cL_count 9 = .ok (.goto 6, 3) := by decide +kernel
theorem dL_count_12 : decode cL_count 12 = .ok (.astore_n 3, 1) := by decide +kernel
theorem dL_count_13 : decode cL_count 13 = .ok (.iconst 1, 1) := by decide +kernel
theorem dL_count_14 : decode cL_count 14 = .ok (.ireturn, 1) := by decide +kernel
theorem dL_count_15 : decode cL_count 15 = .ok (.iconst 0, 1) := by decide +kernel
theorem dL_count_16 : decode cL_count 16 = .ok (.ireturn, 1) := by decide +kernel
set_option maxRecDepth 20000 in
theorem ggL_back_X3_back : GoodIn wsL_back wsX3_back := goodIn_ca (goodIn_r _ [6, 7, 8, 9, 5, 10, 11, 12, 13, 14, 15, 16, 17, 18, 19, 20, 21, 22, 23, 24, 25, 26, 27, 28, 29, 30, 31, 32, 33, 34, 35, 36, 37, 38, 39, 40, 41, 42, 43, 44, 45, 46, 47, 48, 49] (by decide +kernel) (by decide +kernel)) (goodIn_sub (fun _ h => List.mem_cons_of_mem _ (List.mem_append_right _ h)) (by decide +kernel))
set_option maxRecDepth 20000 in
theorem gL_back_X3_back : GoodIn wsL_back (wsV RL 68 RX3 yX3_back wsX3_back) := goodIn_app (goodIn_of _ (by decide +kernel)) ggL_back_X3_back
theorem dL_back_0 : decode cL_back 0 = .ok (.aload_n 3, 1) := by decide +kernel
theorem dL_back_1 : decode cL_back 1 = .ok (.iconst 0, 1) := by decide +kernel
theorem dL_back_2 : decode cL_back 2 = .ok (.aload_n 0, 1) := by decide +kernel
theorem dL_back_3 : decode cL_back 3 = .ok (.iload_n 1, 1) := by decide +kernel
theorem dL_back_4 : decode cL_back 4 = .ok (.iload_n 2, 1) := by decide +kernel
theorem dL_back_5 : decode cL_back 5 = .ok (.invokevirtual 68, 3) := by decide +kernel
theorem dL_back_8 : decode cL_back 8 = .ok (.i2l, 1) := by decide +kernel
theorem dL_back_9 : decode cL_back 9 = .ok (.lastore, 1) := by decide +kernel
theorem dL_back_10 : decode cL_back 10 = .ok (.goto 7, 3) := by decide +kernel
theorem dL_back_13 : decode cL_back 13 = .ok (.astore 4, 2) := by decide +kernel
theorem dL_back_15 : decode cL_back 15 = .ok (.iconst 1, 1) := by decide +kernel
theorem dL_back_16 : decode cL_back 16 = .ok (.ireturn, 1) := by decide +kernel
theorem dL_back_17 : decode cL_back 17 = .ok (.iconst 0, 1) := by decide +kernel
theorem dL_back_18 : decode cL_back 18 = .ok (.ireturn, 1) := by decide +kernel
set_option maxRecDepth 20000 in
theorem ggL_bring_X3_bring : GoodIn wsL_bring wsX3_bring := goodIn_ca (goodIn_r _ [6, 7, 8, 9, 5, 10, 11, 12, 13, 14, 15, 16, 17, 18, 19, 20, 21, 22, 23, 24, 25, 26, 27, 28, 29, 30, 31, 32, 33, 34, 35, 36, 37, 38, 39, 40, 41, 42, 43, 44, 45, 46, 47, 48] (by decide +kernel) (by decide +kernel)) (goodIn_sub (fun _ h => List.mem_cons_of_mem _ (List.mem_append_right _ h)) (by decide +kernel))
set_option maxRecDepth 20000 in
theorem gL_bring_X3_bring : GoodIn wsL_bring (wsV RL 71 RX3 yX3_bring wsX3_bring) := goodIn_app (goodIn_of _ (by decide +kernel)) ggL_bring_X3_bring
theorem dL_bring_0 : decode cL_bring 0 = .ok (.aload_n 3, 1) := by decide +kernel
theorem dL_bring_1 : decode cL_bring 1 = .ok (.iconst 0, 1) := by decide +kernel
theorem dL_bring_2 : decode cL_bring 2 = .ok (.aload_n 0, 1) := by decide +kernel
theorem dL_bring_3 : decode cL_bring 3 = .ok (.iload_n 1, 1) := by decide +kernel
theorem dL_bring_4 : decode cL_bring 4 = .ok (.iload_n 2, 1) := by decide +kernel
theorem dL_bring_5 : decode cL_bring 5 = .ok (.invokevirtual 71, 3) := by decide +kernel
theorem dL_bring_8 : decode cL_bring 8 = .ok (.i2l, 1) := by decide +kernel
theorem dL_bring_9 : decode cL_bring 9 = .ok (.lastore, 1) := by decide +kernel
theorem dL_bring_10 : decode cL_bring 10 = .ok (.goto 7, 3) := by decide +kernel
theorem dL_bring_13 : decode cL_bring 13 = .ok (.astore 4, 2) := by decide +kernel
theorem dL_bring_15 : decode cL_bring 15 = .ok (.iconst 1, 1) := by decide +kernel
theorem dL_bring_16 : decode cL_bring 16 = .ok (.ireturn, 1) := by decide +kernel
theorem dL_bring_17 : decode cL_bring 17 = .ok (.iconst 0, 1) := by decide +kernel
theorem dL_bring_18 : decode cL_bring 18 = .ok (.ireturn, 1) := by decide +kernel
set_option maxRecDepth 20000 in
theorem ggL_riffles_X3_riffles : GoodIn wsL_riffles wsX3_riffles := goodIn_ca (goodIn_r _ [6, 7, 8, 9, 5, 10, 11, 12, 13, 14, 15, 16, 17, 18, 19, 20, 21, 22, 23, 24, 25, 26, 27, 28, 29, 30, 31, 32, 33, 34, 35, 36, 37, 38, 39, 40, 41, 42, 43, 44, 45] (by decide +kernel) (by decide +kernel)) (goodIn_sub (fun _ h => List.mem_cons_of_mem _ (List.mem_append_right _ h)) (by decide +kernel))
set_option maxRecDepth 20000 in
theorem gL_riffles_X3_riffles : GoodIn wsL_riffles (wsV RL 74 RX3 yX3_riffles wsX3_riffles) := goodIn_app (goodIn_of _ (by decide +kernel)) ggL_riffles_X3_riffles
theorem dL_riffles_0 : decode cL_riffles 0 = .ok (.aload_n 3, 1) := by decide +kernel
theorem dL_riffles_1 : decode cL_riffles 1 = .ok (.iconst 0, 1) := by decide +kernel
theorem dL_riffles_2 : decode cL_riffles 2 = .ok (.aload_n 0, 1) := by decide +kernel
theorem dL_riffles_3 : decode cL_riffles 3 = .ok (.iload_n 1, 1) := by decide +kernel
theorem dL_riffles_4 : decode cL_riffles 4 = .ok (.iload_n 2, 1) := by decide +kernel
theorem dL_riffles_5 : decode cL_riffles 5 = .ok (.invokevirtual 74, 3) := by decide +kernel
theorem dL_riffles_8 : decode cL_riffles 8 = .ok (.i2l, 1) := by decide +kernel
theorem dL_riffles_9 : decode cL_riffles 9 = .ok (.lastore, 1) := by decide +kernel
theorem dL_riffles_10 : decode cL_riffles 10 = .ok (.goto 7, 3) := by decide +kernel
theorem dL_riffles_13 : decode cL_riffles 13 = .ok (.astore 4, 2) := by decide +kernel
theorem dL_riffles_15 : decode cL_riffles 15 = .ok (.iconst 1, 1) := by decide +kernel
theorem dL_riffles_16 : decode cL_riffles 16 = .ok (.ireturn, 1) := by decide +kernel
theorem dL_riffles_17 : decode cL_riffles 17 = .ok (.iconst 0, 1) := by decide +kernel
theorem dL_riffles_18 : decode cL_riffles 18 = .ok (.ireturn, 1) := by decide +kernel
set_option maxRecDepth 20000 in
theorem ggL_law_X3_init : GoodIn wsL_law wsX3_init := goodIn_r _ [9, 10, 11, 12, 13, 14, 15, 16, 17, 18, 19, 20, 21, 22, 23, 24, 25, 26, 27, 28, 29, 30, 31, 526, 527, 502, 503, 504, 505, 506, 507, 508, 509, 510, 511] (by decide +kernel) (by decide +kernel)
set_option maxRecDepth 20000 in
theorem gL_law_X3_init : GoodIn wsL_law (wsX3_init) := ggL_law_X3_init
set_option maxRecDepth 20000 in
theorem ggL_law_X4_init : GoodIn wsL_law wsX4_init := goodIn_r _ [34, 35, 11, 12, 25, 36, 37, 38, 39, 40, 41, 42, 43, 512, 513, 514, 515, 516, 517, 518, 519, 520, 521, 522, 523, 524, 525] (by decide +kernel) (by decide +kernel)
set_option maxRecDepth 20000 in
theorem gL_law_X4_init : GoodIn wsL_law (wsX4_init) := ggL_law_X4_init
set_option maxRecDepth 20000 in
theorem ggL_law_L_go : GoodIn wsL_law wsL_go := goodIn_ca (goodIn_r _ [47, 48, 49, 50, 51, 2, 52, 16, 19, 53, 54, 55, 56, 57, 58, 59, 60, 61, 62, 63, 64, 15, 65, 27, 26, 66, 67, 68, 69, 70, 71, 72, 73, 74, 75, 76, 77, 78, 79, 80, 81, 82, 83, 502, 503, 504, 505, 506, 507, 508, 509, 510, 511, 526, 527, 528, 529, 530, 531] (by decide +kernel) (by decide +kernel)) (goodIn_sub (fun _ h => List.mem_append_left _ (List.mem_append_left _ (List.mem_append_right _ h))) (by decide +kernel))
set_option maxRecDepth 20000 in
theorem gL_law_L_go : GoodIn wsL_law (va_wsS RL 81 yL_go wsL_go) := goodIn_app (goodIn_of _ (by decide +kernel)) ggL_law_L_go
set_option maxRecDepth 20000 in
theorem ggL_law_X4_go : GoodIn wsL_law wsX4_go := goodIn_r _ [87, 88, 36, 89, 39, 90, 91, 92, 5, 93, 94, 95, 96, 97, 98, 99, 100, 101, 102, 103, 104, 105, 106, 107, 108, 109, 110, 111, 112, 113, 512, 513, 514, 515, 516, 517, 518, 519, 520, 521, 522, 523, 524, 525] (by decide +kernel) (by decide +kernel)
set_option maxRecDepth 20000 in
theorem gL_law_X4_go : GoodIn wsL_law (wsV RL 86 RX4 yX4_go wsX4_go) := goodIn_app (goodIn_of _ (by decide +kernel)) ggL_law_X4_go
set_option maxRecDepth 20000 in
theorem ggL_law_X4_thrown : GoodIn wsL_law wsX4_thrown := goodIn_r _ [117, 88, 512, 513, 514, 515, 516, 517, 518, 519, 520, 521, 522, 523, 524, 525] (by decide +kernel) (by decide +kernel)
set_option maxRecDepth 20000 in
theorem gL_law_X4_thrown : GoodIn wsL_law (wsV RL 87 RX4 yX4_thrown wsX4_thrown) := goodIn_app (goodIn_of _ (by decide +kernel)) ggL_law_X4_thrown
set_option maxRecDepth 20000 in
theorem ggL_law_L_falseCut : GoodIn wsL_law wsL_falseCut := goodIn_ca (goodIn_r _ [120, 48, 121, 122, 123, 2, 124, 19, 125, 54, 55, 56, 57, 58, 59, 60, 61, 73, 74, 75, 76, 77, 78, 79, 63, 64, 15, 65, 27, 26, 66, 67, 68, 69, 70, 71, 72, 502, 503, 504, 505, 506, 507, 508, 509, 510, 511, 528, 529, 530, 531, 526, 527] (by decide +kernel) (by decide +kernel)) (goodIn_sub (fun _ h => List.mem_append_left _ (List.mem_append_left _ (List.mem_append_right _ h))) (by decide +kernel))
set_option maxRecDepth 20000 in
theorem gL_law_L_falseCut : GoodIn wsL_law (va_wsS RL 91 yL_falseCut wsL_falseCut) := goodIn_app (goodIn_of _ (by decide +kernel)) ggL_law_L_falseCut
set_option maxRecDepth 20000 in
theorem ggL_law_X4_falseCut : GoodIn wsL_law wsX4_falseCut := goodIn_r _ [129, 88, 89, 37, 39, 130, 91, 92, 5, 93, 94, 95, 96, 97, 98, 99, 100, 101, 102, 103, 104, 105, 106, 107, 108, 109, 110, 111, 112, 113, 512, 513, 514, 515, 516, 517, 518, 519, 520, 521, 522, 523, 524, 525] (by decide +kernel) (by decide +kernel)
set_option maxRecDepth 20000 in
theorem gL_law_X4_falseCut : GoodIn wsL_law (wsV RL 94 RX4 yX4_falseCut wsX4_falseCut) := goodIn_app (goodIn_of _ (by decide +kernel)) ggL_law_X4_falseCut
set_option maxRecDepth 20000 in
theorem ggL_law_L_comes : GoodIn wsL_law wsL_comes := goodIn_ca (goodIn_ca (goodIn_r _ [133, 48, 134, 135, 136, 137, 2, 138, 54, 55, 56, 57, 58, 59, 60, 61, 139, 140, 141, 142, 143, 144, 71, 72, 145, 66, 67, 68, 69, 70] (by decide +kernel) (by decide +kernel)) (goodIn_sub (fun _ h => List.mem_append_left _ (List.mem_append_left _ (List.mem_append_right _ h))) (by decide +kernel))) (goodIn_sub (fun _ h => List.mem_append_left _ (List.mem_append_right _ h)) (by decide +kernel))
set_option maxRecDepth 20000 in
theorem gL_law_L_comes : GoodIn wsL_law (va_wsS RL 95 yL_comes wsL_comes) := goodIn_app (goodIn_of _ (by decide +kernel)) ggL_law_L_comes
set_option maxRecDepth 20000 in
theorem ggL_law_X4_comes : GoodIn wsL_law wsX4_comes := goodIn_r _ [149, 88, 91, 92, 5, 93, 94, 95, 96, 97, 98, 99, 100, 150, 151, 152, 110, 111, 112, 113, 512, 513, 514, 515, 516, 517, 518, 519, 520, 521, 522, 523, 524, 525] (by decide +kernel) (by decide +kernel)
set_option maxRecDepth 20000 in
theorem gL_law_X4_comes : GoodIn wsL_law (wsV RL 98 RX4 yX4_comes wsX4_comes) := goodIn_app (goodIn_of _ (by decide +kernel)) ggL_law_X4_comes
set_option maxRecDepth 20000 in
theorem ggL_law_L_card : GoodIn wsL_law wsL_card := goodIn_ca (goodIn_r _ [155, 134, 156, 157, 158, 2, 159, 16, 139, 140, 141, 142, 143, 144, 71, 72, 80, 81, 82, 15, 83, 26, 502, 503, 504, 505, 506, 507, 508, 509, 510, 511, 526, 527] (by decide +kernel) (by decide +kernel)) (goodIn_sub (fun _ h => List.mem_append_left _ (List.mem_append_right _ h)) (by decide +kernel))
set_option maxRecDepth 20000 in
theorem gL_law_L_card : GoodIn wsL_law (va_wsS RL 99 yL_card wsL_card) := goodIn_app (goodIn_of _ (by decide +kernel)) ggL_law_L_card
set_option maxRecDepth 20000 in
theorem ggL_law_X4_card : GoodIn wsL_law wsX4_card := goodIn_r _ [163, 88, 36, 150, 151, 5, 152, 94, 95, 96, 97, 98, 99, 100, 512, 513, 514, 515, 516, 517, 518, 519, 520, 521, 522, 523, 524, 525] (by decide +kernel) (by decide +kernel)
set_option maxRecDepth 20000 in
theorem gL_law_X4_card : GoodIn wsL_law (wsV RL 101 RX4 yX4_card wsX4_card) := goodIn_app (goodIn_of _ (by decide +kernel)) ggL_law_X4_card
set_option maxRecDepth 20000 in
theorem ggL_law_L_find : GoodIn wsL_law wsL_find := goodIn_ca (goodIn_r _ [166, 134, 167, 168, 169, 2, 170, 16, 171, 172, 173, 142, 143, 144, 71, 72, 174, 175, 176, 15, 177, 26, 502, 503, 504, 505, 506, 507, 508, 509, 510, 511, 526, 527] (by decide +kernel) (by decide +kernel)) (goodIn_sub (fun _ h => List.mem_append_left _ (List.mem_append_right _ h)) (by decide +kernel))
set_option maxRecDepth 20000 in
theorem gL_law_L_find : GoodIn wsL_law (va_wsS RL 102 yL_find wsL_find) := goodIn_app (goodIn_of _ (by decide +kernel)) ggL_law_L_find
set_option maxRecDepth 20000 in
theorem ggL_law_X4_find : GoodIn wsL_law wsX4_find := goodIn_r _ [181, 88, 150, 151, 5, 152, 94, 95, 96, 182, 183, 184, 185, 36, 97, 98, 99, 100, 512, 513, 514, 515, 516, 517, 518, 519, 520, 521, 522, 523, 524, 525] (by decide +kernel) (by decide +kernel)
set_option maxRecDepth 20000 in
theorem gL_law_X4_find : GoodIn wsL_law (wsV RL 104 RX4 yX4_find wsX4_find) := goodIn_app (goodIn_of _ (by decide +kernel)) ggL_law_X4_find
set_option maxRecDepth 20000 in
theorem ggL_law_L_watch : GoodIn wsL_law wsL_watch := goodIn_ca (goodIn_r _ [188, 189, 190, 191, 192, 2, 193, 194, 195, 196, 19, 18, 197, 76, 198, 199, 200, 201, 11, 12, 202, 14, 15, 78, 203, 204, 22, 23, 24, 25, 26, 27, 205, 206, 207, 208, 71, 72, 502, 503, 504, 505, 506, 507, 508, 509, 510, 511, 528, 529, 530, 531, 526, 527] (by decide +kernel) (by decide +kernel)) (goodIn_sub (fun _ h => List.mem_append_right _ h) (by decide +kernel))
set_option maxRecDepth 20000 in
theorem gL_law_L_watch : GoodIn wsL_law (va_wsS RL 105 yL_watch wsL_watch) := goodIn_app (goodIn_of _ (by decide +kernel)) ggL_law_L_watch
set_option maxRecDepth 20000 in
theorem ggL_law_X4_watch : GoodIn wsL_law wsX4_watch := goodIn_r _ [212, 88, 89, 37, 39, 213, 97, 98, 99, 5, 100, 512, 513, 514, 515, 516, 517, 518, 519, 520, 521, 522, 523, 524, 525] (by decide +kernel) (by decide +kernel)
set_option maxRecDepth 20000 in
theorem gL_law_X4_watch : GoodIn wsL_law (wsV RL 108 RX4 yX4_watch wsX4_watch) := goodIn_app (goodIn_of _ (by decide +kernel)) ggL_law_X4_watch
set_option maxRecDepth 20000 in
theorem ggL_law_L_glimpse : GoodIn wsL_law wsL_glimpse := goodIn_ca (goodIn_r _ [216, 134, 217, 218, 219, 2, 220, 16, 221, 222, 223, 224, 142, 143, 19, 139, 140, 141, 144, 71, 72, 80, 81, 82, 15, 83, 26, 225, 226, 227, 76, 228, 229, 78, 230, 231, 232, 205, 206, 207, 208, 233, 234, 235, 236, 237, 238, 239, 240, 241, 242, 243, 244, 245, 246, 247, 248, 249, 250, 251, 175, 176, 177, 252, 253, 254, 255, 204, 502, 503, 504, 505, 506, 507, 508, 509, 510, 511, 526, 527, 528, 529, 530, 531] (by decide +kernel) (by decide +kernel)) (goodIn_sub (fun _ h => List.mem_append_left _ (List.mem_append_right _ h)) (by decide +kernel))
set_option maxRecDepth 20000 in
theorem gL_law_L_glimpse : GoodIn wsL_law (va_wsS RL 109 yL_glimpse wsL_glimpse) := goodIn_app (goodIn_of _ (by decide +kernel)) ggL_law_L_glimpse
set_option maxRecDepth 20000 in
theorem ggL_law_X4_glimpse : GoodIn wsL_law wsX4_glimpse := goodIn_r _ [259, 88, 39, 36, 41, 40, 213, 260, 261, 262, 5, 263, 89, 94, 95, 96, 150, 151, 152, 97, 98, 99, 100, 264, 265, 266, 267, 268, 269, 270, 241, 242, 243, 244, 245, 246, 512, 513, 514, 515, 516, 517, 518, 519, 520, 521, 522, 523, 524, 525] (by decide +kernel) (by decide +kernel)
set_option maxRecDepth 20000 in
theorem gL_law_X4_glimpse : GoodIn wsL_law (wsV RL 112 RX4 yX4_glimpse wsX4_glimpse) := goodIn_app (goodIn_of _ (by decide +kernel)) ggL_law_X4_glimpse
set_option maxRecDepth 20000 in
theorem ggL_law_L_thinks : GoodIn wsL_law wsL_thinks := goodIn_ca (goodIn_r _ [273, 134, 274, 275, 276, 2, 277, 221, 222, 223, 224, 142, 143, 19, 139, 140, 141, 144, 71, 72, 80, 81, 82, 15, 83, 26, 528, 529, 530, 531, 502, 503, 504, 505, 506, 507, 508, 509, 510, 511, 526, 527] (by decide +kernel) (by decide +kernel)) (goodIn_sub (fun _ h => List.mem_append_left _ (List.mem_append_right _ h)) (by decide +kernel))
set_option maxRecDepth 20000 in
theorem gL_law_L_thinks : GoodIn wsL_law (va_wsS RL 113 yL_thinks wsL_thinks) := goodIn_app (goodIn_of _ (by decide +kernel)) ggL_law_L_thinks
set_option maxRecDepth 20000 in
theorem ggL_law_X4_thinks : GoodIn wsL_law wsX4_thinks := goodIn_r _ [281, 88, 39, 260, 261, 262, 5, 263, 89, 94, 95, 96, 150, 151, 152, 97, 98, 99, 100, 512, 513, 514, 515, 516, 517, 518, 519, 520, 521, 522, 523, 524, 525] (by decide +kernel) (by decide +kernel)
set_option maxRecDepth 20000 in
theorem gL_law_X4_thinks : GoodIn wsL_law (wsV RL 115 RX4 yX4_thinks wsX4_thinks) := goodIn_app (goodIn_of _ (by decide +kernel)) ggL_law_X4_thinks
set_option maxRecDepth 20000 in
theorem ggL_law_L_sure : GoodIn wsL_law wsL_sure := goodIn_ca (goodIn_r _ [284, 134, 285, 286, 287, 2, 288, 221, 222, 223, 224, 142, 143, 19, 171, 172, 173, 144, 71, 72, 289, 231, 232, 174, 175, 176, 15, 177, 26, 528, 529, 530, 531, 502, 503, 504, 505, 506, 507, 508, 509, 510, 511, 526, 527] (by decide +kernel) (by decide +kernel)) (goodIn_sub (fun _ h => List.mem_append_left _ (List.mem_append_right _ h)) (by decide +kernel))
set_option maxRecDepth 20000 in
theorem gL_law_L_sure : GoodIn wsL_law (va_wsS RL 116 yL_sure wsL_sure) := goodIn_app (goodIn_of _ (by decide +kernel)) ggL_law_L_sure
set_option maxRecDepth 20000 in
theorem ggL_law_X4_sure : GoodIn wsL_law wsX4_sure := goodIn_r _ [293, 88, 39, 260, 261, 262, 5, 263, 89, 94, 95, 96, 150, 151, 152, 97, 98, 99, 100, 512, 513, 514, 515, 516, 517, 518, 519, 520, 521, 522, 523, 524, 525] (by decide +kernel) (by decide +kernel)
set_option maxRecDepth 20000 in
theorem gL_law_X4_sure : GoodIn wsL_law (wsV RL 118 RX4 yX4_sure wsX4_sure) := goodIn_app (goodIn_of _ (by decide +kernel)) ggL_law_X4_sure
set_option maxRecDepth 20000 in
theorem ggL_law_L_watcher : GoodIn wsL_law wsL_watcher := goodIn_ca (goodIn_r _ [296, 134, 297, 298, 299, 2, 300, 142, 143, 16, 221, 222, 223, 224, 19, 301, 302, 303, 76, 304, 78, 237, 81, 82, 15, 83, 26, 71, 72, 231, 232, 305, 306, 307, 308, 238, 239, 240, 241, 242, 243, 244, 245, 246, 309, 310, 311, 312, 528, 529, 530, 531, 502, 503, 504, 505, 506, 507, 508, 509, 510, 511, 526, 527] (by decide +kernel) (by decide +kernel)) (goodIn_sub (fun _ h => List.mem_append_left _ (List.mem_append_right _ h)) (by decide +kernel))
set_option maxRecDepth 20000 in
theorem gL_law_L_watcher : GoodIn wsL_law (va_wsS RL 119 yL_watcher wsL_watcher) := goodIn_app (goodIn_of _ (by decide +kernel)) ggL_law_L_watcher
set_option maxRecDepth 20000 in
theorem ggL_law_X4_watcher : GoodIn wsL_law wsX4_watcher := goodIn_r _ [316, 88, 260, 261, 262, 5, 263, 89, 94, 95, 96, 317, 318, 319, 320, 39, 36, 25, 37, 40, 41, 267, 268, 269, 270, 241, 242, 243, 244, 245, 246, 97, 98, 99, 100, 512, 513, 514, 515, 516, 517, 518, 519, 520, 521, 522, 523, 524, 525] (by decide +kernel) (by decide +kernel)
set_option maxRecDepth 20000 in
theorem gL_law_X4_watcher : GoodIn wsL_law (wsV RL 121 RX4 yX4_watcher wsX4_watcher) := goodIn_app (goodIn_of _ (by decide +kernel)) ggL_law_X4_watcher
set_option maxRecDepth 20000 in
theorem ggL_law_L_sit : GoodIn wsL_law wsL_sit := goodIn_ca (goodIn_ca (goodIn_r _ [323, 48, 189, 324, 325, 326, 2, 327, 194, 195, 328, 21, 20, 329, 330, 331, 332, 333, 57, 58, 144, 71, 72, 334, 335, 336, 337, 11, 12, 338, 339, 502, 503, 504, 505, 506, 507, 508, 509, 510, 511, 532, 533] (by decide +kernel) (by decide +kernel)) (goodIn_sub (fun _ h => List.mem_append_right _ h) (by decide +kernel))) (goodIn_sub (fun _ h => List.mem_append_left _ (List.mem_append_left _ (List.mem_append_right _ h))) (by decide +kernel))
set_option maxRecDepth 20000 in
theorem gL_law_L_sit : GoodIn wsL_law (va_wsS RL 122 yL_sit wsL_sit) := goodIn_app (goodIn_of _ (by decide +kernel)) ggL_law_L_sit
set_option maxRecDepth 20000 in
theorem ggL_law_X4_sit : GoodIn wsL_law wsX4_sit := goodIn_r _ [343, 88, 344, 42, 43, 150, 151, 5, 152, 94, 95, 96, 97, 98, 99, 100, 512, 513, 514, 515, 516, 517, 518, 519, 520, 521, 522, 523, 524, 525] (by decide +kernel) (by decide +kernel)
set_option maxRecDepth 20000 in
theorem gL_law_X4_sit : GoodIn wsL_law (wsV RL 124 RX4 yX4_sit wsX4_sit) := goodIn_app (goodIn_of _ (by decide +kernel)) ggL_law_X4_sit
set_option maxRecDepth 20000 in
theorem ggL_law_L_fan : GoodIn wsL_law wsL_fan := goodIn_ca (goodIn_r _ [347, 48, 348, 349, 350, 2, 351, 352, 331, 332, 333, 57, 58, 144, 71, 72, 502, 503, 504, 505, 506, 507, 508, 509, 510, 511] (by decide +kernel) (by decide +kernel)) (goodIn_sub (fun _ h => List.mem_append_left _ (List.mem_append_left _ (List.mem_append_right _ h))) (by decide +kernel))
set_option maxRecDepth 20000 in
theorem gL_law_L_fan : GoodIn wsL_law (va_wsS RL 125 yL_fan wsL_fan) := goodIn_app (goodIn_of _ (by decide +kernel)) ggL_law_L_fan
set_option maxRecDepth 20000 in
theorem ggL_law_X4_fan : GoodIn wsL_law wsX4_fan := goodIn_r _ [356, 88, 357, 150, 151, 5, 152, 94, 95, 96, 97, 98, 99, 100, 512, 513, 514, 515, 516, 517, 518, 519, 520, 521, 522, 523, 524, 525] (by decide +kernel) (by decide +kernel)
set_option maxRecDepth 20000 in
theorem gL_law_X4_fan : GoodIn wsL_law (wsV RL 127 RX4 yX4_fan wsX4_fan) := goodIn_app (goodIn_of _ (by decide +kernel)) ggL_law_X4_fan
set_option maxRecDepth 20000 in
theorem ggL_law_L_take : GoodIn wsL_law wsL_take := goodIn_ca (goodIn_r _ [360, 134, 361, 362, 363, 2, 364, 352, 365, 16, 366, 367, 368, 369, 142, 143, 21, 370, 371, 372, 373, 80, 81, 82, 15, 83, 26, 71, 72, 532, 533, 502, 503, 504, 505, 506, 507, 508, 509, 510, 511, 526, 527] (by decide +kernel) (by decide +kernel)) (goodIn_sub (fun _ h => List.mem_append_left _ (List.mem_append_right _ h)) (by decide +kernel))
set_option maxRecDepth 20000 in
theorem gL_law_L_take : GoodIn wsL_law (va_wsS RL 128 yL_take wsL_take) := goodIn_app (goodIn_of _ (by decide +kernel)) ggL_law_L_take
set_option maxRecDepth 20000 in
theorem ggL_law_X4_take : GoodIn wsL_law wsX4_take := goodIn_r _ [377, 88, 43, 36, 42, 357, 378, 379, 380, 381, 5, 382, 344, 94, 95, 96, 97, 98, 99, 100, 512, 513, 514, 515, 516, 517, 518, 519, 520, 521, 522, 523, 524, 525] (by decide +kernel) (by decide +kernel)
set_option maxRecDepth 20000 in
theorem gL_law_X4_take : GoodIn wsL_law (wsV RL 130 RX4 yX4_take wsX4_take) := goodIn_app (goodIn_of _ (by decide +kernel)) ggL_law_X4_take
set_option maxRecDepth 20000 in
theorem ggL_law_L_force : GoodIn wsL_law wsL_force := goodIn_ca (goodIn_r _ [385, 134, 386, 387, 388, 2, 389, 16, 365, 366, 367, 368, 369, 142, 143, 21, 171, 172, 173, 144, 71, 72, 174, 175, 176, 15, 177, 26, 370, 371, 372, 373, 502, 503, 504, 505, 506, 507, 508, 509, 510, 511, 532, 533, 526, 527] (by decide +kernel) (by decide +kernel)) (goodIn_sub (fun _ h => List.mem_append_left _ (List.mem_append_right _ h)) (by decide +kernel))
set_option maxRecDepth 20000 in
theorem gL_law_L_force : GoodIn wsL_law (va_wsS RL 131 yL_force wsL_force) := goodIn_app (goodIn_of _ (by decide +kernel)) ggL_law_L_force
set_option maxRecDepth 20000 in
theorem ggL_law_X4_force : GoodIn wsL_law wsX4_force := goodIn_r _ [393, 88, 42, 378, 379, 380, 381, 5, 382, 344, 94, 95, 96, 150, 151, 152, 97, 98, 99, 100, 182, 183, 184, 185, 36, 394, 371, 372, 373, 512, 513, 514, 515, 516, 517, 518, 519, 520, 521, 522, 523, 524, 525] (by decide +kernel) (by decide +kernel)
set_option maxRecDepth 20000 in
theorem gL_law_X4_force : GoodIn wsL_law (wsV RL 133 RX4 yX4_force wsX4_force) := goodIn_app (goodIn_of _ (by decide +kernel)) ggL_law_X4_force
set_option maxRecDepth 20000 in
theorem ggL_law_L_took : GoodIn wsL_law wsL_took := goodIn_ca (goodIn_r _ [397, 134, 398, 399, 400, 2, 401, 366, 367, 368, 369, 142, 143, 21, 532, 533, 502, 503, 504, 505, 506, 507, 508, 509, 510, 511] (by decide +kernel) (by decide +kernel)) (goodIn_sub (fun _ h => List.mem_append_left _ (List.mem_append_right _ h)) (by decide +kernel))
set_option maxRecDepth 20000 in
theorem gL_law_L_took : GoodIn wsL_law (va_wsS RL 134 yL_took wsL_took) := goodIn_app (goodIn_of _ (by decide +kernel)) ggL_law_L_took
set_option maxRecDepth 20000 in
theorem ggL_law_X4_took : GoodIn wsL_law wsX4_took := goodIn_r _ [405, 88, 43, 379, 380, 381, 5, 382, 344, 94, 95, 96, 97, 98, 99, 100, 512, 513, 514, 515, 516, 517, 518, 519, 520, 521, 522, 523, 524, 525] (by decide +kernel) (by decide +kernel)
set_option maxRecDepth 20000 in
theorem gL_law_X4_took : GoodIn wsL_law (wsV RL 136 RX4 yX4_took wsX4_took) := goodIn_app (goodIn_of _ (by decide +kernel)) ggL_law_X4_took
set_option maxRecDepth 20000 in
theorem ggL_law_L_count : GoodIn wsL_law wsL_count := goodIn_ca (goodIn_r _ [408, 134, 409, 410, 411, 2, 412, 142, 143, 53, 125, 196, 328, 352, 365, 16, 413, 414, 415, 15, 416, 26, 502, 503, 504, 505, 506, 507, 508, 509, 510, 511, 526, 527] (by decide +kernel) (by decide +kernel)) (goodIn_sub (fun _ h => List.mem_append_left _ (List.mem_append_right _ h)) (by decide +kernel))
set_option maxRecDepth 20000 in
theorem gL_law_L_count : GoodIn wsL_law (va_wsS RL 137 yL_count wsL_count) := goodIn_app (goodIn_of _ (by decide +kernel)) ggL_law_L_count
set_option maxRecDepth 20000 in
theorem ggL_law_X4_count : GoodIn wsL_law wsX4_count := goodIn_r _ [420, 88, 94, 95, 5, 96, 421, 422, 423, 424, 36, 25, 90, 130, 89, 344, 357, 378, 97, 98, 99, 100, 512, 513, 514, 515, 516, 517, 518, 519, 520, 521, 522, 523, 524, 525] (by decide +kernel) (by decide +kernel)
set_option maxRecDepth 20000 in
theorem gL_law_X4_count : GoodIn wsL_law (wsV RL 139 RX4 yX4_count wsX4_count) := goodIn_app (goodIn_of _ (by decide +kernel)) ggL_law_X4_count
set_option maxRecDepth 20000 in
theorem ggL_law_L_back : GoodIn wsL_law wsL_back := goodIn_ca (goodIn_r _ [427, 48, 428, 429, 430, 2, 431, 17, 54, 55, 56, 57, 58, 59, 60, 61, 28, 29, 30, 15, 31, 26, 62, 63, 64, 65, 27, 66, 67, 68, 69, 70, 71, 72, 413, 414, 415, 416, 502, 503, 504, 505, 506, 507, 508, 509, 510, 511, 526, 527] (by decide +kernel) (by decide +kernel)) (goodIn_sub (fun _ h => List.mem_append_left _ (List.mem_append_left _ (List.mem_append_right _ h))) (by decide +kernel))
set_option maxRecDepth 20000 in
theorem gL_law_L_back : GoodIn wsL_law (va_wsS RL 140 yL_back wsL_back) := goodIn_app (goodIn_of _ (by decide +kernel)) ggL_law_L_back
set_option maxRecDepth 20000 in
theorem ggL_law_X4_back : GoodIn wsL_law wsX4_back := goodIn_r _ [435, 88, 91, 92, 5, 93, 94, 95, 96, 97, 98, 99, 100, 110, 111, 112, 113, 512, 513, 514, 515, 516, 517, 518, 519, 520, 521, 522, 523, 524, 525] (by decide +kernel) (by decide +kernel)
set_option maxRecDepth 20000 in
theorem gL_law_X4_back : GoodIn wsL_law (wsV RL 142 RX4 yX4_back wsX4_back) := goodIn_app (goodIn_of _ (by decide +kernel)) ggL_law_X4_back
set_option maxRecDepth 20000 in
theorem ggL_law_L_bring : GoodIn wsL_law wsL_bring := goodIn_ca (goodIn_r _ [438, 134, 439, 440, 441, 2, 442, 16, 171, 172, 173, 142, 143, 144, 71, 72, 139, 140, 141, 289, 231, 232, 174, 175, 176, 15, 177, 26, 443, 444, 445, 145, 66, 67, 68, 69, 70, 502, 503, 504, 505, 506, 507, 508, 509, 510, 511, 526, 527] (by decide +kernel) (by decide +kernel)) (goodIn_sub (fun _ h => List.mem_append_left _ (List.mem_append_right _ h)) (by decide +kernel))
set_option maxRecDepth 20000 in
theorem gL_law_L_bring : GoodIn wsL_law (va_wsS RL 143 yL_bring wsL_bring) := goodIn_app (goodIn_of _ (by decide +kernel)) ggL_law_L_bring
set_option maxRecDepth 20000 in
theorem ggL_law_X4_bring : GoodIn wsL_law wsX4_bring := goodIn_r _ [449, 88, 150, 151, 5, 152, 94, 95, 96, 97, 98, 99, 100, 182, 183, 184, 185, 36, 110, 111, 112, 113, 512, 513, 514, 515, 516, 517, 518, 519, 520, 521, 522, 523, 524, 525] (by decide +kernel) (by decide +kernel)
set_option maxRecDepth 20000 in
theorem gL_law_X4_bring : GoodIn wsL_law (wsV RL 145 RX4 yX4_bring wsX4_bring) := goodIn_app (goodIn_of _ (by decide +kernel)) ggL_law_X4_bring
set_option maxRecDepth 20000 in
theorem ggL_law_L_riffles : GoodIn wsL_law wsL_riffles := goodIn_ca (goodIn_r _ [452, 134, 453, 454, 455, 2, 456, 16, 171, 172, 173, 142, 143, 144, 71, 72, 139, 140, 141, 174, 175, 176, 15, 177, 26, 457, 458, 459, 145, 66, 67, 68, 69, 70, 502, 503, 504, 505, 506, 507, 508, 509, 510, 511, 526, 527] (by decide +kernel) (by decide +kernel)) (goodIn_sub (fun _ h => List.mem_append_left _ (List.mem_append_right _ h)) (by decide +kernel))
set_option maxRecDepth 20000 in
theorem gL_law_L_riffles : GoodIn wsL_law (va_wsS RL 146 yL_riffles wsL_riffles) := goodIn_app (goodIn_of _ (by decide +kernel)) ggL_law_L_riffles
set_option maxRecDepth 20000 in
theorem ggL_law_X4_riffles : GoodIn wsL_law wsX4_riffles := goodIn_r _ [463, 88, 25, 104, 105, 106, 107, 108, 109, 150, 151, 5, 152, 94, 95, 96, 97, 98, 99, 100, 182, 183, 184, 185, 36, 110, 111, 112, 113, 512, 513, 514, 515, 516, 517, 518, 519, 520, 521, 522, 523, 524, 525] (by decide +kernel) (by decide +kernel)
set_option maxRecDepth 20000 in
theorem gL_law_X4_riffles : GoodIn wsL_law (wsV RL 148 RX4 yX4_riffles wsX4_riffles) := goodIn_app (goodIn_of _ (by decide +kernel)) ggL_law_X4_riffles
set_option maxRecDepth 20000 in
theorem ggL_law_X3_mean : GoodIn wsL_law wsX3_mean := goodIn_r _ [467, 19, 196, 468, 469, 470, 76, 471, 78, 237, 81, 82, 15, 83, 26, 71, 2, 72, 472, 241, 242, 243, 244, 245, 246, 502, 503, 504, 505, 506, 507, 508, 509, 510, 511, 528, 529, 530, 531, 526, 527] (by decide +kernel) (by decide +kernel)
set_option maxRecDepth 20000 in
theorem gL_law_X3_mean : GoodIn wsL_law (wsV RL 149 RX3 yX3_mean wsX3_mean) := goodIn_app (goodIn_of _ (by decide +kernel)) ggL_law_X3_mean
set_option maxRecDepth 20000 in
theorem ggL_law_X4_mean : GoodIn wsL_law wsX4_mean := goodIn_r _ [476, 88, 89, 39, 270, 241, 242, 243, 244, 245, 246, 512, 513, 514, 515, 516, 517, 518, 519, 520, 521, 522, 523, 524, 525] (by decide +kernel) (by decide +kernel)
set_option maxRecDepth 20000 in
theorem gL_law_X4_mean : GoodIn wsL_law (wsV RL 153 RX4 yX4_mean wsX4_mean) := goodIn_app (goodIn_of _ (by decide +kernel)) ggL_law_X4_mean
set_option maxRecDepth 20000 in
theorem ggL_law_X3_digest : GoodIn wsL_law wsX3_digest := goodIn_ca (goodIn_r _ [480, 481, 16, 196, 21, 482, 410, 411, 2, 412, 142, 143, 53, 125, 328, 352, 365, 413, 414, 415, 15, 416, 26, 483, 484, 485, 486, 487, 488, 489, 490, 491, 492, 493, 494, 495, 298, 299, 300, 221, 222, 223, 224, 19, 301, 302, 303, 76, 304, 78, 237, 81, 82, 83, 71, 72, 231, 232, 305, 306, 307, 308, 238, 239, 240, 241, 242, 243, 244, 245, 246, 309, 310, 311, 312, 502, 503, 504, 505, 506, 507, 508, 509, 510, 511, 532, 533, 526, 527, 528, 529, 530, 531] (by decide +kernel) (by decide +kernel)) (goodIn_sub (fun _ h => List.mem_append_left _ (List.mem_append_right _ h)) (by decide +kernel))
set_option maxRecDepth 20000 in
theorem gL_law_X3_digest : GoodIn wsL_law (wsV RL 154 RX3 yX3_digest wsX3_digest) := goodIn_app (goodIn_of _ (by decide +kernel)) ggL_law_X3_digest
set_option maxRecDepth 20000 in
theorem ggL_law_X4_digest : GoodIn wsL_law wsX4_digest := goodIn_r _ [499, 88, 500, 501, 36, 89, 39, 344, 42, 43, 421, 422, 423, 5, 424, 25, 90, 130, 357, 378, 317, 318, 319, 320, 37, 40, 41, 267, 268, 269, 270, 241, 242, 243, 244, 245, 246, 512, 513, 514, 515, 516, 517, 518, 519, 520, 521, 522, 523, 524, 525] (by decide +kernel) (by decide +kernel)
set_option maxRecDepth 20000 in
theorem gL_law_X4_digest : GoodIn wsL_law (wsV RL 158 RX4 yX4_digest wsX4_digest) := goodIn_app (goodIn_of _ (by decide +kernel)) ggL_law_X4_digest
theorem dL_law_0 : decode cL_law 0 = .ok (.new 8, 3) := by decide +kernel
theorem dL_law_3 : decode cL_law 3 = .ok (.dup, 1) := by decide +kernel
theorem dL_law_4 : decode cL_law 4 = .ok (.invokespecial 77, 3) := by decide +kernel
theorem dL_law_7 : decode cL_law 7 = .ok (.astore_n 1, 1) := by decide +kernel
theorem dL_law_8 : decode cL_law 8 = .ok (.new 78, 3) := by decide +kernel
theorem dL_law_11 : decode cL_law 11 = .ok (.dup, 1) := by decide +kernel
theorem dL_law_12 : decode cL_law 12 = .ok (.invokespecial 80, 3) := by decide +kernel
theorem dL_law_15 : decode cL_law 15 = .ok (.astore_n 2, 1) := by decide +kernel
theorem dL_law_16 : decode cL_law 16 = .ok (.iconst 1, 1) := by decide +kernel
theorem dL_law_17 : decode cL_law 17 = .ok (.newarray .long, 2) := by decide +kernel
theorem dL_law_19 : decode cL_law 19 = .ok (.astore_n 3, 1) := by decide +kernel
theorem dL_law_20 : decode cL_law 20 = .ok (.iconst 0, 1) := by decide +kernel
theorem dL_law_21 : decode cL_law 21 = .ok (.istore 4, 2) := by decide +kernel
theorem dL_law_23 : decode cL_law 23 = .ok (.iload 4, 2) := by decide +kernel
theorem dL_law_25 : decode cL_law 25 = .ok (.aload_n 0, 1) := by decide +kernel
theorem dL_law_26 : decode cL_law 26 = .ok (.arraylength, 1) := by decide +kernel
theorem dL_law_27 : decode cL_law 27 = .ok (.iconst 4, 1) := by decide +kernel
theorem dL_law_28 : decode cL_law 28 = .ok (.isub, 1) := by decide +kernel
theorem dL_law_29 : decode cL_law 29 = .ok (.if_icmp .gt 1408, 3) := by decide +kernel
theorem dL_law_32 : decode cL_law 32 = .ok (.aload_n 0, 1) := by decide +kernel
theorem dL_law_33 : decode cL_law 33 = .ok (.iload 4, 2) := by decide +kernel
theorem dL_law_35 : decode cL_law 35 = .ok (.iaload, 1) := by decide +kernel
theorem dL_law_36 : decode cL_law 36 = .ok (.bipush 31, 2) := by decide +kernel
theorem dL_law_38 : decode cL_law 38 = .ok (.iand, 1) := by decide +kernel
theorem dL_law_39 : decode cL_law 39 = .ok (.tableswitch 1392 0 20 #[97, 193, 249, 329, 385, 441, 513, 581, 649, 717, 785, 841, 897, 953, 1021, 1077, 1133, 1201, 1269, 1337, 1378], 97) := by decide +kernel
theorem dL_law_136 : decode cL_law 136 = .ok (.aload_n 1, 1) := by decide +kernel
theorem dL_law_137 : decode cL_law 137 = .ok (.aload_n 0, 1) := by decide +kernel
theorem dL_law_138 : decode cL_law 138 = .ok (.iload 4, 2) := by decide +kernel
theorem dL_law_140 : decode cL_law 140 = .ok (.iconst 1, 1) := by decide +kernel
theorem dL_law_141 : decode cL_law 141 = .ok (.iadd, 1) := by decide +kernel
theorem dL_law_142 : decode cL_law 142 = .ok (.iaload, 1) := by decide +kernel
theorem dL_law_143 : decode cL_law 143 = .ok (.aload_n 0, 1) := by decide +kernel
theorem dL_law_144 : decode cL_law 144 = .ok (.iload 4, 2) := by decide +kernel
theorem dL_law_146 : decode cL_law 146 = .ok (.iconst 2, 1) := by decide +kernel
theorem dL_law_147 : decode cL_law 147 = .ok (.iadd, 1) := by decide +kernel
theorem dL_law_148 : decode cL_law 148 = .ok (.iaload, 1) := by decide +kernel
theorem dL_law_149 : decode cL_law 149 = .ok (.aload_n 0, 1) := by decide +kernel
theorem dL_law_150 : decode cL_law 150 = .ok (.iload 4, 2) := by decide +kernel
theorem dL_law_152 : decode cL_law 152 = .ok (.iconst 3, 1) := by decide +kernel
theorem dL_law_153 : decode cL_law 153 = .ok (.iadd, 1) := by decide +kernel
theorem dL_law_154 : decode cL_law 154 = .ok (.iaload, 1) := by decide +kernel
theorem dL_law_155 : decode cL_law 155 = .ok (.ifCond .eq 7, 3) := by decide +kernel
theorem dL_law_158 : decode cL_law 158 = .ok (.iconst 1, 1) := by decide +kernel
theorem dL_law_159 : decode cL_law 159 = .ok (.goto 4, 3) := by decide +kernel
theorem dL_law_162 : decode cL_law 162 = .ok (.iconst 0, 1) := by decide +kernel
theorem dL_law_163 : decode cL_law 163 = .ok (.aload_n 3, 1) := by decide +kernel
theorem dL_law_164 : decode cL_law 164 = .ok (.invokestatic 81, 3) := by decide +kernel
theorem dL_law_167 : decode cL_law 167 = .ok (.istore 5, 2) := by decide +kernel
theorem dL_law_169 : decode cL_law 169 = .ok (.aload_n 2, 1) := by decide +kernel
theorem dL_law_170 : decode cL_law 170 = .ok (.aload_n 0, 1) := by decide +kernel
theorem dL_law_171 : decode cL_law 171 = .ok (.iload 4, 2) := by decide +kernel
theorem dL_law_173 : decode cL_law 173 = .ok (.iconst 1, 1) := by decide +kernel
theorem dL_law_174 : decode cL_law 174 = .ok (.iadd, 1) := by decide +kernel
theorem dL_law_175 : decode cL_law 175 = .ok (.iaload, 1) := by decide +kernel
theorem dL_law_176 : decode cL_law 176 = .ok (.aload_n 0, 1) := by decide +kernel
theorem dL_law_177 : decode cL_law 177 = .ok (.iload 4, 2) := by decide +kernel
theorem dL_law_179 : decode cL_law 179 = .ok (.iconst 2, 1) := by decide +kernel
theorem dL_law_180 : decode cL_law 180 = .ok (.iadd, 1) := by decide +kernel
theorem dL_law_181 : decode cL_law 181 = .ok (.iaload, 1) := by decide +kernel
theorem dL_law_182 : decode cL_law 182 = .ok (.aload_n 0, 1) := by decide +kernel
theorem dL_law_183 : decode cL_law 183 = .ok (.iload 4, 2) := by decide +kernel
theorem dL_law_185 : decode cL_law 185 = .ok (.iconst 3, 1) := by decide +kernel
theorem dL_law_186 : decode cL_law 186 = .ok (.iadd, 1) := by decide +kernel
theorem dL_law_187 : decode cL_law 187 = .ok (.iaload, 1) := by decide +kernel
theorem dL_law_188 : decode cL_law 188 = .ok (.ifCond .eq 7, 3) := by decide +kernel
theorem dL_law_191 : decode cL_law 191 = .ok (.iconst 1, 1) := by decide +kernel
theorem dL_law_192 : decode cL_law 192 = .ok (.goto 4, 3) := by decide +kernel
theorem dL_law_195 : decode cL_law 195 = .ok (.iconst 0, 1) := by decide +kernel
theorem dL_law_196 : decode cL_law 196 = .ok (.invokevirtual 86, 3) := by decide +kernel
theorem dL_law_199 : decode cL_law 199 = .ok (.istore 6, 2) := by decide +kernel
theorem dL_law_201 : decode cL_law 201 = .ok (.aload_n 2, 1) := by decide +kernel
theorem dL_law_202 : decode cL_law 202 = .ok (.invokevirtual 87, 3) := by decide +kernel
theorem dL_law_205 : decode cL_law 205 = .ok (.iload 5, 2) := by decide +kernel
theorem dL_law_207 : decode cL_law 207 = .ok (.if_icmp .eq 5, 3) := by decide +kernel
theorem dL_law_210 : decode cL_law 210 = .ok (.iconst 0, 1) := by decide +kernel
theorem dL_law_211 : decode cL_law 211 = .ok (.ireturn, 1) := by decide +kernel
theorem dL_law_212 : decode cL_law 212 = .ok (.iload 5, 2) := by decide +kernel
theorem dL_law_214 : decode cL_law 214 = .ok (.ifCond .ne 15, 3) := by decide +kernel
theorem dL_law_217 : decode cL_law 217 = .ok (.aload_n 3, 1) := by decide +kernel
theorem dL_law_218 : decode cL_law 218 = .ok (.iconst 0, 1) := by decide +kernel
theorem dL_law_219 : decode cL_law 219 = .ok (.laload, 1) := by decide +kernel
theorem dL_law_220 : decode cL_law 220 = .ok (.iload 6, 2) := by decide +kernel
theorem dL_law_222 : decode cL_law 222 = .ok (.i2l, 1) := by decide +kernel
theorem dL_law_223 : decode cL_law 223 = .ok (.lcmp, 1) := by decide +kernel
theorem dL_law_224 : decode cL_law 224 = .ok (.ifCond .eq 5, 3) := by decide +kernel
theorem dL_law_227 : decode cL_law 227 = .ok (.iconst 0, 1) := by decide +kernel
theorem dL_law_228 : decode cL_law 228 = .ok (.ireturn, 1) := by decide +kernel
theorem dL_law_229 : decode cL_law 229 = .ok (.goto 1202, 3) := by decide +kernel
theorem dL_law_232 : decode cL_law 232 = .ok (.aload_n 1, 1) := by decide +kernel
theorem dL_law_233 : decode cL_law 233 = .ok (.aload_n 0, 1) := by decide +kernel
theorem dL_law_234 : decode cL_law 234 = .ok (.iload 4, 2) := by decide +kernel
theorem dL_law_236 : decode cL_law 236 = .ok (.iconst 1, 1) := by decide +kernel
theorem dL_law_237 : decode cL_law 237 = .ok (.iadd, 1) := by decide +kernel
theorem dL_law_238 : decode cL_law 238 = .ok (.iaload, 1) := by decide +kernel
theorem dL_law_239 : decode cL_law 239 = .ok (.aload_n 3, 1) := by decide +kernel
theorem dL_law_240 : decode cL_law 240 = .ok (.invokestatic 91, 3) := by decide +kernel
theorem dL_law_243 : decode cL_law 243 = .ok (.istore 5, 2) := by decide +kernel
theorem dL_law_245 : decode cL_law 245 = .ok (.aload_n 2, 1) := by decide +kernel
theorem dL_law_246 : decode cL_law 246 = .ok (.aload_n 0, 1) := by decide +kernel
theorem dL_law_247 : decode cL_law 247 = .ok (.iload 4, 2) := by decide +kernel
theorem dL_law_249 : decode cL_law 249 = .ok (.iconst 1, 1) := by decide +kernel
theorem dL_law_250 : decode cL_law 250 = .ok (.iadd, 1) := by decide +kernel
theorem dL_law_251 : decode cL_law 251 = .ok (.iaload, 1) := by decide +kernel
theorem dL_law_252 : decode cL_law 252 = .ok (.invokevirtual 94, 3) := by decide +kernel
theorem dL_law_255 : decode cL_law 255 = .ok (.istore 6, 2) := by decide +kernel
theorem dL_law_257 : decode cL_law 257 = .ok (.aload_n 2, 1) := by decide +kernel
theorem dL_law_258 : decode cL_law 258 = .ok (.invokevirtual 87, 3) := by decide +kernel
theorem dL_law_261 : decode cL_law 261 = .ok (.iload 5, 2) := by decide +kernel
theorem dL_law_263 : decode cL_law 263 = .ok (.if_icmp .eq 5, 3) := by decide +kernel
theorem dL_law_266 : decode cL_law 266 = .ok (.iconst 0, 1) := by decide +kernel
theorem dL_law_267 : decode cL_law 267 = .ok (.ireturn, 1) := by decide +kernel
theorem dL_law_268 : decode cL_law 268 = .ok (.iload 5, 2) := by decide +kernel
theorem dL_law_270 : decode cL_law 270 = .ok (.ifCond .ne 15, 3) := by decide +kernel
theorem dL_law_273 : decode cL_law 273 = .ok (.aload_n 3, 1) := by decide +kernel
theorem dL_law_274 : decode cL_law 274 = .ok (.iconst 0, 1) := by decide +kernel
theorem dL_law_275 : decode cL_law 275 = .ok (.laload, 1) := by decide +kernel
theorem dL_law_276 : decode cL_law 276 = .ok (.iload 6, 2) := by decide +kernel
theorem dL_law_278 : decode cL_law 278 = .ok (.i2l, 1) := by decide +kernel
theorem dL_law_279 : decode cL_law 279 = .ok (.lcmp, 1) := by decide +kernel
theorem dL_law_280 : decode cL_law 280 = .ok (.ifCond .eq 5, 3) := by decide +kernel
theorem dL_law_283 : decode cL_law 283 = .ok (.iconst 0, 1) := by decide +kernel
theorem dL_law_284 : decode cL_law 284 = .ok (.ireturn, 1) := by decide +kernel
theorem dL_law_285 : decode cL_law 285 = .ok (.goto 1146, 3) := by decide +kernel
theorem dL_law_288 : decode cL_law 288 = .ok (.aload_n 1, 1) := by decide +kernel
theorem dL_law_289 : decode cL_law 289 = .ok (.aload_n 0, 1) := by decide +kernel
theorem dL_law_290 : decode cL_law 290 = .ok (.iload 4, 2) := by decide +kernel
theorem dL_law_292 : decode cL_law 292 = .ok (.iconst 1, 1) := by decide +kernel
theorem dL_law_293 : decode cL_law 293 = .ok (.iadd, 1) := by decide +kernel
theorem dL_law_294 : decode cL_law 294 = .ok (.iaload, 1) := by decide +kernel
theorem dL_law_295 : decode cL_law 295 = .ok (.aload_n 0, 1) := by decide +kernel
theorem dL_law_296 : decode cL_law 296 = .ok (.iload 4, 2) := by decide +kernel
theorem dL_law_298 : decode cL_law 298 = .ok (.iconst 2, 1) := by decide +kernel
theorem dL_law_299 : decode cL_law 299 = .ok (.iadd, 1) := by decide +kernel
theorem dL_law_300 : decode cL_law 300 = .ok (.iaload, 1) := by decide +kernel
theorem dL_law_301 : decode cL_law 301 = .ok (.aload_n 0, 1) := by decide +kernel
theorem dL_law_302 : decode cL_law 302 = .ok (.iload 4, 2) := by decide +kernel
theorem dL_law_304 : decode cL_law 304 = .ok (.iconst 3, 1) := by decide +kernel
theorem dL_law_305 : decode cL_law 305 = .ok (.iadd, 1) := by decide +kernel
theorem dL_law_306 : decode cL_law 306 = .ok (.iaload, 1) := by decide +kernel
theorem dL_law_307 : decode cL_law 307 = .ok (.aload_n 3, 1) := by decide +kernel
theorem dL_law_308 : decode cL_law 308 = .ok (.invokestatic 95, 3) := by decide +kernel
theorem dL_law_311 : decode cL_law 311 = .ok (.istore 5, 2) := by decide +kernel
theorem dL_law_313 : decode cL_law 313 = .ok (.aload_n 2, 1) := by decide +kernel
theorem dL_law_314 : decode cL_law 314 = .ok (.aload_n 0, 1) := by decide +kernel
theorem dL_law_315 : decode cL_law 315 = .ok (.iload 4, 2) := by decide +kernel
theorem dL_law_317 : decode cL_law 317 = .ok (.iconst 1, 1) := by decide +kernel
theorem dL_law_318 : decode cL_law 318 = .ok (.iadd, 1) := by decide +kernel
theorem dL_law_319 : decode cL_law 319 = .ok (.iaload, 1) := by decide +kernel
theorem dL_law_320 : decode cL_law 320 = .ok (.aload_n 0, 1) := by decide +kernel
theorem dL_law_321 : decode cL_law 321 = .ok (.iload 4, 2) := by decide +kernel
theorem dL_law_323 : decode cL_law 323 = .ok (.iconst 2, 1) := by decide +kernel
theorem dL_law_324 : decode cL_law 324 = .ok (.iadd, 1) := by decide +kernel
theorem dL_law_325 : decode cL_law 325 = .ok (.iaload, 1) := by decide +kernel
theorem dL_law_326 : decode cL_law 326 = .ok (.aload_n 0, 1) := by decide +kernel
theorem dL_law_327 : decode cL_law 327 = .ok (.iload 4, 2) := by decide +kernel
theorem dL_law_329 : decode cL_law 329 = .ok (.iconst 3, 1) := by decide +kernel
theorem dL_law_330 : decode cL_law 330 = .ok (.iadd, 1) := by decide +kernel
theorem dL_law_331 : decode cL_law 331 = .ok (.iaload, 1) := by decide +kernel
theorem dL_law_332 : decode cL_law 332 = .ok (.invokevirtual 98, 3) := by decide +kernel
theorem dL_law_335 : decode cL_law 335 = .ok (.istore 6, 2) := by decide +kernel
theorem dL_law_337 : decode cL_law 337 = .ok (.aload_n 2, 1) := by decide +kernel
theorem dL_law_338 : decode cL_law 338 = .ok (.invokevirtual 87, 3) := by decide +kernel
theorem dL_law_341 : decode cL_law 341 = .ok (.iload 5, 2) := by decide +kernel
theorem dL_law_343 : decode cL_law 343 = .ok (.if_icmp .eq 5, 3) := by decide +kernel
theorem dL_law_346 : decode cL_law 346 = .ok (.iconst 0, 1) := by decide +kernel
theorem dL_law_347 : decode cL_law 347 = .ok (.ireturn, 1) := by decide +kernel
theorem dL_law_348 : decode cL_law 348 = .ok (.iload 5, 2) := by decide +kernel
theorem dL_law_350 : decode cL_law 350 = .ok (.ifCond .ne 15, 3) := by decide +kernel
theorem dL_law_353 : decode cL_law 353 = .ok (.aload_n 3, 1) := by decide +kernel
theorem dL_law_354 : decode cL_law 354 = .ok (.iconst 0, 1) := by decide +kernel
theorem dL_law_355 : decode cL_law 355 = .ok (.laload, 1) := by decide +kernel
theorem dL_law_356 : decode cL_law 356 = .ok (.iload 6, 2) := by decide +kernel
theorem dL_law_358 : decode cL_law 358 = .ok (.i2l, 1) := by decide +kernel
theorem dL_law_359 : decode cL_law 359 = .ok (.lcmp, 1) := by decide +kernel
theorem dL_law_360 : decode cL_law 360 = .ok (.ifCond .eq 5, 3) := by decide +kernel
theorem dL_law_363 : decode cL_law 363 = .ok (.iconst 0, 1) := by decide +kernel
theorem dL_law_364 : decode cL_law 364 = .ok (.ireturn, 1) := by decide +kernel
theorem dL_law_365 : decode cL_law 365 = .ok (.goto 1066, 3) := by decide +kernel
theorem dL_law_368 : decode cL_law 368 = .ok (.aload_n 1, 1) := by decide +kernel
theorem dL_law_369 : decode cL_law 369 = .ok (.aload_n 0, 1) := by decide +kernel
theorem dL_law_370 : decode cL_law 370 = .ok (.iload 4, 2) := by decide +kernel
theorem dL_law_372 : decode cL_law 372 = .ok (.iconst 1, 1) := by decide +kernel
theorem dL_law_373 : decode cL_law 373 = .ok (.iadd, 1) := by decide +kernel
theorem dL_law_374 : decode cL_law 374 = .ok (.iaload, 1) := by decide +kernel
theorem dL_law_375 : decode cL_law 375 = .ok (.aload_n 3, 1) := by decide +kernel
theorem dL_law_376 : decode cL_law 376 = .ok (.invokestatic 99, 3) := by decide +kernel
theorem dL_law_379 : decode cL_law 379 = .ok (.istore 5, 2) := by decide +kernel
theorem dL_law_381 : decode cL_law 381 = .ok (.aload_n 2, 1) := by decide +kernel
theorem dL_law_382 : decode cL_law 382 = .ok (.aload_n 0, 1) := by decide +kernel
theorem dL_law_383 : decode cL_law 383 = .ok (.iload 4, 2) := by decide +kernel
theorem dL_law_385 : decode cL_law 385 = .ok (.iconst 1, 1) := by decide +kernel
theorem dL_law_386 : decode cL_law 386 = .ok (.iadd, 1) := by decide +kernel
theorem dL_law_387 : decode cL_law 387 = .ok (.iaload, 1) := by decide +kernel
theorem dL_law_388 : decode cL_law 388 = .ok (.invokevirtual 101, 3) := by decide +kernel
theorem dL_law_391 : decode cL_law 391 = .ok (.istore 6, 2) := by decide +kernel
theorem dL_law_393 : decode cL_law 393 = .ok (.aload_n 2, 1) := by decide +kernel
theorem dL_law_394 : decode cL_law 394 = .ok (.invokevirtual 87, 3) := by decide +kernel
theorem dL_law_397 : decode cL_law 397 = .ok (.iload 5, 2) := by decide +kernel
theorem dL_law_399 : decode cL_law 399 = .ok (.if_icmp .eq 5, 3) := by decide +kernel
theorem dL_law_402 : decode cL_law 402 = .ok (.iconst 0, 1) := by decide +kernel
theorem dL_law_403 : decode cL_law 403 = .ok (.ireturn, 1) := by decide +kernel
theorem dL_law_404 : decode cL_law 404 = .ok (.iload 5, 2) := by decide +kernel
theorem dL_law_406 : decode cL_law 406 = .ok (.ifCond .ne 15, 3) := by decide +kernel
theorem dL_law_409 : decode cL_law 409 = .ok (.aload_n 3, 1) := by decide +kernel
theorem dL_law_410 : decode cL_law 410 = .ok (.iconst 0, 1) := by decide +kernel
theorem dL_law_411 : decode cL_law 411 = .ok (.laload, 1) := by decide +kernel
theorem dL_law_412 : decode cL_law 412 = .ok (.iload 6, 2) := by decide +kernel
theorem dL_law_414 : decode cL_law 414 = .ok (.i2l, 1) := by decide +kernel
theorem dL_law_415 : decode cL_law 415 = .ok (.lcmp, 1) := by decide +kernel
theorem dL_law_416 : decode cL_law 416 = .ok (.ifCond .eq 5, 3) := by decide +kernel
theorem dL_law_419 : decode cL_law 419 = .ok (.iconst 0, 1) := by decide +kernel
theorem dL_law_420 : decode cL_law 420 = .ok (.ireturn, 1) := by decide +kernel
theorem dL_law_421 : decode cL_law 421 = .ok (.goto 1010, 3) := by decide +kernel
theorem dL_law_424 : decode cL_law 424 = .ok (.aload_n 1, 1) := by decide +kernel
theorem dL_law_425 : decode cL_law 425 = .ok (.aload_n 0, 1) := by decide +kernel
theorem dL_law_426 : decode cL_law 426 = .ok (.iload 4, 2) := by decide +kernel
theorem dL_law_428 : decode cL_law 428 = .ok (.iconst 1, 1) := by decide +kernel
theorem dL_law_429 : decode cL_law 429 = .ok (.iadd, 1) := by decide +kernel
theorem dL_law_430 : decode cL_law 430 = .ok (.iaload, 1) := by decide +kernel
theorem dL_law_431 : decode cL_law 431 = .ok (.aload_n 3, 1) := by decide +kernel
theorem dL_law_432 : decode cL_law 432 = .ok (.invokestatic 102, 3) := by decide +kernel
theorem dL_law_435 : decode cL_law 435 = .ok (.istore 5, 2) := by decide +kernel
theorem dL_law_437 : decode cL_law 437 = .ok (.aload_n 2, 1) := by decide +kernel
theorem dL_law_438 : decode cL_law 438 = .ok (.aload_n 0, 1) := by decide +kernel
theorem dL_law_439 : decode cL_law 439 = .ok (.iload 4, 2) := by decide +kernel
theorem dL_law_441 : decode cL_law 441 = .ok (.iconst 1, 1) := by decide +kernel
theorem dL_law_442 : decode cL_law 442 = .ok (.iadd, 1) := by decide +kernel
theorem dL_law_443 : decode cL_law 443 = .ok (.iaload, 1) := by decide +kernel
theorem dL_law_444 : decode cL_law 444 = .ok (.invokevirtual 104, 3) := by decide +kernel
theorem dL_law_447 : decode cL_law 447 = .ok (.istore 6, 2) := by decide +kernel
theorem dL_law_449 : decode cL_law 449 = .ok (.aload_n 2, 1) := by decide +kernel
theorem dL_law_450 : decode cL_law 450 = .ok (.invokevirtual 87, 3) := by decide +kernel
theorem dL_law_453 : decode cL_law 453 = .ok (.iload 5, 2) := by decide +kernel
theorem dL_law_455 : decode cL_law 455 = .ok (.if_icmp .eq 5, 3) := by decide +kernel
theorem dL_law_458 : decode cL_law 458 = .ok (.iconst 0, 1) := by decide +kernel
theorem dL_law_459 : decode cL_law 459 = .ok (.ireturn, 1) := by decide +kernel
theorem dL_law_460 : decode cL_law 460 = .ok (.iload 5, 2) := by decide +kernel
theorem dL_law_462 : decode cL_law 462 = .ok (.ifCond .ne 15, 3) := by decide +kernel
theorem dL_law_465 : decode cL_law 465 = .ok (.aload_n 3, 1) := by decide +kernel
theorem dL_law_466 : decode cL_law 466 = .ok (.iconst 0, 1) := by decide +kernel
theorem dL_law_467 : decode cL_law 467 = .ok (.laload, 1) := by decide +kernel
theorem dL_law_468 : decode cL_law 468 = .ok (.iload 6, 2) := by decide +kernel
theorem dL_law_470 : decode cL_law 470 = .ok (.i2l, 1) := by decide +kernel
theorem dL_law_471 : decode cL_law 471 = .ok (.lcmp, 1) := by decide +kernel
theorem dL_law_472 : decode cL_law 472 = .ok (.ifCond .eq 5, 3) := by decide +kernel
theorem dL_law_475 : decode cL_law 475 = .ok (.iconst 0, 1) := by decide +kernel
theorem dL_law_476 : decode cL_law 476 = .ok (.ireturn, 1) := by decide +kernel
theorem dL_law_477 : decode cL_law 477 = .ok (.goto 954, 3) := by decide +kernel
theorem dL_law_480 : decode cL_law 480 = .ok (.aload_n 1, 1) := by decide +kernel
theorem dL_law_481 : decode cL_law 481 = .ok (.aload_n 0, 1) := by decide +kernel
theorem dL_law_482 : decode cL_law 482 = .ok (.iload 4, 2) := by decide +kernel
theorem dL_law_484 : decode cL_law 484 = .ok (.iconst 1, 1) := by decide +kernel
theorem dL_law_485 : decode cL_law 485 = .ok (.iadd, 1) := by decide +kernel
theorem dL_law_486 : decode cL_law 486 = .ok (.iaload, 1) := by decide +kernel
theorem dL_law_487 : decode cL_law 487 = .ok (.ifCond .eq 7, 3) := by decide +kernel
theorem dL_law_490 : decode cL_law 490 = .ok (.iconst 1, 1) := by decide +kernel
theorem dL_law_491 : decode cL_law 491 = .ok (.goto 4, 3) := by decide +kernel
theorem dL_law_494 : decode cL_law 494 = .ok (.iconst 0, 1) := by decide +kernel
theorem dL_law_495 : decode cL_law 495 = .ok (.aload_n 3, 1) := by decide +kernel
theorem dL_law_496 : decode cL_law 496 = .ok (.invokestatic 105, 3) := by decide +kernel
theorem dL_law_499 : decode cL_law 499 = .ok (.istore 5, 2) := by decide +kernel
theorem dL_law_501 : decode cL_law 501 = .ok (.aload_n 2, 1) := by decide +kernel
theorem dL_law_502 : decode cL_law 502 = .ok (.aload_n 0, 1) := by decide +kernel
theorem dL_law_503 : decode cL_law 503 = .ok (.iload 4, 2) := by decide +kernel
theorem dL_law_505 : decode cL_law 505 = .ok (.iconst 1, 1) := by decide +kernel
theorem dL_law_506 : decode cL_law 506 = .ok (.iadd, 1) := by decide +kernel
theorem dL_law_507 : decode cL_law 507 = .ok (.iaload, 1) := by decide +kernel
theorem dL_law_508 : decode cL_law 508 = .ok (.ifCond .eq 7, 3) := by decide +kernel
theorem dL_law_511 : decode cL_law 511 = .ok (.iconst 1, 1) := by decide +kernel
theorem dL_law_512 : decode cL_law 512 = .ok (.goto 4, 3) := by decide +kernel
theorem dL_law_515 : decode cL_law 515 = .ok (.iconst 0, 1) := by decide +kernel
theorem dL_law_516 : decode cL_law 516 = .ok (.invokevirtual 108, 3) := by decide +kernel
theorem dL_law_519 : decode cL_law 519 = .ok (.istore 6, 2) := by decide +kernel
theorem dL_law_521 : decode cL_law 521 = .ok (.aload_n 2, 1) := by decide +kernel
theorem dL_law_522 : decode cL_law 522 = .ok (.invokevirtual 87, 3) := by decide +kernel
theorem dL_law_525 : decode cL_law 525 = .ok (.iload 5, 2) := by decide +kernel
theorem dL_law_527 : decode cL_law 527 = .ok (.if_icmp .eq 5, 3) := by decide +kernel
theorem dL_law_530 : decode cL_law 530 = .ok (.iconst 0, 1) := by decide +kernel
theorem dL_law_531 : decode cL_law 531 = .ok (.ireturn, 1) := by decide +kernel
theorem dL_law_532 : decode cL_law 532 = .ok (.iload 5, 2) := by decide +kernel
theorem dL_law_534 : decode cL_law 534 = .ok (.ifCond .ne 15, 3) := by decide +kernel
theorem dL_law_537 : decode cL_law 537 = .ok (.aload_n 3, 1) := by decide +kernel
theorem dL_law_538 : decode cL_law 538 = .ok (.iconst 0, 1) := by decide +kernel
theorem dL_law_539 : decode cL_law 539 = .ok (.laload, 1) := by decide +kernel
theorem dL_law_540 : decode cL_law 540 = .ok (.iload 6, 2) := by decide +kernel
theorem dL_law_542 : decode cL_law 542 = .ok (.i2l, 1) := by decide +kernel
theorem dL_law_543 : decode cL_law 543 = .ok (.lcmp, 1) := by decide +kernel
theorem dL_law_544 : decode cL_law 544 = .ok (.ifCond .eq 5, 3) := by decide +kernel
theorem dL_law_547 : decode cL_law 547 = .ok (.iconst 0, 1) := by decide +kernel
theorem dL_law_548 : decode cL_law 548 = .ok (.ireturn, 1) := by decide +kernel
theorem dL_law_549 : decode cL_law 549 = .ok (.goto 882, 3) := by decide +kernel
theorem dL_law_552 : decode cL_law 552 = .ok (.aload_n 1, 1) := by decide +kernel
theorem dL_law_553 : decode cL_law 553 = .ok (.aload_n 0, 1) := by decide +kernel
theorem dL_law_554 : decode cL_law 554 = .ok (.iload 4, 2) := by decide +kernel
theorem dL_law_556 : decode cL_law 556 = .ok (.iconst 1, 1) := by decide +kernel
theorem dL_law_557 : decode cL_law 557 = .ok (.iadd, 1) := by decide +kernel
theorem dL_law_558 : decode cL_law 558 = .ok (.iaload, 1) := by decide +kernel
theorem dL_law_559 : decode cL_law 559 = .ok (.aload_n 0, 1) := by decide +kernel
theorem dL_law_560 : decode cL_law 560 = .ok (.iload 4, 2) := by decide +kernel
theorem dL_law_562 : decode cL_law 562 = .ok (.iconst 2, 1) := by decide +kernel
theorem dL_law_563 : decode cL_law 563 = .ok (.iadd, 1) := by decide +kernel
theorem dL_law_564 : decode cL_law 564 = .ok (.iaload, 1) := by decide +kernel
theorem dL_law_565 : decode cL_law 565 = .ok (.aload_n 3, 1) := by decide +kernel
theorem dL_law_566 : decode cL_law 566 = .ok (.invokestatic 109, 3) := by decide +kernel
theorem dL_law_569 : decode cL_law 569 = .ok (.istore 5, 2) := by decide +kernel
theorem dL_law_571 : decode cL_law 571 = .ok (.aload_n 2, 1) := by decide +kernel
theorem dL_law_572 : decode cL_law 572 = .ok (.aload_n 0, 1) := by decide +kernel
theorem dL_law_573 : decode cL_law 573 = .ok (.iload 4, 2) := by decide +kernel
theorem dL_law_575 : decode cL_law 575 = .ok (.iconst 1, 1) := by decide +kernel
theorem dL_law_576 : decode cL_law 576 = .ok (.iadd, 1) := by decide +kernel
theorem dL_law_577 : decode cL_law 577 = .ok (.iaload, 1) := by decide +kernel
theorem dL_law_578 : decode cL_law 578 = .ok (.aload_n 0, 1) := by decide +kernel
theorem dL_law_579 : decode cL_law 579 = .ok (.iload 4, 2) := by decide +kernel
theorem dL_law_581 : decode cL_law 581 = .ok (.iconst 2, 1) := by decide +kernel
theorem dL_law_582 : decode cL_law 582 = .ok (.iadd, 1) := by decide +kernel
theorem dL_law_583 : decode cL_law 583 = .ok (.iaload, 1) := by decide +kernel
theorem dL_law_584 : decode cL_law 584 = .ok (.invokevirtual 112, 3) := by decide +kernel
theorem dL_law_587 : decode cL_law 587 = .ok (.istore 6, 2) := by decide +kernel
theorem dL_law_589 : decode cL_law 589 = .ok (.aload_n 2, 1) := by decide +kernel
theorem dL_law_590 : decode cL_law 590 = .ok (.invokevirtual 87, 3) := by decide +kernel
theorem dL_law_593 : decode cL_law 593 = .ok (.iload 5, 2) := by decide +kernel
theorem dL_law_595 : decode cL_law 595 = .ok (.if_icmp .eq 5, 3) := by decide +kernel
theorem dL_law_598 : decode cL_law 598 = .ok (.iconst 0, 1) := by decide +kernel
theorem dL_law_599 : decode cL_law 599 = .ok (.ireturn, 1) := by decide +kernel
theorem dL_law_600 : decode cL_law 600 = .ok (.iload 5, 2) := by decide +kernel
theorem dL_law_602 : decode cL_law 602 = .ok (.ifCond .ne 15, 3) := by decide +kernel
theorem dL_law_605 : decode cL_law 605 = .ok (.aload_n 3, 1) := by decide +kernel
theorem dL_law_606 : decode cL_law 606 = .ok (.iconst 0, 1) := by decide +kernel
theorem dL_law_607 : decode cL_law 607 = .ok (.laload, 1) := by decide +kernel
theorem dL_law_608 : decode cL_law 608 = .ok (.iload 6, 2) := by decide +kernel
theorem dL_law_610 : decode cL_law 610 = .ok (.i2l, 1) := by decide +kernel
theorem dL_law_611 : decode cL_law 611 = .ok (.lcmp, 1) := by decide +kernel
theorem dL_law_612 : decode cL_law 612 = .ok (.ifCond .eq 5, 3) := by decide +kernel
theorem dL_law_615 : decode cL_law 615 = .ok (.iconst 0, 1) := by decide +kernel
theorem dL_law_616 : decode cL_law 616 = .ok (.ireturn, 1) := by decide +kernel
theorem dL_law_617 : decode cL_law 617 = .ok (.goto 814, 3) := by decide +kernel
theorem dL_law_620 : decode cL_law 620 = .ok (.aload_n 1, 1) := by decide +kernel
theorem dL_law_621 : decode cL_law 621 = .ok (.aload_n 0, 1) := by decide +kernel
theorem dL_law_622 : decode cL_law 622 = .ok (.iload 4, 2) := by decide +kernel
theorem dL_law_624 : decode cL_law 624 = .ok (.iconst 1, 1) := by decide +kernel
theorem dL_law_625 : decode cL_law 625 = .ok (.iadd, 1) := by decide +kernel
theorem dL_law_626 : decode cL_law 626 = .ok (.iaload, 1) := by decide +kernel
theorem dL_law_627 : decode cL_law 627 = .ok (.aload_n 0, 1) := by decide +kernel
theorem dL_law_628 : decode cL_law 628 = .ok (.iload 4, 2) := by decide +kernel
theorem dL_law_630 : decode cL_law 630 = .ok (.iconst 2, 1) := by decide +kernel
theorem dL_law_631 : decode cL_law 631 = .ok (.iadd, 1) := by decide +kernel
theorem dL_law_632 : decode cL_law 632 = .ok (.iaload, 1) := by decide +kernel
theorem dL_law_633 : decode cL_law 633 = .ok (.aload_n 3, 1) := by decide +kernel
theorem dL_law_634 : decode cL_law 634 = .ok (.invokestatic 113, 3) := by decide +kernel
theorem dL_law_637 : decode cL_law 637 = .ok (.istore 5, 2) := by decide +kernel
theorem dL_law_639 : decode cL_law 639 = .ok (.aload_n 2, 1) := by decide +kernel
theorem dL_law_640 : decode cL_law 640 = .ok (.aload_n 0, 1) := by decide +kernel
theorem dL_law_641 : decode cL_law 641 = .ok (.iload 4, 2) := by decide +kernel
theorem dL_law_643 : decode cL_law 643 = .ok (.iconst 1, 1) := by decide +kernel
theorem dL_law_644 : decode cL_law 644 = .ok (.iadd, 1) := by decide +kernel
theorem dL_law_645 : decode cL_law 645 = .ok (.iaload, 1) := by decide +kernel
theorem dL_law_646 : decode cL_law 646 = .ok (.aload_n 0, 1) := by decide +kernel
theorem dL_law_647 : decode cL_law 647 = .ok (.iload 4, 2) := by decide +kernel
theorem dL_law_649 : decode cL_law 649 = .ok (.iconst 2, 1) := by decide +kernel
theorem dL_law_650 : decode cL_law 650 = .ok (.iadd, 1) := by decide +kernel
theorem dL_law_651 : decode cL_law 651 = .ok (.iaload, 1) := by decide +kernel
theorem dL_law_652 : decode cL_law 652 = .ok (.invokevirtual 115, 3) := by decide +kernel
theorem dL_law_655 : decode cL_law 655 = .ok (.istore 6, 2) := by decide +kernel
theorem dL_law_657 : decode cL_law 657 = .ok (.aload_n 2, 1) := by decide +kernel
theorem dL_law_658 : decode cL_law 658 = .ok (.invokevirtual 87, 3) := by decide +kernel
theorem dL_law_661 : decode cL_law 661 = .ok (.iload 5, 2) := by decide +kernel
theorem dL_law_663 : decode cL_law 663 = .ok (.if_icmp .eq 5, 3) := by decide +kernel
theorem dL_law_666 : decode cL_law 666 = .ok (.iconst 0, 1) := by decide +kernel
theorem dL_law_667 : decode cL_law 667 = .ok (.ireturn, 1) := by decide +kernel
theorem dL_law_668 : decode cL_law 668 = .ok (.iload 5, 2) := by decide +kernel
theorem dL_law_670 : decode cL_law 670 = .ok (.ifCond .ne 15, 3) := by decide +kernel
theorem dL_law_673 : decode cL_law 673 = .ok (.aload_n 3, 1) := by decide +kernel
theorem dL_law_674 : decode cL_law 674 = .ok (.iconst 0, 1) := by decide +kernel
theorem dL_law_675 : decode cL_law 675 = .ok (.laload, 1) := by decide +kernel
theorem dL_law_676 : decode cL_law 676 = .ok (.iload 6, 2) := by decide +kernel
theorem dL_law_678 : decode cL_law 678 = .ok (.i2l, 1) := by decide +kernel
theorem dL_law_679 : decode cL_law 679 = .ok (.lcmp, 1) := by decide +kernel
theorem dL_law_680 : decode cL_law 680 = .ok (.ifCond .eq 5, 3) := by decide +kernel
theorem dL_law_683 : decode cL_law 683 = .ok (.iconst 0, 1) := by decide +kernel
theorem dL_law_684 : decode cL_law 684 = .ok (.ireturn, 1) := by decide +kernel
theorem dL_law_685 : decode cL_law 685 = .ok (.goto 746, 3) := by decide +kernel
theorem dL_law_688 : decode cL_law 688 = .ok (.aload_n 1, 1) := by decide +kernel
theorem dL_law_689 : decode cL_law 689 = .ok (.aload_n 0, 1) := by decide +kernel
theorem dL_law_690 : decode cL_law 690 = .ok (.iload 4, 2) := by decide +kernel
theorem dL_law_692 : decode cL_law 692 = .ok (.iconst 1, 1) := by decide +kernel
theorem dL_law_693 : decode cL_law 693 = .ok (.iadd, 1) := by decide +kernel
theorem dL_law_694 : decode cL_law 694 = .ok (.iaload, 1) := by decide +kernel
theorem dL_law_695 : decode cL_law 695 = .ok (.aload_n 0, 1) := by decide +kernel
theorem dL_law_696 : decode cL_law 696 = .ok (.iload 4, 2) := by decide +kernel
theorem dL_law_698 : decode cL_law 698 = .ok (.iconst 2, 1) := by decide +kernel
theorem dL_law_699 : decode cL_law 699 = .ok (.iadd, 1) := by decide +kernel
theorem dL_law_700 : decode cL_law 700 = .ok (.iaload, 1) := by decide +kernel
theorem dL_law_701 : decode cL_law 701 = .ok (.aload_n 3, 1) := by decide +kernel
theorem dL_law_702 : decode cL_law 702 = .ok (.invokestatic 116, 3) := by decide +kernel
theorem dL_law_705 : decode cL_law 705 = .ok (.istore 5, 2) := by decide +kernel
theorem dL_law_707 : decode cL_law 707 = .ok (.aload_n 2, 1) := by decide +kernel
theorem dL_law_708 : decode cL_law 708 = .ok (.aload_n 0, 1) := by decide +kernel
theorem dL_law_709 : decode cL_law 709 = .ok (.iload 4, 2) := by decide +kernel
theorem dL_law_711 : decode cL_law 711 = .ok (.iconst 1, 1) := by decide +kernel
theorem dL_law_712 : decode cL_law 712 = .ok (.iadd, 1) := by decide +kernel
theorem dL_law_713 : decode cL_law 713 = .ok (.iaload, 1) := by decide +kernel
theorem dL_law_714 : decode cL_law 714 = .ok (.aload_n 0, 1) := by decide +kernel
theorem dL_law_715 : decode cL_law 715 = .ok (.iload 4, 2) := by decide +kernel
theorem dL_law_717 : decode cL_law 717 = .ok (.iconst 2, 1) := by decide +kernel
theorem dL_law_718 : decode cL_law 718 = .ok (.iadd, 1) := by decide +kernel
theorem dL_law_719 : decode cL_law 719 = .ok (.iaload, 1) := by decide +kernel
theorem dL_law_720 : decode cL_law 720 = .ok (.invokevirtual 118, 3) := by decide +kernel
theorem dL_law_723 : decode cL_law 723 = .ok (.istore 6, 2) := by decide +kernel
theorem dL_law_725 : decode cL_law 725 = .ok (.aload_n 2, 1) := by decide +kernel
theorem dL_law_726 : decode cL_law 726 = .ok (.invokevirtual 87, 3) := by decide +kernel
theorem dL_law_729 : decode cL_law 729 = .ok (.iload 5, 2) := by decide +kernel
theorem dL_law_731 : decode cL_law 731 = .ok (.if_icmp .eq 5, 3) := by decide +kernel
theorem dL_law_734 : decode cL_law 734 = .ok (.iconst 0, 1) := by decide +kernel
theorem dL_law_735 : decode cL_law 735 = .ok (.ireturn, 1) := by decide +kernel
theorem dL_law_736 : decode cL_law 736 = .ok (.iload 5, 2) := by decide +kernel
theorem dL_law_738 : decode cL_law 738 = .ok (.ifCond .ne 15, 3) := by decide +kernel
theorem dL_law_741 : decode cL_law 741 = .ok (.aload_n 3, 1) := by decide +kernel
theorem dL_law_742 : decode cL_law 742 = .ok (.iconst 0, 1) := by decide +kernel
theorem dL_law_743 : decode cL_law 743 = .ok (.laload, 1) := by decide +kernel
theorem dL_law_744 : decode cL_law 744 = .ok (.iload 6, 2) := by decide +kernel
theorem dL_law_746 : decode cL_law 746 = .ok (.i2l, 1) := by decide +kernel
theorem dL_law_747 : decode cL_law 747 = .ok (.lcmp, 1) := by decide +kernel
theorem dL_law_748 : decode cL_law 748 = .ok (.ifCond .eq 5, 3) := by decide +kernel
theorem dL_law_751 : decode cL_law 751 = .ok (.iconst 0, 1) := by decide +kernel
theorem dL_law_752 : decode cL_law 752 = .ok (.ireturn, 1) := by decide +kernel
theorem dL_law_753 : decode cL_law 753 = .ok (.goto 678, 3) := by decide +kernel
theorem dL_law_756 : decode cL_law 756 = .ok (.aload_n 1, 1) := by decide +kernel
theorem dL_law_757 : decode cL_law 757 = .ok (.aload_n 0, 1) := by decide +kernel
theorem dL_law_758 : decode cL_law 758 = .ok (.iload 4, 2) := by decide +kernel
theorem dL_law_760 : decode cL_law 760 = .ok (.iconst 1, 1) := by decide +kernel
theorem dL_law_761 : decode cL_law 761 = .ok (.iadd, 1) := by decide +kernel
theorem dL_law_762 : decode cL_law 762 = .ok (.iaload, 1) := by decide +kernel
theorem dL_law_763 : decode cL_law 763 = .ok (.aload_n 0, 1) := by decide +kernel
theorem dL_law_764 : decode cL_law 764 = .ok (.iload 4, 2) := by decide +kernel
theorem dL_law_766 : decode cL_law 766 = .ok (.iconst 2, 1) := by decide +kernel
theorem dL_law_767 : decode cL_law 767 = .ok (.iadd, 1) := by decide +kernel
theorem dL_law_768 : decode cL_law 768 = .ok (.iaload, 1) := by decide +kernel
theorem dL_law_769 : decode cL_law 769 = .ok (.aload_n 3, 1) := by decide +kernel
theorem dL_law_770 : decode cL_law 770 = .ok (.invokestatic 119, 3) := by decide +kernel
theorem dL_law_773 : decode cL_law 773 = .ok (.istore 5, 2) := by decide +kernel
theorem dL_law_775 : decode cL_law 775 = .ok (.aload_n 2, 1) := by decide +kernel
theorem dL_law_776 : decode cL_law 776 = .ok (.aload_n 0, 1) := by decide +kernel
theorem dL_law_777 : decode cL_law 777 = .ok (.iload 4, 2) := by decide +kernel
theorem dL_law_779 : decode cL_law 779 = .ok (.iconst 1, 1) := by decide +kernel
theorem dL_law_780 : decode cL_law 780 = .ok (.iadd, 1) := by decide +kernel
theorem dL_law_781 : decode cL_law 781 = .ok (.iaload, 1) := by decide +kernel
theorem dL_law_782 : decode cL_law 782 = .ok (.aload_n 0, 1) := by decide +kernel
theorem dL_law_783 : decode cL_law 783 = .ok (.iload 4, 2) := by decide +kernel
theorem dL_law_785 : decode cL_law 785 = .ok (.iconst 2, 1) := by decide +kernel
theorem dL_law_786 : decode cL_law 786 = .ok (.iadd, 1) := by decide +kernel
theorem dL_law_787 : decode cL_law 787 = .ok (.iaload, 1) := by decide +kernel
theorem dL_law_788 : decode cL_law 788 = .ok (.invokevirtual 121, 3) := by decide +kernel
theorem dL_law_791 : decode cL_law 791 = .ok (.istore 6, 2) := by decide +kernel
theorem dL_law_793 : decode cL_law 793 = .ok (.aload_n 2, 1) := by decide +kernel
theorem dL_law_794 : decode cL_law 794 = .ok (.invokevirtual 87, 3) := by decide +kernel
theorem dL_law_797 : decode cL_law 797 = .ok (.iload 5, 2) := by decide +kernel
theorem dL_law_799 : decode cL_law 799 = .ok (.if_icmp .eq 5, 3) := by decide +kernel
theorem dL_law_802 : decode cL_law 802 = .ok (.iconst 0, 1) := by decide +kernel
theorem dL_law_803 : decode cL_law 803 = .ok (.ireturn, 1) := by decide +kernel
theorem dL_law_804 : decode cL_law 804 = .ok (.iload 5, 2) := by decide +kernel
theorem dL_law_806 : decode cL_law 806 = .ok (.ifCond .ne 15, 3) := by decide +kernel
theorem dL_law_809 : decode cL_law 809 = .ok (.aload_n 3, 1) := by decide +kernel
theorem dL_law_810 : decode cL_law 810 = .ok (.iconst 0, 1) := by decide +kernel
theorem dL_law_811 : decode cL_law 811 = .ok (.laload, 1) := by decide +kernel
theorem dL_law_812 : decode cL_law 812 = .ok (.iload 6, 2) := by decide +kernel
theorem dL_law_814 : decode cL_law 814 = .ok (.i2l, 1) := by decide +kernel
theorem dL_law_815 : decode cL_law 815 = .ok (.lcmp, 1) := by decide +kernel
theorem dL_law_816 : decode cL_law 816 = .ok (.ifCond .eq 5, 3) := by decide +kernel
theorem dL_law_819 : decode cL_law 819 = .ok (.iconst 0, 1) := by decide +kernel
theorem dL_law_820 : decode cL_law 820 = .ok (.ireturn, 1) := by decide +kernel
theorem dL_law_821 : decode cL_law 821 = .ok (.goto 610, 3) := by decide +kernel
theorem dL_law_824 : decode cL_law 824 = .ok (.aload_n 1, 1) := by decide +kernel
theorem dL_law_825 : decode cL_law 825 = .ok (.aload_n 0, 1) := by decide +kernel
theorem dL_law_826 : decode cL_law 826 = .ok (.iload 4, 2) := by decide +kernel
theorem dL_law_828 : decode cL_law 828 = .ok (.iconst 1, 1) := by decide +kernel
theorem dL_law_829 : decode cL_law 829 = .ok (.iadd, 1) := by decide +kernel
theorem dL_law_830 : decode cL_law 830 = .ok (.iaload, 1) := by decide +kernel
theorem dL_law_831 : decode cL_law 831 = .ok (.aload_n 3, 1) := by decide +kernel
theorem dL_law_832 : decode cL_law 832 = .ok (.invokestatic 122, 3) := by decide +kernel
theorem dL_law_835 : decode cL_law 835 = .ok (.istore 5, 2) := by decide +kernel
theorem dL_law_837 : decode cL_law 837 = .ok (.aload_n 2, 1) := by decide +kernel
theorem dL_law_838 : decode cL_law 838 = .ok (.aload_n 0, 1) := by decide +kernel
theorem dL_law_839 : decode cL_law 839 = .ok (.iload 4, 2) := by decide +kernel
theorem dL_law_841 : decode cL_law 841 = .ok (.iconst 1, 1) := by decide +kernel
theorem dL_law_842 : decode cL_law 842 = .ok (.iadd, 1) := by decide +kernel
theorem dL_law_843 : decode cL_law 843 = .ok (.iaload, 1) := by decide +kernel
theorem dL_law_844 : decode cL_law 844 = .ok (.invokevirtual 124, 3) := by decide +kernel
theorem dL_law_847 : decode cL_law 847 = .ok (.istore 6, 2) := by decide +kernel
theorem dL_law_849 : decode cL_law 849 = .ok (.aload_n 2, 1) := by decide +kernel
theorem dL_law_850 : decode cL_law 850 = .ok (.invokevirtual 87, 3) := by decide +kernel
theorem dL_law_853 : decode cL_law 853 = .ok (.iload 5, 2) := by decide +kernel
theorem dL_law_855 : decode cL_law 855 = .ok (.if_icmp .eq 5, 3) := by decide +kernel
theorem dL_law_858 : decode cL_law 858 = .ok (.iconst 0, 1) := by decide +kernel
theorem dL_law_859 : decode cL_law 859 = .ok (.ireturn, 1) := by decide +kernel
theorem dL_law_860 : decode cL_law 860 = .ok (.iload 5, 2) := by decide +kernel
theorem dL_law_862 : decode cL_law 862 = .ok (.ifCond .ne 15, 3) := by decide +kernel
theorem dL_law_865 : decode cL_law 865 = .ok (.aload_n 3, 1) := by decide +kernel
theorem dL_law_866 : decode cL_law 866 = .ok (.iconst 0, 1) := by decide +kernel
theorem dL_law_867 : decode cL_law 867 = .ok (.laload, 1) := by decide +kernel
theorem dL_law_868 : decode cL_law 868 = .ok (.iload 6, 2) := by decide +kernel
theorem dL_law_870 : decode cL_law 870 = .ok (.i2l, 1) := by decide +kernel
theorem dL_law_871 : decode cL_law 871 = .ok (.lcmp, 1) := by decide +kernel
theorem dL_law_872 : decode cL_law 872 = .ok (.ifCond .eq 5, 3) := by decide +kernel
theorem dL_law_875 : decode cL_law 875 = .ok (.iconst 0, 1) := by decide +kernel
theorem dL_law_876 : decode cL_law 876 = .ok (.ireturn, 1) := by decide +kernel
theorem dL_law_877 : decode cL_law 877 = .ok (.goto 554, 3) := by decide +kernel
theorem dL_law_880 : decode cL_law 880 = .ok (.aload_n 1, 1) := by decide +kernel
theorem dL_law_881 : decode cL_law 881 = .ok (.aload_n 0, 1) := by decide +kernel
theorem dL_law_882 : decode cL_law 882 = .ok (.iload 4, 2) := by decide +kernel
theorem dL_law_884 : decode cL_law 884 = .ok (.iconst 1, 1) := by decide +kernel
theorem dL_law_885 : decode cL_law 885 = .ok (.iadd, 1) := by decide +kernel
theorem dL_law_886 : decode cL_law 886 = .ok (.iaload, 1) := by decide +kernel
theorem dL_law_887 : decode cL_law 887 = .ok (.aload_n 3, 1) := by decide +kernel
theorem dL_law_888 : decode cL_law 888 = .ok (.invokestatic 125, 3) := by decide +kernel
theorem dL_law_891 : decode cL_law 891 = .ok (.istore 5, 2) := by decide +kernel
theorem dL_law_893 : decode cL_law 893 = .ok (.aload_n 2, 1) := by decide +kernel
theorem dL_law_894 : decode cL_law 894 = .ok (.aload_n 0, 1) := by decide +kernel
theorem dL_law_895 : decode cL_law 895 = .ok (.iload 4, 2) := by decide +kernel
theorem dL_law_897 : decode cL_law 897 = .ok (.iconst 1, 1) := by decide +kernel
theorem dL_law_898 : decode cL_law 898 = .ok (.iadd, 1) := by decide +kernel
theorem dL_law_899 : decode cL_law 899 = .ok (.iaload, 1) := by decide +kernel
theorem dL_law_900 : decode cL_law 900 = .ok (.invokevirtual 127, 3) := by decide +kernel
theorem dL_law_903 : decode cL_law 903 = .ok (.istore 6, 2) := by decide +kernel
theorem dL_law_905 : decode cL_law 905 = .ok (.aload_n 2, 1) := by decide +kernel
theorem dL_law_906 : decode cL_law 906 = .ok (.invokevirtual 87, 3) := by decide +kernel
theorem dL_law_909 : decode cL_law 909 = .ok (.iload 5, 2) := by decide +kernel
theorem dL_law_911 : decode cL_law 911 = .ok (.if_icmp .eq 5, 3) := by decide +kernel
theorem dL_law_914 : decode cL_law 914 = .ok (.iconst 0, 1) := by decide +kernel
theorem dL_law_915 : decode cL_law 915 = .ok (.ireturn, 1) := by decide +kernel
theorem dL_law_916 : decode cL_law 916 = .ok (.iload 5, 2) := by decide +kernel
theorem dL_law_918 : decode cL_law 918 = .ok (.ifCond .ne 15, 3) := by decide +kernel
theorem dL_law_921 : decode cL_law 921 = .ok (.aload_n 3, 1) := by decide +kernel
theorem dL_law_922 : decode cL_law 922 = .ok (.iconst 0, 1) := by decide +kernel
theorem dL_law_923 : decode cL_law 923 = .ok (.laload, 1) := by decide +kernel
theorem dL_law_924 : decode cL_law 924 = .ok (.iload 6, 2) := by decide +kernel
theorem dL_law_926 : decode cL_law 926 = .ok (.i2l, 1) := by decide +kernel
theorem dL_law_927 : decode cL_law 927 = .ok (.lcmp, 1) := by decide +kernel
theorem dL_law_928 : decode cL_law 928 = .ok (.ifCond .eq 5, 3) := by decide +kernel
theorem dL_law_931 : decode cL_law 931 = .ok (.iconst 0, 1) := by decide +kernel
theorem dL_law_932 : decode cL_law 932 = .ok (.ireturn, 1) := by decide +kernel
theorem dL_law_933 : decode cL_law 933 = .ok (.goto 498, 3) := by decide +kernel
theorem dL_law_936 : decode cL_law 936 = .ok (.aload_n 1, 1) := by decide +kernel
theorem dL_law_937 : decode cL_law 937 = .ok (.aload_n 0, 1) := by decide +kernel
theorem dL_law_938 : decode cL_law 938 = .ok (.iload 4, 2) := by decide +kernel
theorem dL_law_940 : decode cL_law 940 = .ok (.iconst 1, 1) := by decide +kernel
theorem dL_law_941 : decode cL_law 941 = .ok (.iadd, 1) := by decide +kernel
theorem dL_law_942 : decode cL_law 942 = .ok (.iaload, 1) := by decide +kernel
theorem dL_law_943 : decode cL_law 943 = .ok (.aload_n 3, 1) := by decide +kernel
theorem dL_law_944 : decode cL_law 944 = .ok (.invokestatic 128, 3) := by decide +kernel
theorem dL_law_947 : decode cL_law 947 = .ok (.istore 5, 2) := by decide +kernel
theorem dL_law_949 : decode cL_law 949 = .ok (.aload_n 2, 1) := by decide +kernel
theorem dL_law_950 : decode cL_law 950 = .ok (.aload_n 0, 1) := by decide +kernel
theorem dL_law_951 : decode cL_law 951 = .ok (.iload 4, 2) := by decide +kernel
theorem dL_law_953 : decode cL_law 953 = .ok (.iconst 1, 1) := by decide +kernel
theorem dL_law_954 : decode cL_law 954 = .ok (.iadd, 1) := by decide +kernel
theorem dL_law_955 : decode cL_law 955 = .ok (.iaload, 1) := by decide +kernel
theorem dL_law_956 : decode cL_law 956 = .ok (.invokevirtual 130, 3) := by decide +kernel
theorem dL_law_959 : decode cL_law 959 = .ok (.istore 6, 2) := by decide +kernel
theorem dL_law_961 : decode cL_law 961 = .ok (.aload_n 2, 1) := by decide +kernel
theorem dL_law_962 : decode cL_law 962 = .ok (.invokevirtual 87, 3) := by decide +kernel
theorem dL_law_965 : decode cL_law 965 = .ok (.iload 5, 2) := by decide +kernel
theorem dL_law_967 : decode cL_law 967 = .ok (.if_icmp .eq 5, 3) := by decide +kernel
theorem dL_law_970 : decode cL_law 970 = .ok (.iconst 0, 1) := by decide +kernel
theorem dL_law_971 : decode cL_law 971 = .ok (.ireturn, 1) := by decide +kernel
theorem dL_law_972 : decode cL_law 972 = .ok (.iload 5, 2) := by decide +kernel
theorem dL_law_974 : decode cL_law 974 = .ok (.ifCond .ne 15, 3) := by decide +kernel
theorem dL_law_977 : decode cL_law 977 = .ok (.aload_n 3, 1) := by decide +kernel
theorem dL_law_978 : decode cL_law 978 = .ok (.iconst 0, 1) := by decide +kernel
theorem dL_law_979 : decode cL_law 979 = .ok (.laload, 1) := by decide +kernel
theorem dL_law_980 : decode cL_law 980 = .ok (.iload 6, 2) := by decide +kernel
theorem dL_law_982 : decode cL_law 982 = .ok (.i2l, 1) := by decide +kernel
theorem dL_law_983 : decode cL_law 983 = .ok (.lcmp, 1) := by decide +kernel
theorem dL_law_984 : decode cL_law 984 = .ok (.ifCond .eq 5, 3) := by decide +kernel
theorem dL_law_987 : decode cL_law 987 = .ok (.iconst 0, 1) := by decide +kernel
theorem dL_law_988 : decode cL_law 988 = .ok (.ireturn, 1) := by decide +kernel
theorem dL_law_989 : decode cL_law 989 = .ok (.goto 442, 3) := by decide +kernel
theorem dL_law_992 : decode cL_law 992 = .ok (.aload_n 1, 1) := by decide +kernel
theorem dL_law_993 : decode cL_law 993 = .ok (.aload_n 0, 1) := by decide +kernel
theorem dL_law_994 : decode cL_law 994 = .ok (.iload 4, 2) := by decide +kernel
theorem dL_law_996 : decode cL_law 996 = .ok (.iconst 1, 1) := by decide +kernel
theorem dL_law_997 : decode cL_law 997 = .ok (.iadd, 1) := by decide +kernel
theorem dL_law_998 : decode cL_law 998 = .ok (.iaload, 1) := by decide +kernel
theorem dL_law_999 : decode cL_law 999 = .ok (.aload_n 0, 1) := by decide +kernel
theorem dL_law_1000 : decode cL_law 1000 = .ok (.iload 4, 2) := by decide +kernel
theorem dL_law_1002 : decode cL_law 1002 = .ok (.iconst 2, 1) := by decide +kernel
theorem dL_law_1003 : decode cL_law 1003 = .ok (.iadd, 1) := by decide +kernel
theorem dL_law_1004 : decode cL_law 1004 = .ok (.iaload, 1) := by decide +kernel
theorem dL_law_1005 : decode cL_law 1005 = .ok (.aload_n 3, 1) := by decide +kernel
theorem dL_law_1006 : decode cL_law 1006 = .ok (.invokestatic 131, 3) := by decide +kernel
theorem dL_law_1009 : decode cL_law 1009 = .ok (.istore 5, 2) := by decide +kernel
theorem dL_law_1011 : decode cL_law 1011 = .ok (.aload_n 2, 1) := by decide +kernel
theorem dL_law_1012 : decode cL_law 1012 = .ok (.aload_n 0, 1) := by decide +kernel
theorem dL_law_1013 : decode cL_law 1013 = .ok (.iload 4, 2) := by decide +kernel
theorem dL_law_1015 : decode cL_law 1015 = .ok (.iconst 1, 1) := by decide +kernel
theorem dL_law_1016 : decode cL_law 1016 = .ok (.iadd, 1) := by decide +kernel
theorem dL_law_1017 : decode cL_law 1017 = .ok (.iaload, 1) := by decide +kernel
theorem dL_law_1018 : decode cL_law 1018 = .ok (.aload_n 0, 1) := by decide +kernel
theorem dL_law_1019 : decode cL_law 1019 = .ok (.iload 4, 2) := by decide +kernel
theorem dL_law_1021 : decode cL_law 1021 = .ok (.iconst 2, 1) := by decide +kernel
theorem dL_law_1022 : decode cL_law 1022 = .ok (.iadd, 1) := by decide +kernel
theorem dL_law_1023 : decode cL_law 1023 = .ok (.iaload, 1) := by decide +kernel
theorem dL_law_1024 : decode cL_law 1024 = .ok (.invokevirtual 133, 3) := by decide +kernel
theorem dL_law_1027 : decode cL_law 1027 = .ok (.istore 6, 2) := by decide +kernel
theorem dL_law_1029 : decode cL_law 1029 = .ok (.aload_n 2, 1) := by decide +kernel
theorem dL_law_1030 : decode cL_law 1030 = .ok (.invokevirtual 87, 3) := by decide +kernel
theorem dL_law_1033 : decode cL_law 1033 = .ok (.iload 5, 2) := by decide +kernel
theorem dL_law_1035 : decode cL_law 1035 = .ok (.if_icmp .eq 5, 3) := by decide +kernel
theorem dL_law_1038 : decode cL_law 1038 = .ok (.iconst 0, 1) := by decide +kernel
theorem dL_law_1039 : decode cL_law 1039 = .ok (.ireturn, 1) := by decide +kernel
theorem dL_law_1040 : decode cL_law 1040 = .ok (.iload 5, 2) := by decide +kernel
theorem dL_law_1042 : decode cL_law 1042 = .ok (.ifCond .ne 15, 3) := by decide +kernel
theorem dL_law_1045 : decode cL_law 1045 = .ok (.aload_n 3, 1) := by decide +kernel
theorem dL_law_1046 : decode cL_law 1046 = .ok (.iconst 0, 1) := by decide +kernel
theorem dL_law_1047 : decode cL_law 1047 = .ok (.laload, 1) := by decide +kernel
theorem dL_law_1048 : decode cL_law 1048 = .ok (.iload 6, 2) := by decide +kernel
theorem dL_law_1050 : decode cL_law 1050 = .ok (.i2l, 1) := by decide +kernel
theorem dL_law_1051 : decode cL_law 1051 = .ok (.lcmp, 1) := by decide +kernel
theorem dL_law_1052 : decode cL_law 1052 = .ok (.ifCond .eq 5, 3) := by decide +kernel
theorem dL_law_1055 : decode cL_law 1055 = .ok (.iconst 0, 1) := by decide +kernel
theorem dL_law_1056 : decode cL_law 1056 = .ok (.ireturn, 1) := by decide +kernel
theorem dL_law_1057 : decode cL_law 1057 = .ok (.goto 374, 3) := by decide +kernel
theorem dL_law_1060 : decode cL_law 1060 = .ok (.aload_n 1, 1) := by decide +kernel
theorem dL_law_1061 : decode cL_law 1061 = .ok (.aload_n 0, 1) := by decide +kernel
theorem dL_law_1062 : decode cL_law 1062 = .ok (.iload 4, 2) := by decide +kernel
theorem dL_law_1064 : decode cL_law 1064 = .ok (.iconst 1, 1) := by decide +kernel
theorem dL_law_1065 : decode cL_law 1065 = .ok (.iadd, 1) := by decide +kernel
theorem dL_law_1066 : decode cL_law 1066 = .ok (.iaload, 1) := by decide +kernel
theorem dL_law_1067 : decode cL_law 1067 = .ok (.aload_n 3, 1) := by decide +kernel
theorem dL_law_1068 : decode cL_law 1068 = .ok (.invokestatic 134, 3) := by decide +kernel
theorem dL_law_1071 : decode cL_law 1071 = .ok (.istore 5, 2) := by decide +kernel
theorem dL_law_1073 : decode cL_law 1073 = .ok (.aload_n 2, 1) := by decide +kernel
theorem dL_law_1074 : decode cL_law 1074 = .ok (.aload_n 0, 1) := by decide +kernel
theorem dL_law_1075 : decode cL_law 1075 = .ok (.iload 4, 2) := by decide +kernel
theorem dL_law_1077 : decode cL_law 1077 = .ok (.iconst 1, 1) := by decide +kernel
theorem dL_law_1078 : decode cL_law 1078 = .ok (.iadd, 1) := by decide +kernel
theorem dL_law_1079 : decode cL_law 1079 = .ok (.iaload, 1) := by decide +kernel
theorem dL_law_1080 : decode cL_law 1080 = .ok (.invokevirtual 136, 3) := by decide +kernel
theorem dL_law_1083 : decode cL_law 1083 = .ok (.istore 6, 2) := by decide +kernel
theorem dL_law_1085 : decode cL_law 1085 = .ok (.aload_n 2, 1) := by decide +kernel
theorem dL_law_1086 : decode cL_law 1086 = .ok (.invokevirtual 87, 3) := by decide +kernel
theorem dL_law_1089 : decode cL_law 1089 = .ok (.iload 5, 2) := by decide +kernel
theorem dL_law_1091 : decode cL_law 1091 = .ok (.if_icmp .eq 5, 3) := by decide +kernel
theorem dL_law_1094 : decode cL_law 1094 = .ok (.iconst 0, 1) := by decide +kernel
theorem dL_law_1095 : decode cL_law 1095 = .ok (.ireturn, 1) := by decide +kernel
theorem dL_law_1096 : decode cL_law 1096 = .ok (.iload 5, 2) := by decide +kernel
theorem dL_law_1098 : decode cL_law 1098 = .ok (.ifCond .ne 15, 3) := by decide +kernel
theorem dL_law_1101 : decode cL_law 1101 = .ok (.aload_n 3, 1) := by decide +kernel
theorem dL_law_1102 : decode cL_law 1102 = .ok (.iconst 0, 1) := by decide +kernel
theorem dL_law_1103 : decode cL_law 1103 = .ok (.laload, 1) := by decide +kernel
theorem dL_law_1104 : decode cL_law 1104 = .ok (.iload 6, 2) := by decide +kernel
theorem dL_law_1106 : decode cL_law 1106 = .ok (.i2l, 1) := by decide +kernel
theorem dL_law_1107 : decode cL_law 1107 = .ok (.lcmp, 1) := by decide +kernel
theorem dL_law_1108 : decode cL_law 1108 = .ok (.ifCond .eq 5, 3) := by decide +kernel
theorem dL_law_1111 : decode cL_law 1111 = .ok (.iconst 0, 1) := by decide +kernel
theorem dL_law_1112 : decode cL_law 1112 = .ok (.ireturn, 1) := by decide +kernel
theorem dL_law_1113 : decode cL_law 1113 = .ok (.goto 318, 3) := by decide +kernel
theorem dL_law_1116 : decode cL_law 1116 = .ok (.aload_n 1, 1) := by decide +kernel
theorem dL_law_1117 : decode cL_law 1117 = .ok (.aload_n 0, 1) := by decide +kernel
theorem dL_law_1118 : decode cL_law 1118 = .ok (.iload 4, 2) := by decide +kernel
theorem dL_law_1120 : decode cL_law 1120 = .ok (.iconst 1, 1) := by decide +kernel
theorem dL_law_1121 : decode cL_law 1121 = .ok (.iadd, 1) := by decide +kernel
theorem dL_law_1122 : decode cL_law 1122 = .ok (.iaload, 1) := by decide +kernel
theorem dL_law_1123 : decode cL_law 1123 = .ok (.aload_n 3, 1) := by decide +kernel
theorem dL_law_1124 : decode cL_law 1124 = .ok (.invokestatic 137, 3) := by decide +kernel
theorem dL_law_1127 : decode cL_law 1127 = .ok (.istore 5, 2) := by decide +kernel
theorem dL_law_1129 : decode cL_law 1129 = .ok (.aload_n 2, 1) := by decide +kernel
theorem dL_law_1130 : decode cL_law 1130 = .ok (.aload_n 0, 1) := by decide +kernel
theorem dL_law_1131 : decode cL_law 1131 = .ok (.iload 4, 2) := by decide +kernel
theorem dL_law_1133 : decode cL_law 1133 = .ok (.iconst 1, 1) := by decide +kernel
theorem dL_law_1134 : decode cL_law 1134 = .ok (.iadd, 1) := by decide +kernel
theorem dL_law_1135 : decode cL_law 1135 = .ok (.iaload, 1) := by decide +kernel
theorem dL_law_1136 : decode cL_law 1136 = .ok (.invokevirtual 139, 3) := by decide +kernel
theorem dL_law_1139 : decode cL_law 1139 = .ok (.istore 6, 2) := by decide +kernel
theorem dL_law_1141 : decode cL_law 1141 = .ok (.aload_n 2, 1) := by decide +kernel
theorem dL_law_1142 : decode cL_law 1142 = .ok (.invokevirtual 87, 3) := by decide +kernel
theorem dL_law_1145 : decode cL_law 1145 = .ok (.iload 5, 2) := by decide +kernel
theorem dL_law_1147 : decode cL_law 1147 = .ok (.if_icmp .eq 5, 3) := by decide +kernel
theorem dL_law_1150 : decode cL_law 1150 = .ok (.iconst 0, 1) := by decide +kernel
theorem dL_law_1151 : decode cL_law 1151 = .ok (.ireturn, 1) := by decide +kernel
theorem dL_law_1152 : decode cL_law 1152 = .ok (.iload 5, 2) := by decide +kernel
theorem dL_law_1154 : decode cL_law 1154 = .ok (.ifCond .ne 15, 3) := by decide +kernel
theorem dL_law_1157 : decode cL_law 1157 = .ok (.aload_n 3, 1) := by decide +kernel
theorem dL_law_1158 : decode cL_law 1158 = .ok (.iconst 0, 1) := by decide +kernel
theorem dL_law_1159 : decode cL_law 1159 = .ok (.laload, 1) := by decide +kernel
theorem dL_law_1160 : decode cL_law 1160 = .ok (.iload 6, 2) := by decide +kernel
theorem dL_law_1162 : decode cL_law 1162 = .ok (.i2l, 1) := by decide +kernel
theorem dL_law_1163 : decode cL_law 1163 = .ok (.lcmp, 1) := by decide +kernel
theorem dL_law_1164 : decode cL_law 1164 = .ok (.ifCond .eq 5, 3) := by decide +kernel
theorem dL_law_1167 : decode cL_law 1167 = .ok (.iconst 0, 1) := by decide +kernel
theorem dL_law_1168 : decode cL_law 1168 = .ok (.ireturn, 1) := by decide +kernel
theorem dL_law_1169 : decode cL_law 1169 = .ok (.goto 262, 3) := by decide +kernel
theorem dL_law_1172 : decode cL_law 1172 = .ok (.aload_n 1, 1) := by decide +kernel
theorem dL_law_1173 : decode cL_law 1173 = .ok (.aload_n 0, 1) := by decide +kernel
theorem dL_law_1174 : decode cL_law 1174 = .ok (.iload 4, 2) := by decide +kernel
theorem dL_law_1176 : decode cL_law 1176 = .ok (.iconst 1, 1) := by decide +kernel
theorem dL_law_1177 : decode cL_law 1177 = .ok (.iadd, 1) := by decide +kernel
theorem dL_law_1178 : decode cL_law 1178 = .ok (.iaload, 1) := by decide +kernel
theorem dL_law_1179 : decode cL_law 1179 = .ok (.aload_n 0, 1) := by decide +kernel
theorem dL_law_1180 : decode cL_law 1180 = .ok (.iload 4, 2) := by decide +kernel
theorem dL_law_1182 : decode cL_law 1182 = .ok (.iconst 2, 1) := by decide +kernel
theorem dL_law_1183 : decode cL_law 1183 = .ok (.iadd, 1) := by decide +kernel
theorem dL_law_1184 : decode cL_law 1184 = .ok (.iaload, 1) := by decide +kernel
theorem dL_law_1185 : decode cL_law 1185 = .ok (.aload_n 3, 1) := by decide +kernel
theorem dL_law_1186 : decode cL_law 1186 = .ok (.invokestatic 140, 3) := by decide +kernel
theorem dL_law_1189 : decode cL_law 1189 = .ok (.istore 5, 2) := by decide +kernel
theorem dL_law_1191 : decode cL_law 1191 = .ok (.aload_n 2, 1) := by decide +kernel
theorem dL_law_1192 : decode cL_law 1192 = .ok (.aload_n 0, 1) := by decide +kernel
theorem dL_law_1193 : decode cL_law 1193 = .ok (.iload 4, 2) := by decide +kernel
theorem dL_law_1195 : decode cL_law 1195 = .ok (.iconst 1, 1) := by decide +kernel
theorem dL_law_1196 : decode cL_law 1196 = .ok (.iadd, 1) := by decide +kernel
theorem dL_law_1197 : decode cL_law 1197 = .ok (.iaload, 1) := by decide +kernel
theorem dL_law_1198 : decode cL_law 1198 = .ok (.aload_n 0, 1) := by decide +kernel
theorem dL_law_1199 : decode cL_law 1199 = .ok (.iload 4, 2) := by decide +kernel
theorem dL_law_1201 : decode cL_law 1201 = .ok (.iconst 2, 1) := by decide +kernel
theorem dL_law_1202 : decode cL_law 1202 = .ok (.iadd, 1) := by decide +kernel
theorem dL_law_1203 : decode cL_law 1203 = .ok (.iaload, 1) := by decide +kernel
theorem dL_law_1204 : decode cL_law 1204 = .ok (.invokevirtual 142, 3) := by decide +kernel
theorem dL_law_1207 : decode cL_law 1207 = .ok (.istore 6, 2) := by decide +kernel
theorem dL_law_1209 : decode cL_law 1209 = .ok (.aload_n 2, 1) := by decide +kernel
theorem dL_law_1210 : decode cL_law 1210 = .ok (.invokevirtual 87, 3) := by decide +kernel
theorem dL_law_1213 : decode cL_law 1213 = .ok (.iload 5, 2) := by decide +kernel
theorem dL_law_1215 : decode cL_law 1215 = .ok (.if_icmp .eq 5, 3) := by decide +kernel
theorem dL_law_1218 : decode cL_law 1218 = .ok (.iconst 0, 1) := by decide +kernel
theorem dL_law_1219 : decode cL_law 1219 = .ok (.ireturn, 1) := by decide +kernel
theorem dL_law_1220 : decode cL_law 1220 = .ok (.iload 5, 2) := by decide +kernel
theorem dL_law_1222 : decode cL_law 1222 = .ok (.ifCond .ne 15, 3) := by decide +kernel
theorem dL_law_1225 : decode cL_law 1225 = .ok (.aload_n 3, 1) := by decide +kernel
theorem dL_law_1226 : decode cL_law 1226 = .ok (.iconst 0, 1) := by decide +kernel
theorem dL_law_1227 : decode cL_law 1227 = .ok (.laload, 1) := by decide +kernel
theorem dL_law_1228 : decode cL_law 1228 = .ok (.iload 6, 2) := by decide +kernel
theorem dL_law_1230 : decode cL_law 1230 = .ok (.i2l, 1) := by decide +kernel
theorem dL_law_1231 : decode cL_law 1231 = .ok (.lcmp, 1) := by decide +kernel
theorem dL_law_1232 : decode cL_law 1232 = .ok (.ifCond .eq 5, 3) := by decide +kernel
theorem dL_law_1235 : decode cL_law 1235 = .ok (.iconst 0, 1) := by decide +kernel
theorem dL_law_1236 : decode cL_law 1236 = .ok (.ireturn, 1) := by decide +kernel
theorem dL_law_1237 : decode cL_law 1237 = .ok (.goto 194, 3) := by decide +kernel
theorem dL_law_1240 : decode cL_law 1240 = .ok (.aload_n 1, 1) := by decide +kernel
theorem dL_law_1241 : decode cL_law 1241 = .ok (.aload_n 0, 1) := by decide +kernel
theorem dL_law_1242 : decode cL_law 1242 = .ok (.iload 4, 2) := by decide +kernel
theorem dL_law_1244 : decode cL_law 1244 = .ok (.iconst 1, 1) := by decide +kernel
theorem dL_law_1245 : decode cL_law 1245 = .ok (.iadd, 1) := by decide +kernel
theorem dL_law_1246 : decode cL_law 1246 = .ok (.iaload, 1) := by decide +kernel
theorem dL_law_1247 : decode cL_law 1247 = .ok (.aload_n 0, 1) := by decide +kernel
theorem dL_law_1248 : decode cL_law 1248 = .ok (.iload 4, 2) := by decide +kernel
theorem dL_law_1250 : decode cL_law 1250 = .ok (.iconst 2, 1) := by decide +kernel
theorem dL_law_1251 : decode cL_law 1251 = .ok (.iadd, 1) := by decide +kernel
theorem dL_law_1252 : decode cL_law 1252 = .ok (.iaload, 1) := by decide +kernel
theorem dL_law_1253 : decode cL_law 1253 = .ok (.aload_n 3, 1) := by decide +kernel
theorem dL_law_1254 : decode cL_law 1254 = .ok (.invokestatic 143, 3) := by decide +kernel
theorem dL_law_1257 : decode cL_law 1257 = .ok (.istore 5, 2) := by decide +kernel
theorem dL_law_1259 : decode cL_law 1259 = .ok (.aload_n 2, 1) := by decide +kernel
theorem dL_law_1260 : decode cL_law 1260 = .ok (.aload_n 0, 1) := by decide +kernel
theorem dL_law_1261 : decode cL_law 1261 = .ok (.iload 4, 2) := by decide +kernel
theorem dL_law_1263 : decode cL_law 1263 = .ok (.iconst 1, 1) := by decide +kernel
theorem dL_law_1264 : decode cL_law 1264 = .ok (.iadd, 1) := by decide +kernel
theorem dL_law_1265 : decode cL_law 1265 = .ok (.iaload, 1) := by decide +kernel
theorem dL_law_1266 : decode cL_law 1266 = .ok (.aload_n 0, 1) := by decide +kernel
theorem dL_law_1267 : decode cL_law 1267 = .ok (.iload 4, 2) := by decide +kernel
theorem dL_law_1269 : decode cL_law 1269 = .ok (.iconst 2, 1) := by decide +kernel
theorem dL_law_1270 : decode cL_law 1270 = .ok (.iadd, 1) := by decide +kernel
theorem dL_law_1271 : decode cL_law 1271 = .ok (.iaload, 1) := by decide +kernel
theorem dL_law_1272 : decode cL_law 1272 = .ok (.invokevirtual 145, 3) := by decide +kernel
theorem dL_law_1275 : decode cL_law 1275 = .ok (.istore 6, 2) := by decide +kernel
theorem dL_law_1277 : decode cL_law 1277 = .ok (.aload_n 2, 1) := by decide +kernel
theorem dL_law_1278 : decode cL_law 1278 = .ok (.invokevirtual 87, 3) := by decide +kernel
theorem dL_law_1281 : decode cL_law 1281 = .ok (.iload 5, 2) := by decide +kernel
theorem dL_law_1283 : decode cL_law 1283 = .ok (.if_icmp .eq 5, 3) := by decide +kernel
theorem dL_law_1286 : decode cL_law 1286 = .ok (.iconst 0, 1) := by decide +kernel
theorem dL_law_1287 : decode cL_law 1287 = .ok (.ireturn, 1) := by decide +kernel
theorem dL_law_1288 : decode cL_law 1288 = .ok (.iload 5, 2) := by decide +kernel
theorem dL_law_1290 : decode cL_law 1290 = .ok (.ifCond .ne 15, 3) := by decide +kernel
theorem dL_law_1293 : decode cL_law 1293 = .ok (.aload_n 3, 1) := by decide +kernel
theorem dL_law_1294 : decode cL_law 1294 = .ok (.iconst 0, 1) := by decide +kernel
theorem dL_law_1295 : decode cL_law 1295 = .ok (.laload, 1) := by decide +kernel
theorem dL_law_1296 : decode cL_law 1296 = .ok (.iload 6, 2) := by decide +kernel
theorem dL_law_1298 : decode cL_law 1298 = .ok (.i2l, 1) := by decide +kernel
theorem dL_law_1299 : decode cL_law 1299 = .ok (.lcmp, 1) := by decide +kernel
theorem dL_law_1300 : decode cL_law 1300 = .ok (.ifCond .eq 5, 3) := by decide +kernel
theorem dL_law_1303 : decode cL_law 1303 = .ok (.iconst 0, 1) := by decide +kernel
theorem dL_law_1304 : decode cL_law 1304 = .ok (.ireturn, 1) := by decide +kernel
theorem dL_law_1305 : decode cL_law 1305 = .ok (.goto 126, 3) := by decide +kernel
theorem dL_law_1308 : decode cL_law 1308 = .ok (.aload_n 1, 1) := by decide +kernel
theorem dL_law_1309 : decode cL_law 1309 = .ok (.aload_n 0, 1) := by decide +kernel
theorem dL_law_1310 : decode cL_law 1310 = .ok (.iload 4, 2) := by decide +kernel
theorem dL_law_1312 : decode cL_law 1312 = .ok (.iconst 1, 1) := by decide +kernel
theorem dL_law_1313 : decode cL_law 1313 = .ok (.iadd, 1) := by decide +kernel
theorem dL_law_1314 : decode cL_law 1314 = .ok (.iaload, 1) := by decide +kernel
theorem dL_law_1315 : decode cL_law 1315 = .ok (.aload_n 0, 1) := by decide +kernel
theorem dL_law_1316 : decode cL_law 1316 = .ok (.iload 4, 2) := by decide +kernel
theorem dL_law_1318 : decode cL_law 1318 = .ok (.iconst 2, 1) := by decide +kernel
theorem dL_law_1319 : decode cL_law 1319 = .ok (.iadd, 1) := by decide +kernel
theorem dL_law_1320 : decode cL_law 1320 = .ok (.iaload, 1) := by decide +kernel
theorem dL_law_1321 : decode cL_law 1321 = .ok (.aload_n 3, 1) := by decide +kernel
theorem dL_law_1322 : decode cL_law 1322 = .ok (.invokestatic 146, 3) := by decide +kernel
theorem dL_law_1325 : decode cL_law 1325 = .ok (.istore 5, 2) := by decide +kernel
theorem dL_law_1327 : decode cL_law 1327 = .ok (.aload_n 2, 1) := by decide +kernel
theorem dL_law_1328 : decode cL_law 1328 = .ok (.aload_n 0, 1) := by decide +kernel
theorem dL_law_1329 : decode cL_law 1329 = .ok (.iload 4, 2) := by decide +kernel
theorem dL_law_1331 : decode cL_law 1331 = .ok (.iconst 1, 1) := by decide +kernel
theorem dL_law_1332 : decode cL_law 1332 = .ok (.iadd, 1) := by decide +kernel
theorem dL_law_1333 : decode cL_law 1333 = .ok (.iaload, 1) := by decide +kernel
theorem dL_law_1334 : decode cL_law 1334 = .ok (.aload_n 0, 1) := by decide +kernel
theorem dL_law_1335 : decode cL_law 1335 = .ok (.iload 4, 2) := by decide +kernel
theorem dL_law_1337 : decode cL_law 1337 = .ok (.iconst 2, 1) := by decide +kernel
theorem dL_law_1338 : decode cL_law 1338 = .ok (.iadd, 1) := by decide +kernel
theorem dL_law_1339 : decode cL_law 1339 = .ok (.iaload, 1) := by decide +kernel
theorem dL_law_1340 : decode cL_law 1340 = .ok (.invokevirtual 148, 3) := by decide +kernel
theorem dL_law_1343 : decode cL_law 1343 = .ok (.istore 6, 2) := by decide +kernel
theorem dL_law_1345 : decode cL_law 1345 = .ok (.aload_n 2, 1) := by decide +kernel
theorem dL_law_1346 : decode cL_law 1346 = .ok (.invokevirtual 87, 3) := by decide +kernel
theorem dL_law_1349 : decode cL_law 1349 = .ok (.iload 5, 2) := by decide +kernel
theorem dL_law_1351 : decode cL_law 1351 = .ok (.if_icmp .eq 5, 3) := by decide +kernel
theorem dL_law_1354 : decode cL_law 1354 = .ok (.iconst 0, 1) := by decide +kernel
theorem dL_law_1355 : decode cL_law 1355 = .ok (.ireturn, 1) := by decide +kernel
theorem dL_law_1356 : decode cL_law 1356 = .ok (.iload 5, 2) := by decide +kernel
theorem dL_law_1358 : decode cL_law 1358 = .ok (.ifCond .ne 15, 3) := by decide +kernel
theorem dL_law_1361 : decode cL_law 1361 = .ok (.aload_n 3, 1) := by decide +kernel
theorem dL_law_1362 : decode cL_law 1362 = .ok (.iconst 0, 1) := by decide +kernel
theorem dL_law_1363 : decode cL_law 1363 = .ok (.laload, 1) := by decide +kernel
theorem dL_law_1364 : decode cL_law 1364 = .ok (.iload 6, 2) := by decide +kernel
theorem dL_law_1366 : decode cL_law 1366 = .ok (.i2l, 1) := by decide +kernel
theorem dL_law_1367 : decode cL_law 1367 = .ok (.lcmp, 1) := by decide +kernel
theorem dL_law_1368 : decode cL_law 1368 = .ok (.ifCond .eq 5, 3) := by decide +kernel
theorem dL_law_1371 : decode cL_law 1371 = .ok (.iconst 0, 1) := by decide +kernel
theorem dL_law_1372 : decode cL_law 1372 = .ok (.ireturn, 1) := by decide +kernel
theorem dL_law_1373 : decode cL_law 1373 = .ok (.goto 58, 3) := by decide +kernel
theorem dL_law_1376 : decode cL_law 1376 = .ok (.aload_n 1, 1) := by decide +kernel
theorem dL_law_1377 : decode cL_law 1377 = .ok (.invokevirtual 149, 3) := by decide +kernel
theorem dL_law_1380 : decode cL_law 1380 = .ok (.dstore 5, 2) := by decide +kernel
theorem dL_law_1382 : decode cL_law 1382 = .ok (.aload_n 2, 1) := by decide +kernel
theorem dL_law_1383 : decode cL_law 1383 = .ok (.invokevirtual 153, 3) := by decide +kernel
theorem dL_law_1386 : decode cL_law 1386 = .ok (.dstore 7, 2) := by decide +kernel
theorem dL_law_1388 : decode cL_law 1388 = .ok (.dload 5, 2) := by decide +kernel
theorem dL_law_1390 : decode cL_law 1390 = .ok (.dload 7, 2) := by decide +kernel
theorem dL_law_1392 : decode cL_law 1392 = .ok (.dcmp .l, 1) := by decide +kernel
theorem dL_law_1393 : decode cL_law 1393 = .ok (.ifCond .eq 21, 3) := by decide +kernel
theorem dL_law_1396 : decode cL_law 1396 = .ok (.dload 5, 2) := by decide +kernel
theorem dL_law_1398 : decode cL_law 1398 = .ok (.dload 5, 2) := by decide +kernel
theorem dL_law_1400 : decode cL_law 1400 = .ok (.dcmp .l, 1) := by decide +kernel
theorem dL_law_1401 : decode cL_law 1401 = .ok (.ifCond .eq 11, 3) := by decide +kernel
theorem dL_law_1404 : decode cL_law 1404 = .ok (.dload 7, 2) := by decide +kernel
theorem dL_law_1406 : decode cL_law 1406 = .ok (.dload 7, 2) := by decide +kernel
theorem dL_law_1408 : decode cL_law 1408 = .ok (.dcmp .l, 1) := by decide +kernel
theorem dL_law_1409 : decode cL_law 1409 = .ok (.ifCond .ne 5, 3) := by decide +kernel
theorem dL_law_1412 : decode cL_law 1412 = .ok (.iconst 0, 1) := by decide +kernel
theorem dL_law_1413 : decode cL_law 1413 = .ok (.ireturn, 1) := by decide +kernel
theorem dL_law_1414 : decode cL_law 1414 = .ok (.goto 17, 3) := by decide +kernel
theorem dL_law_1417 : decode cL_law 1417 = .ok (.aload_n 1, 1) := by decide +kernel
theorem dL_law_1418 : decode cL_law 1418 = .ok (.invokevirtual 154, 3) := by decide +kernel
theorem dL_law_1421 : decode cL_law 1421 = .ok (.aload_n 2, 1) := by decide +kernel
theorem dL_law_1422 : decode cL_law 1422 = .ok (.invokevirtual 158, 3) := by decide +kernel
theorem dL_law_1425 : decode cL_law 1425 = .ok (.lcmp, 1) := by decide +kernel
theorem dL_law_1426 : decode cL_law 1426 = .ok (.ifCond .eq 5, 3) := by decide +kernel
theorem dL_law_1429 : decode cL_law 1429 = .ok (.iconst 0, 1) := by decide +kernel
theorem dL_law_1430 : decode cL_law 1430 = .ok (.ireturn, 1) := by decide +kernel
theorem dL_law_1431 : decode cL_law 1431 = .ok (.iinc 4 4, 3) := by decide +kernel
theorem dL_law_1434 : decode cL_law 1434 = .ok (.goto (-1411), 3) := by decide +kernel
theorem dL_law_1437 : decode cL_law 1437 = .ok (.iconst 1, 1) := by decide +kernel
theorem dL_law_1438 : decode cL_law 1438 = .ok (.ireturn, 1) := by decide +kernel
abbrev vwCl : List vw_C := [(RX0, TX0, 2), (RX1, TX1, 2), (RX2, TX2, 4), (RX3, TX3, 10), (RX4, TX4, 14)]
end
section
/-! MY OWN KIT over the moving worlds: one form of contract for all methods, calls in place. -/
section XKA
/-- the addresses of a world -/
theorem xd_iff {A : Nat → Prop} {ws : va_W} : va_D A ws ↔ (ws.map Prod.fst).Nodup ∧ ∀ q ∈ ws, A q.1 := by
  constructor
  · intro h
    refine ⟨?_, fun q hq => ?_⟩
    · unfold List.Nodup
      rw [List.pairwise_iff_getElem]
      intro i j hi hj hij hh
      have hi' : i < ws.length := by simpa using hi
      have hj' : j < ws.length := by simpa using hj
      simp only [List.getElem_map] at hh
      have := h.1 i j _ _ (List.getElem?_eq_getElem hi') (List.getElem?_eq_getElem hj') hh
      omega
    · obtain ⟨k, hk⟩ := List.getElem?_of_mem hq
      exact h.2 k q hk
  · rintro ⟨h1, h2⟩
    unfold List.Nodup at h1
    rw [List.pairwise_iff_getElem] at h1
    refine ⟨fun i j p q hi hj hpq => ?_, fun k q hk => h2 q (List.mem_of_getElem? hk)⟩
    obtain ⟨hi', ei⟩ := List.getElem?_eq_some_iff.mp hi
    obtain ⟨hj', ej⟩ := List.getElem?_eq_some_iff.mp hj
    rcases Nat.lt_trichotomy i j with g | g | g
    · refine absurd ?_ (h1 i j (by simpa using hi') (by simpa using hj') g)
      simp only [List.getElem_map, ei, ej, hpq]
    · exact g
    · refine absurd ?_ (h1 j i (by simpa using hj') (by simpa using hi') g)
      simp only [List.getElem_map, ei, ej, hpq]
theorem xp_iff {D : va_G} {cl : List vw_C} {ws : va_W} {H : Heap} : va_P D cl ws H ↔ ∀ q ∈ ws, va_at D cl q H :=
  ⟨fun h q hq => by obtain ⟨k, hk⟩ := List.getElem?_of_mem hq; exact h k q hk, fun h k q hk => h q (List.mem_of_getElem? hk)⟩
theorem xp_mem {D : va_G} {cl : List vw_C} {ws ws' : va_W} {H : Heap} (h : va_P D cl ws H) (hm : ∀ q ∈ ws', q ∈ ws) : va_P D cl ws' H := xp_iff.mpr fun q hq => xp_iff.mp h q (hm q hq)
theorem xd_fst {A : Nat → Prop} {ws ws' : va_W} (e : ws'.map Prod.fst = ws.map Prod.fst) (h : va_D A ws) : va_D A ws' := by
  rw [xd_iff] at h ⊢
  refine ⟨by rw [e]; exact h.1, fun q hq => ?_⟩
  have : q.1 ∈ ws.map Prod.fst := by rw [← e]; exact List.mem_map_of_mem hq
  obtain ⟨q', hq', e'⟩ := List.mem_map.mp this
  rw [← e']
  exact h.2 q' hq'
theorem xd_perm {A : Nat → Prop} {ws ws' : va_W} (e : ws.Perm ws') (h : va_D A ws) : va_D A ws' := by
  rw [xd_iff] at h ⊢
  exact ⟨(e.map Prod.fst).nodup_iff.mp h.1, fun q hq => h.2 q (e.mem_iff.mpr hq)⟩
theorem xp_perm {D : va_G} {cl : List vw_C} {ws ws' : va_W} {H : Heap} (e : ws.Perm ws') (h : va_P D cl ws H) : va_P D cl ws' H := xp_mem h fun _ hq => e.mem_iff.mpr hq
/-- cells of a world replaced, at places -/
def xrep : va_W → List Nat → va_W → va_W
  | ws, i :: is, q :: w => xrep (ws.set i q) is w
  | ws, _, _ => ws
theorem xrep_get : ∀ (is : List Nat) (ws w : va_W), is.length = w.length → ∀ (k : Nat) (q : Nat × va_E), (xrep ws is w)[k]? = some q → q ∈ w ∨ (k ∉ is ∧ ws[k]? = some q)
  | [], ws, [], _, k, q, h => Or.inr ⟨List.not_mem_nil, h⟩
  | i :: is, ws, p :: w, hl, k, q, h => by
    rcases xrep_get is (ws.set i p) w (by simpa using hl) k q h with h1 | ⟨h1, h2⟩
    · exact Or.inl (List.mem_cons_of_mem _ h1)
    · by_cases e : i = k
      · subst e
        rw [List.getElem?_set] at h2
        simp only [if_true] at h2
        split at h2
        · cases h2; exact Or.inl List.mem_cons_self
        · cases h2
      · rw [List.getElem?_set_ne e] at h2
        exact Or.inr ⟨fun hm => (List.mem_cons.mp hm).elim (fun z => e z.symm) h1, h2⟩
theorem xrep_fst : ∀ (is : List Nat) (ws w : va_W), is.map (fun i => (ws[i]?).map Prod.fst) = w.map (fun q => some q.1) → (xrep ws is w).map Prod.fst = ws.map Prod.fst
  | [], ws, w, _ => by cases w <;> rfl
  | i :: is, ws, [], _ => rfl
  | i :: is, ws, p :: w, h => by
    simp only [List.map_cons, List.cons.injEq] at h
    have hset : (ws.set i p).map Prod.fst = ws.map Prod.fst := by
      rw [List.map_set]
      apply List.ext_getElem?
      intro k
      rw [List.getElem?_set]
      split
      · rename_i e
        subst e
        split
        · rename_i hl
          rw [List.getElem?_map, h.1]
        · rename_i hl
          rw [List.getElem?_eq_none (by omega)]
      · rfl
    have key : ∀ j, ((ws.set i p)[j]?).map Prod.fst = (ws[j]?).map Prod.fst := fun j => by
      rw [← List.getElem?_map, hset, List.getElem?_map]
    show (xrep (ws.set i p) is w).map Prod.fst = _
    rw [xrep_fst is (ws.set i p) w (by simp only [key]; exact h.2), hset]
theorem xrep_ok {A : Nat → Prop} {D : va_G} {cl : List vw_C} {ws wc w1 : va_W} {H H1 : Heap} (hP : va_P D cl ws H) (hD : va_D A ws) (is : List Nat) (his : is.map (fun i => ws[i]?) = wc.map some) (hf : w1.map Prod.fst = wc.map Prod.fst)
    (hk : ∀ q : Nat, q < H.size → ¬ va_A wc H.size q → H1[q]? = H[q]?) (hP1 : va_P D cl w1 H1) : va_P D cl (xrep ws is w1) H1 ∧ va_D A (xrep ws is w1) := by
  have hlen : is.length = w1.length := by
    have e1 := congrArg List.length his
    have e2 := congrArg List.length hf
    simp only [List.length_map] at e1 e2
    omega
  constructor
  · intro k q hq
    rcases xrep_get is ws w1 hlen k q hq with h | ⟨h, h2⟩
    · exact xp_iff.mp hP1 q h
    · have hlt := (hP k q h2).lt
      refine (hP k q h2).kept (hk q.1 hlt fun ha => ?_)
      rcases ha with ⟨j, e, hj⟩ | ha
      · have h1 : (is.map (fun i => ws[i]?))[j]? = some (some (q.1, e)) := by rw [his, List.getElem?_map, hj]; rfl
        rw [List.getElem?_map] at h1
        cases hi : is[j]? with
        | none => rw [hi] at h1; cases h1
        | some i =>
          rw [hi] at h1
          have hik := hD.1 i k (q.1, e) q (Option.some.inj h1) h2 rfl
          subst hik
          exact h (List.mem_of_getElem? hi)
      · omega
  · refine xd_fst (xrep_fst is ws w1 ?_) hD
    have e1 : is.map (fun i => (ws[i]?).map Prod.fst) = (is.map (fun i => ws[i]?)).map (Option.map Prod.fst) := by simp
    rw [e1, his]
    have e2 : w1.map (fun q => some q.1) = (w1.map Prod.fst).map some := by simp
    rw [e2, hf]
    simp
/-- the callee's part of a world stands ahead of the rest -/
theorem xapp_ok {A : Nat → Prop} {D : va_G} {cl : List vw_C} {wr wc w1 : va_W} {H H1 : Heap} (hP : va_P D cl (wc ++ wr) H) (hD : va_D A (wc ++ wr)) (hF : ∀ q, va_A wc H.size q → A q) (hD1 : va_D (va_A wc H.size) w1)
    (hk : ∀ q : Nat, q < H.size → ¬ va_A wc H.size q → H1[q]? = H[q]?) (hP1 : va_P D cl w1 H1) : va_P D cl (w1 ++ wr) H1 ∧ va_D A (w1 ++ wr) := by
  rw [xd_iff] at hD hD1
  rw [List.map_append, List.nodup_append] at hD
  have hout : ∀ q ∈ wr, q.1 < H.size ∧ ¬ va_A wc H.size q.1 := by
    intro q hq
    have hlt := (xp_iff.mp hP q (List.mem_append_right _ hq)).lt
    refine ⟨hlt, fun ha => ?_⟩
    rcases ha with ⟨j, e, hj⟩ | ha
    · exact hD.1.2.2 _ (List.mem_map_of_mem (List.mem_of_getElem? hj)) _ (List.mem_map_of_mem hq) rfl
    · omega
  constructor
  · refine xp_iff.mpr fun q hq => ?_
    rcases List.mem_append.mp hq with h | h
    · exact xp_iff.mp hP1 q h
    · exact (xp_iff.mp hP q (List.mem_append_right _ h)).kept (hk q.1 (hout q h).1 (hout q h).2)
  · rw [xd_iff, List.map_append, List.nodup_append]
    refine ⟨⟨hD1.1, hD.1.2.1, ?_⟩, ?_⟩
    · intro a ha b hb e
      obtain ⟨x, hx, rfl⟩ := List.mem_map.mp ha
      obtain ⟨y, hy, rfl⟩ := List.mem_map.mp hb
      exact (hout y hy).2 (by rw [← e]; exact hD1.2 x hx)
    · intro q hq
      rcases List.mem_append.mp hq with h | h
      · exact hF q.1 (hD1.2 q h)
      · exact hD.2 q (List.mem_append_right _ h)
theorem xa_self {ws : va_W} {sz : Nat} {q : Nat × va_E} (h : q ∈ ws) : va_A ws sz q.1 := by
  obtain ⟨k, hk⟩ := List.getElem?_of_mem h
  exact va_A.in hk
theorem xd_self {A : Nat → Prop} {ws ws' : va_W} {sz : Nat} (e : ws'.map Prod.fst = ws.map Prod.fst) (h : va_D A ws) : va_D (va_A ws sz) ws' := xd_fst e h.self
theorem xfree {A : Nat → Prop} {ws wc : va_W} {H0 H : Heap} {locs : List Loc} (hD : va_D A ws) (hS : va_S A H0 H locs) (hA : ∀ q, H0.size ≤ q → A q) (hm : ∀ q ∈ wc, q ∈ ws) : ∀ q, va_A wc H.size q → A q := by
  intro q h
  rcases h with ⟨k, e, h⟩ | h
  · exact (xd_iff.mp hD).2 (q, e) (hm _ (List.mem_of_getElem? h))
  · exact hA q (Nat.le_trans hS.1 h)
theorem xis_mem {ws wc : va_W} {is : List Nat} (his : is.map (fun i => ws[i]?) = wc.map some) : ∀ q ∈ wc, q ∈ ws := by
  intro q hq
  have h1 : some q ∈ is.map (fun i => ws[i]?) := by rw [his]; exact List.mem_map_of_mem hq
  obtain ⟨i, -, hi⟩ := List.mem_map.mp h1
  exact List.mem_of_getElem? hi
/-- of an array only its places count -/
theorem xcell_i {cA : ClassId} {n : Nat} {f g : Nat → Int32} (h : ∀ j, j < n → f j = g j) : vp_cell cA (n, .inl f) = vp_cell cA (n, .inl g) := by
  rw [vp_cell_i, vp_cell_i]
  unfold arrV
  congr 1
  apply Array.ext_getElem?
  intro i
  simp only [Array.getElem?_ofFn]
  split
  · rename_i hi
    rw [h i hi]
  · rfl
theorem x_can {D : va_G} {cl : List vw_C} {ws : va_W} {H : Heap} (h : va_P D cl ws H) (q0 : Nat) {a : Nat} {cA : ClassId} {n : Nat} {f : Nat → Int32} (g : Nat → Int32) (he : ws[q0]? = some (a, .inl (cA, n, .inl f))) (hfg : ∀ j, j < n → f j = g j) : va_P D cl (ws.set q0 (a, .inl (cA, n, .inl g))) H := by
  intro k q hq
  by_cases e : q0 = k
  · subst e
    have hl := (List.getElem?_eq_some_iff.mp he).1
    rw [List.getElem?_set_self hl] at hq
    cases hq
    have h1 := h q0 _ he
    show H[a]? = some (vp_cell cA (n, .inl g))
    rw [← xcell_i hfg]
    exact h1
  · rw [List.getElem?_set_ne e] at hq
    exact h k q hq
theorem xd_set {A : Nat → Prop} {ws : va_W} (hD : va_D A ws) (q0 : Nat) {a : Nat} {e e0 : va_E} (he : ws[q0]? = some (a, e0)) : va_D A (ws.set q0 (a, e)) := hD.set he
theorem x_at {D : va_G} {cl : List vw_C} {ws : va_W} {H : Heap} {t : State} (ht : t.heap = H) (hP : va_P D cl ws H) : va_P D cl ws t.heap := by rw [ht]; exact hP
/-- Met.ofW for a method of java.lang.Math that no entry runs in the place of its bytecode -/
theorem x_ofWF {l : Launch} {y : MethodName} {ws ws' : List Cond} {rm : Room} {Pc : Array Value → State → Prop} {Qc : Array Value → State → Outcome → State → Prop} {mc ms : Nat} {free : Addr → Prop} {cc : ByteArray} {maxL : Nat} {ret : Option FieldType}
    (hy : plainFor y = true) (hw : ws = Cond.code y cc maxL ret :: ws')
    (body : ∀ p e s m args below meth c s₁, BodyLoose p l y (headSpec ws rm) cc maxL ret e s m args below meth c s₁ → c.maxLocals = maxL → Pc args s →
      W p l e (headSpec ws rm).room s m args below meth c s.heap [] 0 0 (MQ below Qc args s mc ms free) (entryFrame m args maxL)) : Met l y ws rm Pc Qc mc ms free := by
  refine MetFree.of_bodySF (code := cc) (maxLocals := maxL) (ret := ret) hy ?_ ?_
  · intro args s m h hn
    obtain ⟨meth, c, h1, h2, h3, h4, h5, h6, -, -⟩ := Cond.code_spec hn (atoms_spec (ws := ws) h _ (by rw [hw]; exact List.mem_cons_self))
    exact ⟨meth, c, h1, h2, h3, h4, h5, h6⟩
  · intro p e s m args below meth c s₁ B hml hP _
    obtain ⟨t, a1, o, b1, b2, b3⟩ := body p e s m args below meth c s₁ B hml hP s₁ (by rw [B.state]; rfl) (Stand.of_body B)
    exact ⟨t, o, a1, b1, b2, b3.1, b3.2⟩
theorem x_inc (k : Nat) : nI k + Int32.ofInt 1 = nI (k + 1) := by
  rw [nI_succ]; rfl
theorem x_inc4 (k : Nat) : nI k + Int32.ofInt 4 = nI (k + 4) := by
  rw [show (4 : Nat) = 1 + 1 + 1 + 1 from rfl, ← Nat.add_assoc, ← Nat.add_assoc, ← Nat.add_assoc, nI_succ, nI_succ, nI_succ, nI_succ, Int32.add_assoc, Int32.add_assoc, Int32.add_assoc]; rfl
section XKR
variable {p : Program} {l : Launch} {e : Env} {R : Room} {s : State} {m : MethodId} {args : Array Value} {below : List Frame} {meth : Method} {c : Code} {H : Heap} {locs : List Loc} {cells slots : Nat} {Q : State → Prop}
variable {cc : ByteArray} {pc : Nat} {ls : Array Slot} {rest : List Value} {D : va_G} {cl : List vw_C} {A : Nat → Prop} {a : Nat} {tys : List (ClassId × FieldType)} {ws : va_W} {H0 : Heap}
theorem x_topi {x : Int32} (y : Int32) (h : x = y) (k : W p l e R s m args below meth c H locs cells slots Q (F0 m pc ls (.int y :: rest))) : W p l e R s m args below meth c H locs cells slots Q (F0 m pc ls (.int x :: rest)) := by rw [h]; exact k
theorem x_topl {x : Int64} (y : Int64) (h : x = y) (k : W p l e R s m args below meth c H locs cells slots Q (F0 m pc ls (.long y :: rest))) : W p l e R s m args below meth c H locs cells slots Q (F0 m pc ls (.long x :: rest)) := by rw [h]; exact k
theorem x_topd {x : UInt64} (y : UInt64) (h : x = y) (k : W p l e R s m args below meth c H locs cells slots Q (F0 m pc ls (.double y :: rest))) : W p l e R s m args below meth c H locs cells slots Q (F0 m pc ls (.double x :: rest)) := by rw [h]; exact k
theorem x_iald (hexec : p.tables.exec = Jvm.exec) (hb : c.code = cc) (hK : va_K D cl tys s) (hP : va_P D cl ws H) (q0 t0 : Nat) {cA : ClassId} {n : Nat} {f : Nat → Int32} (ha : ws[q0]? = some (a, .inl (cA, n, .inl f))) (ht : tys[t0]? = some (cA, .int)) {k : Nat} (hk : k < n) (hn : n < 2 ^ 31) (hdg : decode cc pc = .ok (.iaload, 1))
    (kk : W p l e R s m args below meth c H locs cells slots Q (F0 m (pc + 1) ls (.int (f k) :: rest))) : W p l e R s m args below meth c H locs cells slots Q (F0 m pc ls (.int (nI k) :: .ref a :: rest)) :=
  va_iald hexec hb hK hP q0 t0 ha ht (vp_in_nI hk hn) hdg (by rw [nI_clamp (Nat.lt_trans hk hn)]; exact kk)
theorem x_iast (hexec : p.tables.exec = Jvm.exec) (hb : c.code = cc) (hK : va_K D cl tys s) (hP : va_P D cl ws H) (hD : va_D A ws) (hS : va_S A H0 H locs) (q0 t0 : Nat) {cA : ClassId} {n : Nat} {f : Nat → Int32} (ha : ws[q0]? = some (a, .inl (cA, n, .inl f))) (ht : tys[t0]? = some (cA, .int)) {k : Nat} {x : Int32} (hk : k < n) (hn : n < 2 ^ 31) (hdg : decode cc pc = .ok (.iastore, 1))
    (kk : ∀ (H1 : Heap) (locs1 : List Loc), va_P D cl (ws.set q0 (a, .inl (cA, n, .inl (upd f k x)))) H1 → va_D A (ws.set q0 (a, .inl (cA, n, .inl (upd f k x)))) → va_S A H0 H1 locs1 → W p l e R s m args below meth c H1 locs1 cells slots Q (F0 m (pc + 1) ls rest)) : W p l e R s m args below meth c H locs cells slots Q (F0 m pc ls (.int x :: .int (nI k) :: .ref a :: rest)) :=
  va_iast hexec hb hK hP hD hS q0 t0 ha ht (vp_in_nI hk hn) hdg (by rw [nI_clamp (Nat.lt_trans hk hn)]; exact kk)
theorem x_aald (hexec : p.tables.exec = Jvm.exec) (hb : c.code = cc) (hK : va_K D cl tys s) (hP : va_P D cl ws H) (q0 t0 : Nat) {cA : ClassId} {C : String} {n : Nat} {f : Nat → Option Nat} (ha : ws[q0]? = some (a, .inl (cA, n, .inr (.inr (.inr (.inr f)))))) (ht : tys[t0]? = some (cA, .object C)) {k : Nat} (hk : k < n) (hn : n < 2 ^ 31) (hdg : decode cc pc = .ok (.aaload, 1)) {v : Value} (hv : va_rf (f k) = v)
    (kk : W p l e R s m args below meth c H locs cells slots Q (F0 m (pc + 1) ls (v :: rest))) : W p l e R s m args below meth c H locs cells slots Q (F0 m pc ls (.int (nI k) :: .ref a :: rest)) :=
  va_aldq hexec hb hK hP q0 t0 ha ht (vp_in_nI hk hn) hdg (by rw [nI_clamp (Nat.lt_trans hk hn), hv]; exact kk)
theorem x_aaldA (hexec : p.tables.exec = Jvm.exec) (hb : c.code = cc) (hK : va_K D cl tys s) (hP : va_P D cl ws H) (q0 t0 : Nat) {cA : ClassId} {ty : FieldType} {n : Nat} {f : Nat → Option Nat} (ha : ws[q0]? = some (a, .inl (cA, n, .inr (.inr (.inr (.inr f)))))) (ht : tys[t0]? = some (cA, .array ty)) {k : Nat} (hk : k < n) (hn : n < 2 ^ 31) (hdg : decode cc pc = .ok (.aaload, 1)) {v : Value} (hv : va_rf (f k) = v)
    (kk : W p l e R s m args below meth c H locs cells slots Q (F0 m (pc + 1) ls (v :: rest))) : W p l e R s m args below meth c H locs cells slots Q (F0 m pc ls (.int (nI k) :: .ref a :: rest)) := by
  have hlt : (nI k).toNatClampNeg < n := by rw [nI_clamp (Nat.lt_trans hk hn)]; exact hk
  refine W.aald (v := v) (ty := .array ty) hexec hb (hP q0 _ ha) ((hK.2 t0 _ ht).1 n (fun j => va_rf (f j))) rfl (fun q => by cases q) (by show ¬ (nI k < 0 ∨ (arrV _ _ _).slots.size ≤ _); rw [arrV_size]; exact vp_in_nI hk hn) (by show (arrV _ _ _).slots[_]? = _; rw [arrV_read _ _ hlt, nI_clamp (Nat.lt_trans hk hn), hv]) rfl rfl hdg kk
theorem x_newai (hexec : p.tables.exec = Jvm.exec) (hb : c.code = cc) (harr : (Cond.arrayClass .int).before args s = true) (hK : va_K D cl tys s) (t0 : Nat) {cI : ClassId} (ht : tys[t0]? = some (cI, .int)) (hP : va_P D cl ws H) (hD : va_D A ws) (hS : va_S A H0 H locs) (hA : ∀ q, H0.size ≤ q → A q) {N : Nat} (hN : N < 2 ^ 31) (hbytes : N * 4 ≤ 536870912) (hcells : cells + 1 ≤ R.cells) (hslots : slots + N ≤ R.slots) (hdg : decode cc pc = .ok (.newarray .int, 2))
    (kk : ∀ (q : Nat) (H1 : Heap), va_P D cl (ws ++ [(q, .inl (cI, N, .inl (fun _ => 0)))]) H1 → va_D A (ws ++ [(q, .inl (cI, N, .inl (fun _ => 0)))]) → va_S A H0 H1 locs → W p l e R s m args below meth c H1 locs (cells + 1) (slots + N) Q (F0 m (pc + 2) ls (.ref q :: rest))) : W p l e R s m args below meth c H locs cells slots Q (F0 m pc ls (.int (nI N) :: rest)) := by
  refine va_newa (atype := .int) (ty := .int) (N' := N) (a0 := (N, .inl (fun _ => 0))) hexec hb harr rfl hK hP hD hS hA (fun _ => rfl) (nI_pos hN) (nI_clamp hN) (by rw [show componentBytes .int = 4 from rfl]; exact hbytes) hcells hslots hdg (fun q cA H1 hK1 h1 h2 h3 => ?_)
  have e : cA = cI := by
    have g1 := (hK1.2 tys.length (cA, .int) (by simp)).2
    have g2 := (hK.2 t0 _ ht).2
    exact Option.some.inj (g1.symm.trans g2)
  subst e
  exact kk q H1 h1 h2 h3
theorem x_newaq (hexec : p.tables.exec = Jvm.exec) (hb : c.code = cc) {own C : String} {index : Nat} (hown : s.vm.findClass own = some m.cls) (hclink : (Cond.classLink own index C).before args s = true) (hover : va_AO C s) (hK : va_K D cl tys s) (t0 : Nat) {cI : ClassId} (ht : tys[t0]? = some (cI, .object C)) (hP : va_P D cl ws H) (hD : va_D A ws) (hS : va_S A H0 H locs) (hA : ∀ q, H0.size ≤ q → A q) {N : Nat} (hN : N < 2 ^ 31) (hbytes : N * 4 ≤ 536870912) (hcells : cells + 1 ≤ R.cells) (hslots : slots + N ≤ R.slots) (hdg : decode cc pc = .ok (.anewarray index, 3))
    (kk : ∀ (q : Nat) (H1 : Heap), va_P D cl (ws ++ [(q, .inl (cI, N, .inr (.inr (.inr (.inr (fun _ => none))))))]) H1 → va_D A (ws ++ [(q, .inl (cI, N, .inr (.inr (.inr (.inr (fun _ => none))))))]) → va_S A H0 H1 locs → W p l e R s m args below meth c H1 locs (cells + 1) (slots + N) Q (F0 m (pc + 3) ls (.ref q :: rest))) : W p l e R s m args below meth c H locs cells slots Q (F0 m pc ls (.int (nI N) :: rest)) := by
  refine va_newq (N' := N) hexec hb hown hclink hover hK hP hD hS hA (nI_pos hN) (nI_clamp hN) hbytes hcells hslots hdg (fun q cA H1 hK1 h1 h2 h3 => ?_)
  have e : cA = cI := by
    obtain ⟨_, _, _, _, _, g1⟩ := (hK1.2 tys.length (cA, .object C) (by simp)).2
    obtain ⟨_, _, _, _, _, g2⟩ := (hK.2 t0 _ ht).2
    exact Option.some.inj (g1.symm.trans g2)
  subst e
  exact kk q H1 h1 h2 h3
end XKR
end XKA

section XKB
/-- the words of nest mates and others that no list of words carries -/
def xNW : List Cond := [.methodLinkNest RX3 11 yX1_init "CardFans",
  .methodLinkNest RX1 18 yX3_isSixteenth "CardFans",
  .methodLinkNest RX1 26 yX3_mixed "CardFans",
  .methodLinkNest RX2 34 yX3_setOf "CardFans",
  .methodLinkNest RX2 51 yX3_isOneAlone "CardFans",
  .methodLinkNest RX1 22 yX3_placeAfter "CardFans",
  .methodLinkNest RX2 11 yX1_init "CardFans",
  .fieldLinkNest RX3 52 RX2 "isSharp" "Z" "CardFans",
  .fieldLinkNest RX3 93 RX2 "thoughts" "LCardFans$Row;" "CardFans",
  .fieldLinkNest RX3 110 RX2 "timesAnew" "I" "CardFans",
  .fieldLinkNest RX3 113 RX2 "glimpses" "I" "CardFans",
  .fieldLinkNest RX3 138 RX0 "habit" "I" "CardFans",
  .fieldLinkNest RX3 150 RX0 "latestCard" "I" "CardFans",
  .declares ⟨"java/lang/RuntimeException", "<init>", "()V"⟩,
  .declares ⟨"java/lang/RuntimeException", "<init>", "(Ljava/lang/String;)V"⟩,
  .declares ⟨"java/lang/Exception", "<init>", "()V"⟩,
  .declares ⟨"java/lang/Exception", "<init>", "(Ljava/lang/String;)V"⟩,
  .declares ⟨"java/lang/Throwable", "<init>", "()V"⟩,
  .declares ⟨"java/lang/Throwable", "<init>", "(Ljava/lang/String;)V"⟩,
  .castable "java/lang/IndexOutOfBoundsException" "java/lang/IndexOutOfBoundsException",
  .castable "java/lang/IllegalArgumentException" "java/lang/IllegalArgumentException",
  .castable "java/lang/IllegalStateException" "java/lang/IllegalStateException",
  .castable "[I" "java/lang/Cloneable"]
def xStr : List (Nat × String) := [(156, "what is not 0 to 6"), (188, "no such watcher"), (118, "what is not 0 to 5"), (198, "no such way"), (205, "place is not 0 to 15"), (207, "card is not 0 to 15"), (78, "there are 4 watchers"), (209, "number is not 0 to 15"), (127, "there are 4 players"), (190, "no such player")]
def xNc : List (String × String) := [("java/lang/IndexOutOfBoundsException", "java/lang/IllegalArgumentException"), ("java/lang/IllegalStateException", "java/lang/IllegalArgumentException")]
theorem xNW_ot : ∀ w ∈ xNW, w.onTables = true := by decide +kernel
theorem xNW_warm {s U : State} (hW : s.WarmedH U.vm) (h : ∀ w ∈ xNW, va_Nw w s) : ∀ w ∈ xNW, va_Nw w U := by
  unfold xNW at h ⊢
  obtain ⟨h0, h⟩ := List.forall_mem_cons.mp h
  obtain ⟨h1, h⟩ := List.forall_mem_cons.mp h
  obtain ⟨h2, h⟩ := List.forall_mem_cons.mp h
  obtain ⟨h3, h⟩ := List.forall_mem_cons.mp h
  obtain ⟨h4, h⟩ := List.forall_mem_cons.mp h
  obtain ⟨h5, h⟩ := List.forall_mem_cons.mp h
  obtain ⟨h6, h⟩ := List.forall_mem_cons.mp h
  obtain ⟨h7, h⟩ := List.forall_mem_cons.mp h
  obtain ⟨h8, h⟩ := List.forall_mem_cons.mp h
  obtain ⟨h9, h⟩ := List.forall_mem_cons.mp h
  obtain ⟨h10, h⟩ := List.forall_mem_cons.mp h
  obtain ⟨h11, h⟩ := List.forall_mem_cons.mp h
  obtain ⟨h12, h⟩ := List.forall_mem_cons.mp h
  obtain ⟨h13, h⟩ := List.forall_mem_cons.mp h
  obtain ⟨h14, h⟩ := List.forall_mem_cons.mp h
  obtain ⟨h15, h⟩ := List.forall_mem_cons.mp h
  obtain ⟨h16, h⟩ := List.forall_mem_cons.mp h
  obtain ⟨h17, h⟩ := List.forall_mem_cons.mp h
  obtain ⟨h18, h⟩ := List.forall_mem_cons.mp h
  obtain ⟨h19, h⟩ := List.forall_mem_cons.mp h
  obtain ⟨h20, h⟩ := List.forall_mem_cons.mp h
  obtain ⟨h21, h⟩ := List.forall_mem_cons.mp h
  obtain ⟨h22, h⟩ := List.forall_mem_cons.mp h
  exact List.forall_mem_cons.mpr ⟨va_Nw.warmM hW h0, List.forall_mem_cons.mpr ⟨va_Nw.warmM hW h1, List.forall_mem_cons.mpr ⟨va_Nw.warmM hW h2, List.forall_mem_cons.mpr ⟨va_Nw.warmM hW h3, List.forall_mem_cons.mpr ⟨va_Nw.warmM hW h4, List.forall_mem_cons.mpr ⟨va_Nw.warmM hW h5, List.forall_mem_cons.mpr ⟨va_Nw.warmM hW h6, List.forall_mem_cons.mpr ⟨va_Nw.warmF hW h7, List.forall_mem_cons.mpr ⟨va_Nw.warmF hW h8, List.forall_mem_cons.mpr ⟨va_Nw.warmF hW h9, List.forall_mem_cons.mpr ⟨va_Nw.warmF hW h10, List.forall_mem_cons.mpr ⟨va_Nw.warmF hW h11, List.forall_mem_cons.mpr ⟨va_Nw.warmF hW h12, List.forall_mem_cons.mpr ⟨va_Nw.warmD hW h13, List.forall_mem_cons.mpr ⟨va_Nw.warmD hW h14, List.forall_mem_cons.mpr ⟨va_Nw.warmD hW h15, List.forall_mem_cons.mpr ⟨va_Nw.warmD hW h16, List.forall_mem_cons.mpr ⟨va_Nw.warmD hW h17, List.forall_mem_cons.mpr ⟨va_Nw.warmD hW h18, List.forall_mem_cons.mpr ⟨va_Nw.warmC hW h19, List.forall_mem_cons.mpr ⟨va_Nw.warmC hW h20, List.forall_mem_cons.mpr ⟨va_Nw.warmC hW h21, List.forall_mem_cons.mpr ⟨va_Nw.warmC hW h22, fun _ q => nomatch q⟩⟩⟩⟩⟩⟩⟩⟩⟩⟩⟩⟩⟩⟩⟩⟩⟩⟩⟩⟩⟩⟩⟩
/-- what a state's tables say, at every call -/
def xB (U : State) : Prop := (∀ w ∈ xNW, va_Nw w U) ∧ (∀ q ∈ xStr, ∃ a, vk_R RX3 q.1 q.2 a U) ∧ (∀ q ∈ xNc, va_Nc q.1 q.2 U) ∧ va_AO RX0 U ∧ va_AO RX2 U
theorem xB.same {u U : State} (e : u.vm = U.vm) (h : xB u) : xB U := by
  obtain ⟨h1, h2, h3, h4, h5⟩ := h
  refine ⟨fun w hw => va_Nw.same (xNW_ot w hw) e (h1 w hw), fun q hq => ?_, fun q hq => va_Nc.moved (by rw [e]; exact Vm.Alike.refl _) (h3 q hq), va_AO.moved (by rw [e]; exact Vm.Alike.refl _) h4, va_AO.moved (by rw [e]; exact Vm.Alike.refl _) h5⟩
  obtain ⟨a, ha⟩ := h2 q hq
  exact ⟨a, vk_R.same e.symm ha⟩
theorem xB.warm {s U : State} (hW : s.WarmedH U.vm) (h : xB s) : xB U := by
  obtain ⟨h1, h2, h3, h4, h5⟩ := h
  refine ⟨xNW_warm hW h1, fun q hq => ?_, fun q hq => va_Nc.moved hW.alike (h3 q hq), va_AO.moved hW.alike h4, va_AO.moved hW.alike h5⟩
  obtain ⟨a, ha⟩ := h2 q hq
  exact ⟨a, vk_R.warm hW ha⟩
def xDt (j : Nat) : Nat := [0, 15, 7, 14, 3, 13, 6, 12, 1, 11, 5, 10, 2, 9, 4, 8].getD j 0
/-- the statics that lie outside of what a method may change -/
def xS (A : Nat → Prop) (U : State) (H : Heap) : Prop := vx_Zq Bundle.tN "UNASSIGNED_STACK" Bundle.steD A U H ∧ vx_Zq Bundle.tN "SUPPRESSED_SENTINEL" Bundle.listD A U H ∧ ∃ t, va_Z RX4 "DEALT" "[I" (.ref t) A U H ∧ va_T .int t 16 (fun j => .int (nI (xDt j))) A U H
theorem xS.moved {A : Nat → Prop} {u U : State} {H : Heap} (hvm : u.vm.Alike U.vm) (h : xS A u H) : xS A U H := by
  obtain ⟨h1, h2, t, h3, h4⟩ := h
  exact ⟨vx_Zq.moved hvm h1, vx_Zq.moved hvm h2, t, va_Z.moved hvm h3, va_T.moved hvm h4⟩
theorem xS.kept {A : Nat → Prop} {U : State} {H H1 : Heap} (h : xS A U H) (hq : ∀ a : Nat, a < H.size → ¬ A a → H1[a]? = H[a]?) : xS A U H1 := by
  obtain ⟨h1, h2, t, h3, h4⟩ := h
  exact ⟨vx_Zq.kept h1 hq, vx_Zq.kept h2 hq, t, va_Z.kept h3 hq, va_T.kept h4 hq⟩
theorem xS.narrow {A B : Nat → Prop} {U : State} {H : Heap} (h : xS A U H) (hAB : ∀ q, B q → A q) : xS B U H := by
  obtain ⟨h1, h2, t, h3, h4⟩ := h
  exact ⟨vx_Zq.narrow h1 hAB, vx_Zq.narrow h2 hAB, t, va_Z.narrow h3 hAB, va_T.narrow h4 hAB⟩
/-- the array classes -/
abbrev xT (T : Nat → ClassId) : List (ClassId × FieldType) := [(T 0, .int), (T 1, .object RX0), (T 2, .object RX2), (T 3, .array .int), (T 4, .long)]
/-- a method's start: its world, and what stands round it -/
def xPre (G : va_G) (T : Nat → ClassId) (ws : va_W) (sz : Nat) (U : State) : Prop := U.heap.size = sz ∧ va_P G vwCl ws U.heap ∧ va_K G vwCl (xT T) U ∧ va_D (fun _ => True) ws ∧ xB U ∧ xS (va_A ws sz) U U.heap
theorem x_blind (G : va_G) (T : Nat → ClassId) (ws : va_W) (sz : Nat) (av : List Value) : FrameBlind (va_Pc av (xPre G T ws sz)) := by
  intro a U g mk h
  obtain ⟨h0, h1, h2, h3, h4, h5, h6⟩ := h
  exact ⟨h0, h1, h2, va_K.moved (u := U) (U := U.calling g mk a) (Vm.Alike.refl U.vm) h3, h4, xB.same (u := U) (U := U.calling g mk a) rfl h5, xS.moved (u := U) (U := U.calling g mk a) (Vm.Alike.refl U.vm) h6⟩
section XKC
variable {s : State} {H : Heap} {locs : List Loc} {G : va_G} {T : Nat → ClassId} {ws wc wr : va_W} {A : Nat → Prop}
theorem x_pre (hK : va_K G vwCl (xT T) s) (hP : va_P G vwCl ws H) (hD : va_D A ws) (hS : va_S A s.heap H locs) (hA : ∀ q, s.heap.size ≤ q → A q) (hB : xB s) (hZ : xS A s s.heap) (hm : ∀ q ∈ wc, q ∈ ws) (hDc : va_D A wc) (U : State) (hU : U.heap = H) (hW : s.WarmedH U.vm) : xPre G T wc H.size U := by
  refine ⟨by rw [hU], by rw [hU]; exact xp_mem hP hm, va_K.moved hW.alike hK, hDc.weaken (fun _ _ _ _ => trivial), xB.warm hW hB, ?_⟩
  rw [hU]
  exact xS.moved hW.alike ((hZ.kept hS.2.1).narrow (xfree hD hS hA hm))
theorem x_preS (hK : va_K G vwCl (xT T) s) (hP : va_P G vwCl ws H) (hD : va_D A ws) (hS : va_S A s.heap H locs) (hA : ∀ q, s.heap.size ≤ q → A q) (hB : xB s) (hZ : xS A s s.heap) (is : List Nat) (his : is.map (fun i => ws[i]?) = wc.map some) (hn : va_nd is = true) (av : List Value) : PreS s H (va_Pc av (xPre G T wc H.size)) av :=
  ⟨x_blind G T wc H.size av, fun U hU hW => ⟨rfl, x_pre hK hP hD hS hA hB hZ (xis_mem his) (hD.sub is hn his) U hU hW⟩⟩
theorem x_preSA (hK : va_K G vwCl (xT T) s) (hP : va_P G vwCl (wc ++ wr) H) (hD : va_D A (wc ++ wr)) (hS : va_S A s.heap H locs) (hA : ∀ q, s.heap.size ≤ q → A q) (hB : xB s) (hZ : xS A s s.heap) (av : List Value) : PreS s H (va_Pc av (xPre G T wc H.size)) av :=
  ⟨x_blind G T wc H.size av, fun U hU hW => ⟨rfl, x_pre hK hP hD hS hA hB hZ (fun _ h => List.mem_append_left _ h) (by
    rw [xd_iff] at hD ⊢
    rw [List.map_append, List.nodup_append] at hD
    exact ⟨hD.1.1, fun q hq => hD.2 q (List.mem_append_left _ hq)⟩) U hU hW⟩⟩
theorem x_preV (hK : va_K G vwCl (xT T) s) (hP : va_P G vwCl ws H) (hD : va_D A ws) (hS : va_S A s.heap H locs) (hA : ∀ q, s.heap.size ≤ q → A q) (hB : xB s) (hZ : xS A s s.heap) (is : List Nat) (his : is.map (fun i => ws[i]?) = wc.map some) (hn : va_nd is = true) (b : Nat) (As : List Value) (q0 ci : Nat) {fs : List Value} (he : ws[q0]? = some (b, .inr (ci, fs))) {C : vw_C} (hc : vwCl[ci]? = some C) : PreV s H C.1 b (va_Pc (.ref b :: As) (xPre G T wc H.size)) As :=
  ⟨x_blind G T wc H.size _, va_recv hK hP hc he, fun U hU hW => ⟨rfl, x_pre hK hP hD hS hA hB hZ (xis_mem his) (hD.sub is hn his) U hU hW⟩⟩
theorem x_preVA (hK : va_K G vwCl (xT T) s) (hP : va_P G vwCl (wc ++ wr) H) (hD : va_D A (wc ++ wr)) (hS : va_S A s.heap H locs) (hA : ∀ q, s.heap.size ≤ q → A q) (hB : xB s) (hZ : xS A s s.heap) (b : Nat) (As : List Value) (q0 ci : Nat) {fs : List Value} (he : (wc ++ wr)[q0]? = some (b, .inr (ci, fs))) {C : vw_C} (hc : vwCl[ci]? = some C) : PreV s H C.1 b (va_Pc (.ref b :: As) (xPre G T wc H.size)) As :=
  ⟨x_blind G T wc H.size _, va_recv hK hP hc he, fun U hU hW => ⟨rfl, x_pre hK hP hD hS hA hB hZ (fun _ h => List.mem_append_left _ h) (by
    rw [xd_iff] at hD ⊢
    rw [List.map_append, List.nodup_append] at hD
    exact ⟨hD.1.1, fun q hq => hD.2 q (List.mem_append_left _ hq)⟩) U hU hW⟩⟩
end XKC
section XKD
variable {p : Program} {l : Launch} {e : Env} {R : Room} {s : State} {m : MethodId} {args : Array Value} {below : List Frame} {meth : Method} {c : Code} {H : Heap} {locs : List Loc} {cells slots : Nat} {Q : State → Prop}
variable {pc : Nat} {ls : Array Slot} {rest st0 : List Value} {a : Array Value} {A : Nat → Prop} {mc ms : Nat} {G : va_G} {ws wc wr : va_W} {pE : String → Prop}
theorem x_calli {S : Type} {post : Int32 → S → Prop} {wv : S → va_W} (hr : va_Run p l e R s m args below meth c H locs cells slots mc ms (F0 m pc ls st0) rest (va_Qi post (fun u t => va_P G vwCl (wv u) t.heap) (va_A wc H.size) a) (va_A wc H.size)) (hP : va_P G vwCl ws H) (hD : va_D A ws) (hS : va_S A s.heap H locs) (hA : ∀ q, s.heap.size ≤ q → A q) (is : List Nat) (his : is.map (fun i => ws[i]?) = wc.map some) (hf : ∀ (r : Int32) (u : S), post r u → (wv u).map Prod.fst = wc.map Prod.fst)
    (kk : ∀ (r : Int32) (u : S) (H1 : Heap) (locs1 : List Loc), post r u → va_P G vwCl (xrep ws is (wv u)) H1 → va_D A (xrep ws is (wv u)) → va_S A s.heap H1 locs1 → W p l e R s m args below meth c H1 locs1 (cells + mc) (slots + ms) Q (F0 m (pc + 3) ls (.int r :: rest))) : W p l e R s m args below meth c H locs cells slots Q (F0 m pc ls st0) :=
  va_calli hr hS (fun q _ h => xfree hD hS hA (xis_mem his) q h) (fun q h => xfree hD hS hA (xis_mem his) q h) (fun r u t H1 locs1 ht _ hw hB _ hk1 hS1 => by
    obtain ⟨h1, h2⟩ := xrep_ok hP hD is his (hf r u hw) hk1 (by rw [← ht]; exact hB)
    exact kk r u H1 locs1 hw h1 h2 hS1)
theorem x_calliA {S : Type} {post : Int32 → S → Prop} {wv : S → va_W} (hr : va_Run p l e R s m args below meth c H locs cells slots mc ms (F0 m pc ls st0) rest (va_Qi post (fun u t => va_P G vwCl (wv u) t.heap) (va_A wc H.size) a) (va_A wc H.size)) (hP : va_P G vwCl (wc ++ wr) H) (hD : va_D A (wc ++ wr)) (hS : va_S A s.heap H locs) (hA : ∀ q, s.heap.size ≤ q → A q) (hf : ∀ (r : Int32) (u : S), post r u → va_D (va_A wc H.size) (wv u))
    (kk : ∀ (r : Int32) (u : S) (H1 : Heap) (locs1 : List Loc), post r u → va_P G vwCl (wv u ++ wr) H1 → va_D A (wv u ++ wr) → va_S A s.heap H1 locs1 → W p l e R s m args below meth c H1 locs1 (cells + mc) (slots + ms) Q (F0 m (pc + 3) ls (.int r :: rest))) : W p l e R s m args below meth c H locs cells slots Q (F0 m pc ls st0) :=
  have hF := xfree hD hS hA (wc := wc) (fun _ h => List.mem_append_left _ h)
  va_calli hr hS (fun q _ h => hF q h) (fun q h => hF q h) (fun r u t H1 locs1 ht _ hw hB _ hk1 hS1 => by
    obtain ⟨h1, h2⟩ := xapp_ok hP hD hF (hf r u hw) hk1 (by rw [← ht]; exact hB)
    exact kk r u H1 locs1 hw h1 h2 hS1)
theorem x_xcalli {S : Type} {post : Int32 → S → Prop} {wv : S → va_W} (hr : vx_Run p l e R s m args below meth c H locs cells slots mc ms (F0 m pc ls st0) rest (va_Qi post (fun u t => va_P G vwCl (wv u) t.heap) (va_A wc H.size) a) (vx_X (fun _ : Unit => True) (fun E _ t => pE E ∧ va_P G vwCl wc t.heap) (va_A wc H.size)) (va_A wc H.size)) (hP : va_P G vwCl ws H) (hD : va_D A ws) (hS : va_S A s.heap H locs) (hA : ∀ q, s.heap.size ≤ q → A q) (is : List Nat) (his : is.map (fun i => ws[i]?) = wc.map some) (hn : va_nd is = true) (hf : ∀ (r : Int32) (u : S), post r u → (wv u).map Prod.fst = wc.map Prod.fst)
    (kx : ∀ (E : String) (ce : Cell) (q9 : Addr) (H1 : Heap) (locs1 : List Loc), pE E → va_P G vwCl ws H1 → va_S A s.heap H1 locs1 → H1[q9]? = some ce → ce.vm = .none → s.vm.findClass E = some ce.cls → vx_W p l e R s m args below meth c H1 locs1 (cells + mc) (slots + ms) Q (F0 m pc ls rest) q9)
    (kk : ∀ (r : Int32) (u : S) (H1 : Heap) (locs1 : List Loc), post r u → va_P G vwCl (xrep ws is (wv u)) H1 → va_D A (xrep ws is (wv u)) → va_S A s.heap H1 locs1 → W p l e R s m args below meth c H1 locs1 (cells + mc) (slots + ms) Q (F0 m (pc + 3) ls (.int r :: rest))) : W p l e R s m args below meth c H locs cells slots Q (F0 m pc ls st0) :=
  vx_calli hr hS (fun q _ h => xfree hD hS hA (xis_mem his) q h) (fun q h => xfree hD hS hA (xis_mem his) q h) (fun q _ h => xfree hD hS hA (xis_mem his) q h) (fun E ce q9 _ t H1 locs1 ht _ _ hB _ hk1 hS1 c1 c2 c3 => by
    refine kx E ce q9 H1 locs1 hB.1 ?_ hS1 c1 c2 c3
    intro k q hq
    by_cases hc : ∃ e, (q.1, e) ∈ wc
    · obtain ⟨e, he⟩ := hc
      have hq2 : q ∈ wc := by
        obtain ⟨k2, hk2⟩ := List.getElem?_of_mem (xis_mem his _ he)
        have := hD.1 k k2 q _ hq hk2 rfl
        subst this
        rw [hq] at hk2
        rw [Option.some.inj hk2]
        exact he
      have := hB.2
      rw [ht] at this
      exact xp_iff.mp this q hq2
    · exact (hP k q hq).kept (hk1 q.1 (hP k q hq).lt (fun ha => by
        rcases ha with ⟨j, e, hj⟩ | ha
        · exact hc ⟨e, List.mem_of_getElem? hj⟩
        · have := (hP k q hq).lt
          omega))) (fun r u t H1 locs1 ht _ hw hB _ hk1 hS1 => by
    obtain ⟨h1, h2⟩ := xrep_ok hP hD is his (hf r u hw) hk1 (by rw [← ht]; exact hB)
    exact kk r u H1 locs1 hw h1 h2 hS1)
theorem x_xcalliA {S : Type} {post : Int32 → S → Prop} {wv : S → va_W} (hr : vx_Run p l e R s m args below meth c H locs cells slots mc ms (F0 m pc ls st0) rest (va_Qi post (fun u t => va_P G vwCl (wv u) t.heap) (va_A wc H.size) a) (vx_X (fun _ : Unit => True) (fun E _ t => pE E ∧ va_P G vwCl wc t.heap) (va_A wc H.size)) (va_A wc H.size)) (hP : va_P G vwCl (wc ++ wr) H) (hD : va_D A (wc ++ wr)) (hS : va_S A s.heap H locs) (hA : ∀ q, s.heap.size ≤ q → A q) (hf : ∀ (r : Int32) (u : S), post r u → va_D (va_A wc H.size) (wv u))
    (kx : ∀ (E : String) (ce : Cell) (q9 : Addr) (H1 : Heap) (locs1 : List Loc), pE E → va_P G vwCl (wc ++ wr) H1 → va_S A s.heap H1 locs1 → H1[q9]? = some ce → ce.vm = .none → s.vm.findClass E = some ce.cls → vx_W p l e R s m args below meth c H1 locs1 (cells + mc) (slots + ms) Q (F0 m pc ls rest) q9)
    (kk : ∀ (r : Int32) (u : S) (H1 : Heap) (locs1 : List Loc), post r u → va_P G vwCl (wv u ++ wr) H1 → va_D A (wv u ++ wr) → va_S A s.heap H1 locs1 → W p l e R s m args below meth c H1 locs1 (cells + mc) (slots + ms) Q (F0 m (pc + 3) ls (.int r :: rest))) : W p l e R s m args below meth c H locs cells slots Q (F0 m pc ls st0) :=
  have hF := xfree hD hS hA (wc := wc) (fun _ h => List.mem_append_left _ h)
  have hDw : va_D A wc := by
    rw [xd_iff] at hD ⊢
    rw [List.map_append, List.nodup_append] at hD
    exact ⟨hD.1.1, fun q hq => hD.2 q (List.mem_append_left _ hq)⟩
  vx_calli hr hS (fun q _ h => hF q h) (fun q h => hF q h) (fun q _ h => hF q h) (fun E ce q9 _ t H1 locs1 ht _ _ hB _ hk1 hS1 c1 c2 c3 => by
    refine kx E ce q9 H1 locs1 hB.1 ?_ hS1 c1 c2 c3
    exact (xapp_ok hP hD hF hDw.self hk1 (by rw [← ht]; exact hB.2)).1) (fun r u t H1 locs1 ht _ hw hB _ hk1 hS1 => by
    obtain ⟨h1, h2⟩ := xapp_ok hP hD hF (hf r u hw) hk1 (by rw [← ht]; exact hB)
    exact kk r u H1 locs1 hw h1 h2 hS1)
theorem x_calll {S : Type} {post : Int64 → S → Prop} {wv : S → va_W} (hr : va_Run p l e R s m args below meth c H locs cells slots mc ms (F0 m pc ls st0) rest (va_Ql post (fun u t => va_P G vwCl (wv u) t.heap) (va_A wc H.size) a) (va_A wc H.size)) (hP : va_P G vwCl ws H) (hD : va_D A ws) (hS : va_S A s.heap H locs) (hA : ∀ q, s.heap.size ≤ q → A q) (is : List Nat) (his : is.map (fun i => ws[i]?) = wc.map some) (hf : ∀ (r : Int64) (u : S), post r u → (wv u).map Prod.fst = wc.map Prod.fst)
    (kk : ∀ (r : Int64) (u : S) (H1 : Heap) (locs1 : List Loc), post r u → va_P G vwCl (xrep ws is (wv u)) H1 → va_D A (xrep ws is (wv u)) → va_S A s.heap H1 locs1 → W p l e R s m args below meth c H1 locs1 (cells + mc) (slots + ms) Q (F0 m (pc + 3) ls (.long r :: rest))) : W p l e R s m args below meth c H locs cells slots Q (F0 m pc ls st0) :=
  va_calll hr hS (fun q _ h => xfree hD hS hA (xis_mem his) q h) (fun q h => xfree hD hS hA (xis_mem his) q h) (fun r u t H1 locs1 ht _ hw hB _ hk1 hS1 => by
    obtain ⟨h1, h2⟩ := xrep_ok hP hD is his (hf r u hw) hk1 (by rw [← ht]; exact hB)
    exact kk r u H1 locs1 hw h1 h2 hS1)
theorem x_calllA {S : Type} {post : Int64 → S → Prop} {wv : S → va_W} (hr : va_Run p l e R s m args below meth c H locs cells slots mc ms (F0 m pc ls st0) rest (va_Ql post (fun u t => va_P G vwCl (wv u) t.heap) (va_A wc H.size) a) (va_A wc H.size)) (hP : va_P G vwCl (wc ++ wr) H) (hD : va_D A (wc ++ wr)) (hS : va_S A s.heap H locs) (hA : ∀ q, s.heap.size ≤ q → A q) (hf : ∀ (r : Int64) (u : S), post r u → va_D (va_A wc H.size) (wv u))
    (kk : ∀ (r : Int64) (u : S) (H1 : Heap) (locs1 : List Loc), post r u → va_P G vwCl (wv u ++ wr) H1 → va_D A (wv u ++ wr) → va_S A s.heap H1 locs1 → W p l e R s m args below meth c H1 locs1 (cells + mc) (slots + ms) Q (F0 m (pc + 3) ls (.long r :: rest))) : W p l e R s m args below meth c H locs cells slots Q (F0 m pc ls st0) :=
  have hF := xfree hD hS hA (wc := wc) (fun _ h => List.mem_append_left _ h)
  va_calll hr hS (fun q _ h => hF q h) (fun q h => hF q h) (fun r u t H1 locs1 ht _ hw hB _ hk1 hS1 => by
    obtain ⟨h1, h2⟩ := xapp_ok hP hD hF (hf r u hw) hk1 (by rw [← ht]; exact hB)
    exact kk r u H1 locs1 hw h1 h2 hS1)
theorem x_xcalll {S : Type} {post : Int64 → S → Prop} {wv : S → va_W} (hr : vx_Run p l e R s m args below meth c H locs cells slots mc ms (F0 m pc ls st0) rest (va_Ql post (fun u t => va_P G vwCl (wv u) t.heap) (va_A wc H.size) a) (vx_X (fun _ : Unit => True) (fun E _ t => pE E ∧ va_P G vwCl wc t.heap) (va_A wc H.size)) (va_A wc H.size)) (hP : va_P G vwCl ws H) (hD : va_D A ws) (hS : va_S A s.heap H locs) (hA : ∀ q, s.heap.size ≤ q → A q) (is : List Nat) (his : is.map (fun i => ws[i]?) = wc.map some) (hn : va_nd is = true) (hf : ∀ (r : Int64) (u : S), post r u → (wv u).map Prod.fst = wc.map Prod.fst)
    (kx : ∀ (E : String) (ce : Cell) (q9 : Addr) (H1 : Heap) (locs1 : List Loc), pE E → va_P G vwCl ws H1 → va_S A s.heap H1 locs1 → H1[q9]? = some ce → ce.vm = .none → s.vm.findClass E = some ce.cls → vx_W p l e R s m args below meth c H1 locs1 (cells + mc) (slots + ms) Q (F0 m pc ls rest) q9)
    (kk : ∀ (r : Int64) (u : S) (H1 : Heap) (locs1 : List Loc), post r u → va_P G vwCl (xrep ws is (wv u)) H1 → va_D A (xrep ws is (wv u)) → va_S A s.heap H1 locs1 → W p l e R s m args below meth c H1 locs1 (cells + mc) (slots + ms) Q (F0 m (pc + 3) ls (.long r :: rest))) : W p l e R s m args below meth c H locs cells slots Q (F0 m pc ls st0) :=
  vx_calll hr hS (fun q _ h => xfree hD hS hA (xis_mem his) q h) (fun q h => xfree hD hS hA (xis_mem his) q h) (fun q _ h => xfree hD hS hA (xis_mem his) q h) (fun E ce q9 _ t H1 locs1 ht _ _ hB _ hk1 hS1 c1 c2 c3 => by
    refine kx E ce q9 H1 locs1 hB.1 ?_ hS1 c1 c2 c3
    intro k q hq
    by_cases hc : ∃ e, (q.1, e) ∈ wc
    · obtain ⟨e, he⟩ := hc
      have hq2 : q ∈ wc := by
        obtain ⟨k2, hk2⟩ := List.getElem?_of_mem (xis_mem his _ he)
        have := hD.1 k k2 q _ hq hk2 rfl
        subst this
        rw [hq] at hk2
        rw [Option.some.inj hk2]
        exact he
      have := hB.2
      rw [ht] at this
      exact xp_iff.mp this q hq2
    · exact (hP k q hq).kept (hk1 q.1 (hP k q hq).lt (fun ha => by
        rcases ha with ⟨j, e, hj⟩ | ha
        · exact hc ⟨e, List.mem_of_getElem? hj⟩
        · have := (hP k q hq).lt
          omega))) (fun r u t H1 locs1 ht _ hw hB _ hk1 hS1 => by
    obtain ⟨h1, h2⟩ := xrep_ok hP hD is his (hf r u hw) hk1 (by rw [← ht]; exact hB)
    exact kk r u H1 locs1 hw h1 h2 hS1)
theorem x_xcalllA {S : Type} {post : Int64 → S → Prop} {wv : S → va_W} (hr : vx_Run p l e R s m args below meth c H locs cells slots mc ms (F0 m pc ls st0) rest (va_Ql post (fun u t => va_P G vwCl (wv u) t.heap) (va_A wc H.size) a) (vx_X (fun _ : Unit => True) (fun E _ t => pE E ∧ va_P G vwCl wc t.heap) (va_A wc H.size)) (va_A wc H.size)) (hP : va_P G vwCl (wc ++ wr) H) (hD : va_D A (wc ++ wr)) (hS : va_S A s.heap H locs) (hA : ∀ q, s.heap.size ≤ q → A q) (hf : ∀ (r : Int64) (u : S), post r u → va_D (va_A wc H.size) (wv u))
    (kx : ∀ (E : String) (ce : Cell) (q9 : Addr) (H1 : Heap) (locs1 : List Loc), pE E → va_P G vwCl (wc ++ wr) H1 → va_S A s.heap H1 locs1 → H1[q9]? = some ce → ce.vm = .none → s.vm.findClass E = some ce.cls → vx_W p l e R s m args below meth c H1 locs1 (cells + mc) (slots + ms) Q (F0 m pc ls rest) q9)
    (kk : ∀ (r : Int64) (u : S) (H1 : Heap) (locs1 : List Loc), post r u → va_P G vwCl (wv u ++ wr) H1 → va_D A (wv u ++ wr) → va_S A s.heap H1 locs1 → W p l e R s m args below meth c H1 locs1 (cells + mc) (slots + ms) Q (F0 m (pc + 3) ls (.long r :: rest))) : W p l e R s m args below meth c H locs cells slots Q (F0 m pc ls st0) :=
  have hF := xfree hD hS hA (wc := wc) (fun _ h => List.mem_append_left _ h)
  have hDw : va_D A wc := by
    rw [xd_iff] at hD ⊢
    rw [List.map_append, List.nodup_append] at hD
    exact ⟨hD.1.1, fun q hq => hD.2 q (List.mem_append_left _ hq)⟩
  vx_calll hr hS (fun q _ h => hF q h) (fun q h => hF q h) (fun q _ h => hF q h) (fun E ce q9 _ t H1 locs1 ht _ _ hB _ hk1 hS1 c1 c2 c3 => by
    refine kx E ce q9 H1 locs1 hB.1 ?_ hS1 c1 c2 c3
    exact (xapp_ok hP hD hF hDw.self hk1 (by rw [← ht]; exact hB.2)).1) (fun r u t H1 locs1 ht _ hw hB _ hk1 hS1 => by
    obtain ⟨h1, h2⟩ := xapp_ok hP hD hF (hf r u hw) hk1 (by rw [← ht]; exact hB)
    exact kk r u H1 locs1 hw h1 h2 hS1)
theorem x_calld {S : Type} {post : UInt64 → S → Prop} {wv : S → va_W} (hr : va_Run p l e R s m args below meth c H locs cells slots mc ms (F0 m pc ls st0) rest (va_Qd post (fun u t => va_P G vwCl (wv u) t.heap) (va_A wc H.size) a) (va_A wc H.size)) (hP : va_P G vwCl ws H) (hD : va_D A ws) (hS : va_S A s.heap H locs) (hA : ∀ q, s.heap.size ≤ q → A q) (is : List Nat) (his : is.map (fun i => ws[i]?) = wc.map some) (hf : ∀ (r : UInt64) (u : S), post r u → (wv u).map Prod.fst = wc.map Prod.fst)
    (kk : ∀ (r : UInt64) (u : S) (H1 : Heap) (locs1 : List Loc), post r u → va_P G vwCl (xrep ws is (wv u)) H1 → va_D A (xrep ws is (wv u)) → va_S A s.heap H1 locs1 → W p l e R s m args below meth c H1 locs1 (cells + mc) (slots + ms) Q (F0 m (pc + 3) ls (.double r :: rest))) : W p l e R s m args below meth c H locs cells slots Q (F0 m pc ls st0) :=
  va_calld hr hS (fun q _ h => xfree hD hS hA (xis_mem his) q h) (fun q h => xfree hD hS hA (xis_mem his) q h) (fun r u t H1 locs1 ht _ hw hB _ hk1 hS1 => by
    obtain ⟨h1, h2⟩ := xrep_ok hP hD is his (hf r u hw) hk1 (by rw [← ht]; exact hB)
    exact kk r u H1 locs1 hw h1 h2 hS1)
theorem x_calldA {S : Type} {post : UInt64 → S → Prop} {wv : S → va_W} (hr : va_Run p l e R s m args below meth c H locs cells slots mc ms (F0 m pc ls st0) rest (va_Qd post (fun u t => va_P G vwCl (wv u) t.heap) (va_A wc H.size) a) (va_A wc H.size)) (hP : va_P G vwCl (wc ++ wr) H) (hD : va_D A (wc ++ wr)) (hS : va_S A s.heap H locs) (hA : ∀ q, s.heap.size ≤ q → A q) (hf : ∀ (r : UInt64) (u : S), post r u → va_D (va_A wc H.size) (wv u))
    (kk : ∀ (r : UInt64) (u : S) (H1 : Heap) (locs1 : List Loc), post r u → va_P G vwCl (wv u ++ wr) H1 → va_D A (wv u ++ wr) → va_S A s.heap H1 locs1 → W p l e R s m args below meth c H1 locs1 (cells + mc) (slots + ms) Q (F0 m (pc + 3) ls (.double r :: rest))) : W p l e R s m args below meth c H locs cells slots Q (F0 m pc ls st0) :=
  have hF := xfree hD hS hA (wc := wc) (fun _ h => List.mem_append_left _ h)
  va_calld hr hS (fun q _ h => hF q h) (fun q h => hF q h) (fun r u t H1 locs1 ht _ hw hB _ hk1 hS1 => by
    obtain ⟨h1, h2⟩ := xapp_ok hP hD hF (hf r u hw) hk1 (by rw [← ht]; exact hB)
    exact kk r u H1 locs1 hw h1 h2 hS1)
theorem x_callv {S : Type} {post : S → Prop} {wv : S → va_W} (hr : va_Run p l e R s m args below meth c H locs cells slots mc ms (F0 m pc ls st0) rest (va_Qv post (fun u t => va_P G vwCl (wv u) t.heap) (va_A wc H.size) a) (va_A wc H.size)) (hP : va_P G vwCl ws H) (hD : va_D A ws) (hS : va_S A s.heap H locs) (hA : ∀ q, s.heap.size ≤ q → A q) (is : List Nat) (his : is.map (fun i => ws[i]?) = wc.map some) (hf : ∀ (u : S), post u → (wv u).map Prod.fst = wc.map Prod.fst)
    (kk : ∀ (u : S) (H1 : Heap) (locs1 : List Loc), post u → va_P G vwCl (xrep ws is (wv u)) H1 → va_D A (xrep ws is (wv u)) → va_S A s.heap H1 locs1 → W p l e R s m args below meth c H1 locs1 (cells + mc) (slots + ms) Q (F0 m (pc + 3) ls (rest))) : W p l e R s m args below meth c H locs cells slots Q (F0 m pc ls st0) :=
  va_callv hr hS (fun q _ h => xfree hD hS hA (xis_mem his) q h) (fun q h => xfree hD hS hA (xis_mem his) q h) (fun u t H1 locs1 ht _ hw hB _ hk1 hS1 => by
    obtain ⟨h1, h2⟩ := xrep_ok hP hD is his (hf u hw) hk1 (by rw [← ht]; exact hB)
    exact kk u H1 locs1 hw h1 h2 hS1)
theorem x_callvA {S : Type} {post : S → Prop} {wv : S → va_W} (hr : va_Run p l e R s m args below meth c H locs cells slots mc ms (F0 m pc ls st0) rest (va_Qv post (fun u t => va_P G vwCl (wv u) t.heap) (va_A wc H.size) a) (va_A wc H.size)) (hP : va_P G vwCl (wc ++ wr) H) (hD : va_D A (wc ++ wr)) (hS : va_S A s.heap H locs) (hA : ∀ q, s.heap.size ≤ q → A q) (hf : ∀ (u : S), post u → va_D (va_A wc H.size) (wv u))
    (kk : ∀ (u : S) (H1 : Heap) (locs1 : List Loc), post u → va_P G vwCl (wv u ++ wr) H1 → va_D A (wv u ++ wr) → va_S A s.heap H1 locs1 → W p l e R s m args below meth c H1 locs1 (cells + mc) (slots + ms) Q (F0 m (pc + 3) ls (rest))) : W p l e R s m args below meth c H locs cells slots Q (F0 m pc ls st0) :=
  have hF := xfree hD hS hA (wc := wc) (fun _ h => List.mem_append_left _ h)
  va_callv hr hS (fun q _ h => hF q h) (fun q h => hF q h) (fun u t H1 locs1 ht _ hw hB _ hk1 hS1 => by
    obtain ⟨h1, h2⟩ := xapp_ok hP hD hF (hf u hw) hk1 (by rw [← ht]; exact hB)
    exact kk u H1 locs1 hw h1 h2 hS1)
theorem x_xcallv {S : Type} {post : S → Prop} {wv : S → va_W} (hr : vx_Run p l e R s m args below meth c H locs cells slots mc ms (F0 m pc ls st0) rest (va_Qv post (fun u t => va_P G vwCl (wv u) t.heap) (va_A wc H.size) a) (vx_X (fun _ : Unit => True) (fun E _ t => pE E ∧ va_P G vwCl wc t.heap) (va_A wc H.size)) (va_A wc H.size)) (hP : va_P G vwCl ws H) (hD : va_D A ws) (hS : va_S A s.heap H locs) (hA : ∀ q, s.heap.size ≤ q → A q) (is : List Nat) (his : is.map (fun i => ws[i]?) = wc.map some) (hn : va_nd is = true) (hf : ∀ (u : S), post u → (wv u).map Prod.fst = wc.map Prod.fst)
    (kx : ∀ (E : String) (ce : Cell) (q9 : Addr) (H1 : Heap) (locs1 : List Loc), pE E → va_P G vwCl ws H1 → va_S A s.heap H1 locs1 → H1[q9]? = some ce → ce.vm = .none → s.vm.findClass E = some ce.cls → vx_W p l e R s m args below meth c H1 locs1 (cells + mc) (slots + ms) Q (F0 m pc ls rest) q9)
    (kk : ∀ (u : S) (H1 : Heap) (locs1 : List Loc), post u → va_P G vwCl (xrep ws is (wv u)) H1 → va_D A (xrep ws is (wv u)) → va_S A s.heap H1 locs1 → W p l e R s m args below meth c H1 locs1 (cells + mc) (slots + ms) Q (F0 m (pc + 3) ls (rest))) : W p l e R s m args below meth c H locs cells slots Q (F0 m pc ls st0) :=
  vx_callv hr hS (fun q _ h => xfree hD hS hA (xis_mem his) q h) (fun q h => xfree hD hS hA (xis_mem his) q h) (fun q _ h => xfree hD hS hA (xis_mem his) q h) (fun E ce q9 _ t H1 locs1 ht _ _ hB _ hk1 hS1 c1 c2 c3 => by
    refine kx E ce q9 H1 locs1 hB.1 ?_ hS1 c1 c2 c3
    intro k q hq
    by_cases hc : ∃ e, (q.1, e) ∈ wc
    · obtain ⟨e, he⟩ := hc
      have hq2 : q ∈ wc := by
        obtain ⟨k2, hk2⟩ := List.getElem?_of_mem (xis_mem his _ he)
        have := hD.1 k k2 q _ hq hk2 rfl
        subst this
        rw [hq] at hk2
        rw [Option.some.inj hk2]
        exact he
      have := hB.2
      rw [ht] at this
      exact xp_iff.mp this q hq2
    · exact (hP k q hq).kept (hk1 q.1 (hP k q hq).lt (fun ha => by
        rcases ha with ⟨j, e, hj⟩ | ha
        · exact hc ⟨e, List.mem_of_getElem? hj⟩
        · have := (hP k q hq).lt
          omega))) (fun u t H1 locs1 ht _ hw hB _ hk1 hS1 => by
    obtain ⟨h1, h2⟩ := xrep_ok hP hD is his (hf u hw) hk1 (by rw [← ht]; exact hB)
    exact kk u H1 locs1 hw h1 h2 hS1)
theorem x_xcallvA {S : Type} {post : S → Prop} {wv : S → va_W} (hr : vx_Run p l e R s m args below meth c H locs cells slots mc ms (F0 m pc ls st0) rest (va_Qv post (fun u t => va_P G vwCl (wv u) t.heap) (va_A wc H.size) a) (vx_X (fun _ : Unit => True) (fun E _ t => pE E ∧ va_P G vwCl wc t.heap) (va_A wc H.size)) (va_A wc H.size)) (hP : va_P G vwCl (wc ++ wr) H) (hD : va_D A (wc ++ wr)) (hS : va_S A s.heap H locs) (hA : ∀ q, s.heap.size ≤ q → A q) (hf : ∀ (u : S), post u → va_D (va_A wc H.size) (wv u))
    (kx : ∀ (E : String) (ce : Cell) (q9 : Addr) (H1 : Heap) (locs1 : List Loc), pE E → va_P G vwCl (wc ++ wr) H1 → va_S A s.heap H1 locs1 → H1[q9]? = some ce → ce.vm = .none → s.vm.findClass E = some ce.cls → vx_W p l e R s m args below meth c H1 locs1 (cells + mc) (slots + ms) Q (F0 m pc ls rest) q9)
    (kk : ∀ (u : S) (H1 : Heap) (locs1 : List Loc), post u → va_P G vwCl (wv u ++ wr) H1 → va_D A (wv u ++ wr) → va_S A s.heap H1 locs1 → W p l e R s m args below meth c H1 locs1 (cells + mc) (slots + ms) Q (F0 m (pc + 3) ls (rest))) : W p l e R s m args below meth c H locs cells slots Q (F0 m pc ls st0) :=
  have hF := xfree hD hS hA (wc := wc) (fun _ h => List.mem_append_left _ h)
  have hDw : va_D A wc := by
    rw [xd_iff] at hD ⊢
    rw [List.map_append, List.nodup_append] at hD
    exact ⟨hD.1.1, fun q hq => hD.2 q (List.mem_append_left _ hq)⟩
  vx_callv hr hS (fun q _ h => hF q h) (fun q h => hF q h) (fun q _ h => hF q h) (fun E ce q9 _ t H1 locs1 ht _ _ hB _ hk1 hS1 c1 c2 c3 => by
    refine kx E ce q9 H1 locs1 hB.1 ?_ hS1 c1 c2 c3
    exact (xapp_ok hP hD hF hDw.self hk1 (by rw [← ht]; exact hB.2)).1) (fun u t H1 locs1 ht _ hw hB _ hk1 hS1 => by
    obtain ⟨h1, h2⟩ := xapp_ok hP hD hF (hf u hw) hk1 (by rw [← ht]; exact hB)
    exact kk u H1 locs1 hw h1 h2 hS1)
/-- an exception leaves the method, whose world is as it was -/
theorem x_out {Qc : Array Value → State → Outcome → State → Prop} {ws0 : va_W} {q : Addr} {E : String} {ce : Cell} {mc ms : Nat} (hx0 : ∀ x ∈ c.exceptionTable.toList, False) (hlocks : meth.locks = false) (hE : pE E) (hP : va_P G vwCl ws0 H) (hS : va_S A s.heap H locs) (h1 : H[q]? = some ce) (h2 : ce.vm = .none) (h3 : s.vm.findClass E = some ce.cls) (hc : cells ≤ mc) (hs : slots ≤ ms) :
    vx_W p l e R s m args below meth c H locs cells slots (vx_MQ below Qc (vx_X (fun _ : Unit => True) (fun E _ t => pE E ∧ va_P G vwCl ws0 t.heap) A) args s mc ms A) (F0 m pc ls rest) q :=
  vx_out (fun x hx => (hx0 x hx).elim) hlocks h1 h2 h3 (fun t ht _ => ⟨(), trivial, ⟨hE, by rw [ht]; exact hP⟩, hS.F ht⟩) hS.2.2 hc hs
/-- throw new E(text) -/
theorem x_throw {Qc : Array Value → State → Outcome → State → Prop} {ws0 : va_W} {cc : ByteArray} {Ts : List Cond} {cls text : String} {ik is ic : Nat} {mc ms : Nat} (hexec : p.tables.exec = Jvm.exec) (hb : c.code = cc) (hl : l.stackTraces = false) (hown : s.vm.findClass RX3 = some m.cls) (hts : ∀ w ∈ Ts, w.before args s = true) (hcls : Bundle.fit cls = true)
    (hk : Cond.classLink RX3 ik cls ∈ Ts) (hini : Cond.initialized cls ∈ Ts) (hat : ∀ w ∈ (vx_atS RX3 ic cls ["java/lang/RuntimeException", "java/lang/Exception"]).filter goodWord, w ∈ Ts) (hat2 : ∀ w ∈ (vx_atS RX3 ic cls ["java/lang/RuntimeException", "java/lang/Exception"]).filter (fun w => !goodWord w), w ∈ xNW)
    (hgood : ∀ w ∈ Cond.classLink RX3 ik cls :: Cond.initialized cls :: vx_atS RX3 ic cls ["java/lang/RuntimeException", "java/lang/Exception"], vx_ot w = true) (hst : (is, text) ∈ xStr) (hB : xB s) (hZ : xS A s s.heap) (hS : va_S A s.heap H locs) (hsize : ls.size = c.maxLocals) (hx0 : ∀ x ∈ c.exceptionTable.toList, False) (hlocks : meth.locks = false)
    (d0 : decode cc pc = .ok (.new ik, 3)) (d3 : decode cc (pc + 3) = .ok (.dup, 1)) (d4 : decode cc (pc + 4) = .ok (.ldc is, 2)) (d6 : decode cc (pc + 6) = .ok (.invokespecial ic, 3)) (d9 : decode cc (pc + 9) = .ok (.athrow, 1))
    (hRf : 5 < R.frames) (hRl : (rest.map fun v => v.category).sum + 82 ≤ R.locals) (hRc : cells + 1 ≤ R.cells) (hRs : slots + 6 ≤ R.slots) (hc : cells + 1 ≤ mc) (hs : slots + 6 ≤ ms) (hE : pE cls) (hP : va_P G vwCl ws0 H) :
    W p l e R s m args below meth c H locs cells slots (vx_MQ below Qc (vx_X (fun _ : Unit => True) (fun E _ t => pE E ∧ va_P G vwCl ws0 t.heap) A) args s mc ms A) (F0 m pc ls rest) := by
  obtain ⟨sa, hsa⟩ := hB.2.1 _ hst
  refine vx_throwS (names := ["java/lang/RuntimeException", "java/lang/Exception"]) (sa := sa) (A := A) hexec hb hl hown hcls (by decide +kernel) (hts _ hk) (hts _ hini) hsa
    (vx_hat (fun w hw => hts w (hat w hw)) hat2 (fun w hw => va_Nw.use (xNW_ot w hw) (hB.1 w hw))) hgood hZ.1 hZ.2.1 hS hsize d0 d3 d4 d6 d9 (fun x hx => (hx0 x hx).elim) hRf hRl hRc hRs hlocks
    (fun t _ hz hq => ⟨(), trivial, ⟨hE, hP.kept (fun k q hk => hq q.1 (hP k q hk).lt)⟩, ⟨Nat.le_trans hS.1 hz, fun q h1 h2 => by rw [hq q (Nat.lt_of_lt_of_le h1 hS.1)]; exact hS.2.1 q h1 h2⟩⟩) hS.2.2 hc hs
end XKD
end XKB
end
section
/-! the numbers that both sides speak of -/
section XMA
/-- an argument that is one of 0 .. n - 1 -/
def xvb (n : Nat) (x : Int32) : Bool := decide (0 ≤ x) && decide (x < nI n)
def xb (b : Bool) : Int32 := if b then nI 1 else nI 0
theorem xb_t {b : Bool} (h : b = true) : xb b = nI 1 := by rw [h]; rfl
theorem xb_f {b : Bool} (h : b = false) : xb b = nI 0 := by rw [h]; rfl
theorem xb_ne {b : Bool} {r : Int32} (hr : r = xb b) (h : b = true) : ¬ r = 0 := by rw [hr, h]; decide
theorem xb_eq {b : Bool} {r : Int32} (hr : r = xb b) (h : b = false) : r = 0 := by rw [hr, h]; decide
theorem xb_of_ne {b : Bool} {r : Int32} (hr : r = xb b) (h : ¬ r = 0) : b = true := by
  cases b
  · exact absurd (by rw [hr]; decide) h
  · rfl
theorem xb_of_eq {b : Bool} {r : Int32} (hr : r = xb b) (h : r = 0) : b = false := by
  cases b
  · rfl
  · exact absurd (hr.symm.trans h) (by decide)
theorem xb_nar (b : Bool) : narrow .boolean (.int (xb b)) = .int (xb b) := by cases b <;> rfl
theorem xI0 (x : Int32) : x < 0 ↔ x.toInt < 0 := by rw [Int32.lt_iff_toInt_lt]; rfl
theorem xIle (x y : Int32) : x ≤ y ↔ x.toInt ≤ y.toInt := Int32.le_iff_toInt_le
theorem xIlt (x y : Int32) : x < y ↔ x.toInt < y.toInt := Int32.lt_iff_toInt_lt
theorem xvb_lt {n : Nat} {x : Int32} (h : x < 0) : xvb n x = false := by
  unfold xvb
  rw [xIlt] at h
  rw [decide_eq_false (by rw [xIle]; have : (0 : Int32).toInt = 0 := rfl; omega)]
  rfl
theorem xvb_ge {n : Nat} {x : Int32} (h : nI n ≤ x) : xvb n x = false := by
  unfold xvb
  rw [xIle] at h
  rw [decide_eq_false (p := x < nI n) (by rw [xIlt]; omega), Bool.and_false]
theorem xvb_in {n : Nat} {x : Int32} (h : ¬ x < 0) (h2 : ¬ nI n ≤ x) : xvb n x = true := by
  unfold xvb
  rw [xIlt] at h
  rw [xIle] at h2
  rw [decide_eq_true (by rw [xIle]; omega), decide_eq_true (by rw [xIlt]; omega)]
  rfl
theorem xvb_iff {n : Nat} (hn : n < 2 ^ 31) {x : Int32} : xvb n x = true ↔ ∃ k, k < n ∧ x = nI k := by
  constructor
  · intro h
    unfold xvb at h
    simp only [Bool.and_eq_true, decide_eq_true_eq] at h
    obtain ⟨h1, h2⟩ := h
    obtain ⟨j, hj, rfl⟩ := nI_of (x := x) (by rw [xIle] at h1; rw [xIlt]; omega)
    exact ⟨j, (nI_ltI hj hn).mp h2, rfl⟩
  · rintro ⟨k, hk, rfl⟩
    exact xvb_in (nI_pos (by omega)) (nI_ge hk hn)
theorem xvb_k {n k : Nat} (hk : k < n) (hn : n < 2 ^ 31) : xvb n (nI k) = true := (xvb_iff hn).mpr ⟨k, hk, rfl⟩
/-- where a way brings a place -/
def xpa (k n p : Nat) : Nat := match k with
  | 0 => (p + 16 - n) % 16
  | 1 => if p < 8 then 2 * p else 2 * p - 15
  | 2 => if p < 8 then 2 * p + 1 else 2 * p - 16
  | 3 => if p < n then n - 1 - p else p
  | _ => xDt p
def xwn (k n : Nat) : Bool := match k with
  | 0 => decide (1 ≤ n) && decide (n ≤ 15)
  | 1 => decide (n = 0)
  | 2 => decide (n = 0)
  | 3 => decide (2 ≤ n) && decide (n ≤ 16)
  | 4 => decide (n = 0)
  | _ => false
/-- from where -/
def xpb (k n j : Nat) : Nat := ((List.range 16).find? (fun p => xpa k n p == j)).getD 0
theorem xwn_lt {k n : Nat} (h : xwn k n = true) : k < 5 ∧ n < 17 := by
  unfold xwn at h
  split at h <;> simp at h <;> omega
theorem xway_all : ((List.range 5).all fun k => (List.range 17).all fun n => !xwn k n || (List.range 16).all fun j => decide (xpa k n j < 16) && (decide (xpb k n j < 16) && (decide (xpa k n (xpb k n j) = j) && decide (xpb k n (xpa k n j) = j)))) = true := by decide +kernel
theorem xway {k n : Nat} (h : xwn k n = true) {j : Nat} (hj : j < 16) : xpa k n j < 16 ∧ xpb k n j < 16 ∧ xpa k n (xpb k n j) = j ∧ xpb k n (xpa k n j) = j := by
  have h1 := List.all_eq_true.mp xway_all k (List.mem_range.mpr (xwn_lt h).1)
  have h2 := List.all_eq_true.mp h1 n (List.mem_range.mpr (xwn_lt h).2)
  rw [h] at h2
  have h3 : ∀ (x : Nat), x < 16 → xpa k n x < 16 ∧ xpb k n x < 16 ∧ xpa k n (xpb k n x) = x ∧ xpb k n (xpa k n x) = x := by simpa using h2
  exact h3 j hj
def xwb (x y : Int32) : Bool := (decide (x = 0) && (decide (1 ≤ y) && decide (y < 16))) || ((decide (x = 3) && (decide (2 ≤ y) && decide (y ≤ 16))) || ((decide (x = 1) || (decide (x = 2) || decide (x = 4))) && decide (y = 0)))
theorem xwb_iff {x y : Int32} : xwb x y = true ↔ ∃ k n, xwn k n = true ∧ x = nI k ∧ y = nI n := by
  constructor
  · intro h
    unfold xwb at h
    simp only [Bool.or_eq_true, Bool.and_eq_true, decide_eq_true_eq] at h
    rcases h with ⟨h, h1, h2⟩ | ⟨h, h1, h2⟩ | ⟨h, h1⟩
    · rw [xIle] at h1
      rw [xIlt] at h2
      have e1 : (1 : Int32).toInt = 1 := rfl
      have e2 : (16 : Int32).toInt = 16 := rfl
      have e0 : (0 : Int32).toInt = 0 := rfl
      obtain ⟨j, hj, rfl⟩ := nI_of (x := y) (by rw [xIlt]; omega)
      rw [nI_toInt hj] at h1 h2
      refine ⟨0, j, ?_, h, rfl⟩
      simp [xwn]; omega
    · rw [xIle] at h1 h2
      have e1 : (2 : Int32).toInt = 2 := rfl
      have e2 : (16 : Int32).toInt = 16 := rfl
      have e0 : (0 : Int32).toInt = 0 := rfl
      obtain ⟨j, hj, rfl⟩ := nI_of (x := y) (by rw [xIlt]; omega)
      rw [nI_toInt hj] at h1 h2
      refine ⟨3, j, ?_, h, rfl⟩
      simp [xwn]; omega
    · rcases h with h | h | h
      · exact ⟨1, 0, rfl, h, h1⟩
      · exact ⟨2, 0, rfl, h, h1⟩
      · exact ⟨4, 0, rfl, h, h1⟩
  · rintro ⟨k, n, h, rfl, rfl⟩
    have hk := xwn_lt h
    have key : ((List.range 5).all fun k => (List.range 17).all fun n => !xwn k n || xwb (nI k) (nI n)) = true := by decide +kernel
    have h1 := List.all_eq_true.mp key k (List.mem_range.mpr hk.1)
    have h2 := List.all_eq_true.mp h1 n (List.mem_range.mpr hk.2)
    rw [h] at h2
    simpa using h2
def xso (x : Int32) : Int32 := nI 1 <<< (x &&& 31)
/-- Integer.bitCount, step by step -/
def xus (x : Int32) (k : Nat) : Int32 := (x.toUInt32 >>> ((nI k).toUInt32 &&& Int32.toUInt32 31)).toInt32
def xbc1 (x : Int32) : Int32 := x - (xus x 1 &&& nI 1431655765)
def xbc2 (x : Int32) : Int32 := (x &&& nI 858993459) + (xus x 2 &&& nI 858993459)
def xbc3 (x : Int32) : Int32 := (x + xus x 4) &&& nI 252645135
def xbc4 (x : Int32) : Int32 := x + xus x 8
def xbc5 (x : Int32) : Int32 := x + xus x 16
def xbc (x : Int32) : Int32 := xbc5 (xbc4 (xbc3 (xbc2 (xbc1 x)))) &&& nI 63
def xone (x : Int32) : Bool := decide (xbc x = nI 1)
/-- placeAfterDeal's loop -/
def xdl : Nat → Nat → Nat → Nat → Nat
  | 0, a, d, _ => 15 - d - a / 2
  | f + 1, a, d, l => if 1 < l ∧ a % 2 = 0 then xdl f (a / 2) (d + l / 2) (l / 2) else 15 - d - a / 2
theorem xdl_ok : ∀ p, p < 16 → xdl 4 p 0 16 = xDt p := by decide +kernel
/-- Math.floorMod by 16 -/
def xfm (x : Int32) : Int32 := if 0 ≤ x ^^^ nI 16 then x - x / nI 16 * nI 16 else if x - x / nI 16 * nI 16 = 0 then x - x / nI 16 * nI 16 else x - x / nI 16 * nI 16 + nI 16
theorem xfm_n {n : Nat} (h : n < 2 ^ 31) : xfm (nI n) = nI (n % 16) := by
  have e : nI n ^^^ nI 16 = nI (n ^^^ 16) := by
    apply Int32.toBitVec_inj.mp
    show BitVec.ofNat 32 n ^^^ BitVec.ofNat 32 16 = BitVec.ofNat 32 (n ^^^ 16)
    apply BitVec.eq_of_toNat_eq
    simp only [BitVec.toNat_xor, BitVec.toNat_ofNat]
    rw [Nat.xor_mod_two_pow]
  have h2 : n ^^^ 16 < 2 ^ 31 := Nat.xor_lt_two_pow h (by decide)
  unfold xfm
  rw [e, if_pos (by rw [xIle, nI_toInt h2]; have : (0 : Int32).toInt = 0 := rfl; omega), pk_rem h (by decide) (by decide)]
theorem nI1 : nI 1 = 1 := rfl
theorem nI16 : nI 16 = 16 := rfl
end XMA
end
section
section XL1
set_option maxHeartbeats 4000000 in
set_option maxRecDepth 100000 in
/-- Integer.bitCount -/
theorem c_J6_bitCount_0f7a4 (l : Launch) (G : va_G) (T : Nat → ClassId) (sz : Nat) (x : Int32) : Met l yJ6_bitCount_0f7a4 wsJ6_bitCount_0f7a4 ({ frames := 0, cells := 0, slots := 0, locals := 0 }) (va_Pc [.int x] (xPre G T ([]) sz)) (va_Qi (fun (r : Int32) (u : Unit) => r = xbc x) (fun u t => va_P G vwCl ([]) t.heap) (va_A ([]) sz)) 0 0 (va_A ([]) sz) := by
  refine Met.ofW (cc := cJ6_bitCount_0f7a4) (maxL := 1) (ret := (some .int)) (by decide +kernel) rfl ?_
  intro p e s m args below meth c s₁ B hml hv
  obtain ⟨rfl, hsz, hP, hK, hD0, hXB, hZ⟩ := hv
  have hx := B.exec
  have hb := B.bytes
  have hr := B.returns
  have hts := atoms_spec (ws := wsJ6_bitCount_0f7a4) B.pre
  have hown : s.vm.findClass RJ6 = some m.cls := findClass_of_methodNamed B.named
  have hlocks := B.notSynchronized
  subst hsz
  have hD := hD0.self (sz := s.heap.size)
  generalize hAe : va_A ([]) s.heap.size = A at hD hZ ⊢
  have hA : ∀ q : Nat, s.heap.size ≤ q → A q := fun q h => by rw [← hAe]; exact Or.inr h
  have hS : va_S A s.heap s.heap [] := va_S.rf
  have hP : va_P G vwCl ([]) s.heap := hP
  have hl := lv_entry ([.int x]) (n := 1) (Nat.le_of_ble_eq_true rfl)
  rw [lg_entry_eq]
  generalize (lg_sl ([.int x]) ++ List.replicate (1 - (lg_sl ([.int x])).length) Slot.unset).toArray = ls at hl ⊢
  have hl : lv_has ls 1 [(0, .int x)] := hl
  refine lv_iload_n hx hb dJ6_bitCount_0f7a4_0 rfl (lv_at hl 0 rfl) ?_
  refine lv_iload_n hx hb dJ6_bitCount_0f7a4_1 rfl (lv_at hl 0 rfl) ?_
  refine lv_iconst (v := nI 1) hx hb dJ6_bitCount_0f7a4_2 (by decide) ?_
  refine lv_iushr hx hb dJ6_bitCount_0f7a4_3 rfl ?_
  refine lv_ldcw (v := nI 1431655765) hx hb hown (hts (.constant RJ6 265 (1431655765)) (by decide +kernel)) dJ6_bitCount_0f7a4_4 ?_
  refine lv_iand hx hb dJ6_bitCount_0f7a4_7 ?_
  refine lv_isub hx hb dJ6_bitCount_0f7a4_8 ?_
  refine x_topi (y := (xbc1 x)) (rfl) ?_
  refine lv_istore_n (lv' := [(0, .int (xbc1 x))]) hx hb dJ6_bitCount_0f7a4_9 rfl hl (by decide) rfl (fun ls hl => ?_)
  refine lv_iload_n hx hb dJ6_bitCount_0f7a4_10 rfl (lv_at hl 0 rfl) ?_
  refine lv_ldcw (v := nI 858993459) hx hb hown (hts (.constant RJ6 266 (858993459)) (by decide +kernel)) dJ6_bitCount_0f7a4_11 ?_
  refine lv_iand hx hb dJ6_bitCount_0f7a4_14 ?_
  refine lv_iload_n hx hb dJ6_bitCount_0f7a4_15 rfl (lv_at hl 0 rfl) ?_
  refine lv_iconst (v := nI 2) hx hb dJ6_bitCount_0f7a4_16 (by decide) ?_
  refine lv_iushr hx hb dJ6_bitCount_0f7a4_17 rfl ?_
  refine lv_ldcw (v := nI 858993459) hx hb hown (hts (.constant RJ6 266 (858993459)) (by decide +kernel)) dJ6_bitCount_0f7a4_18 ?_
  refine lv_iand hx hb dJ6_bitCount_0f7a4_21 ?_
  refine lv_iadd hx hb dJ6_bitCount_0f7a4_22 ?_
  refine x_topi (y := (xbc2 (xbc1 x))) (rfl) ?_
  refine lv_istore_n (lv' := [(0, .int (xbc2 (xbc1 x)))]) hx hb dJ6_bitCount_0f7a4_23 rfl hl (by decide) rfl (fun ls hl => ?_)
  refine lv_iload_n hx hb dJ6_bitCount_0f7a4_24 rfl (lv_at hl 0 rfl) ?_
  refine lv_iload_n hx hb dJ6_bitCount_0f7a4_25 rfl (lv_at hl 0 rfl) ?_
  refine lv_iconst (v := nI 4) hx hb dJ6_bitCount_0f7a4_26 (by decide) ?_
  refine lv_iushr hx hb dJ6_bitCount_0f7a4_27 rfl ?_
  refine lv_iadd hx hb dJ6_bitCount_0f7a4_28 ?_
  refine lv_ldcw (v := nI 252645135) hx hb hown (hts (.constant RJ6 267 (252645135)) (by decide +kernel)) dJ6_bitCount_0f7a4_29 ?_
  refine lv_iand hx hb dJ6_bitCount_0f7a4_32 ?_
  refine x_topi (y := (xbc3 (xbc2 (xbc1 x)))) (rfl) ?_
  refine lv_istore_n (lv' := [(0, .int (xbc3 (xbc2 (xbc1 x))))]) hx hb dJ6_bitCount_0f7a4_33 rfl hl (by decide) rfl (fun ls hl => ?_)
  refine lv_iload_n hx hb dJ6_bitCount_0f7a4_34 rfl (lv_at hl 0 rfl) ?_
  refine lv_iload_n hx hb dJ6_bitCount_0f7a4_35 rfl (lv_at hl 0 rfl) ?_
  refine lv_bipush (v := nI 8) hx hb dJ6_bitCount_0f7a4_36 (by decide) ?_
  refine lv_iushr hx hb dJ6_bitCount_0f7a4_38 rfl ?_
  refine lv_iadd hx hb dJ6_bitCount_0f7a4_39 ?_
  refine x_topi (y := (xbc4 (xbc3 (xbc2 (xbc1 x))))) (rfl) ?_
  refine lv_istore_n (lv' := [(0, .int (xbc4 (xbc3 (xbc2 (xbc1 x)))))]) hx hb dJ6_bitCount_0f7a4_40 rfl hl (by decide) rfl (fun ls hl => ?_)
  refine lv_iload_n hx hb dJ6_bitCount_0f7a4_41 rfl (lv_at hl 0 rfl) ?_
  refine lv_iload_n hx hb dJ6_bitCount_0f7a4_42 rfl (lv_at hl 0 rfl) ?_
  refine lv_bipush (v := nI 16) hx hb dJ6_bitCount_0f7a4_43 (by decide) ?_
  refine lv_iushr hx hb dJ6_bitCount_0f7a4_45 rfl ?_
  refine lv_iadd hx hb dJ6_bitCount_0f7a4_46 ?_
  refine x_topi (y := (xbc5 (xbc4 (xbc3 (xbc2 (xbc1 x)))))) (rfl) ?_
  refine lv_istore_n (lv' := [(0, .int (xbc5 (xbc4 (xbc3 (xbc2 (xbc1 x))))))]) hx hb dJ6_bitCount_0f7a4_47 rfl hl (by decide) rfl (fun ls hl => ?_)
  refine lv_iload_n hx hb dJ6_bitCount_0f7a4_48 rfl (lv_at hl 0 rfl) ?_
  refine lv_bipush (v := nI 63) hx hb dJ6_bitCount_0f7a4_49 (by decide) ?_
  refine lv_iand hx hb dJ6_bitCount_0f7a4_51 ?_
  exact W.iret (v := xbc x) hx hb hr (fun t ht hW => ⟨⟨xbc x, (), rfl, rfl, x_at ht hP⟩, hS.F ht⟩) hS.2.2 dJ6_bitCount_0f7a4_52

set_option maxHeartbeats 4000000 in
set_option maxRecDepth 100000 in
/-- Math.floorMod by 16 -/
theorem c_J9_floorMod_7cf53 (l : Launch) (G : va_G) (T : Nat → ClassId) (sz : Nat) (x : Int32) : Met l yJ9_floorMod_7cf53 wsJ9_floorMod_7cf53 ({ frames := 0, cells := 0, slots := 0, locals := 0 }) (va_Pc [.int x, .int (nI 16)] (xPre G T ([]) sz)) (va_Qi (fun (r : Int32) (u : Unit) => r = xfm x) (fun u t => va_P G vwCl ([]) t.heap) (va_A ([]) sz)) 0 0 (va_A ([]) sz) := by
  refine x_ofWF (cc := cJ9_floorMod_7cf53) (maxL := 3) (ret := (some .int)) (by decide +kernel) rfl ?_
  intro p e s m args below meth c s₁ B hml hv
  obtain ⟨rfl, hsz, hP, hK, hD0, hXB, hZ⟩ := hv
  have hx := B.exec
  have hb := B.bytes
  have hr := B.returns
  have hts := atoms_spec (ws := wsJ9_floorMod_7cf53) B.pre
  have hown : s.vm.findClass RJ9 = some m.cls := findClass_of_methodNamed B.named
  have hlocks := B.notSynchronized
  subst hsz
  have hD := hD0.self (sz := s.heap.size)
  generalize hAe : va_A ([]) s.heap.size = A at hD hZ ⊢
  have hA : ∀ q : Nat, s.heap.size ≤ q → A q := fun q h => by rw [← hAe]; exact Or.inr h
  have hS : va_S A s.heap s.heap [] := va_S.rf
  have hP : va_P G vwCl ([]) s.heap := hP
  have hl := lv_entry ([.int x, .int (nI 16)]) (n := 3) (Nat.le_of_ble_eq_true rfl)
  rw [lg_entry_eq]
  generalize (lg_sl ([.int x, .int (nI 16)]) ++ List.replicate (3 - (lg_sl ([.int x, .int (nI 16)])).length) Slot.unset).toArray = ls at hl ⊢
  have hl : lv_has ls 3 [(0, .int x), (1, .int (nI 16))] := hl
  refine lv_iload_n hx hb dJ9_floorMod_7cf53_0 rfl (lv_at hl 0 rfl) ?_
  refine lv_iload_n hx hb dJ9_floorMod_7cf53_1 rfl (lv_at hl 1 rfl) ?_
  refine lv_irem hx hb dJ9_floorMod_7cf53_2 (by decide) ?_
  generalize hq : x - x / nI 16 * nI 16 = q
  refine lv_istore_n (lv' := [(2, .int q), (0, .int x), (1, .int (nI 16))]) hx hb dJ9_floorMod_7cf53_3 rfl hl (by decide) rfl (fun ls hl => ?_)
  refine lv_iload_n hx hb dJ9_floorMod_7cf53_4 rfl (lv_at hl 1 rfl) ?_
  refine lv_iload_n hx hb dJ9_floorMod_7cf53_5 rfl (lv_at hl 2 rfl) ?_
  refine lv_ixor hx hb dJ9_floorMod_7cf53_6 ?_
  refine lv_topi (fun z hz => ?_)
  refine lv_if_ge (tgt := 18) hx hb dJ9_floorMod_7cf53_7 (by decide) (fun c => ?_) (fun c => ?_)
  · refine lv_iload_n hx hb dJ9_floorMod_7cf53_18 rfl (lv_at hl 0 rfl) ?_
    exact W.iret (v := q) hx hb hr (fun t ht hW => ⟨⟨q, (), rfl, by unfold xfm; rw [hq, if_pos (hz ▸ c)], x_at ht hP⟩, hS.F ht⟩) hS.2.2 dJ9_floorMod_7cf53_19
  · refine lv_iload_n hx hb dJ9_floorMod_7cf53_10 rfl (lv_at hl 0 rfl) ?_
    refine lv_if_eq (tgt := 18) hx hb dJ9_floorMod_7cf53_11 (by decide) (fun c2 => ?_) (fun c2 => ?_)
    · refine lv_iload_n hx hb dJ9_floorMod_7cf53_18 rfl (lv_at hl 0 rfl) ?_
      exact W.iret (v := q) hx hb hr (fun t ht hW => ⟨⟨q, (), rfl, by unfold xfm; rw [hq, if_neg (hz ▸ c), if_pos c2], x_at ht hP⟩, hS.F ht⟩) hS.2.2 dJ9_floorMod_7cf53_19
    · refine lv_iload_n hx hb dJ9_floorMod_7cf53_14 rfl (lv_at hl 0 rfl) ?_
      refine lv_iload_n hx hb dJ9_floorMod_7cf53_15 rfl (lv_at hl 2 rfl) ?_
      refine lv_iadd hx hb dJ9_floorMod_7cf53_16 ?_
      exact W.iret (v := (q + nI 16)) hx hb hr (fun t ht hW => ⟨⟨(q + nI 16), (), rfl, by unfold xfm; rw [hq, if_neg (hz ▸ c), if_neg c2], x_at ht hP⟩, hS.F ht⟩) hS.2.2 dJ9_floorMod_7cf53_17

set_option maxHeartbeats 4000000 in
set_option maxRecDepth 100000 in
/-- isSixteenth -/
theorem c_X3_isSixteenth (l : Launch) (G : va_G) (T : Nat → ClassId) (sz : Nat) (x : Int32) : Met l yX3_isSixteenth wsX3_isSixteenth ({ frames := 0, cells := 0, slots := 0, locals := 0 }) (va_Pc [.int x] (xPre G T ([]) sz)) (va_Qi (fun (r : Int32) (u : Unit) => r = xb (xvb 16 x)) (fun u t => va_P G vwCl ([]) t.heap) (va_A ([]) sz)) 0 0 (va_A ([]) sz) := by
  refine Met.ofW (cc := cX3_isSixteenth) (maxL := 1) (ret := (some .boolean)) (by decide +kernel) rfl ?_
  intro p e s m args below meth c s₁ B hml hv
  obtain ⟨rfl, hsz, hP, hK, hD0, hXB, hZ⟩ := hv
  have hx := B.exec
  have hb := B.bytes
  have hr := B.returns
  have hts := atoms_spec (ws := wsX3_isSixteenth) B.pre
  have hown : s.vm.findClass RX3 = some m.cls := findClass_of_methodNamed B.named
  have hlocks := B.notSynchronized
  subst hsz
  have hD := hD0.self (sz := s.heap.size)
  generalize hAe : va_A ([]) s.heap.size = A at hD hZ ⊢
  have hA : ∀ q : Nat, s.heap.size ≤ q → A q := fun q h => by rw [← hAe]; exact Or.inr h
  have hS : va_S A s.heap s.heap [] := va_S.rf
  have hP : va_P G vwCl ([]) s.heap := hP
  have hl := lv_entry ([.int x]) (n := 1) (Nat.le_of_ble_eq_true rfl)
  rw [lg_entry_eq]
  generalize (lg_sl ([.int x]) ++ List.replicate (1 - (lg_sl ([.int x])).length) Slot.unset).toArray = ls at hl ⊢
  have hl : lv_has ls 1 [(0, .int x)] := hl
  refine lv_iload_n hx hb dX3_isSixteenth_0 rfl (lv_at hl 0 rfl) ?_
  refine lv_if_lt (tgt := 14) hx hb dX3_isSixteenth_1 (by decide) (fun c1 => ?_) (fun c1 => ?_)
  · refine lv_iconst (v := nI 0) hx hb dX3_isSixteenth_14 (by decide) ?_
    exact W.zret (v := nI 0) hx hb hr rfl (fun t ht hW => ⟨⟨nI 0, (), rfl, by rw [xb_f (xvb_lt c1)], x_at ht hP⟩, hS.F ht⟩) hS.2.2 dX3_isSixteenth_15
  · refine lv_iload_n hx hb dX3_isSixteenth_4 rfl (lv_at hl 0 rfl) ?_
    refine lv_bipush (v := nI 16) hx hb dX3_isSixteenth_5 (by decide) ?_
    refine lv_icmp_ge (tgt := 14) hx hb dX3_isSixteenth_7 (by decide) (fun c2 => ?_) (fun c2 => ?_)
    · refine lv_iconst (v := nI 0) hx hb dX3_isSixteenth_14 (by decide) ?_
      exact W.zret (v := nI 0) hx hb hr rfl (fun t ht hW => ⟨⟨nI 0, (), rfl, by rw [xb_f (xvb_ge c2)], x_at ht hP⟩, hS.F ht⟩) hS.2.2 dX3_isSixteenth_15
    · refine lv_iconst (v := nI 1) hx hb dX3_isSixteenth_10 (by decide) ?_
      refine lv_goto (tgt := 15) hx hb dX3_isSixteenth_11 (by decide) ?_
      exact W.zret (v := nI 1) hx hb hr rfl (fun t ht hW => ⟨⟨nI 1, (), rfl, by rw [xb_t (xvb_in c1 c2)], x_at ht hP⟩, hS.F ht⟩) hS.2.2 dX3_isSixteenth_15

set_option maxHeartbeats 4000000 in
set_option maxRecDepth 100000 in
/-- setOf -/
theorem c_X3_setOf (l : Launch) (G : va_G) (T : Nat → ClassId) (sz : Nat) (x : Int32) : Met l yX3_setOf wsX3_setOf ({ frames := 0, cells := 0, slots := 0, locals := 0 }) (va_Pc [.int x] (xPre G T ([]) sz)) (va_Qi (fun (r : Int32) (u : Unit) => r = xso x) (fun u t => va_P G vwCl ([]) t.heap) (va_A ([]) sz)) 0 0 (va_A ([]) sz) := by
  refine Met.ofW (cc := cX3_setOf) (maxL := 1) (ret := (some .int)) (by decide +kernel) rfl ?_
  intro p e s m args below meth c s₁ B hml hv
  obtain ⟨rfl, hsz, hP, hK, hD0, hXB, hZ⟩ := hv
  have hx := B.exec
  have hb := B.bytes
  have hr := B.returns
  have hts := atoms_spec (ws := wsX3_setOf) B.pre
  have hown : s.vm.findClass RX3 = some m.cls := findClass_of_methodNamed B.named
  have hlocks := B.notSynchronized
  subst hsz
  have hD := hD0.self (sz := s.heap.size)
  generalize hAe : va_A ([]) s.heap.size = A at hD hZ ⊢
  have hA : ∀ q : Nat, s.heap.size ≤ q → A q := fun q h => by rw [← hAe]; exact Or.inr h
  have hS : va_S A s.heap s.heap [] := va_S.rf
  have hP : va_P G vwCl ([]) s.heap := hP
  have hl := lv_entry ([.int x]) (n := 1) (Nat.le_of_ble_eq_true rfl)
  rw [lg_entry_eq]
  generalize (lg_sl ([.int x]) ++ List.replicate (1 - (lg_sl ([.int x])).length) Slot.unset).toArray = ls at hl ⊢
  have hl : lv_has ls 1 [(0, .int x)] := hl
  refine lv_iconst (v := nI 1) hx hb dX3_setOf_0 (by decide) ?_
  refine lv_iload_n hx hb dX3_setOf_1 rfl (lv_at hl 0 rfl) ?_
  refine lv_ishl hx hb dX3_setOf_2 ?_
  exact W.iret (v := (xso x)) hx hb hr (fun t ht hW => ⟨⟨(xso x), (), rfl, rfl, x_at ht hP⟩, hS.F ht⟩) hS.2.2 dX3_setOf_3

set_option maxHeartbeats 4000000 in
set_option maxRecDepth 100000 in
/-- mixed -/
theorem c_X3_mixed (l : Launch) (G : va_G) (T : Nat → ClassId) (sz : Nat) (d : Int64) (x : Int32) : Met l yX3_mixed wsX3_mixed ({ frames := 0, cells := 0, slots := 0, locals := 0 }) (va_Pc [.long d, .int x] (xPre G T ([]) sz)) (va_Ql (fun (r : Int64) (u : Unit) => r = d * 31 + x.toInt64) (fun u t => va_P G vwCl ([]) t.heap) (va_A ([]) sz)) 0 0 (va_A ([]) sz) := by
  refine Met.ofW (cc := cX3_mixed) (maxL := 3) (ret := (some .long)) (by decide +kernel) rfl ?_
  intro p e s m args below meth c s₁ B hml hv
  obtain ⟨rfl, hsz, hP, hK, hD0, hXB, hZ⟩ := hv
  have hx := B.exec
  have hb := B.bytes
  have hr := B.returns
  have hts := atoms_spec (ws := wsX3_mixed) B.pre
  have hown : s.vm.findClass RX3 = some m.cls := findClass_of_methodNamed B.named
  have hlocks := B.notSynchronized
  subst hsz
  have hD := hD0.self (sz := s.heap.size)
  generalize hAe : va_A ([]) s.heap.size = A at hD hZ ⊢
  have hA : ∀ q : Nat, s.heap.size ≤ q → A q := fun q h => by rw [← hAe]; exact Or.inr h
  have hS : va_S A s.heap s.heap [] := va_S.rf
  have hP : va_P G vwCl ([]) s.heap := hP
  have hl := lv_entry ([.long d, .int x]) (n := 3) (Nat.le_of_ble_eq_true rfl)
  rw [lg_entry_eq]
  generalize (lg_sl ([.long d, .int x]) ++ List.replicate (3 - (lg_sl ([.long d, .int x])).length) Slot.unset).toArray = ls at hl ⊢
  have hl : lv_has ls 3 [(0, .long d), (2, .int x)] := hl
  refine lv_lload_n hx hb dX3_mixed_0 rfl (lv_at hl 0 rfl) ?_
  refine lv_ldc2 (v := (31)) hx hb hown (hts (.constantLong RX3 186 (31)) (by decide +kernel)) dX3_mixed_1 ?_
  refine lv_lmul hx hb dX3_mixed_4 ?_
  refine lv_iload_n hx hb dX3_mixed_5 rfl (lv_at hl 1 rfl) ?_
  refine lv_i2l hx hb dX3_mixed_6 rfl ?_
  refine lv_ladd hx hb dX3_mixed_7 ?_
  exact W.lret (v := (d * 31 + x.toInt64)) hx hb hr (fun t ht hW => ⟨⟨(d * 31 + x.toInt64), (), rfl, rfl, x_at ht hP⟩, hS.F ht⟩) hS.2.2 dX3_mixed_8

set_option maxHeartbeats 4000000 in
set_option maxRecDepth 100000 in
/-- isOneAlone -/
theorem c_X3_isOneAlone (l : Launch) (G : va_G) (T : Nat → ClassId) (sz : Nat) (x : Int32) : Met l yX3_isOneAlone wsX3_isOneAlone ({ frames := 1, cells := 0, slots := 0, locals := 20 }) (va_Pc [.int x] (xPre G T ([]) sz)) (va_Qi (fun (r : Int32) (u : Unit) => r = xb (xone x)) (fun u t => va_P G vwCl ([]) t.heap) (va_A ([]) sz)) 0 0 (va_A ([]) sz) := by
  refine Met.ofW (cc := cX3_isOneAlone) (maxL := 1) (ret := (some .boolean)) (by decide +kernel) rfl ?_
  intro p e s m args below meth c s₁ B hml hv
  obtain ⟨rfl, hsz, hP, hK, hD0, hXB, hZ⟩ := hv
  have hx := B.exec
  have hb := B.bytes
  have hr := B.returns
  have hts := atoms_spec (ws := wsX3_isOneAlone) B.pre
  have hown : s.vm.findClass RX3 = some m.cls := findClass_of_methodNamed B.named
  have hlocks := B.notSynchronized
  subst hsz
  have hD := hD0.self (sz := s.heap.size)
  generalize hAe : va_A ([]) s.heap.size = A at hD hZ ⊢
  have hA : ∀ q : Nat, s.heap.size ≤ q → A q := fun q h => by rw [← hAe]; exact Or.inr h
  have hS : va_S A s.heap s.heap [] := va_S.rf
  have hP : va_P G vwCl ([]) s.heap := hP
  have hl := lv_entry ([.int x]) (n := 1) (Nat.le_of_ble_eq_true rfl)
  rw [lg_entry_eq]
  generalize (lg_sl ([.int x]) ++ List.replicate (1 - (lg_sl ([.int x])).length) Slot.unset).toArray = ls at hl ⊢
  have hl : lv_has ls 1 [(0, .int x)] := hl
  refine lv_iload_n hx hb dX3_isOneAlone_0 rfl (lv_at hl 0 rfl) ?_
  refine x_calli (va_runS (As := [.int x]) (rest := []) ⟨hx, hb, hml, hown, hts⟩ (c_J6_bitCount_0f7a4 l G T s.heap.size x) (va_cwS 1 hts gX3_isOneAlone_J6_bitCount_0f7a4 rfl rfl rfl (by decide +kernel) ⟨Nat.le_of_ble_eq_true rfl, Nat.le_of_ble_eq_true rfl⟩) (x_preS (wc := []) hK hP hD hS hA hXB hZ [] rfl rfl _) rfl rfl hl.1 rfl (lv_room (Nat.le_of_ble_eq_true rfl)) dX3_isOneAlone_1 ⟨Nat.le_of_ble_eq_true rfl, Nat.le_of_ble_eq_true rfl⟩) hP hD hS hA [] rfl (fun _ _ _ => rfl) (fun r1 u H locs hw hP hD hS => ?_)
  have hP : va_P G vwCl ([]) H := hP
  have hD : va_D A ([]) := hD
  refine lv_iconst (v := nI 1) hx hb dX3_isOneAlone_4 (by decide) ?_
  refine lv_icmp_ne (tgt := 12) hx hb dX3_isOneAlone_5 (by decide) (fun c => ?_) (fun c => ?_)
  · refine lv_iconst (v := nI 0) hx hb dX3_isOneAlone_12 (by decide) ?_
    exact W.zret (v := nI 0) hx hb hr rfl (fun t ht hW => ⟨⟨nI 0, (), rfl, by rw [xb_f]; exact decide_eq_false (by rw [← hw]; exact c), x_at ht hP⟩, hS.F ht⟩) hS.2.2 dX3_isOneAlone_13
  · refine lv_iconst (v := nI 1) hx hb dX3_isOneAlone_8 (by decide) ?_
    refine lv_goto (tgt := 13) hx hb dX3_isOneAlone_9 (by decide) ?_
    exact W.zret (v := nI 1) hx hb hr rfl (fun t ht hW => ⟨⟨nI 1, (), rfl, by rw [xb_t]; exact decide_eq_true (by rw [← hw]; exact c), x_at ht hP⟩, hS.F ht⟩) hS.2.2 dX3_isOneAlone_13
end XL1
end
section
section XL2
theorem xwb_0 (y : Int32) : xwb (nI 0) y = (decide (nI 1 ≤ y) && decide (y < nI 16)) := by
  unfold xwb
  rw [show decide (nI 0 = (0 : Int32)) = true from rfl, show decide (nI 0 = (3 : Int32)) = false from rfl, show decide (nI 0 = (1 : Int32)) = false from rfl, show decide (nI 0 = (2 : Int32)) = false from rfl, show decide (nI 0 = (4 : Int32)) = false from rfl]
  simp only [Bool.true_and, Bool.false_and, Bool.or_false, Bool.false_or]
  rfl
theorem xwb_3 (y : Int32) : xwb (nI 3) y = (decide (nI 2 ≤ y) && decide (y ≤ nI 16)) := by
  unfold xwb
  rw [show decide (nI 3 = (0 : Int32)) = false from rfl, show decide (nI 3 = (3 : Int32)) = true from rfl, show decide (nI 3 = (1 : Int32)) = false from rfl, show decide (nI 3 = (2 : Int32)) = false from rfl, show decide (nI 3 = (4 : Int32)) = false from rfl]
  simp only [Bool.true_and, Bool.false_and, Bool.or_false, Bool.false_or]
  rfl
theorem xwb_1 (y : Int32) : xwb (nI 1) y = decide (y = 0) ∧ xwb (nI 2) y = decide (y = 0) ∧ xwb (nI 4) y = decide (y = 0) := by
  unfold xwb
  refine ⟨?_, ?_, ?_⟩
  · rw [show decide (nI 1 = (0 : Int32)) = false from rfl, show decide (nI 1 = (3 : Int32)) = false from rfl, show decide (nI 1 = (1 : Int32)) = true from rfl]
    simp
  · rw [show decide (nI 2 = (0 : Int32)) = false from rfl, show decide (nI 2 = (3 : Int32)) = false from rfl, show decide (nI 2 = (2 : Int32)) = true from rfl]
    simp
  · rw [show decide (nI 4 = (0 : Int32)) = false from rfl, show decide (nI 4 = (3 : Int32)) = false from rfl, show decide (nI 4 = (4 : Int32)) = true from rfl]
    simp
theorem xwb_o {x y : Int32} (h : x.toInt < 0 ∨ 4 < x.toInt) : xwb x y = false := by
  have key : ∀ z : Int32, 0 ≤ z.toInt → z.toInt ≤ 4 → decide (x = z) = false := fun z h0 h1 => decide_eq_false (fun e => by subst e; omega)
  unfold xwb
  rw [key 0 (by decide) (by decide), key 3 (by decide) (by decide), key 1 (by decide) (by decide), key 2 (by decide) (by decide), key 4 (by decide) (by decide)]
  rfl
theorem xcase5 {x : Int32} (h : ¬ (x.toInt < 0 ∨ 4 < x.toInt)) : x = nI 0 ∨ x = nI 1 ∨ x = nI 2 ∨ x = nI 3 ∨ x = nI 4 := by
  obtain ⟨j, hj, rfl⟩ := nI_of (x := x) (by rw [xI0]; omega)
  rw [nI_toInt hj] at h
  rcases (show j = 0 ∨ j = 1 ∨ j = 2 ∨ j = 3 ∨ j = 4 by omega) with rfl | rfl | rfl | rfl | rfl <;> simp

set_option maxHeartbeats 4000000 in
set_option maxRecDepth 100000 in
/-- isWay -/
theorem c_X3_isWay (l : Launch) (G : va_G) (T : Nat → ClassId) (sz : Nat) (x y : Int32) : Met l yX3_isWay wsX3_isWay ({ frames := 0, cells := 0, slots := 0, locals := 0 }) (va_Pc [.int x, .int y] (xPre G T ([]) sz)) (va_Qi (fun (r : Int32) (u : Unit) => r = xb (xwb x y)) (fun u t => va_P G vwCl ([]) t.heap) (va_A ([]) sz)) 0 0 (va_A ([]) sz) := by
  refine Met.ofW (cc := cX3_isWay) (maxL := 2) (ret := (some .boolean)) (by decide +kernel) rfl ?_
  intro p e s m args below meth c s₁ B hml hv
  obtain ⟨rfl, hsz, hP, hK, hD0, hXB, hZ⟩ := hv
  have hx := B.exec
  have hb := B.bytes
  have hr := B.returns
  have hts := atoms_spec (ws := wsX3_isWay) B.pre
  have hown : s.vm.findClass RX3 = some m.cls := findClass_of_methodNamed B.named
  have hlocks := B.notSynchronized
  subst hsz
  have hD := hD0.self (sz := s.heap.size)
  generalize hAe : va_A ([]) s.heap.size = A at hD hZ ⊢
  have hA : ∀ q : Nat, s.heap.size ≤ q → A q := fun q h => by rw [← hAe]; exact Or.inr h
  have hS : va_S A s.heap s.heap [] := va_S.rf
  have hP : va_P G vwCl ([]) s.heap := hP
  have hl := lv_entry ([.int x, .int y]) (n := 2) (Nat.le_of_ble_eq_true rfl)
  rw [lg_entry_eq]
  generalize (lg_sl ([.int x, .int y]) ++ List.replicate (2 - (lg_sl ([.int x, .int y])).length) Slot.unset).toArray = ls at hl ⊢
  have hl : lv_has ls 2 [(0, .int x), (1, .int y)] := hl
  refine lv_iload_n hx hb dX3_isWay_0 rfl (lv_at hl 0 rfl) ?_
  by_cases h : x.toInt < 0 ∨ 4 < x.toInt
  · refine lv_tableOut (tgt := 80) hx hb dX3_isWay_1 (h) (by decide) ?_
    refine lv_iconst (v := nI 0) hx hb dX3_isWay_80 (by decide) ?_
    exact W.zret (v := nI 0) hx hb hr rfl (fun t ht hW => ⟨⟨nI 0, (), rfl, by rw [xb_f (xwb_o h)], x_at ht hP⟩, hS.F ht⟩) hS.2.2 dX3_isWay_81
  · rcases xcase5 h with rfl | rfl | rfl | rfl | rfl
    · refine lv_tableIn (off := 35) (tgt := 36) hx hb dX3_isWay_1 (by decide) (by decide) (by decide) (by decide) ?_
      refine lv_iload_n hx hb dX3_isWay_36 rfl (lv_at hl 1 rfl) ?_
      refine lv_iconst (v := nI 1) hx hb dX3_isWay_37 (by decide) ?_
      refine lv_icmp_lt (tgt := 51) hx hb dX3_isWay_38 (by decide) (fun c1 => ?_) (fun c1 => ?_)
      · refine lv_iconst (v := nI 0) hx hb dX3_isWay_51 (by decide) ?_
        exact W.zret (v := nI 0) hx hb hr rfl (fun t ht hW => ⟨⟨nI 0, (), rfl, by rw [xwb_0, decide_eq_false (p := nI 1 ≤ y) (by rw [xIle]; rw [xIlt] at c1; omega), Bool.false_and]; rfl, x_at ht hP⟩, hS.F ht⟩) hS.2.2 dX3_isWay_52
      · refine lv_iload_n hx hb dX3_isWay_41 rfl (lv_at hl 1 rfl) ?_
        refine lv_bipush (v := nI 16) hx hb dX3_isWay_42 (by decide) ?_
        refine lv_icmp_ge (tgt := 51) hx hb dX3_isWay_44 (by decide) (fun c2 => ?_) (fun c2 => ?_)
        · refine lv_iconst (v := nI 0) hx hb dX3_isWay_51 (by decide) ?_
          exact W.zret (v := nI 0) hx hb hr rfl (fun t ht hW => ⟨⟨nI 0, (), rfl, by rw [xwb_0, decide_eq_false (p := y < nI 16) (by rw [xIlt]; rw [xIle] at c2; omega), Bool.and_false]; rfl, x_at ht hP⟩, hS.F ht⟩) hS.2.2 dX3_isWay_52
        · refine lv_iconst (v := nI 1) hx hb dX3_isWay_47 (by decide) ?_
          refine lv_goto (tgt := 52) hx hb dX3_isWay_48 (by decide) ?_
          exact W.zret (v := nI 1) hx hb hr rfl (fun t ht hW => ⟨⟨nI 1, (), rfl, by rw [xwb_0, decide_eq_true (p := nI 1 ≤ y) (by rw [xIle]; rw [xIlt] at c1; omega), decide_eq_true (p := y < nI 16) (by rw [xIlt]; rw [xIle] at c2; omega)]; rfl, x_at ht hP⟩, hS.F ht⟩) hS.2.2 dX3_isWay_52
    · refine lv_tableIn (off := 69) (tgt := 70) hx hb dX3_isWay_1 (by decide) (by decide) (by decide) (by decide) ?_
      refine lv_iload_n hx hb dX3_isWay_70 rfl (lv_at hl 1 rfl) ?_
      refine lv_if_ne (tgt := 78) hx hb dX3_isWay_71 (by decide) (fun c1 => ?_) (fun c1 => ?_)
      · refine lv_iconst (v := nI 0) hx hb dX3_isWay_78 (by decide) ?_
        exact W.zret (v := nI 0) hx hb hr rfl (fun t ht hW => ⟨⟨nI 0, (), rfl, by rw [(xwb_1 y).1, decide_eq_false c1]; rfl, x_at ht hP⟩, hS.F ht⟩) hS.2.2 dX3_isWay_79
      · refine lv_iconst (v := nI 1) hx hb dX3_isWay_74 (by decide) ?_
        refine lv_goto (tgt := 79) hx hb dX3_isWay_75 (by decide) ?_
        exact W.zret (v := nI 1) hx hb hr rfl (fun t ht hW => ⟨⟨nI 1, (), rfl, by rw [(xwb_1 y).1, decide_eq_true c1]; rfl, x_at ht hP⟩, hS.F ht⟩) hS.2.2 dX3_isWay_79
    · refine lv_tableIn (off := 69) (tgt := 70) hx hb dX3_isWay_1 (by decide) (by decide) (by decide) (by decide) ?_
      refine lv_iload_n hx hb dX3_isWay_70 rfl (lv_at hl 1 rfl) ?_
      refine lv_if_ne (tgt := 78) hx hb dX3_isWay_71 (by decide) (fun c1 => ?_) (fun c1 => ?_)
      · refine lv_iconst (v := nI 0) hx hb dX3_isWay_78 (by decide) ?_
        exact W.zret (v := nI 0) hx hb hr rfl (fun t ht hW => ⟨⟨nI 0, (), rfl, by rw [(xwb_1 y).2.1, decide_eq_false c1]; rfl, x_at ht hP⟩, hS.F ht⟩) hS.2.2 dX3_isWay_79
      · refine lv_iconst (v := nI 1) hx hb dX3_isWay_74 (by decide) ?_
        refine lv_goto (tgt := 79) hx hb dX3_isWay_75 (by decide) ?_
        exact W.zret (v := nI 1) hx hb hr rfl (fun t ht hW => ⟨⟨nI 1, (), rfl, by rw [(xwb_1 y).2.1, decide_eq_true c1]; rfl, x_at ht hP⟩, hS.F ht⟩) hS.2.2 dX3_isWay_79
    · refine lv_tableIn (off := 52) (tgt := 53) hx hb dX3_isWay_1 (by decide) (by decide) (by decide) (by decide) ?_
      refine lv_iload_n hx hb dX3_isWay_53 rfl (lv_at hl 1 rfl) ?_
      refine lv_iconst (v := nI 2) hx hb dX3_isWay_54 (by decide) ?_
      refine lv_icmp_lt (tgt := 68) hx hb dX3_isWay_55 (by decide) (fun c1 => ?_) (fun c1 => ?_)
      · refine lv_iconst (v := nI 0) hx hb dX3_isWay_68 (by decide) ?_
        exact W.zret (v := nI 0) hx hb hr rfl (fun t ht hW => ⟨⟨nI 0, (), rfl, by rw [xwb_3, decide_eq_false (p := nI 2 ≤ y) (by rw [xIle]; rw [xIlt] at c1; omega), Bool.false_and]; rfl, x_at ht hP⟩, hS.F ht⟩) hS.2.2 dX3_isWay_69
      · refine lv_iload_n hx hb dX3_isWay_58 rfl (lv_at hl 1 rfl) ?_
        refine lv_bipush (v := nI 16) hx hb dX3_isWay_59 (by decide) ?_
        refine lv_icmp_gt (tgt := 68) hx hb dX3_isWay_61 (by decide) (fun c2 => ?_) (fun c2 => ?_)
        · refine lv_iconst (v := nI 0) hx hb dX3_isWay_68 (by decide) ?_
          exact W.zret (v := nI 0) hx hb hr rfl (fun t ht hW => ⟨⟨nI 0, (), rfl, by rw [xwb_3, decide_eq_false (p := y ≤ nI 16) (by rw [xIle]; rw [xIlt] at c2; omega), Bool.and_false]; rfl, x_at ht hP⟩, hS.F ht⟩) hS.2.2 dX3_isWay_69
        · refine lv_iconst (v := nI 1) hx hb dX3_isWay_64 (by decide) ?_
          refine lv_goto (tgt := 69) hx hb dX3_isWay_65 (by decide) ?_
          exact W.zret (v := nI 1) hx hb hr rfl (fun t ht hW => ⟨⟨nI 1, (), rfl, by rw [xwb_3, decide_eq_true (p := nI 2 ≤ y) (by rw [xIle]; rw [xIlt] at c1; omega), decide_eq_true (p := y ≤ nI 16) (by rw [xIle]; rw [xIlt] at c2; omega)]; rfl, x_at ht hP⟩, hS.F ht⟩) hS.2.2 dX3_isWay_69
    · refine lv_tableIn (off := 69) (tgt := 70) hx hb dX3_isWay_1 (by decide) (by decide) (by decide) (by decide) ?_
      refine lv_iload_n hx hb dX3_isWay_70 rfl (lv_at hl 1 rfl) ?_
      refine lv_if_ne (tgt := 78) hx hb dX3_isWay_71 (by decide) (fun c1 => ?_) (fun c1 => ?_)
      · refine lv_iconst (v := nI 0) hx hb dX3_isWay_78 (by decide) ?_
        exact W.zret (v := nI 0) hx hb hr rfl (fun t ht hW => ⟨⟨nI 0, (), rfl, by rw [(xwb_1 y).2.2, decide_eq_false c1]; rfl, x_at ht hP⟩, hS.F ht⟩) hS.2.2 dX3_isWay_79
      · refine lv_iconst (v := nI 1) hx hb dX3_isWay_74 (by decide) ?_
        refine lv_goto (tgt := 79) hx hb dX3_isWay_75 (by decide) ?_
        exact W.zret (v := nI 1) hx hb hr rfl (fun t ht hW => ⟨⟨nI 1, (), rfl, by rw [(xwb_1 y).2.2, decide_eq_true c1]; rfl, x_at ht hP⟩, hS.F ht⟩) hS.2.2 dX3_isWay_79

theorem xdl_p : ∀ e, e < 5 → (2 ^ e % 2 = 0 ∨ e = 0) := by decide

theorem xdl_stop {f a d y : Nat} (h : ¬ (1 < y ∧ a % 2 = 0)) : xdl f a d y = 15 - d - a / 2 := by
  cases f with
  | zero => rfl
  | succ f => unfold xdl; rw [if_neg h]
theorem xdl_go {f a d y : Nat} (h : 1 < y) (h2 : a % 2 = 0) : xdl (f + 1) a d y = xdl f (a / 2) (d + y / 2) (y / 2) := by
  show (if 1 < y ∧ a % 2 = 0 then _ else _) = _
  rw [if_pos ⟨h, h2⟩]
theorem nI_nle1 {a b : Nat} (h : a < b) (hb : b < 2 ^ 31) : ¬ nI b ≤ nI a := nI_ge h hb

set_option maxHeartbeats 4000000 in
set_option maxRecDepth 100000 in
/-- placeAfterDeal -/
theorem c_X3_placeAfterDeal (l : Launch) (G : va_G) (T : Nat → ClassId) (sz : Nat) (q : Nat) (hq : q < 16) : Met l yX3_placeAfterDeal wsX3_placeAfterDeal ({ frames := 0, cells := 0, slots := 0, locals := 0 }) (va_Pc [.int (nI q)] (xPre G T ([]) sz)) (va_Qi (fun (r : Int32) (u : Unit) => r = nI (xDt q)) (fun u t => va_P G vwCl ([]) t.heap) (va_A ([]) sz)) 0 0 (va_A ([]) sz) := by
  refine Met.ofW (cc := cX3_placeAfterDeal) (maxL := 4) (ret := (some .int)) (by decide +kernel) rfl ?_
  intro p e s m args below meth c s₁ B hml hv
  obtain ⟨rfl, hsz, hP, hK, hD0, hXB, hZ⟩ := hv
  have hx := B.exec
  have hb := B.bytes
  have hr := B.returns
  have hts := atoms_spec (ws := wsX3_placeAfterDeal) B.pre
  have hown : s.vm.findClass RX3 = some m.cls := findClass_of_methodNamed B.named
  have hlocks := B.notSynchronized
  subst hsz
  have hD := hD0.self (sz := s.heap.size)
  generalize hAe : va_A ([]) s.heap.size = A at hD hZ ⊢
  have hA : ∀ q : Nat, s.heap.size ≤ q → A q := fun q h => by rw [← hAe]; exact Or.inr h
  have hS : va_S A s.heap s.heap [] := va_S.rf
  have hP : va_P G vwCl ([]) s.heap := hP
  have hl := lv_entry ([.int (nI q)]) (n := 4) (Nat.le_of_ble_eq_true rfl)
  rw [lg_entry_eq]
  generalize (lg_sl ([.int (nI q)]) ++ List.replicate (4 - (lg_sl ([.int (nI q)])).length) Slot.unset).toArray = ls at hl ⊢
  have hl : lv_has ls 4 [(0, .int (nI q))] := hl
  refine lv_iload_n hx hb dX3_placeAfterDeal_0 rfl (lv_at hl 0 rfl) ?_
  refine lv_istore_n (lv' := [(1, .int (nI q)), (0, .int (nI q))]) hx hb dX3_placeAfterDeal_1 rfl hl (by decide) rfl (fun ls hl => ?_)
  refine lv_iconst (v := nI 0) hx hb dX3_placeAfterDeal_2 (by decide) ?_
  refine lv_istore_n (lv' := [(2, .int (nI 0)), (1, .int (nI q)), (0, .int (nI q))]) hx hb dX3_placeAfterDeal_3 rfl hl (by decide) rfl (fun ls hl => ?_)
  refine lv_bipush (v := nI 16) hx hb dX3_placeAfterDeal_4 (by decide) ?_
  refine lv_istore_n (lv' := [(3, .int (nI 16)), (2, .int (nI 0)), (1, .int (nI q)), (0, .int (nI q))]) hx hb dX3_placeAfterDeal_6 rfl hl (by decide) rfl (fun ls hl => ?_)
  suffices LP : ∀ (n : Nat) (a : Nat) (d : Nat) (y : Nat) (z : Nat), (y = 2 ^ z) → (a < y) → (d + y ≤ 16) → (z < 5) → (z < n) → (xdl z a d y = xDt q) → ∀ (H : Heap) (locs : List Loc), va_P G vwCl ([]) H → va_D A ([]) → va_S A s.heap H locs → ∀ (ls : Array Slot), lv_has ls 4 [(1, .int (nI a)), (2, .int (nI d)), (3, .int (nI y)), (0, .int (nI q))] → W p l e (headSpec wsX3_placeAfterDeal ({ frames := 0, cells := 0, slots := 0, locals := 0 })).room s m ([.int (nI q)] : List Value).toArray below meth c H locs 0 0 (MQ below (va_Qi (fun (r : Int32) (u : Unit) => r = nI (xDt q)) (fun u t => va_P G vwCl ([]) t.heap) A) ([.int (nI q)] : List Value).toArray s 0 0 A) (F0 m 7 ls []) from LP 5 q 0 16 4 rfl hq (by omega) (by decide) (by decide) (xdl_ok q hq) _ _ hP hD hS ls (lv_sub hl [2, 1, 0, 3] rfl)
  clear hP hD hS hl
  intro n
  induction n with
  | zero => intro a d y z hy ha hd hz4 hn hv H locs _ _ _ ls _; exfalso; omega
  | succ n ih =>
    intro a d y z hy ha hd hz4 hn hv H locs hP hD hS ls hl
    refine lv_iload_n hx hb dX3_placeAfterDeal_7 rfl (lv_at hl 2 rfl) ?_
    refine lv_iconst (v := nI 1) hx hb dX3_placeAfterDeal_8 (by decide) ?_
    have hy16 : y ≤ 16 := by omega
    by_cases hz : z = 0
    · have hy1 : y = 1 := by rw [hy, hz]
      refine lv_icmp_le (tgt := 35) hx hb dX3_placeAfterDeal_9 (by decide) (fun _ => ?_) (fun c_ => absurd (nI_le (by omega) (by omega)) c_)
      refine lv_bipush (v := nI 15) hx hb dX3_placeAfterDeal_35 (by decide) ?_
      refine lv_iload_n hx hb dX3_placeAfterDeal_37 rfl (lv_at hl 1 rfl) ?_
      refine lv_isub hx hb dX3_placeAfterDeal_38 ?_
      refine x_topi (y := nI (15 - d)) (pk_sub (by omega)) ?_
      refine lv_iload_n hx hb dX3_placeAfterDeal_39 rfl (lv_at hl 0 rfl) ?_
      refine lv_iconst (v := nI 2) hx hb dX3_placeAfterDeal_40 (by decide) ?_
      refine lv_idiv hx hb dX3_placeAfterDeal_41 (by decide) ?_
      refine x_topi (y := nI (a / 2)) (pk_div (by omega) (by decide) (by decide)) ?_
      refine lv_isub hx hb dX3_placeAfterDeal_42 ?_
      refine x_topi (y := nI (15 - d - a / 2)) (pk_sub (by omega)) ?_
      exact W.iret (v := nI (15 - d - a / 2)) hx hb hr (fun t ht hW => ⟨⟨nI (15 - d - a / 2), (), rfl, by rw [← hv, xdl_stop (by omega)], x_at ht hP⟩, hS.F ht⟩) hS.2.2 dX3_placeAfterDeal_43
    · obtain ⟨zz, rfl⟩ : ∃ zz, z = zz + 1 := ⟨z - 1, by omega⟩
      have hp2 := Nat.two_pow_pos zz
      have hy2 : y = 2 ^ zz * 2 := by rw [hy, Nat.pow_succ]
      refine lv_icmp_le (tgt := 35) hx hb dX3_placeAfterDeal_9 (by decide) (fun c_ => absurd c_ (nI_nle1 (by omega) (by omega))) (fun _ => ?_)
      refine lv_iload_n hx hb dX3_placeAfterDeal_12 rfl (lv_at hl 0 rfl) ?_
      refine lv_iconst (v := nI 2) hx hb dX3_placeAfterDeal_13 (by decide) ?_
      refine lv_irem hx hb dX3_placeAfterDeal_14 (by decide) ?_
      refine x_topi (y := nI (a % 2)) (pk_rem (by omega) (by decide) (by decide)) ?_
      by_cases hev : a % 2 = 1
      · refine lv_if_ne (tgt := 35) hx hb dX3_placeAfterDeal_15 (by decide) (fun _ => ?_) (fun c_ => absurd c_ (nI_ne0 (by omega) (by omega)))
        refine lv_bipush (v := nI 15) hx hb dX3_placeAfterDeal_35 (by decide) ?_
        refine lv_iload_n hx hb dX3_placeAfterDeal_37 rfl (lv_at hl 1 rfl) ?_
        refine lv_isub hx hb dX3_placeAfterDeal_38 ?_
        refine x_topi (y := nI (15 - d)) (pk_sub (by omega)) ?_
        refine lv_iload_n hx hb dX3_placeAfterDeal_39 rfl (lv_at hl 0 rfl) ?_
        refine lv_iconst (v := nI 2) hx hb dX3_placeAfterDeal_40 (by decide) ?_
        refine lv_idiv hx hb dX3_placeAfterDeal_41 (by decide) ?_
        refine x_topi (y := nI (a / 2)) (pk_div (by omega) (by decide) (by decide)) ?_
        refine lv_isub hx hb dX3_placeAfterDeal_42 ?_
        refine x_topi (y := nI (15 - d - a / 2)) (pk_sub (by omega)) ?_
        exact W.iret (v := nI (15 - d - a / 2)) hx hb hr (fun t ht hW => ⟨⟨nI (15 - d - a / 2), (), rfl, by rw [← hv, xdl_stop (by omega)], x_at ht hP⟩, hS.F ht⟩) hS.2.2 dX3_placeAfterDeal_43
      · have ha0 : nI (a % 2) = nI 0 := by rw [show a % 2 = 0 by omega]
        refine lv_if_ne (tgt := 35) hx hb dX3_placeAfterDeal_15 (by decide) (fun c_ => absurd (ha0) c_) (fun _ => ?_)
        refine lv_iload_n hx hb dX3_placeAfterDeal_18 rfl (lv_at hl 1 rfl) ?_
        refine lv_iload_n hx hb dX3_placeAfterDeal_19 rfl (lv_at hl 2 rfl) ?_
        refine lv_iconst (v := nI 2) hx hb dX3_placeAfterDeal_20 (by decide) ?_
        refine lv_idiv hx hb dX3_placeAfterDeal_21 (by decide) ?_
        refine x_topi (y := nI (y / 2)) (pk_div (by omega) (by decide) (by decide)) ?_
        refine lv_iadd hx hb dX3_placeAfterDeal_22 ?_
        refine x_topi (y := nI (d + y / 2)) (nI_add _ _) ?_
        refine lv_istore_n (lv' := [(2, .int (nI (d + y / 2))), (1, .int (nI a)), (3, .int (nI y)), (0, .int (nI q))]) hx hb dX3_placeAfterDeal_23 rfl hl (by decide) rfl (fun ls hl => ?_)
        refine lv_iload_n hx hb dX3_placeAfterDeal_24 rfl (lv_at hl 1 rfl) ?_
        refine lv_iconst (v := nI 2) hx hb dX3_placeAfterDeal_25 (by decide) ?_
        refine lv_idiv hx hb dX3_placeAfterDeal_26 (by decide) ?_
        refine x_topi (y := nI (a / 2)) (pk_div (by omega) (by decide) (by decide)) ?_
        refine lv_istore_n (lv' := [(1, .int (nI (a / 2))), (2, .int (nI (d + y / 2))), (3, .int (nI y)), (0, .int (nI q))]) hx hb dX3_placeAfterDeal_27 rfl hl (by decide) rfl (fun ls hl => ?_)
        refine lv_iload_n hx hb dX3_placeAfterDeal_28 rfl (lv_at hl 2 rfl) ?_
        refine lv_iconst (v := nI 2) hx hb dX3_placeAfterDeal_29 (by decide) ?_
        refine lv_idiv hx hb dX3_placeAfterDeal_30 (by decide) ?_
        refine x_topi (y := nI (y / 2)) (pk_div (by omega) (by decide) (by decide)) ?_
        refine lv_istore_n (lv' := [(3, .int (nI (y / 2))), (1, .int (nI (a / 2))), (2, .int (nI (d + y / 2))), (0, .int (nI q))]) hx hb dX3_placeAfterDeal_31 rfl hl (by decide) rfl (fun ls hl => ?_)
        refine lv_goto (tgt := 7) hx hb dX3_placeAfterDeal_32 (by decide) ?_
        exact ih (a / 2) (d + y / 2) (y / 2) zz (by omega) (by omega) (by omega) (by omega) (by omega) (by rw [← hv, xdl_go (by omega) (by omega)]) _ _ hP hD hS ls (lv_sub hl [1, 2, 0, 3] rfl)

set_option maxHeartbeats 4000000 in
set_option maxRecDepth 100000 in
/-- placeAfter -/
theorem c_X3_placeAfter (l : Launch) (G : va_G) (T : Nat → ClassId) (sz : Nat) (k n q : Nat) (hw : xwn k n = true) (hq : q < 16) : Met l yX3_placeAfter wsX3_placeAfter ({ frames := 1, cells := 0, slots := 0, locals := 23 }) (va_Pc [.int (nI k), .int (nI n), .int (nI q)] (xPre G T ([]) sz)) (va_Qi (fun (r : Int32) (u : Unit) => r = nI (xpa k n q)) (fun u t => va_P G vwCl ([]) t.heap) (va_A ([]) sz)) 0 0 (va_A ([]) sz) := by
  refine Met.ofW (cc := cX3_placeAfter) (maxL := 3) (ret := (some .int)) (by decide +kernel) rfl ?_
  intro p e s m args below meth c s₁ B hml hv
  obtain ⟨rfl, hsz, hP, hK, hD0, hXB, hZ⟩ := hv
  have hx := B.exec
  have hb := B.bytes
  have hr := B.returns
  have hts := atoms_spec (ws := wsX3_placeAfter) B.pre
  have hown : s.vm.findClass RX3 = some m.cls := findClass_of_methodNamed B.named
  have hlocks := B.notSynchronized
  subst hsz
  have hD := hD0.self (sz := s.heap.size)
  generalize hAe : va_A ([]) s.heap.size = A at hD hZ ⊢
  have hA : ∀ q : Nat, s.heap.size ≤ q → A q := fun q h => by rw [← hAe]; exact Or.inr h
  have hS : va_S A s.heap s.heap [] := va_S.rf
  have hP : va_P G vwCl ([]) s.heap := hP
  have hl := lv_entry ([.int (nI k), .int (nI n), .int (nI q)]) (n := 3) (Nat.le_of_ble_eq_true rfl)
  rw [lg_entry_eq]
  generalize (lg_sl ([.int (nI k), .int (nI n), .int (nI q)]) ++ List.replicate (3 - (lg_sl ([.int (nI k), .int (nI n), .int (nI q)])).length) Slot.unset).toArray = ls at hl ⊢
  have hl : lv_has ls 3 [(0, .int (nI k)), (1, .int (nI n)), (2, .int (nI q))] := hl
  refine lv_iload_n hx hb dX3_placeAfter_0 rfl (lv_at hl 0 rfl) ?_
  rcases (show k = 0 ∨ k = 1 ∨ k = 2 ∨ k = 3 ∨ k = 4 by have := (xwn_lt hw).1; omega) with rfl | rfl | rfl | rfl | rfl
  · refine lv_tableIn (off := 31) (tgt := 32) hx hb dX3_placeAfter_1 (by decide) (by decide) (by decide) (by decide) ?_
    refine lv_iload_n hx hb dX3_placeAfter_32 rfl (lv_at hl 2 rfl) ?_
    refine lv_iload_n hx hb dX3_placeAfter_33 rfl (lv_at hl 1 rfl) ?_
    have hn : 1 ≤ n ∧ n ≤ 15 := by simpa [xwn] using hw
    by_cases hc : q < n
    · refine lv_icmp_ge (tgt := 46) hx hb dX3_placeAfter_34 (by decide) (fun c_ => absurd c_ (nI_ge hc (by omega))) (fun _ => ?_)
      refine lv_iload_n hx hb dX3_placeAfter_37 rfl (lv_at hl 2 rfl) ?_
      refine lv_bipush (v := nI 16) hx hb dX3_placeAfter_38 (by decide) ?_
      refine lv_iadd hx hb dX3_placeAfter_40 ?_
      refine lv_iload_n hx hb dX3_placeAfter_41 rfl (lv_at hl 1 rfl) ?_
      refine lv_isub hx hb dX3_placeAfter_42 ?_
      refine x_topi (y := nI (q + 16 - n)) (by rw [nI_add, pk_sub (by omega)]) ?_
      refine lv_goto (tgt := 49) hx hb dX3_placeAfter_43 (by decide) ?_
      exact W.iret (v := nI (q + 16 - n)) hx hb hr (fun t ht hW => ⟨⟨nI (q + 16 - n), (), rfl, congrArg nI (show _ = (q + 16 - n) % 16 from (Nat.mod_eq_of_lt (by omega)).symm), x_at ht hP⟩, hS.F ht⟩) hS.2.2 dX3_placeAfter_49
    · refine lv_icmp_ge (tgt := 46) hx hb dX3_placeAfter_34 (by decide) (fun _ => ?_) (fun c_ => absurd (nI_le (by omega) (by omega)) c_)
      refine lv_iload_n hx hb dX3_placeAfter_46 rfl (lv_at hl 2 rfl) ?_
      refine lv_iload_n hx hb dX3_placeAfter_47 rfl (lv_at hl 1 rfl) ?_
      refine lv_isub hx hb dX3_placeAfter_48 ?_
      refine x_topi (y := nI (q - n)) (pk_sub (by omega)) ?_
      exact W.iret (v := nI (q - n)) hx hb hr (fun t ht hW => ⟨⟨nI (q - n), (), rfl, congrArg nI (show _ = (q + 16 - n) % 16 by rw [show q + 16 - n = (q - n) + 16 by omega, Nat.add_mod_right, Nat.mod_eq_of_lt (by omega)]), x_at ht hP⟩, hS.F ht⟩) hS.2.2 dX3_placeAfter_49
  · refine lv_tableIn (off := 49) (tgt := 50) hx hb dX3_placeAfter_1 (by decide) (by decide) (by decide) (by decide) ?_
    refine lv_iload_n hx hb dX3_placeAfter_50 rfl (lv_at hl 2 rfl) ?_
    refine lv_bipush (v := nI 8) hx hb dX3_placeAfter_51 (by decide) ?_
    by_cases hc : q < 8
    · refine lv_icmp_ge (tgt := 62) hx hb dX3_placeAfter_53 (by decide) (fun c_ => absurd c_ (nI_ge hc (by decide))) (fun _ => ?_)
      refine lv_iconst (v := nI 2) hx hb dX3_placeAfter_56 (by decide) ?_
      refine lv_iload_n hx hb dX3_placeAfter_57 rfl (lv_at hl 2 rfl) ?_
      refine lv_imul hx hb dX3_placeAfter_58 ?_
      refine x_topi (y := nI (2 * q)) (pk_mul _ _) ?_
      refine lv_goto (tgt := 70) hx hb dX3_placeAfter_59 (by decide) ?_
      exact W.iret (v := nI (2 * q)) hx hb hr (fun t ht hW => ⟨⟨nI (2 * q), (), rfl, congrArg nI (show _ = if q < 8 then 2 * q else 2 * q - 15 by rw [if_pos hc]), x_at ht hP⟩, hS.F ht⟩) hS.2.2 dX3_placeAfter_70
    · refine lv_icmp_ge (tgt := 62) hx hb dX3_placeAfter_53 (by decide) (fun _ => ?_) (fun c_ => absurd (nI_le (by omega) (by omega)) c_)
      refine lv_iconst (v := nI 2) hx hb dX3_placeAfter_62 (by decide) ?_
      refine lv_iload_n hx hb dX3_placeAfter_63 rfl (lv_at hl 2 rfl) ?_
      refine lv_bipush (v := nI 8) hx hb dX3_placeAfter_64 (by decide) ?_
      refine lv_isub hx hb dX3_placeAfter_66 ?_
      refine x_topi (y := nI (q - 8)) (pk_sub (by omega)) ?_
      refine lv_imul hx hb dX3_placeAfter_67 ?_
      refine x_topi (y := nI (2 * (q - 8))) (pk_mul _ _) ?_
      refine lv_iconst (v := nI 1) hx hb dX3_placeAfter_68 (by decide) ?_
      refine lv_iadd hx hb dX3_placeAfter_69 ?_
      refine x_topi (y := nI (2 * (q - 8) + 1)) (nI_add _ _) ?_
      exact W.iret (v := nI (2 * (q - 8) + 1)) hx hb hr (fun t ht hW => ⟨⟨nI (2 * (q - 8) + 1), (), rfl, congrArg nI (show _ = if q < 8 then 2 * q else 2 * q - 15 by rw [if_neg hc]; omega), x_at ht hP⟩, hS.F ht⟩) hS.2.2 dX3_placeAfter_70
  · refine lv_tableIn (off := 70) (tgt := 71) hx hb dX3_placeAfter_1 (by decide) (by decide) (by decide) (by decide) ?_
    refine lv_iload_n hx hb dX3_placeAfter_71 rfl (lv_at hl 2 rfl) ?_
    refine lv_bipush (v := nI 8) hx hb dX3_placeAfter_72 (by decide) ?_
    by_cases hc : q < 8
    · refine lv_icmp_ge (tgt := 85) hx hb dX3_placeAfter_74 (by decide) (fun c_ => absurd c_ (nI_ge hc (by decide))) (fun _ => ?_)
      refine lv_iconst (v := nI 2) hx hb dX3_placeAfter_77 (by decide) ?_
      refine lv_iload_n hx hb dX3_placeAfter_78 rfl (lv_at hl 2 rfl) ?_
      refine lv_imul hx hb dX3_placeAfter_79 ?_
      refine x_topi (y := nI (2 * q)) (pk_mul _ _) ?_
      refine lv_iconst (v := nI 1) hx hb dX3_placeAfter_80 (by decide) ?_
      refine lv_iadd hx hb dX3_placeAfter_81 ?_
      refine x_topi (y := nI (2 * q + 1)) (nI_add _ _) ?_
      refine lv_goto (tgt := 91) hx hb dX3_placeAfter_82 (by decide) ?_
      exact W.iret (v := nI (2 * q + 1)) hx hb hr (fun t ht hW => ⟨⟨nI (2 * q + 1), (), rfl, congrArg nI (show _ = if q < 8 then 2 * q + 1 else 2 * q - 16 by rw [if_pos hc]), x_at ht hP⟩, hS.F ht⟩) hS.2.2 dX3_placeAfter_91
    · refine lv_icmp_ge (tgt := 85) hx hb dX3_placeAfter_74 (by decide) (fun _ => ?_) (fun c_ => absurd (nI_le (by omega) (by omega)) c_)
      refine lv_iconst (v := nI 2) hx hb dX3_placeAfter_85 (by decide) ?_
      refine lv_iload_n hx hb dX3_placeAfter_86 rfl (lv_at hl 2 rfl) ?_
      refine lv_bipush (v := nI 8) hx hb dX3_placeAfter_87 (by decide) ?_
      refine lv_isub hx hb dX3_placeAfter_89 ?_
      refine x_topi (y := nI (q - 8)) (pk_sub (by omega)) ?_
      refine lv_imul hx hb dX3_placeAfter_90 ?_
      refine x_topi (y := nI (2 * (q - 8))) (pk_mul _ _) ?_
      exact W.iret (v := nI (2 * (q - 8))) hx hb hr (fun t ht hW => ⟨⟨nI (2 * (q - 8)), (), rfl, congrArg nI (show _ = if q < 8 then 2 * q + 1 else 2 * q - 16 by rw [if_neg hc]; omega), x_at ht hP⟩, hS.F ht⟩) hS.2.2 dX3_placeAfter_91
  · refine lv_tableIn (off := 91) (tgt := 92) hx hb dX3_placeAfter_1 (by decide) (by decide) (by decide) (by decide) ?_
    refine lv_iload_n hx hb dX3_placeAfter_92 rfl (lv_at hl 2 rfl) ?_
    refine lv_iload_n hx hb dX3_placeAfter_93 rfl (lv_at hl 1 rfl) ?_
    have hn : 2 ≤ n ∧ n ≤ 16 := by simpa [xwn] using hw
    by_cases hc : q < n
    · refine lv_icmp_ge (tgt := 105) hx hb dX3_placeAfter_94 (by decide) (fun c_ => absurd c_ (nI_ge hc (by omega))) (fun _ => ?_)
      refine lv_iload_n hx hb dX3_placeAfter_97 rfl (lv_at hl 1 rfl) ?_
      refine lv_iconst (v := nI 1) hx hb dX3_placeAfter_98 (by decide) ?_
      refine lv_isub hx hb dX3_placeAfter_99 ?_
      refine x_topi (y := nI (n - 1)) (pk_sub (by omega)) ?_
      refine lv_iload_n hx hb dX3_placeAfter_100 rfl (lv_at hl 2 rfl) ?_
      refine lv_isub hx hb dX3_placeAfter_101 ?_
      refine x_topi (y := nI (n - 1 - q)) (pk_sub (by omega)) ?_
      refine lv_goto (tgt := 106) hx hb dX3_placeAfter_102 (by decide) ?_
      exact W.iret (v := nI (n - 1 - q)) hx hb hr (fun t ht hW => ⟨⟨nI (n - 1 - q), (), rfl, congrArg nI (show _ = if q < n then n - 1 - q else q by rw [if_pos hc]), x_at ht hP⟩, hS.F ht⟩) hS.2.2 dX3_placeAfter_106
    · refine lv_icmp_ge (tgt := 105) hx hb dX3_placeAfter_94 (by decide) (fun _ => ?_) (fun c_ => absurd (nI_le (by omega) (by omega)) c_)
      refine lv_iload_n hx hb dX3_placeAfter_105 rfl (lv_at hl 2 rfl) ?_
      exact W.iret (v := nI q) hx hb hr (fun t ht hW => ⟨⟨nI q, (), rfl, congrArg nI (show _ = if q < n then n - 1 - q else q by rw [if_neg hc]), x_at ht hP⟩, hS.F ht⟩) hS.2.2 dX3_placeAfter_106
  · refine lv_tableOut (tgt := 107) hx hb dX3_placeAfter_1 (by decide) (by decide) ?_
    refine lv_iload_n hx hb dX3_placeAfter_107 rfl (lv_at hl 2 rfl) ?_
    refine x_calli (va_runS (As := [.int (nI q)]) (rest := []) ⟨hx, hb, hml, hown, hts⟩ (c_X3_placeAfterDeal l G T s.heap.size q hq) (va_cwS 1 hts gX3_placeAfter_X3_placeAfterDeal rfl rfl rfl (by decide +kernel) ⟨Nat.le_of_ble_eq_true rfl, Nat.le_of_ble_eq_true rfl⟩) (x_preS (wc := []) hK hP hD hS hA hXB hZ [] rfl rfl _) rfl rfl hl.1 rfl (lv_room (Nat.le_of_ble_eq_true rfl)) dX3_placeAfter_108 ⟨Nat.le_of_ble_eq_true rfl, Nat.le_of_ble_eq_true rfl⟩) hP hD hS hA [] rfl (fun _ _ _ => rfl) (fun r1 u H locs hw1 hP hD hS => ?_)
    have hP : va_P G vwCl ([]) H := hP
    have hD : va_D A ([]) := hD
    exact W.iret (v := r1) hx hb hr (fun t ht hW => ⟨⟨r1, (), rfl, hw1, x_at ht hP⟩, hS.F ht⟩) hS.2.2 dX3_placeAfter_111
end XL2
end
section
section XL3
/-- the first place of a value -/
def xfp (f : Nat → Int32) (x : Int32) : Int32 := match (List.range 16).find? (fun i => decide (f i = x)) with
  | some i => nI i
  | none => -1
theorem xfp_some {f : Nat → Int32} {x : Int32} {i : Nat} (hi : i < 16) (h : f i = x) (h2 : ∀ j, j < i → ¬ f j = x) : xfp f x = nI i := by
  unfold xfp
  have : (List.range 16).find? (fun i => decide (f i = x)) = some i := by
    rw [List.find?_range_eq_some]
    exact ⟨by simpa using h, by simpa using hi, fun j hj => by simpa using h2 j hj⟩
  rw [this]
theorem xfp_none {f : Nat → Int32} {x : Int32} (h2 : ∀ j, j < 16 → ¬ f j = x) : xfp f x = -1 := by
  unfold xfp
  have : (List.range 16).find? (fun i => decide (f i = x)) = none := by
    rw [List.find?_eq_none]
    intro j hj
    simpa using h2 j (by simpa using hj)
  rw [this]
def xct (p : Nat → Bool) : Nat → Nat
  | 0 => 0
  | n + 1 => xct p n + (if p n then 1 else 0)
theorem xct_le (p : Nat → Bool) : ∀ n, xct p n ≤ n
  | 0 => Nat.le_refl 0
  | n + 1 => by have := xct_le p n; show xct p n + (if p n then 1 else 0) ≤ n + 1; split <;> omega
theorem xct_t {p : Nat → Bool} {n : Nat} (h : p n = true) : xct p (n + 1) = xct p n + 1 := by show xct p n + (if p n then 1 else 0) = _; rw [if_pos h]
theorem xct_f {p : Nat → Bool} {n : Nat} (h : ¬ p n = true) : xct p (n + 1) = xct p n := by show xct p n + (if p n then 1 else 0) = _; rw [if_neg h]; rfl
def xmx (f : Nat → Int32) (d : Int64) : Nat → Int64
  | 0 => d
  | n + 1 => xmx f d n * 31 + (f n).toInt64
theorem xlt_s {i : Nat} {P : Nat → Prop} (h : ∀ a, a < i → P a) (hi : P i) : ∀ a, a < i + 1 → P a := fun a ha => by
  rcases Nat.lt_or_ge a i with q | q
  · exact h a q
  · rw [show a = i by omega]; exact hi

set_option maxHeartbeats 4000000 in
set_option maxRecDepth 100000 in
/-- Row.at -/
theorem c_X1_at (l : Launch) (G : va_G) (T : Nat → ClassId) (sz : Nat) (a0 a1 a2 : Nat) (f g : Nat → Int32) (k : Nat) (hk : k < 16) : Met l yX1_at wsX1_at ({ frames := 1, cells := 0, slots := 0, locals := 20 }) (va_Pc [.ref a0, .int (nI k)] (xPre G T ([(a0, .inr (1, [.ref a1, .ref a2])), (a1, .inl (T 0, 16, .inl f)), (a2, .inl (T 0, 16, .inl g))]) sz)) (va_Qi (fun (r : Int32) (u : Unit) => r = f k) (fun u t => va_P G vwCl ([(a0, .inr (1, [.ref a1, .ref a2])), (a1, .inl (T 0, 16, .inl f)), (a2, .inl (T 0, 16, .inl g))]) t.heap) (va_A ([(a0, .inr (1, [.ref a1, .ref a2])), (a1, .inl (T 0, 16, .inl f)), (a2, .inl (T 0, 16, .inl g))]) sz)) 0 0 (va_A ([(a0, .inr (1, [.ref a1, .ref a2])), (a1, .inl (T 0, 16, .inl f)), (a2, .inl (T 0, 16, .inl g))]) sz) := by
  refine Met.ofW (cc := cX1_at) (maxL := 2) (ret := (some .int)) (by decide +kernel) rfl ?_
  intro p e s m args below meth c s₁ B hml hv
  obtain ⟨rfl, hsz, hP, hK, hD0, hXB, hZ⟩ := hv
  have hx := B.exec
  have hb := B.bytes
  have hr := B.returns
  have hts := atoms_spec (ws := wsX1_at) B.pre
  have hown : s.vm.findClass RX1 = some m.cls := findClass_of_methodNamed B.named
  have hlocks := B.notSynchronized
  subst hsz
  have hD := hD0.self (sz := s.heap.size)
  generalize hAe : va_A ([(a0, .inr (1, [.ref a1, .ref a2])), (a1, .inl (T 0, 16, .inl f)), (a2, .inl (T 0, 16, .inl g))]) s.heap.size = A at hD hZ ⊢
  have hA : ∀ q : Nat, s.heap.size ≤ q → A q := fun q h => by rw [← hAe]; exact Or.inr h
  have hS : va_S A s.heap s.heap [] := va_S.rf
  have hP : va_P G vwCl ([(a0, .inr (1, [.ref a1, .ref a2])), (a1, .inl (T 0, 16, .inl f)), (a2, .inl (T 0, 16, .inl g))]) s.heap := hP
  have hiX1 : ∀ w ∈ u_ws RX1 TX1 2, w ∈ wsX1_at := by decide +kernel
  have hl := lv_entry ([.ref a0, .int (nI k)]) (n := 2) (Nat.le_of_ble_eq_true rfl)
  rw [lg_entry_eq]
  generalize (lg_sl ([.ref a0, .int (nI k)]) ++ List.replicate (2 - (lg_sl ([.ref a0, .int (nI k)])).length) Slot.unset).toArray = ls at hl ⊢
  have hl : lv_has ls 2 [(0, .ref a0), (1, .int (nI k))] := hl
  refine lv_iload_n hx hb dX1_at_0 rfl (lv_at hl 1 rfl) ?_
  refine x_calli (va_runSN (As := [.int (nI k)]) (rest := []) ⟨hx, hb, hml, hown, hts⟩ (c_X3_isSixteenth l G T _ (nI k)) (⟨va_cnB 1 hts gX1_at_X3_isSixteenth_n18 rfl rfl rfl (hXB.1 (.methodLinkNest RX1 18 yX3_isSixteenth "CardFans") (by decide +kernel)) (hts (.initialized RX3) (by decide +kernel)) (by decide +kernel) ⟨Nat.le_of_ble_eq_true rfl, Nat.le_of_ble_eq_true rfl⟩, hts (.static yX3_isSixteenth) (by decide +kernel), trivial⟩) (x_preS (wc := []) hK hP hD hS hA hXB hZ [] rfl rfl _) rfl rfl hl.1 rfl (lv_room (Nat.le_of_ble_eq_true rfl)) dX1_at_1 ⟨Nat.le_of_ble_eq_true rfl, Nat.le_of_ble_eq_true rfl⟩) hP hD hS hA [] rfl (fun _ _ _ => rfl) (fun r1 u H locs hw1 hP hD hS => ?_)
  have hP : va_P G vwCl ([(a0, .inr (1, [.ref a1, .ref a2])), (a1, .inl (T 0, 16, .inl f)), (a2, .inl (T 0, 16, .inl g))]) H := hP
  have hD : va_D A ([(a0, .inr (1, [.ref a1, .ref a2])), (a1, .inl (T 0, 16, .inl f)), (a2, .inl (T 0, 16, .inl g))]) := hD
  refine lv_if_eq (tgt := 16) hx hb dX1_at_4 (by decide) (fun c_ => absurd c_ (xb_ne hw1 (xvb_k hk (by decide)))) (fun _ => ?_)
  refine lv_aload_n hx hb dX1_at_7 rfl (lv_at hl 0 rfl) ?_
  refine va_get (D := G) (ci := 1) (v := .ref a1) (C := RX1) (T := TX1) (N := 2) hx hb hts hiX1 hown hK hP 0 rfl rfl 0 (by decide) (hts (.fieldLink RX1 9 "CardFans$Row" "numbers" "[I") (by decide +kernel)) (fun _ h9 => h9) rfl dX1_at_8 ?_
  refine lv_iload_n hx hb dX1_at_11 rfl (lv_at hl 1 rfl) ?_
  refine x_iald hx hb hK hP 1 0 (f := f) (n := 16) rfl rfl hk (by decide) dX1_at_12 ?_
  refine lv_goto (tgt := 17) hx hb dX1_at_13 (by decide) ?_
  exact W.iret (v := f k) hx hb hr (fun t ht hW => ⟨⟨f k, (), rfl, rfl, x_at ht hP⟩, hS.F ht⟩) hS.2.2 dX1_at_17

set_option maxHeartbeats 4000000 in
set_option maxRecDepth 100000 in
/-- Row.put -/
theorem c_X1_put (l : Launch) (G : va_G) (T : Nat → ClassId) (sz : Nat) (a0 a1 a2 : Nat) (f g : Nat → Int32) (k : Nat) (hk : k < 16) (v : Int32) : Met l yX1_put wsX1_put ({ frames := 1, cells := 0, slots := 0, locals := 20 }) (va_Pc [.ref a0, .int (nI k), .int v] (xPre G T ([(a0, .inr (1, [.ref a1, .ref a2])), (a1, .inl (T 0, 16, .inl f)), (a2, .inl (T 0, 16, .inl g))]) sz)) (va_Qv (fun (u : Unit) => True) (fun u t => va_P G vwCl ([(a0, .inr (1, [.ref a1, .ref a2])), (a1, .inl (T 0, 16, .inl (upd f k v))), (a2, .inl (T 0, 16, .inl g))]) t.heap) (va_A ([(a0, .inr (1, [.ref a1, .ref a2])), (a1, .inl (T 0, 16, .inl f)), (a2, .inl (T 0, 16, .inl g))]) sz)) 0 0 (va_A ([(a0, .inr (1, [.ref a1, .ref a2])), (a1, .inl (T 0, 16, .inl f)), (a2, .inl (T 0, 16, .inl g))]) sz) := by
  refine Met.ofW (cc := cX1_put) (maxL := 3) (ret := none) (by decide +kernel) rfl ?_
  intro p e s m args below meth c s₁ B hml hv
  obtain ⟨rfl, hsz, hP, hK, hD0, hXB, hZ⟩ := hv
  have hx := B.exec
  have hb := B.bytes
  have hr := B.returns
  have hts := atoms_spec (ws := wsX1_put) B.pre
  have hown : s.vm.findClass RX1 = some m.cls := findClass_of_methodNamed B.named
  have hlocks := B.notSynchronized
  subst hsz
  have hD := hD0.self (sz := s.heap.size)
  generalize hAe : va_A ([(a0, .inr (1, [.ref a1, .ref a2])), (a1, .inl (T 0, 16, .inl f)), (a2, .inl (T 0, 16, .inl g))]) s.heap.size = A at hD hZ ⊢
  have hA : ∀ q : Nat, s.heap.size ≤ q → A q := fun q h => by rw [← hAe]; exact Or.inr h
  have hS : va_S A s.heap s.heap [] := va_S.rf
  have hP : va_P G vwCl ([(a0, .inr (1, [.ref a1, .ref a2])), (a1, .inl (T 0, 16, .inl f)), (a2, .inl (T 0, 16, .inl g))]) s.heap := hP
  have hiX1 : ∀ w ∈ u_ws RX1 TX1 2, w ∈ wsX1_put := by decide +kernel
  have hl := lv_entry ([.ref a0, .int (nI k), .int v]) (n := 3) (Nat.le_of_ble_eq_true rfl)
  rw [lg_entry_eq]
  generalize (lg_sl ([.ref a0, .int (nI k), .int v]) ++ List.replicate (3 - (lg_sl ([.ref a0, .int (nI k), .int v])).length) Slot.unset).toArray = ls at hl ⊢
  have hl : lv_has ls 3 [(0, .ref a0), (1, .int (nI k)), (2, .int v)] := hl
  refine lv_iload_n hx hb dX1_put_0 rfl (lv_at hl 1 rfl) ?_
  refine x_calli (va_runSN (As := [.int (nI k)]) (rest := []) ⟨hx, hb, hml, hown, hts⟩ (c_X3_isSixteenth l G T _ (nI k)) (⟨va_cnB 1 hts gX1_put_X3_isSixteenth_n18 rfl rfl rfl (hXB.1 (.methodLinkNest RX1 18 yX3_isSixteenth "CardFans") (by decide +kernel)) (hts (.initialized RX3) (by decide +kernel)) (by decide +kernel) ⟨Nat.le_of_ble_eq_true rfl, Nat.le_of_ble_eq_true rfl⟩, hts (.static yX3_isSixteenth) (by decide +kernel), trivial⟩) (x_preS (wc := []) hK hP hD hS hA hXB hZ [] rfl rfl _) rfl rfl hl.1 rfl (lv_room (Nat.le_of_ble_eq_true rfl)) dX1_put_1 ⟨Nat.le_of_ble_eq_true rfl, Nat.le_of_ble_eq_true rfl⟩) hP hD hS hA [] rfl (fun _ _ _ => rfl) (fun r1 u H locs hw1 hP hD hS => ?_)
  have hP : va_P G vwCl ([(a0, .inr (1, [.ref a1, .ref a2])), (a1, .inl (T 0, 16, .inl f)), (a2, .inl (T 0, 16, .inl g))]) H := hP
  have hD : va_D A ([(a0, .inr (1, [.ref a1, .ref a2])), (a1, .inl (T 0, 16, .inl f)), (a2, .inl (T 0, 16, .inl g))]) := hD
  refine lv_if_eq (tgt := 14) hx hb dX1_put_4 (by decide) (fun c_ => absurd c_ (xb_ne hw1 (xvb_k hk (by decide)))) (fun _ => ?_)
  refine lv_aload_n hx hb dX1_put_7 rfl (lv_at hl 0 rfl) ?_
  refine va_get (D := G) (ci := 1) (v := .ref a1) (C := RX1) (T := TX1) (N := 2) hx hb hts hiX1 hown hK hP 0 rfl rfl 0 (by decide) (hts (.fieldLink RX1 9 "CardFans$Row" "numbers" "[I") (by decide +kernel)) (fun _ h9 => h9) rfl dX1_put_8 ?_
  refine lv_iload_n hx hb dX1_put_11 rfl (lv_at hl 1 rfl) ?_
  refine lv_iload_n hx hb dX1_put_12 rfl (lv_at hl 2 rfl) ?_
  refine x_iast hx hb hK hP hD hS 1 0 (f := f) (n := 16) rfl rfl hk (by decide) dX1_put_13 (fun H locs hP hD hS => ?_)
  have hP : va_P G vwCl ([(a0, .inr (1, [.ref a1, .ref a2])), (a1, .inl (T 0, 16, .inl (upd f k v))), (a2, .inl (T 0, 16, .inl g))]) H := hP
  have hD : va_D A ([(a0, .inr (1, [.ref a1, .ref a2])), (a1, .inl (T 0, 16, .inl (upd f k v))), (a2, .inl (T 0, 16, .inl g))]) := hD
  exact W.vret hx hb hr (fun t ht hW => ⟨⟨(), rfl, trivial, x_at ht hP⟩, hS.F ht⟩) hS.2.2 dX1_put_14

set_option maxHeartbeats 4000000 in
set_option maxRecDepth 100000 in
/-- Row.putInOrder -/
theorem c_X1_putInOrder (l : Launch) (G : va_G) (T : Nat → ClassId) (sz : Nat) (a0 a1 a2 : Nat) (f g : Nat → Int32) : Met l yX1_putInOrder wsX1_putInOrder ({ frames := 0, cells := 0, slots := 0, locals := 0 }) (va_Pc [.ref a0] (xPre G T ([(a0, .inr (1, [.ref a1, .ref a2])), (a1, .inl (T 0, 16, .inl f)), (a2, .inl (T 0, 16, .inl g))]) sz)) (va_Qv (fun (u : Unit) => True) (fun u t => va_P G vwCl ([(a0, .inr (1, [.ref a1, .ref a2])), (a1, .inl (T 0, 16, .inl (fun j => nI j))), (a2, .inl (T 0, 16, .inl g))]) t.heap) (va_A ([(a0, .inr (1, [.ref a1, .ref a2])), (a1, .inl (T 0, 16, .inl f)), (a2, .inl (T 0, 16, .inl g))]) sz)) 0 0 (va_A ([(a0, .inr (1, [.ref a1, .ref a2])), (a1, .inl (T 0, 16, .inl f)), (a2, .inl (T 0, 16, .inl g))]) sz) := by
  refine Met.ofW (cc := cX1_putInOrder) (maxL := 2) (ret := none) (by decide +kernel) rfl ?_
  intro p e s m args below meth c s₁ B hml hv
  obtain ⟨rfl, hsz, hP, hK, hD0, hXB, hZ⟩ := hv
  have hx := B.exec
  have hb := B.bytes
  have hr := B.returns
  have hts := atoms_spec (ws := wsX1_putInOrder) B.pre
  have hown : s.vm.findClass RX1 = some m.cls := findClass_of_methodNamed B.named
  have hlocks := B.notSynchronized
  subst hsz
  have hD := hD0.self (sz := s.heap.size)
  generalize hAe : va_A ([(a0, .inr (1, [.ref a1, .ref a2])), (a1, .inl (T 0, 16, .inl f)), (a2, .inl (T 0, 16, .inl g))]) s.heap.size = A at hD hZ ⊢
  have hA : ∀ q : Nat, s.heap.size ≤ q → A q := fun q h => by rw [← hAe]; exact Or.inr h
  have hS : va_S A s.heap s.heap [] := va_S.rf
  have hP : va_P G vwCl ([(a0, .inr (1, [.ref a1, .ref a2])), (a1, .inl (T 0, 16, .inl f)), (a2, .inl (T 0, 16, .inl g))]) s.heap := hP
  have hiX1 : ∀ w ∈ u_ws RX1 TX1 2, w ∈ wsX1_putInOrder := by decide +kernel
  have hl := lv_entry ([.ref a0]) (n := 2) (Nat.le_of_ble_eq_true rfl)
  rw [lg_entry_eq]
  generalize (lg_sl ([.ref a0]) ++ List.replicate (2 - (lg_sl ([.ref a0])).length) Slot.unset).toArray = ls at hl ⊢
  have hl : lv_has ls 2 [(0, .ref a0)] := hl
  refine lv_iconst (v := nI 0) hx hb dX1_putInOrder_0 (by decide) ?_
  refine lv_istore_n (lv' := [(1, .int (nI 0)), (0, .ref a0)]) hx hb dX1_putInOrder_1 rfl hl (by decide) rfl (fun ls hl => ?_)
  suffices LP : ∀ (n : Nat) (i : Nat) (f : Nat → Int32), (i ≤ 16) → (16 < i + n) → (∀ j, j < i → f j = nI j) → ∀ (H : Heap) (locs : List Loc), va_P G vwCl ([(a0, .inr (1, [.ref a1, .ref a2])), (a1, .inl (T 0, 16, .inl f)), (a2, .inl (T 0, 16, .inl g))]) H → va_D A ([(a0, .inr (1, [.ref a1, .ref a2])), (a1, .inl (T 0, 16, .inl f)), (a2, .inl (T 0, 16, .inl g))]) → va_S A s.heap H locs → ∀ (ls : Array Slot), lv_has ls 2 [(1, .int (nI i)), (0, .ref a0)] → W p l e (headSpec wsX1_putInOrder ({ frames := 0, cells := 0, slots := 0, locals := 0 })).room s m ([.ref a0] : List Value).toArray below meth c H locs 0 0 (MQ below (va_Qv (fun (u : Unit) => True) (fun u t => va_P G vwCl ([(a0, .inr (1, [.ref a1, .ref a2])), (a1, .inl (T 0, 16, .inl (fun j => nI j))), (a2, .inl (T 0, 16, .inl g))]) t.heap) A) ([.ref a0] : List Value).toArray s 0 0 A) (F0 m 2 ls []) from LP 17 0 f (by decide) (by decide) (fun j hj => absurd hj (Nat.not_lt_zero j)) _ _ hP hD hS ls (lv_sub hl [0, 1] rfl)
  clear hP hD hS hl
  intro n
  induction n with
  | zero => intro i f hi hn hf H locs _ _ _ ls _; exfalso; omega
  | succ n ih =>
    intro i f hi hn hf H locs hP hD hS ls hl
    refine lv_iload_n hx hb dX1_putInOrder_2 rfl (lv_at hl 0 rfl) ?_
    refine lv_bipush (v := nI 16) hx hb dX1_putInOrder_3 (by decide) ?_
    by_cases hc : i < 16
    · refine lv_icmp_ge (tgt := 21) hx hb dX1_putInOrder_5 (by decide) (fun c_ => absurd c_ (nI_ge hc (by decide))) (fun _ => ?_)
      refine lv_aload_n hx hb dX1_putInOrder_8 rfl (lv_at hl 1 rfl) ?_
      refine va_get (D := G) (ci := 1) (v := .ref a1) (C := RX1) (T := TX1) (N := 2) hx hb hts hiX1 hown hK hP 0 rfl rfl 0 (by decide) (hts (.fieldLink RX1 9 "CardFans$Row" "numbers" "[I") (by decide +kernel)) (fun _ h9 => h9) rfl dX1_putInOrder_9 ?_
      refine lv_iload_n hx hb dX1_putInOrder_12 rfl (lv_at hl 0 rfl) ?_
      refine lv_iload_n hx hb dX1_putInOrder_13 rfl (lv_at hl 0 rfl) ?_
      refine x_iast hx hb hK hP hD hS 1 0 (f := f) (n := 16) rfl rfl hc (by decide) dX1_putInOrder_14 (fun H locs hP hD hS => ?_)
      have hP : va_P G vwCl ([(a0, .inr (1, [.ref a1, .ref a2])), (a1, .inl (T 0, 16, .inl (upd f i (nI i)))), (a2, .inl (T 0, 16, .inl g))]) H := hP
      have hD : va_D A ([(a0, .inr (1, [.ref a1, .ref a2])), (a1, .inl (T 0, 16, .inl (upd f i (nI i)))), (a2, .inl (T 0, 16, .inl g))]) := hD
      refine lv_iinc (v := nI (i + 1)) (lv' := [(1, .int (nI (i + 1))), (0, .ref a0)]) hx hb dX1_putInOrder_15 hl (k := 0) rfl (x_inc _) (by decide) rfl (fun ls hl => ?_)
      refine lv_goto (tgt := 2) hx hb dX1_putInOrder_18 (by decide) ?_
      exact ih (i + 1) _ (by omega) (by omega) (xlt_s (fun a ha => by rw [pk_un (by omega)]; exact hf a ha) (by rw [pk_us])) _ _ hP hD hS ls (lv_sub hl [0, 1] rfl)
    · refine lv_icmp_ge (tgt := 21) hx hb dX1_putInOrder_5 (by decide) (fun _ => ?_) (fun c_ => absurd (nI_le (by omega) (by omega)) c_)
      have hP := x_can hP 1 (g := (fun j => nI j)) rfl (fun j hj => hf j (by omega))
      have hD := xd_set hD 1 (e := .inl (T 0, 16, .inl (fun j => nI j))) rfl
      have hP : va_P G vwCl ([(a0, .inr (1, [.ref a1, .ref a2])), (a1, .inl (T 0, 16, .inl (fun j => nI j))), (a2, .inl (T 0, 16, .inl g))]) H := hP
      have hD : va_D A ([(a0, .inr (1, [.ref a1, .ref a2])), (a1, .inl (T 0, 16, .inl (fun j => nI j))), (a2, .inl (T 0, 16, .inl g))]) := hD
      exact W.vret hx hb hr (fun t ht hW => ⟨⟨(), rfl, trivial, x_at ht hP⟩, hS.F ht⟩) hS.2.2 dX1_putInOrder_21

set_option maxHeartbeats 4000000 in
set_option maxRecDepth 100000 in
/-- Row.firstPlaceOf -/
theorem c_X1_firstPlaceOf (l : Launch) (G : va_G) (T : Nat → ClassId) (sz : Nat) (a0 a1 a2 : Nat) (f g : Nat → Int32) (x : Int32) : Met l yX1_firstPlaceOf wsX1_firstPlaceOf ({ frames := 0, cells := 0, slots := 0, locals := 0 }) (va_Pc [.ref a0, .int x] (xPre G T ([(a0, .inr (1, [.ref a1, .ref a2])), (a1, .inl (T 0, 16, .inl f)), (a2, .inl (T 0, 16, .inl g))]) sz)) (va_Qi (fun (r : Int32) (u : Unit) => r = xfp f x) (fun u t => va_P G vwCl ([(a0, .inr (1, [.ref a1, .ref a2])), (a1, .inl (T 0, 16, .inl f)), (a2, .inl (T 0, 16, .inl g))]) t.heap) (va_A ([(a0, .inr (1, [.ref a1, .ref a2])), (a1, .inl (T 0, 16, .inl f)), (a2, .inl (T 0, 16, .inl g))]) sz)) 0 0 (va_A ([(a0, .inr (1, [.ref a1, .ref a2])), (a1, .inl (T 0, 16, .inl f)), (a2, .inl (T 0, 16, .inl g))]) sz) := by
  refine Met.ofW (cc := cX1_firstPlaceOf) (maxL := 3) (ret := (some .int)) (by decide +kernel) rfl ?_
  intro p e s m args below meth c s₁ B hml hv
  obtain ⟨rfl, hsz, hP, hK, hD0, hXB, hZ⟩ := hv
  have hx := B.exec
  have hb := B.bytes
  have hr := B.returns
  have hts := atoms_spec (ws := wsX1_firstPlaceOf) B.pre
  have hown : s.vm.findClass RX1 = some m.cls := findClass_of_methodNamed B.named
  have hlocks := B.notSynchronized
  subst hsz
  have hD := hD0.self (sz := s.heap.size)
  generalize hAe : va_A ([(a0, .inr (1, [.ref a1, .ref a2])), (a1, .inl (T 0, 16, .inl f)), (a2, .inl (T 0, 16, .inl g))]) s.heap.size = A at hD hZ ⊢
  have hA : ∀ q : Nat, s.heap.size ≤ q → A q := fun q h => by rw [← hAe]; exact Or.inr h
  have hS : va_S A s.heap s.heap [] := va_S.rf
  have hP : va_P G vwCl ([(a0, .inr (1, [.ref a1, .ref a2])), (a1, .inl (T 0, 16, .inl f)), (a2, .inl (T 0, 16, .inl g))]) s.heap := hP
  have hiX1 : ∀ w ∈ u_ws RX1 TX1 2, w ∈ wsX1_firstPlaceOf := by decide +kernel
  have hl := lv_entry ([.ref a0, .int x]) (n := 3) (Nat.le_of_ble_eq_true rfl)
  rw [lg_entry_eq]
  generalize (lg_sl ([.ref a0, .int x]) ++ List.replicate (3 - (lg_sl ([.ref a0, .int x])).length) Slot.unset).toArray = ls at hl ⊢
  have hl : lv_has ls 3 [(0, .ref a0), (1, .int x)] := hl
  refine lv_iconst (v := nI 0) hx hb dX1_firstPlaceOf_0 (by decide) ?_
  refine lv_istore_n (lv' := [(2, .int (nI 0)), (0, .ref a0), (1, .int x)]) hx hb dX1_firstPlaceOf_1 rfl hl (by decide) rfl (fun ls hl => ?_)
  suffices LP : ∀ (n : Nat) (i : Nat), (i ≤ 16) → (16 < i + n) → (∀ j, j < i → ¬ f j = x) → ∀ (H : Heap) (locs : List Loc), va_P G vwCl ([(a0, .inr (1, [.ref a1, .ref a2])), (a1, .inl (T 0, 16, .inl f)), (a2, .inl (T 0, 16, .inl g))]) H → va_D A ([(a0, .inr (1, [.ref a1, .ref a2])), (a1, .inl (T 0, 16, .inl f)), (a2, .inl (T 0, 16, .inl g))]) → va_S A s.heap H locs → ∀ (ls : Array Slot), lv_has ls 3 [(2, .int (nI i)), (0, .ref a0), (1, .int x)] → W p l e (headSpec wsX1_firstPlaceOf ({ frames := 0, cells := 0, slots := 0, locals := 0 })).room s m ([.ref a0, .int x] : List Value).toArray below meth c H locs 0 0 (MQ below (va_Qi (fun (r : Int32) (u : Unit) => r = xfp f x) (fun u t => va_P G vwCl ([(a0, .inr (1, [.ref a1, .ref a2])), (a1, .inl (T 0, 16, .inl f)), (a2, .inl (T 0, 16, .inl g))]) t.heap) A) ([.ref a0, .int x] : List Value).toArray s 0 0 A) (F0 m 2 ls []) from LP 17 0 (by decide) (by decide) (fun j hj => absurd hj (Nat.not_lt_zero j)) _ _ hP hD hS ls (lv_sub hl [0, 1, 2] rfl)
  clear hP hD hS hl
  intro n
  induction n with
  | zero => intro i hi hn hf H locs _ _ _ ls _; exfalso; omega
  | succ n ih =>
    intro i hi hn hf H locs hP hD hS ls hl
    refine lv_iload_n hx hb dX1_firstPlaceOf_2 rfl (lv_at hl 0 rfl) ?_
    refine lv_bipush (v := nI 16) hx hb dX1_firstPlaceOf_3 (by decide) ?_
    by_cases hc : i < 16
    · refine lv_icmp_ge (tgt := 26) hx hb dX1_firstPlaceOf_5 (by decide) (fun c_ => absurd c_ (nI_ge hc (by decide))) (fun _ => ?_)
      refine lv_aload_n hx hb dX1_firstPlaceOf_8 rfl (lv_at hl 1 rfl) ?_
      refine va_get (D := G) (ci := 1) (v := .ref a1) (C := RX1) (T := TX1) (N := 2) hx hb hts hiX1 hown hK hP 0 rfl rfl 0 (by decide) (hts (.fieldLink RX1 9 "CardFans$Row" "numbers" "[I") (by decide +kernel)) (fun _ h9 => h9) rfl dX1_firstPlaceOf_9 ?_
      refine lv_iload_n hx hb dX1_firstPlaceOf_12 rfl (lv_at hl 0 rfl) ?_
      refine x_iald hx hb hK hP 1 0 (f := f) (n := 16) rfl rfl hc (by decide) dX1_firstPlaceOf_13 ?_
      refine lv_iload_n hx hb dX1_firstPlaceOf_14 rfl (lv_at hl 2 rfl) ?_
      refine lv_icmp_ne (tgt := 20) hx hb dX1_firstPlaceOf_15 (by decide) (fun c1 => ?_) (fun c1 => ?_)
      · refine lv_iinc (v := nI (i + 1)) (lv' := [(2, .int (nI (i + 1))), (0, .ref a0), (1, .int x)]) hx hb dX1_firstPlaceOf_20 hl (k := 0) rfl (x_inc _) (by decide) rfl (fun ls hl => ?_)
        refine lv_goto (tgt := 2) hx hb dX1_firstPlaceOf_23 (by decide) ?_
        exact ih (i + 1) (by omega) (by omega) (xlt_s hf c1) _ _ hP hD hS ls (lv_sub hl [0, 1, 2] rfl)
      · refine lv_iload_n hx hb dX1_firstPlaceOf_18 rfl (lv_at hl 0 rfl) ?_
        exact W.iret (v := nI i) hx hb hr (fun t ht hW => ⟨⟨nI i, (), rfl, (xfp_some hc c1 hf).symm, x_at ht hP⟩, hS.F ht⟩) hS.2.2 dX1_firstPlaceOf_19
    · refine lv_icmp_ge (tgt := 26) hx hb dX1_firstPlaceOf_5 (by decide) (fun _ => ?_) (fun c_ => absurd (nI_le (by omega) (by omega)) c_)
      refine lv_iconst (v := (-1)) hx hb dX1_firstPlaceOf_26 (by decide) ?_
      exact W.iret (v := (-1)) hx hb hr (fun t ht hW => ⟨⟨(-1), (), rfl, (xfp_none (fun j hj => hf j (by omega))).symm, x_at ht hP⟩, hS.F ht⟩) hS.2.2 dX1_firstPlaceOf_27

set_option maxHeartbeats 4000000 in
set_option maxRecDepth 100000 in
/-- Row.placesInOrder -/
theorem c_X1_placesInOrder (l : Launch) (G : va_G) (T : Nat → ClassId) (sz : Nat) (a0 a1 a2 : Nat) (f g : Nat → Int32) : Met l yX1_placesInOrder wsX1_placesInOrder ({ frames := 0, cells := 0, slots := 0, locals := 0 }) (va_Pc [.ref a0] (xPre G T ([(a0, .inr (1, [.ref a1, .ref a2])), (a1, .inl (T 0, 16, .inl f)), (a2, .inl (T 0, 16, .inl g))]) sz)) (va_Qi (fun (r : Int32) (u : Unit) => r = nI (xct (fun j => decide (f j = nI j)) 16)) (fun u t => va_P G vwCl ([(a0, .inr (1, [.ref a1, .ref a2])), (a1, .inl (T 0, 16, .inl f)), (a2, .inl (T 0, 16, .inl g))]) t.heap) (va_A ([(a0, .inr (1, [.ref a1, .ref a2])), (a1, .inl (T 0, 16, .inl f)), (a2, .inl (T 0, 16, .inl g))]) sz)) 0 0 (va_A ([(a0, .inr (1, [.ref a1, .ref a2])), (a1, .inl (T 0, 16, .inl f)), (a2, .inl (T 0, 16, .inl g))]) sz) := by
  refine Met.ofW (cc := cX1_placesInOrder) (maxL := 3) (ret := (some .int)) (by decide +kernel) rfl ?_
  intro p e s m args below meth c s₁ B hml hv
  obtain ⟨rfl, hsz, hP, hK, hD0, hXB, hZ⟩ := hv
  have hx := B.exec
  have hb := B.bytes
  have hr := B.returns
  have hts := atoms_spec (ws := wsX1_placesInOrder) B.pre
  have hown : s.vm.findClass RX1 = some m.cls := findClass_of_methodNamed B.named
  have hlocks := B.notSynchronized
  subst hsz
  have hD := hD0.self (sz := s.heap.size)
  generalize hAe : va_A ([(a0, .inr (1, [.ref a1, .ref a2])), (a1, .inl (T 0, 16, .inl f)), (a2, .inl (T 0, 16, .inl g))]) s.heap.size = A at hD hZ ⊢
  have hA : ∀ q : Nat, s.heap.size ≤ q → A q := fun q h => by rw [← hAe]; exact Or.inr h
  have hS : va_S A s.heap s.heap [] := va_S.rf
  have hP : va_P G vwCl ([(a0, .inr (1, [.ref a1, .ref a2])), (a1, .inl (T 0, 16, .inl f)), (a2, .inl (T 0, 16, .inl g))]) s.heap := hP
  have hiX1 : ∀ w ∈ u_ws RX1 TX1 2, w ∈ wsX1_placesInOrder := by decide +kernel
  have hl := lv_entry ([.ref a0]) (n := 3) (Nat.le_of_ble_eq_true rfl)
  rw [lg_entry_eq]
  generalize (lg_sl ([.ref a0]) ++ List.replicate (3 - (lg_sl ([.ref a0])).length) Slot.unset).toArray = ls at hl ⊢
  have hl : lv_has ls 3 [(0, .ref a0)] := hl
  refine lv_iconst (v := nI 0) hx hb dX1_placesInOrder_0 (by decide) ?_
  refine lv_istore_n (lv' := [(1, .int (nI 0)), (0, .ref a0)]) hx hb dX1_placesInOrder_1 rfl hl (by decide) rfl (fun ls hl => ?_)
  refine lv_iconst (v := nI 0) hx hb dX1_placesInOrder_2 (by decide) ?_
  refine lv_istore_n (lv' := [(2, .int (nI 0)), (1, .int (nI 0)), (0, .ref a0)]) hx hb dX1_placesInOrder_3 rfl hl (by decide) rfl (fun ls hl => ?_)
  suffices LP : ∀ (n : Nat) (i : Nat), (i ≤ 16) → (16 < i + n) → ∀ (H : Heap) (locs : List Loc), va_P G vwCl ([(a0, .inr (1, [.ref a1, .ref a2])), (a1, .inl (T 0, 16, .inl f)), (a2, .inl (T 0, 16, .inl g))]) H → va_D A ([(a0, .inr (1, [.ref a1, .ref a2])), (a1, .inl (T 0, 16, .inl f)), (a2, .inl (T 0, 16, .inl g))]) → va_S A s.heap H locs → ∀ (ls : Array Slot), lv_has ls 3 [(1, .int (nI (xct (fun j => decide (f j = nI j)) i))), (2, .int (nI i)), (0, .ref a0)] → W p l e (headSpec wsX1_placesInOrder ({ frames := 0, cells := 0, slots := 0, locals := 0 })).room s m ([.ref a0] : List Value).toArray below meth c H locs 0 0 (MQ below (va_Qi (fun (r : Int32) (u : Unit) => r = nI (xct (fun j => decide (f j = nI j)) 16)) (fun u t => va_P G vwCl ([(a0, .inr (1, [.ref a1, .ref a2])), (a1, .inl (T 0, 16, .inl f)), (a2, .inl (T 0, 16, .inl g))]) t.heap) A) ([.ref a0] : List Value).toArray s 0 0 A) (F0 m 4 ls []) from LP 17 0 (by decide) (by decide) _ _ hP hD hS ls (lv_sub hl [1, 0, 2] rfl)
  clear hP hD hS hl
  intro n
  induction n with
  | zero => intro i hi hn H locs _ _ _ ls _; exfalso; omega
  | succ n ih =>
    intro i hi hn H locs hP hD hS ls hl
    refine lv_iload_n hx hb dX1_placesInOrder_4 rfl (lv_at hl 1 rfl) ?_
    refine lv_bipush (v := nI 16) hx hb dX1_placesInOrder_5 (by decide) ?_
    by_cases hc : i < 16
    · refine lv_icmp_ge (tgt := 29) hx hb dX1_placesInOrder_7 (by decide) (fun c_ => absurd c_ (nI_ge hc (by decide))) (fun _ => ?_)
      refine lv_aload_n hx hb dX1_placesInOrder_10 rfl (lv_at hl 2 rfl) ?_
      refine va_get (D := G) (ci := 1) (v := .ref a1) (C := RX1) (T := TX1) (N := 2) hx hb hts hiX1 hown hK hP 0 rfl rfl 0 (by decide) (hts (.fieldLink RX1 9 "CardFans$Row" "numbers" "[I") (by decide +kernel)) (fun _ h9 => h9) rfl dX1_placesInOrder_11 ?_
      refine lv_iload_n hx hb dX1_placesInOrder_14 rfl (lv_at hl 1 rfl) ?_
      refine x_iald hx hb hK hP 1 0 (f := f) (n := 16) rfl rfl hc (by decide) dX1_placesInOrder_15 ?_
      refine lv_iload_n hx hb dX1_placesInOrder_16 rfl (lv_at hl 1 rfl) ?_
      have hd := @xct_t (fun j => decide (f j = nI j)) i
      have hd2 := @xct_f (fun j => decide (f j = nI j)) i
      refine lv_icmp_ne (tgt := 23) hx hb dX1_placesInOrder_17 (by decide) (fun c1 => ?_) (fun c1 => ?_)
      · have e1 : xct (fun j => decide (f j = nI j)) (i + 1) = xct (fun j => decide (f j = nI j)) i := hd2 (by simpa using c1)
        rw [← e1] at hl
        refine lv_iinc (v := nI (i + 1)) (lv' := [(2, .int (nI (i + 1))), (1, .int (nI (xct (fun j => decide (f j = nI j)) (i + 1)))), (0, .ref a0)]) hx hb dX1_placesInOrder_23 hl (k := 1) rfl (x_inc _) (by decide) rfl (fun ls hl => ?_)
        refine lv_goto (tgt := 4) hx hb dX1_placesInOrder_26 (by decide) ?_
        exact ih (i + 1) (by omega) (by omega) _ _ hP hD hS ls (lv_sub hl [1, 0, 2] rfl)
      · refine lv_iinc (v := nI (xct (fun j => decide (f j = nI j)) (i + 1))) (lv' := [(1, .int (nI (xct (fun j => decide (f j = nI j)) (i + 1)))), (2, .int (nI i)), (0, .ref a0)]) hx hb dX1_placesInOrder_20 hl (k := 0) rfl (by rw [hd (by simpa using c1)]; exact x_inc _) (by decide) rfl (fun ls hl => ?_)
        refine lv_iinc (v := nI (i + 1)) (lv' := [(2, .int (nI (i + 1))), (1, .int (nI (xct (fun j => decide (f j = nI j)) (i + 1)))), (0, .ref a0)]) hx hb dX1_placesInOrder_23 hl (k := 1) rfl (x_inc _) (by decide) rfl (fun ls hl => ?_)
        refine lv_goto (tgt := 4) hx hb dX1_placesInOrder_26 (by decide) ?_
        exact ih (i + 1) (by omega) (by omega) _ _ hP hD hS ls (lv_sub hl [1, 0, 2] rfl)
    · refine lv_icmp_ge (tgt := 29) hx hb dX1_placesInOrder_7 (by decide) (fun _ => ?_) (fun c_ => absurd (nI_le (by omega) (by omega)) c_)
      refine lv_iload_n hx hb dX1_placesInOrder_29 rfl (lv_at hl 0 rfl) ?_
      exact W.iret (v := nI (xct (fun j => decide (f j = nI j)) i)) hx hb hr (fun t ht hW => ⟨⟨nI (xct (fun j => decide (f j = nI j)) i), (), rfl, by rw [show i = 16 by omega], x_at ht hP⟩, hS.F ht⟩) hS.2.2 dX1_placesInOrder_30

set_option maxHeartbeats 4000000 in
set_option maxRecDepth 100000 in
/-- Row.mixedInto -/
theorem c_X1_mixedInto (l : Launch) (G : va_G) (T : Nat → ClassId) (sz : Nat) (a0 a1 a2 : Nat) (f g : Nat → Int32) (d : Int64) : Met l yX1_mixedInto wsX1_mixedInto ({ frames := 1, cells := 0, slots := 0, locals := 22 }) (va_Pc [.ref a0, .long d] (xPre G T ([(a0, .inr (1, [.ref a1, .ref a2])), (a1, .inl (T 0, 16, .inl f)), (a2, .inl (T 0, 16, .inl g))]) sz)) (va_Ql (fun (r : Int64) (u : Unit) => r = xmx f d 16) (fun u t => va_P G vwCl ([(a0, .inr (1, [.ref a1, .ref a2])), (a1, .inl (T 0, 16, .inl f)), (a2, .inl (T 0, 16, .inl g))]) t.heap) (va_A ([(a0, .inr (1, [.ref a1, .ref a2])), (a1, .inl (T 0, 16, .inl f)), (a2, .inl (T 0, 16, .inl g))]) sz)) 0 0 (va_A ([(a0, .inr (1, [.ref a1, .ref a2])), (a1, .inl (T 0, 16, .inl f)), (a2, .inl (T 0, 16, .inl g))]) sz) := by
  refine Met.ofW (cc := cX1_mixedInto) (maxL := 6) (ret := (some .long)) (by decide +kernel) rfl ?_
  intro p e s m args below meth c s₁ B hml hv
  obtain ⟨rfl, hsz, hP, hK, hD0, hXB, hZ⟩ := hv
  have hx := B.exec
  have hb := B.bytes
  have hr := B.returns
  have hts := atoms_spec (ws := wsX1_mixedInto) B.pre
  have hown : s.vm.findClass RX1 = some m.cls := findClass_of_methodNamed B.named
  have hlocks := B.notSynchronized
  subst hsz
  have hD := hD0.self (sz := s.heap.size)
  generalize hAe : va_A ([(a0, .inr (1, [.ref a1, .ref a2])), (a1, .inl (T 0, 16, .inl f)), (a2, .inl (T 0, 16, .inl g))]) s.heap.size = A at hD hZ ⊢
  have hA : ∀ q : Nat, s.heap.size ≤ q → A q := fun q h => by rw [← hAe]; exact Or.inr h
  have hS : va_S A s.heap s.heap [] := va_S.rf
  have hP : va_P G vwCl ([(a0, .inr (1, [.ref a1, .ref a2])), (a1, .inl (T 0, 16, .inl f)), (a2, .inl (T 0, 16, .inl g))]) s.heap := hP
  have hiX1 : ∀ w ∈ u_ws RX1 TX1 2, w ∈ wsX1_mixedInto := by decide +kernel
  have hl := lv_entry ([.ref a0, .long d]) (n := 6) (Nat.le_of_ble_eq_true rfl)
  rw [lg_entry_eq]
  generalize (lg_sl ([.ref a0, .long d]) ++ List.replicate (6 - (lg_sl ([.ref a0, .long d])).length) Slot.unset).toArray = ls at hl ⊢
  have hl : lv_has ls 6 [(0, .ref a0), (1, .long d)] := hl
  refine lv_lload_n hx hb dX1_mixedInto_0 rfl (lv_at hl 1 rfl) ?_
  refine lv_lstore_n (lv' := [(3, .long d), (0, .ref a0), (1, .long d)]) hx hb dX1_mixedInto_1 rfl hl (by decide) rfl (fun ls hl => ?_)
  refine lv_iconst (v := nI 0) hx hb dX1_mixedInto_2 (by decide) ?_
  refine lv_istore (lv' := [(5, .int (nI 0)), (3, .long d), (0, .ref a0), (1, .long d)]) hx hb dX1_mixedInto_3 hl (by decide) rfl (fun ls hl => ?_)
  suffices LP : ∀ (n : Nat) (i : Nat), (i ≤ 16) → (16 < i + n) → ∀ (H : Heap) (locs : List Loc), va_P G vwCl ([(a0, .inr (1, [.ref a1, .ref a2])), (a1, .inl (T 0, 16, .inl f)), (a2, .inl (T 0, 16, .inl g))]) H → va_D A ([(a0, .inr (1, [.ref a1, .ref a2])), (a1, .inl (T 0, 16, .inl f)), (a2, .inl (T 0, 16, .inl g))]) → va_S A s.heap H locs → ∀ (ls : Array Slot), lv_has ls 6 [(3, .long (xmx f d i)), (5, .int (nI i)), (0, .ref a0), (1, .long d)] → W p l e (headSpec wsX1_mixedInto ({ frames := 1, cells := 0, slots := 0, locals := 22 })).room s m ([.ref a0, .long d] : List Value).toArray below meth c H locs 0 0 (MQ below (va_Ql (fun (r : Int64) (u : Unit) => r = xmx f d 16) (fun u t => va_P G vwCl ([(a0, .inr (1, [.ref a1, .ref a2])), (a1, .inl (T 0, 16, .inl f)), (a2, .inl (T 0, 16, .inl g))]) t.heap) A) ([.ref a0, .long d] : List Value).toArray s 0 0 A) (F0 m 5 ls []) from LP 17 0 (by decide) (by decide) _ _ hP hD hS ls (lv_sub hl [1, 0, 2, 3] rfl)
  clear hP hD hS hl
  intro n
  induction n with
  | zero => intro i hi hn H locs _ _ _ ls _; exfalso; omega
  | succ n ih =>
    intro i hi hn H locs hP hD hS ls hl
    refine lv_iload hx hb dX1_mixedInto_5 (lv_at hl 1 rfl) ?_
    refine lv_bipush (v := nI 16) hx hb dX1_mixedInto_7 (by decide) ?_
    by_cases hc : i < 16
    · refine lv_icmp_ge (tgt := 30) hx hb dX1_mixedInto_9 (by decide) (fun c_ => absurd c_ (nI_ge hc (by decide))) (fun _ => ?_)
      refine lv_lload_n hx hb dX1_mixedInto_12 rfl (lv_at hl 0 rfl) ?_
      refine lv_aload_n hx hb dX1_mixedInto_13 rfl (lv_at hl 2 rfl) ?_
      refine va_get (D := G) (ci := 1) (v := .ref a1) (C := RX1) (T := TX1) (N := 2) hx hb hts hiX1 hown hK hP 0 rfl rfl 0 (by decide) (hts (.fieldLink RX1 9 "CardFans$Row" "numbers" "[I") (by decide +kernel)) (fun _ h9 => h9) rfl dX1_mixedInto_14 ?_
      refine lv_iload hx hb dX1_mixedInto_17 (lv_at hl 1 rfl) ?_
      refine x_iald hx hb hK hP 1 0 (f := f) (n := 16) rfl rfl hc (by decide) dX1_mixedInto_19 ?_
      refine x_calll (va_runSN (As := [.long (xmx f d i), .int (f i)]) (rest := []) ⟨hx, hb, hml, hown, hts⟩ (c_X3_mixed l G T _ (xmx f d i) (f i)) (⟨va_cnB 2 hts gX1_mixedInto_X3_mixed_n26 rfl rfl rfl (hXB.1 (.methodLinkNest RX1 26 yX3_mixed "CardFans") (by decide +kernel)) (hts (.initialized RX3) (by decide +kernel)) (by decide +kernel) ⟨Nat.le_of_ble_eq_true rfl, Nat.le_of_ble_eq_true rfl⟩, hts (.static yX3_mixed) (by decide +kernel), trivial⟩) (x_preS (wc := []) hK hP hD hS hA hXB hZ [] rfl rfl _) rfl rfl hl.1 rfl (lv_room (Nat.le_of_ble_eq_true rfl)) dX1_mixedInto_20 ⟨Nat.le_of_ble_eq_true rfl, Nat.le_of_ble_eq_true rfl⟩) hP hD hS hA [] rfl (fun _ _ _ => rfl) (fun r1 u H locs hw1 hP hD hS => ?_)
      have hP : va_P G vwCl ([(a0, .inr (1, [.ref a1, .ref a2])), (a1, .inl (T 0, 16, .inl f)), (a2, .inl (T 0, 16, .inl g))]) H := hP
      have hD : va_D A ([(a0, .inr (1, [.ref a1, .ref a2])), (a1, .inl (T 0, 16, .inl f)), (a2, .inl (T 0, 16, .inl g))]) := hD
      refine x_topl (y := xmx f d (i + 1)) (hw1) ?_
      refine lv_lstore_n (lv' := [(3, .long (xmx f d (i + 1))), (5, .int (nI i)), (0, .ref a0), (1, .long d)]) hx hb dX1_mixedInto_23 rfl hl (by decide) rfl (fun ls hl => ?_)
      refine lv_iinc (v := nI (i + 1)) (lv' := [(5, .int (nI (i + 1))), (3, .long (xmx f d (i + 1))), (0, .ref a0), (1, .long d)]) hx hb dX1_mixedInto_24 hl (k := 1) rfl (x_inc _) (by decide) rfl (fun ls hl => ?_)
      refine lv_goto (tgt := 5) hx hb dX1_mixedInto_27 (by decide) ?_
      exact ih (i + 1) (by omega) (by omega) _ _ hP hD hS ls (lv_sub hl [1, 0, 2, 3] rfl)
    · refine lv_icmp_ge (tgt := 30) hx hb dX1_mixedInto_9 (by decide) (fun _ => ?_) (fun c_ => absurd (nI_le (by omega) (by omega)) c_)
      refine lv_lload_n hx hb dX1_mixedInto_30 rfl (lv_at hl 0 rfl) ?_
      exact W.lret (v := xmx f d i) hx hb hr (fun t ht hW => ⟨⟨xmx f d i, (), rfl, by rw [show i = 16 by omega], x_at ht hP⟩, hS.F ht⟩) hS.2.2 dX1_mixedInto_31

set_option maxHeartbeats 4000000 in
set_option maxRecDepth 100000 in
/-- Row.carry -/
theorem c_X1_carry (l : Launch) (G : va_G) (T : Nat → ClassId) (sz : Nat) (a0 a1 a2 : Nat) (f g : Nat → Int32) (k n : Nat) (hw : xwn k n = true) : Met l yX1_carry wsX1_carry ({ frames := 2, cells := 0, slots := 0, locals := 45 }) (va_Pc [.ref a0, .int (nI k), .int (nI n)] (xPre G T ([(a0, .inr (1, [.ref a1, .ref a2])), (a1, .inl (T 0, 16, .inl f)), (a2, .inl (T 0, 16, .inl g))]) sz)) (va_Qv (fun (u : Nat → Int32) => True) (fun u t => va_P G vwCl ([(a0, .inr (1, [.ref a1, .ref a2])), (a1, .inl (T 0, 16, .inl (fun j => f (xpb k n j)))), (a2, .inl (T 0, 16, .inl u))]) t.heap) (va_A ([(a0, .inr (1, [.ref a1, .ref a2])), (a1, .inl (T 0, 16, .inl f)), (a2, .inl (T 0, 16, .inl g))]) sz)) 0 0 (va_A ([(a0, .inr (1, [.ref a1, .ref a2])), (a1, .inl (T 0, 16, .inl f)), (a2, .inl (T 0, 16, .inl g))]) sz) := by
  refine Met.ofW (cc := cX1_carry) (maxL := 5) (ret := none) (by decide +kernel) rfl ?_
  intro p e s m args below meth c s₁ B hml hv
  obtain ⟨rfl, hsz, hP, hK, hD0, hXB, hZ⟩ := hv
  have hx := B.exec
  have hb := B.bytes
  have hr := B.returns
  have hts := atoms_spec (ws := wsX1_carry) B.pre
  have hown : s.vm.findClass RX1 = some m.cls := findClass_of_methodNamed B.named
  have hlocks := B.notSynchronized
  subst hsz
  have hD := hD0.self (sz := s.heap.size)
  generalize hAe : va_A ([(a0, .inr (1, [.ref a1, .ref a2])), (a1, .inl (T 0, 16, .inl f)), (a2, .inl (T 0, 16, .inl g))]) s.heap.size = A at hD hZ ⊢
  have hA : ∀ q : Nat, s.heap.size ≤ q → A q := fun q h => by rw [← hAe]; exact Or.inr h
  have hS : va_S A s.heap s.heap [] := va_S.rf
  have hP : va_P G vwCl ([(a0, .inr (1, [.ref a1, .ref a2])), (a1, .inl (T 0, 16, .inl f)), (a2, .inl (T 0, 16, .inl g))]) s.heap := hP
  have hiX1 : ∀ w ∈ u_ws RX1 TX1 2, w ∈ wsX1_carry := by decide +kernel
  have hl := lv_entry ([.ref a0, .int (nI k), .int (nI n)]) (n := 5) (Nat.le_of_ble_eq_true rfl)
  rw [lg_entry_eq]
  generalize (lg_sl ([.ref a0, .int (nI k), .int (nI n)]) ++ List.replicate (5 - (lg_sl ([.ref a0, .int (nI k), .int (nI n)])).length) Slot.unset).toArray = ls at hl ⊢
  have hl : lv_has ls 5 [(0, .ref a0), (1, .int (nI k)), (2, .int (nI n))] := hl
  refine lv_iconst (v := nI 0) hx hb dX1_carry_0 (by decide) ?_
  refine lv_istore_n (lv' := [(3, .int (nI 0)), (0, .ref a0), (1, .int (nI k)), (2, .int (nI n))]) hx hb dX1_carry_1 rfl hl (by decide) rfl (fun ls hl => ?_)
  suffices LP1 : ∀ (n1 : Nat) (i : Nat) (g : Nat → Int32), (i ≤ 16) → (16 < i + n1) → (∀ j, j < 16 → xpb k n j < i → g j = f (xpb k n j)) → ∀ (H : Heap) (locs : List Loc), va_P G vwCl ([(a0, .inr (1, [.ref a1, .ref a2])), (a1, .inl (T 0, 16, .inl f)), (a2, .inl (T 0, 16, .inl g))]) H → va_D A ([(a0, .inr (1, [.ref a1, .ref a2])), (a1, .inl (T 0, 16, .inl f)), (a2, .inl (T 0, 16, .inl g))]) → va_S A s.heap H locs → ∀ (ls : Array Slot), lv_has ls 5 [(3, .int (nI i)), (0, .ref a0), (1, .int (nI k)), (2, .int (nI n))] → W p l e (headSpec wsX1_carry ({ frames := 2, cells := 0, slots := 0, locals := 45 })).room s m ([.ref a0, .int (nI k), .int (nI n)] : List Value).toArray below meth c H locs 0 0 (MQ below (va_Qv (fun (u : Nat → Int32) => True) (fun u t => va_P G vwCl ([(a0, .inr (1, [.ref a1, .ref a2])), (a1, .inl (T 0, 16, .inl (fun j => f (xpb k n j)))), (a2, .inl (T 0, 16, .inl u))]) t.heap) A) ([.ref a0, .int (nI k), .int (nI n)] : List Value).toArray s 0 0 A) (F0 m 2 ls []) from LP1 17 0 g (by decide) (by decide) (fun j hj h => absurd h (Nat.not_lt_zero _)) _ _ hP hD hS ls (lv_sub hl [0, 1, 2, 3] rfl)
  clear hP hD hS hl
  intro n1
  induction n1 with
  | zero => intro i g hi hn hf H locs _ _ _ ls _; exfalso; omega
  | succ n1 ih1 =>
    intro i g hi hn hf H locs hP hD hS ls hl
    refine lv_iload_n hx hb dX1_carry_2 rfl (lv_at hl 0 rfl) ?_
    refine lv_bipush (v := nI 16) hx hb dX1_carry_3 (by decide) ?_
    by_cases hc : i < 16
    · refine lv_icmp_ge (tgt := 43) hx hb dX1_carry_5 (by decide) (fun c_ => absurd c_ (nI_ge hc (by decide))) (fun _ => ?_)
      refine lv_iload_n hx hb dX1_carry_8 rfl (lv_at hl 2 rfl) ?_
      refine lv_iload_n hx hb dX1_carry_9 rfl (lv_at hl 3 rfl) ?_
      refine lv_iload_n hx hb dX1_carry_10 rfl (lv_at hl 0 rfl) ?_
      refine x_calli (va_runSN (As := [.int (nI k), .int (nI n), .int (nI i)]) (rest := []) ⟨hx, hb, hml, hown, hts⟩ (c_X3_placeAfter l G T _ k n i hw hc) (⟨va_cnB 3 hts gX1_carry_X3_placeAfter_n22 rfl rfl rfl (hXB.1 (.methodLinkNest RX1 22 yX3_placeAfter "CardFans") (by decide +kernel)) (hts (.initialized RX3) (by decide +kernel)) (by decide +kernel) ⟨Nat.le_of_ble_eq_true rfl, Nat.le_of_ble_eq_true rfl⟩, hts (.static yX3_placeAfter) (by decide +kernel), trivial⟩) (x_preS (wc := []) hK hP hD hS hA hXB hZ [] rfl rfl _) rfl rfl hl.1 rfl (lv_room (Nat.le_of_ble_eq_true rfl)) dX1_carry_11 ⟨Nat.le_of_ble_eq_true rfl, Nat.le_of_ble_eq_true rfl⟩) hP hD hS hA [] rfl (fun _ _ _ => rfl) (fun r1 u H locs hw1 hP hD hS => ?_)
      have hP : va_P G vwCl ([(a0, .inr (1, [.ref a1, .ref a2])), (a1, .inl (T 0, 16, .inl f)), (a2, .inl (T 0, 16, .inl g))]) H := hP
      have hD : va_D A ([(a0, .inr (1, [.ref a1, .ref a2])), (a1, .inl (T 0, 16, .inl f)), (a2, .inl (T 0, 16, .inl g))]) := hD
      refine x_topi (y := nI (xpa k n i)) (hw1) ?_
      refine lv_istore (lv' := [(4, .int (nI (xpa k n i))), (3, .int (nI i)), (0, .ref a0), (1, .int (nI k)), (2, .int (nI n))]) hx hb dX1_carry_14 hl (by decide) rfl (fun ls hl => ?_)
      refine lv_iload hx hb dX1_carry_16 (lv_at hl 0 rfl) ?_
      refine x_calli (va_runSN (As := [.int (nI (xpa k n i))]) (rest := []) ⟨hx, hb, hml, hown, hts⟩ (c_X3_isSixteenth l G T _ (nI (xpa k n i))) (⟨va_cnB 1 hts gX1_carry_X3_isSixteenth_n18 rfl rfl rfl (hXB.1 (.methodLinkNest RX1 18 yX3_isSixteenth "CardFans") (by decide +kernel)) (hts (.initialized RX3) (by decide +kernel)) (by decide +kernel) ⟨Nat.le_of_ble_eq_true rfl, Nat.le_of_ble_eq_true rfl⟩, hts (.static yX3_isSixteenth) (by decide +kernel), trivial⟩) (x_preS (wc := []) hK hP hD hS hA hXB hZ [] rfl rfl _) rfl rfl hl.1 rfl (lv_room (Nat.le_of_ble_eq_true rfl)) dX1_carry_18 ⟨Nat.le_of_ble_eq_true rfl, Nat.le_of_ble_eq_true rfl⟩) hP hD hS hA [] rfl (fun _ _ _ => rfl) (fun r2 u2 H locs hw2 hP hD hS => ?_)
      have hP : va_P G vwCl ([(a0, .inr (1, [.ref a1, .ref a2])), (a1, .inl (T 0, 16, .inl f)), (a2, .inl (T 0, 16, .inl g))]) H := hP
      have hD : va_D A ([(a0, .inr (1, [.ref a1, .ref a2])), (a1, .inl (T 0, 16, .inl f)), (a2, .inl (T 0, 16, .inl g))]) := hD
      obtain ⟨q1, q2, q3, q4⟩ := xway hw hc
      refine lv_if_eq (tgt := 37) hx hb dX1_carry_21 (by decide) (fun c_ => absurd c_ (xb_ne hw2 (xvb_k q1 (by decide)))) (fun _ => ?_)
      refine lv_aload_n hx hb dX1_carry_24 rfl (lv_at hl 2 rfl) ?_
      refine va_get (D := G) (ci := 1) (v := .ref a2) (C := RX1) (T := TX1) (N := 2) hx hb hts hiX1 hown hK hP 0 rfl rfl 1 (by decide) (hts (.fieldLink RX1 15 "CardFans$Row" "carried" "[I") (by decide +kernel)) (fun _ h9 => h9) rfl dX1_carry_25 ?_
      refine lv_iload hx hb dX1_carry_28 (lv_at hl 0 rfl) ?_
      refine lv_aload_n hx hb dX1_carry_30 rfl (lv_at hl 2 rfl) ?_
      refine va_get (D := G) (ci := 1) (v := .ref a1) (C := RX1) (T := TX1) (N := 2) hx hb hts hiX1 hown hK hP 0 rfl rfl 0 (by decide) (hts (.fieldLink RX1 9 "CardFans$Row" "numbers" "[I") (by decide +kernel)) (fun _ h9 => h9) rfl dX1_carry_31 ?_
      refine lv_iload_n hx hb dX1_carry_34 rfl (lv_at hl 1 rfl) ?_
      refine x_iald hx hb hK hP 1 0 (f := f) (n := 16) rfl rfl hc (by decide) dX1_carry_35 ?_
      refine x_iast hx hb hK hP hD hS 2 0 (f := g) (n := 16) rfl rfl q1 (by decide) dX1_carry_36 (fun H locs hP hD hS => ?_)
      have hP : va_P G vwCl ([(a0, .inr (1, [.ref a1, .ref a2])), (a1, .inl (T 0, 16, .inl f)), (a2, .inl (T 0, 16, .inl (upd g (xpa k n i) (f i))))]) H := hP
      have hD : va_D A ([(a0, .inr (1, [.ref a1, .ref a2])), (a1, .inl (T 0, 16, .inl f)), (a2, .inl (T 0, 16, .inl (upd g (xpa k n i) (f i))))]) := hD
      refine lv_iinc (v := nI (i + 1)) (lv' := [(3, .int (nI (i + 1))), (4, .int (nI (xpa k n i))), (0, .ref a0), (1, .int (nI k)), (2, .int (nI n))]) hx hb dX1_carry_37 hl (k := 1) rfl (x_inc _) (by decide) rfl (fun ls hl => ?_)
      refine lv_goto (tgt := 2) hx hb dX1_carry_40 (by decide) ?_
      exact ih1 (i + 1) _ (by omega) (by omega) (fun j hj hij => by
          obtain ⟨p1, p2, p3, p4⟩ := xway hw hj
          rcases Nat.lt_or_ge (xpb k n j) i with q | q
          · rw [pk_un (fun z => by subst z; rw [q4] at q; omega)]
            exact hf j hj q
          · have e : xpb k n j = i := by omega
            have e2 : j = xpa k n i := by rw [← e, p3]
            rw [e2, pk_us, q4]) _ _ hP hD hS ls (lv_sub hl [0, 2, 3, 4] rfl)
    · refine lv_icmp_ge (tgt := 43) hx hb dX1_carry_5 (by decide) (fun _ => ?_) (fun c_ => absurd (nI_le (by omega) (by omega)) c_)
      refine lv_iconst (v := nI 0) hx hb dX1_carry_43 (by decide) ?_
      refine lv_istore_n (lv' := [(3, .int (nI 0)), (0, .ref a0), (1, .int (nI k)), (2, .int (nI n))]) hx hb dX1_carry_44 rfl hl (by decide) rfl (fun ls hl => ?_)
      have hg : ∀ j, j < 16 → g j = f (xpb k n j) := fun j hj => hf j hj (by have := (xway hw hj).2.1; omega)
      suffices LP2 : ∀ (n2 : Nat) (i2 : Nat) (f2 : Nat → Int32), (i2 ≤ 16) → (16 < i2 + n2) → (∀ j, j < i2 → f2 j = g j) → ∀ (H : Heap) (locs : List Loc), va_P G vwCl ([(a0, .inr (1, [.ref a1, .ref a2])), (a1, .inl (T 0, 16, .inl f2)), (a2, .inl (T 0, 16, .inl g))]) H → va_D A ([(a0, .inr (1, [.ref a1, .ref a2])), (a1, .inl (T 0, 16, .inl f2)), (a2, .inl (T 0, 16, .inl g))]) → va_S A s.heap H locs → ∀ (ls : Array Slot), lv_has ls 5 [(3, .int (nI i2)), (0, .ref a0), (1, .int (nI k)), (2, .int (nI n))] → W p l e (headSpec wsX1_carry ({ frames := 2, cells := 0, slots := 0, locals := 45 })).room s m ([.ref a0, .int (nI k), .int (nI n)] : List Value).toArray below meth c H locs 0 0 (MQ below (va_Qv (fun (u : Nat → Int32) => True) (fun u t => va_P G vwCl ([(a0, .inr (1, [.ref a1, .ref a2])), (a1, .inl (T 0, 16, .inl (fun j => f (xpb k n j)))), (a2, .inl (T 0, 16, .inl u))]) t.heap) A) ([.ref a0, .int (nI k), .int (nI n)] : List Value).toArray s 0 0 A) (F0 m 45 ls []) from LP2 17 0 f (by decide) (by decide) (fun j hj => absurd hj (Nat.not_lt_zero j)) _ _ hP hD hS ls (lv_sub hl [0, 1, 2, 3] rfl)
      clear hP hD hS hl
      intro n2
      induction n2 with
      | zero => intro i2 f2 hi2 hn2 hf2 H locs _ _ _ ls _; exfalso; omega
      | succ n2 ih2 =>
        intro i2 f2 hi2 hn2 hf2 H locs hP hD hS ls hl
        refine lv_iload_n hx hb dX1_carry_45 rfl (lv_at hl 0 rfl) ?_
        refine lv_bipush (v := nI 16) hx hb dX1_carry_46 (by decide) ?_
        by_cases hc2 : i2 < 16
        · refine lv_icmp_ge (tgt := 69) hx hb dX1_carry_48 (by decide) (fun c_ => absurd c_ (nI_ge hc2 (by decide))) (fun _ => ?_)
          refine lv_aload_n hx hb dX1_carry_51 rfl (lv_at hl 1 rfl) ?_
          refine va_get (D := G) (ci := 1) (v := .ref a1) (C := RX1) (T := TX1) (N := 2) hx hb hts hiX1 hown hK hP 0 rfl rfl 0 (by decide) (hts (.fieldLink RX1 9 "CardFans$Row" "numbers" "[I") (by decide +kernel)) (fun _ h9 => h9) rfl dX1_carry_52 ?_
          refine lv_iload_n hx hb dX1_carry_55 rfl (lv_at hl 0 rfl) ?_
          refine lv_aload_n hx hb dX1_carry_56 rfl (lv_at hl 1 rfl) ?_
          refine va_get (D := G) (ci := 1) (v := .ref a2) (C := RX1) (T := TX1) (N := 2) hx hb hts hiX1 hown hK hP 0 rfl rfl 1 (by decide) (hts (.fieldLink RX1 15 "CardFans$Row" "carried" "[I") (by decide +kernel)) (fun _ h9 => h9) rfl dX1_carry_57 ?_
          refine lv_iload_n hx hb dX1_carry_60 rfl (lv_at hl 0 rfl) ?_
          refine x_iald hx hb hK hP 2 0 (f := g) (n := 16) rfl rfl hc2 (by decide) dX1_carry_61 ?_
          refine x_iast hx hb hK hP hD hS 1 0 (f := f2) (n := 16) rfl rfl hc2 (by decide) dX1_carry_62 (fun H locs hP hD hS => ?_)
          have hP : va_P G vwCl ([(a0, .inr (1, [.ref a1, .ref a2])), (a1, .inl (T 0, 16, .inl (upd f2 i2 (g i2)))), (a2, .inl (T 0, 16, .inl g))]) H := hP
          have hD : va_D A ([(a0, .inr (1, [.ref a1, .ref a2])), (a1, .inl (T 0, 16, .inl (upd f2 i2 (g i2)))), (a2, .inl (T 0, 16, .inl g))]) := hD
          refine lv_iinc (v := nI (i2 + 1)) (lv' := [(3, .int (nI (i2 + 1))), (0, .ref a0), (1, .int (nI k)), (2, .int (nI n))]) hx hb dX1_carry_63 hl (k := 0) rfl (x_inc _) (by decide) rfl (fun ls hl => ?_)
          refine lv_goto (tgt := 45) hx hb dX1_carry_66 (by decide) ?_
          exact ih2 (i2 + 1) _ (by omega) (by omega) (xlt_s (fun a ha => by rw [pk_un (by omega)]; exact hf2 a ha) (by rw [pk_us])) _ _ hP hD hS ls (lv_sub hl [0, 1, 2, 3] rfl)
        · refine lv_icmp_ge (tgt := 69) hx hb dX1_carry_48 (by decide) (fun _ => ?_) (fun c_ => absurd (nI_le (by omega) (by omega)) c_)
          have hP := x_can hP 1 (g := (fun j => f (xpb k n j))) rfl (fun j hj => by rw [hf2 j (by omega)]; exact hg j hj)
          have hD := xd_set hD 1 (e := .inl (T 0, 16, .inl (fun j => f (xpb k n j)))) rfl
          have hP : va_P G vwCl ([(a0, .inr (1, [.ref a1, .ref a2])), (a1, .inl (T 0, 16, .inl (fun j => f (xpb k n j)))), (a2, .inl (T 0, 16, .inl g))]) H := hP
          have hD : va_D A ([(a0, .inr (1, [.ref a1, .ref a2])), (a1, .inl (T 0, 16, .inl (fun j => f (xpb k n j)))), (a2, .inl (T 0, 16, .inl g))]) := hD
          exact W.vret hx hb hr (fun t ht hW => ⟨⟨g, rfl, trivial, x_at ht hP⟩, hS.F ht⟩) hS.2.2 dX1_carry_69
end XL3
end
section
section XL4
theorem nI_ngt {a b : Nat} (h : a ≤ b) (hb : b < 2 ^ 31) : ¬ nI b < nI a := nI_nlt h hb
/-- cards struck from one other place -/
def xsk (f : Nat → Int32) (k : Nat) (v : Int32) (j : Nat) : Nat → Int32 := if j ≠ k ∧ ¬ f j &&& v = 0 then upd f j (f j &&& (v ^^^ (-1))) else f
def xse (f : Nat → Int32) (k : Nat) (v : Int32) : Nat → Nat → Int32
  | 0 => f
  | i + 1 => xsk (xse f k v i) k v i
def xsc (f : Nat → Int32) (k : Nat) (v : Int32) : Nat → Bool
  | 0 => false
  | i + 1 => xsc f k v i || decide (i ≠ k ∧ ¬ xse f k v i i &&& v = 0)
def xrp (f : Nat → Int32) : Nat → Nat → Int32
  | 0 => f
  | i + 1 => if xone (xrp f i i) then xse (xrp f i) i (xrp f i i) 16 else xrp f i
def xrc (f : Nat → Int32) : Nat → Bool
  | 0 => false
  | i + 1 => xrc f i || (xone (xrp f i i) && xsc (xrp f i) i (xrp f i i) 16)
def xz (f : Nat → Int32) : Bool := (List.range 16).any (fun j => decide (f j = 0))
def xcl : Nat → (Nat → Int32) → Bool × (Nat → Int32)
  | 0, f => (true, f)
  | n + 1, f => if xz (xrp f 16) then (false, xrp f 16) else if xrc f 16 then xcl n (xrp f 16) else (true, xrp f 16)
/-- what is thought behind a glimpse -/
theorem xcl_s (n : Nat) (f : Nat → Int32) : xcl (n + 1) f = if xz (xrp f 16) then (false, xrp f 16) else if xrc f 16 then xcl n (xrp f 16) else (true, xrp f 16) := rfl
def xgl (N : Nat) (f : Nat → Int32) (p : Nat) (v : Int32) : Nat → Int32 := if (xcl N (upd f p v)).1 then (xcl N (upd f p v)).2 else upd (fun _ => nI 65535 &&& (v ^^^ (-1))) p v
theorem xz_iff {f : Nat → Int32} : xz f = true ↔ ∃ j, j < 16 ∧ f j = 0 := by
  unfold xz
  simp [List.any_eq_true]
theorem xfp_neg {f : Nat → Int32} {r : Int32} (hr : r = xfp f (nI 0)) : r < 0 ↔ xz f = false := by
  rw [← Bool.not_eq_true, xz_iff, hr]
  rcases Classical.em (∃ j, j < 16 ∧ f j = 0) with h | h
  · refine ⟨fun h2 => absurd h2 ?_, fun h2 => absurd h h2⟩
    have h3 : ∃ i, i < 16 ∧ f i = nI 0 ∧ ∀ j, j < i → ¬ f j = nI 0 := by
      obtain ⟨j, hj, e⟩ := h
      have key : ∀ n, n ≤ 16 → (∃ j, j < n ∧ f j = 0) → ∃ i, i < 16 ∧ f i = nI 0 ∧ ∀ j, j < i → ¬ f j = nI 0 := by
        intro n
        induction n with
        | zero => rintro _ ⟨j, hj, _⟩; exact absurd hj (Nat.not_lt_zero j)
        | succ n ih =>
          intro hn hx
          by_cases h4 : ∃ j, j < n ∧ f j = 0
          · exact ih (by omega) h4
          · obtain ⟨j, hj, e⟩ := hx
            have : j = n := by
              rcases Nat.lt_or_ge j n with q | q
              · exact absurd ⟨j, q, e⟩ h4
              · omega
            subst this
            exact ⟨j, by omega, e, fun a ha e2 => h4 ⟨a, ha, e2⟩⟩
      exact key 16 (Nat.le_refl 16) ⟨j, hj, e⟩
    obtain ⟨i, hi, h4, h5⟩ := h3
    rw [xfp_some hi h4 h5]
    exact nI_pos (by omega)
  · refine ⟨fun _ => h, fun _ => ?_⟩
    rw [xfp_none (x := nI 0) (fun j hj e => h ⟨j, hj, e⟩)]
    decide
theorem xsk_t {f : Nat → Int32} {k j : Nat} {v : Int32} (h : j ≠ k) (h2 : ¬ f j &&& v = 0) : xsk f k v j = upd f j (f j &&& (v ^^^ (-1))) := if_pos ⟨h, h2⟩
theorem xsk_f {f : Nat → Int32} {k j : Nat} {v : Int32} (h : ¬ (j ≠ k ∧ ¬ f j &&& v = 0)) : xsk f k v j = f := if_neg h
def xsm (f : Nat → Int32) : Nat → Int32
  | 0 => nI 0
  | n + 1 => xsm f n + xbc (f n)

set_option maxHeartbeats 4000000 in
set_option maxRecDepth 100000 in
/-- Row() -/
theorem c_X1_init (l : Launch) (G : va_G) (T : Nat → ClassId) (sz : Nat) (a0 : Nat) : Met l yX1_init wsX1_init ({ frames := 1, cells := 2, slots := 32, locals := 12 }) (va_Pc [.ref a0] (xPre G T ([(a0, .inr (1, [.null, .null]))]) sz)) (va_Qv (fun (u : Nat × Nat) => va_D (va_A ([(a0, .inr (1, [.null, .null]))]) sz) [(a0, .inr (1, [.ref u.1, .ref u.2])), (u.1, .inl (T 0, 16, .inl (fun _ => 0))), (u.2, .inl (T 0, 16, .inl (fun _ => 0)))]) (fun u t => va_P G vwCl ([(a0, .inr (1, [.ref u.1, .ref u.2])), (u.1, .inl (T 0, 16, .inl (fun _ => 0))), (u.2, .inl (T 0, 16, .inl (fun _ => 0)))]) t.heap) (va_A ([(a0, .inr (1, [.null, .null]))]) sz)) 2 32 (va_A ([(a0, .inr (1, [.null, .null]))]) sz) := by
  refine Met.ofW (cc := cX1_init) (maxL := 1) (ret := none) (by decide +kernel) rfl ?_
  intro p e s m args below meth c s₁ B hml hv
  obtain ⟨rfl, hsz, hP, hK, hD0, hXB, hZ⟩ := hv
  have hx := B.exec
  have hb := B.bytes
  have hr := B.returns
  have hts := atoms_spec (ws := wsX1_init) B.pre
  have hown : s.vm.findClass RX1 = some m.cls := findClass_of_methodNamed B.named
  have hlocks := B.notSynchronized
  have hin0 : meth.name = "<init>" := (name_of_methodNamed B.named B.method).1
  subst hsz
  have hD := hD0.self (sz := s.heap.size)
  generalize hAe : va_A ([(a0, .inr (1, [.null, .null]))]) s.heap.size = A at hD hZ ⊢
  have hA : ∀ q : Nat, s.heap.size ≤ q → A q := fun q h => by rw [← hAe]; exact Or.inr h
  have hS : va_S A s.heap s.heap [] := va_S.rf
  have hP : va_P G vwCl ([(a0, .inr (1, [.null, .null]))]) s.heap := hP
  have hiX1 : ∀ w ∈ u_ws RX1 TX1 2, w ∈ wsX1_init := by decide +kernel
  have hl := lv_entry ([.ref a0]) (n := 1) (Nat.le_of_ble_eq_true rfl)
  rw [lg_entry_eq]
  generalize (lg_sl ([.ref a0]) ++ List.replicate (1 - (lg_sl ([.ref a0])).length) Slot.unset).toArray = ls at hl ⊢
  have hl : lv_has ls 1 [(0, .ref a0)] := hl
  refine lv_aload_n hx hb dX1_init_0 rfl (lv_at hl 0 rfl) ?_
  refine W.objInit hx hb hown (hts (.methodLink RX1 3 objectInit) (by decide +kernel)) (hts (.instanceMethod objectInit) (by decide +kernel)) (hts (.code objectInit ⟨#[0xb1]⟩ 1 none) (by decide +kernel)) rfl (by rw [hml]; exact hl.1) rfl dX1_init_1 (Nat.le_of_ble_eq_true rfl) (Nat.le_of_ble_eq_true rfl) ?_
  refine W.eq (g2 := F0 m 4 ls []) rfl ?_
  refine lv_aload_n hx hb dX1_init_4 rfl (lv_at hl 0 rfl) ?_
  refine lv_bipush (v := nI 16) hx hb dX1_init_5 (by decide) ?_
  refine x_newai (N := 16) hx hb (hts (.arrayClass .int) (by decide +kernel)) hK 0 rfl hP hD hS hA (by decide) (by decide) (Nat.le_of_ble_eq_true rfl) (Nat.le_of_ble_eq_true rfl) dX1_init_7 (fun q1 H hP hD hS => ?_)
  have hP : va_P G vwCl ([(a0, .inr (1, [.null, .null])), (q1, .inl (T 0, 16, .inl (fun _ => 0)))]) H := hP
  have hD : va_D A ([(a0, .inr (1, [.null, .null])), (q1, .inl (T 0, 16, .inl (fun _ => 0)))]) := hD
  refine va_putF (D := G) (ci := 1) (v := .ref q1) (ty := (.array .int)) (C := RX1) (T := TX1) (N := 2) hx hb hts hiX1 tyX1 tyX1_ok nmX1 hown hK hP hD hS 0 rfl rfl 0 (by decide) (hts (.fieldLink RX1 9 "CardFans$Row" "numbers" "[I") (by decide +kernel)) (fun _ h9 => h9) rfl hin0 rfl (by decide +kernel) rfl rfl (Nat.le_of_ble_eq_true rfl) dX1_init_9 (fun H locs hP hD hS => ?_)
  have hP : va_P G vwCl ([(a0, .inr (1, [.ref q1, .null])), (q1, .inl (T 0, 16, .inl (fun _ => 0)))]) H := hP
  have hD : va_D A ([(a0, .inr (1, [.ref q1, .null])), (q1, .inl (T 0, 16, .inl (fun _ => 0)))]) := hD
  refine lv_aload_n hx hb dX1_init_12 rfl (lv_at hl 0 rfl) ?_
  refine lv_bipush (v := nI 16) hx hb dX1_init_13 (by decide) ?_
  refine x_newai (N := 16) hx hb (hts (.arrayClass .int) (by decide +kernel)) hK 0 rfl hP hD hS hA (by decide) (by decide) (Nat.le_of_ble_eq_true rfl) (Nat.le_of_ble_eq_true rfl) dX1_init_15 (fun q2 H hP hD hS => ?_)
  have hP : va_P G vwCl ([(a0, .inr (1, [.ref q1, .null])), (q1, .inl (T 0, 16, .inl (fun _ => 0))), (q2, .inl (T 0, 16, .inl (fun _ => 0)))]) H := hP
  have hD : va_D A ([(a0, .inr (1, [.ref q1, .null])), (q1, .inl (T 0, 16, .inl (fun _ => 0))), (q2, .inl (T 0, 16, .inl (fun _ => 0)))]) := hD
  refine va_putF (D := G) (ci := 1) (v := .ref q2) (ty := (.array .int)) (C := RX1) (T := TX1) (N := 2) hx hb hts hiX1 tyX1 tyX1_ok nmX1 hown hK hP hD hS 0 rfl rfl 1 (by decide) (hts (.fieldLink RX1 15 "CardFans$Row" "carried" "[I") (by decide +kernel)) (fun _ h9 => h9) rfl hin0 rfl (by decide +kernel) rfl rfl (Nat.le_of_ble_eq_true rfl) dX1_init_17 (fun H locs hP hD hS => ?_)
  have hP : va_P G vwCl ([(a0, .inr (1, [.ref q1, .ref q2])), (q1, .inl (T 0, 16, .inl (fun _ => 0))), (q2, .inl (T 0, 16, .inl (fun _ => 0)))]) H := hP
  have hD : va_D A ([(a0, .inr (1, [.ref q1, .ref q2])), (q1, .inl (T 0, 16, .inl (fun _ => 0))), (q2, .inl (T 0, 16, .inl (fun _ => 0)))]) := hD
  exact W.vret hx hb hr (fun t ht hW => ⟨⟨(q1, q2), rfl, hD, x_at ht hP⟩, hS.F ht⟩) hS.2.2 dX1_init_20

set_option maxHeartbeats 4000000 in
set_option maxRecDepth 100000 in
/-- Watcher() -/
theorem c_X2_init (l : Launch) (G : va_G) (T : Nat → ClassId) (sz : Nat) (h0 : Nat) (sh : Int32) (hsh : narrow .boolean (.int sh) = .int sh) (hfit : fits .boolean (.int sh) = true) : Met l yX2_init wsX2_init ({ frames := 3, cells := 3, slots := 34, locals := 42 }) (va_Pc [.ref h0, .int sh] (xPre G T ([(h0, .inr (2, [.int 0, .null, .int 0, .int 0]))]) sz)) (va_Qv (fun (u : Nat × Nat × Nat) => va_D (va_A ([(h0, .inr (2, [.int 0, .null, .int 0, .int 0]))]) sz) [(h0, .inr (2, [.int sh, .ref u.1, .int 0, .int 0])), (u.1, .inr (1, [.ref u.2.1, .ref u.2.2])), (u.2.1, .inl (T 0, 16, .inl (fun _ => nI 65535))), (u.2.2, .inl (T 0, 16, .inl (fun _ => 0)))]) (fun u t => va_P G vwCl ([(h0, .inr (2, [.int sh, .ref u.1, .int 0, .int 0])), (u.1, .inr (1, [.ref u.2.1, .ref u.2.2])), (u.2.1, .inl (T 0, 16, .inl (fun _ => nI 65535))), (u.2.2, .inl (T 0, 16, .inl (fun _ => 0)))]) t.heap) (va_A ([(h0, .inr (2, [.int 0, .null, .int 0, .int 0]))]) sz)) 3 34 (va_A ([(h0, .inr (2, [.int 0, .null, .int 0, .int 0]))]) sz) := by
  refine Met.ofW (cc := cX2_init) (maxL := 3) (ret := none) (by decide +kernel) rfl ?_
  intro p e s m args below meth c s₁ B hml hv
  obtain ⟨rfl, hsz, hP, hK, hD0, hXB, hZ⟩ := hv
  have hx := B.exec
  have hb := B.bytes
  have hr := B.returns
  have hts := atoms_spec (ws := wsX2_init) B.pre
  have hown : s.vm.findClass RX2 = some m.cls := findClass_of_methodNamed B.named
  have hlocks := B.notSynchronized
  have hin0 : meth.name = "<init>" := (name_of_methodNamed B.named B.method).1
  subst hsz
  have hD := hD0.self (sz := s.heap.size)
  generalize hAe : va_A ([(h0, .inr (2, [.int 0, .null, .int 0, .int 0]))]) s.heap.size = A at hD hZ ⊢
  have hA : ∀ q : Nat, s.heap.size ≤ q → A q := fun q h => by rw [← hAe]; exact Or.inr h
  have hS : va_S A s.heap s.heap [] := va_S.rf
  have hP : va_P G vwCl ([(h0, .inr (2, [.int 0, .null, .int 0, .int 0]))]) s.heap := hP
  have hiX1 : ∀ w ∈ u_ws RX1 TX1 2, w ∈ wsX2_init := by decide +kernel
  have hiX2 : ∀ w ∈ u_ws RX2 TX2 4, w ∈ wsX2_init := by decide +kernel
  have hl := lv_entry ([.ref h0, .int sh]) (n := 3) (Nat.le_of_ble_eq_true rfl)
  rw [lg_entry_eq]
  generalize (lg_sl ([.ref h0, .int sh]) ++ List.replicate (3 - (lg_sl ([.ref h0, .int sh])).length) Slot.unset).toArray = ls at hl ⊢
  have hl : lv_has ls 3 [(0, .ref h0), (1, .int sh)] := hl
  refine lv_aload_n hx hb dX2_init_0 rfl (lv_at hl 0 rfl) ?_
  refine W.objInit hx hb hown (hts (.methodLink RX2 3 objectInit) (by decide +kernel)) (hts (.instanceMethod objectInit) (by decide +kernel)) (hts (.code objectInit ⟨#[0xb1]⟩ 1 none) (by decide +kernel)) rfl (by rw [hml]; exact hl.1) rfl dX2_init_1 (Nat.le_of_ble_eq_true rfl) (Nat.le_of_ble_eq_true rfl) ?_
  refine W.eq (g2 := F0 m 4 ls []) rfl ?_
  refine lv_aload_n hx hb dX2_init_4 rfl (lv_at hl 0 rfl) ?_
  refine va_new (ci := 1) (fs := [.null, .null]) (C := RX1) (T := TX1) (N := 2) hx hb hts hiX1 tyX1 tyX1_ok hown (hts (.classLink RX2 9 RX1) (by decide +kernel)) (hts (.instantiable RX1 2) (by decide +kernel)) (hts (.initialized RX1) (by decide +kernel)) hK hP hD hS hA rfl (fun j hj => by rcases (show j = 0 ∨ j = 1 by omega) with rfl | rfl <;> rfl) (Nat.le_of_ble_eq_true rfl) (Nat.le_of_ble_eq_true rfl) dX2_init_5 (fun r0 H hP hD hS => ?_)
  have hP : va_P G vwCl ([(h0, .inr (2, [.int 0, .null, .int 0, .int 0])), (r0, .inr (1, [.null, .null]))]) H := hP
  have hD : va_D A ([(h0, .inr (2, [.int 0, .null, .int 0, .int 0])), (r0, .inr (1, [.null, .null]))]) := hD
  refine lv_dup hx hb dX2_init_8 rfl ?_
  have hP := xp_perm (List.Perm.swap _ _ _) hP
  have hD := xd_perm (List.Perm.swap _ _ _) hD
  have hP : va_P G vwCl ([(r0, .inr (1, [.null, .null]))] ++ [(h0, .inr (2, [.int 0, .null, .int 0, .int 0]))]) H := hP
  have hD : va_D A ([(r0, .inr (1, [.null, .null]))] ++ [(h0, .inr (2, [.int 0, .null, .int 0, .int 0]))]) := hD
  refine x_callvA (va_runIN (As := []) (rest := [.ref r0, .ref h0]) ⟨hx, hb, hml, hown, hts⟩ (c_X1_init l G T _ r0) ⟨va_cnB 0 hts gX2_init_X1_init_n11 rfl rfl rfl (hXB.1 (.methodLinkNest RX2 11 yX1_init "CardFans") (by decide +kernel)) (hts (.initialized RX1) (by decide +kernel)) (by decide +kernel) ⟨Nat.le_of_ble_eq_true rfl, Nat.le_of_ble_eq_true rfl⟩, rfl, hts (.instanceMethod yX1_init) (by decide +kernel)⟩ (x_preSA (wc := [(r0, .inr (1, [.null, .null]))]) (wr := [(h0, .inr (2, [.int 0, .null, .int 0, .int 0]))]) hK hP hD hS hA hXB hZ _) rfl rfl hl.1 rfl (lv_room (Nat.le_of_ble_eq_true rfl)) dX2_init_9 ⟨Nat.le_of_ble_eq_true rfl, Nat.le_of_ble_eq_true rfl⟩) hP hD hS hA (fun _ h => h) (fun u H locs hw hP hD hS => ?_)
  obtain ⟨a1, a2⟩ := u
  have hP := xp_perm (List.perm_append_comm (l₁ := [(r0, .inr (1, [.ref a1, .ref a2])), (a1, .inl (T 0, 16, .inl (fun _ => 0))), (a2, .inl (T 0, 16, .inl (fun _ => 0)))]) (l₂ := [(h0, .inr (2, [.int 0, .null, .int 0, .int 0]))])) hP
  have hD := xd_perm (List.perm_append_comm (l₁ := [(r0, .inr (1, [.ref a1, .ref a2])), (a1, .inl (T 0, 16, .inl (fun _ => 0))), (a2, .inl (T 0, 16, .inl (fun _ => 0)))]) (l₂ := [(h0, .inr (2, [.int 0, .null, .int 0, .int 0]))])) hD
  have hP : va_P G vwCl ([(h0, .inr (2, [.int 0, .null, .int 0, .int 0])), (r0, .inr (1, [.ref a1, .ref a2])), (a1, .inl (T 0, 16, .inl (fun _ => 0))), (a2, .inl (T 0, 16, .inl (fun _ => 0)))]) H := hP
  have hD : va_D A ([(h0, .inr (2, [.int 0, .null, .int 0, .int 0])), (r0, .inr (1, [.ref a1, .ref a2])), (a1, .inl (T 0, 16, .inl (fun _ => 0))), (a2, .inl (T 0, 16, .inl (fun _ => 0)))]) := hD
  refine va_putF (D := G) (ci := 2) (v := .ref r0) (ty := .object "CardFans$Row") (C := RX2) (T := TX2) (N := 4) hx hb hts hiX2 tyX2 tyX2_ok nmX2 hown hK hP hD hS 0 rfl rfl 1 (by decide) (hts (.fieldLink RX2 12 "CardFans$Watcher" "thoughts" "LCardFans$Row;") (by decide +kernel)) (fun _ h9 => h9) rfl hin0 rfl (by decide +kernel) rfl rfl (Nat.le_of_ble_eq_true rfl) dX2_init_12 (fun H locs hP hD hS => ?_)
  have hP : va_P G vwCl ([(h0, .inr (2, [.int 0, .ref r0, .int 0, .int 0])), (r0, .inr (1, [.ref a1, .ref a2])), (a1, .inl (T 0, 16, .inl (fun _ => 0))), (a2, .inl (T 0, 16, .inl (fun _ => 0)))]) H := hP
  have hD : va_D A ([(h0, .inr (2, [.int 0, .ref r0, .int 0, .int 0])), (r0, .inr (1, [.ref a1, .ref a2])), (a1, .inl (T 0, 16, .inl (fun _ => 0))), (a2, .inl (T 0, 16, .inl (fun _ => 0)))]) := hD
  refine lv_aload_n hx hb dX2_init_15 rfl (lv_at hl 0 rfl) ?_
  refine lv_iload_n hx hb dX2_init_16 rfl (lv_at hl 1 rfl) ?_
  refine va_putF (D := G) (ci := 2) (v := .int sh) (ty := .boolean) (C := RX2) (T := TX2) (N := 4) hx hb hts hiX2 tyX2 tyX2_ok nmX2 hown hK hP hD hS 0 rfl rfl 0 (by decide) (hts (.fieldLink RX2 18 "CardFans$Watcher" "isSharp" "Z") (by decide +kernel)) (fun _ h9 => h9) rfl hin0 rfl (by decide +kernel) hsh hfit (Nat.le_of_ble_eq_true rfl) dX2_init_17 (fun H locs hP hD hS => ?_)
  have hP : va_P G vwCl ([(h0, .inr (2, [.int sh, .ref r0, .int 0, .int 0])), (r0, .inr (1, [.ref a1, .ref a2])), (a1, .inl (T 0, 16, .inl (fun _ => 0))), (a2, .inl (T 0, 16, .inl (fun _ => 0)))]) H := hP
  have hD : va_D A ([(h0, .inr (2, [.int sh, .ref r0, .int 0, .int 0])), (r0, .inr (1, [.ref a1, .ref a2])), (a1, .inl (T 0, 16, .inl (fun _ => 0))), (a2, .inl (T 0, 16, .inl (fun _ => 0)))]) := hD
  refine lv_iconst (v := nI 0) hx hb dX2_init_20 (by decide) ?_
  refine lv_istore_n (lv' := [(2, .int (nI 0)), (0, .ref h0), (1, .int sh)]) hx hb dX2_init_21 rfl hl (by decide) rfl (fun ls hl => ?_)
  suffices LP : ∀ (n : Nat) (i : Nat) (f : Nat → Int32), (i ≤ 16) → (16 < i + n) → (∀ j, j < i → f j = nI 65535) → ∀ (H : Heap) (locs : List Loc), va_P G vwCl ([(h0, .inr (2, [.int sh, .ref r0, .int 0, .int 0])), (r0, .inr (1, [.ref a1, .ref a2])), (a1, .inl (T 0, 16, .inl f)), (a2, .inl (T 0, 16, .inl (fun _ => 0)))]) H → va_D A ([(h0, .inr (2, [.int sh, .ref r0, .int 0, .int 0])), (r0, .inr (1, [.ref a1, .ref a2])), (a1, .inl (T 0, 16, .inl f)), (a2, .inl (T 0, 16, .inl (fun _ => 0)))]) → va_S A s.heap H locs → ∀ (ls : Array Slot), lv_has ls 3 [(2, .int (nI i)), (0, .ref h0), (1, .int sh)] → W p l e (headSpec wsX2_init ({ frames := 3, cells := 3, slots := 34, locals := 42 })).room s m ([.ref h0, .int sh] : List Value).toArray below meth c H locs 3 34 (MQ below (va_Qv (fun (u : Nat × Nat × Nat) => va_D A [(h0, .inr (2, [.int sh, .ref u.1, .int 0, .int 0])), (u.1, .inr (1, [.ref u.2.1, .ref u.2.2])), (u.2.1, .inl (T 0, 16, .inl (fun _ => nI 65535))), (u.2.2, .inl (T 0, 16, .inl (fun _ => 0)))]) (fun u t => va_P G vwCl ([(h0, .inr (2, [.int sh, .ref u.1, .int 0, .int 0])), (u.1, .inr (1, [.ref u.2.1, .ref u.2.2])), (u.2.1, .inl (T 0, 16, .inl (fun _ => nI 65535))), (u.2.2, .inl (T 0, 16, .inl (fun _ => 0)))]) t.heap) A) ([.ref h0, .int sh] : List Value).toArray s 3 34 A) (F0 m 22 ls []) from LP 17 0 _ (by decide) (by decide) (fun j hj => absurd hj (Nat.not_lt_zero j)) _ _ hP hD hS ls (lv_sub hl [0, 1, 2] rfl)
  clear hP hD hS hl
  intro n
  induction n with
  | zero => intro i f hi hn hf H locs _ _ _ ls _; exfalso; omega
  | succ n ih =>
    intro i f hi hn hf H locs hP hD hS ls hl
    refine lv_iload_n hx hb dX2_init_22 rfl (lv_at hl 0 rfl) ?_
    refine lv_bipush (v := nI 16) hx hb dX2_init_23 (by decide) ?_
    by_cases hc : i < 16
    · refine lv_icmp_ge (tgt := 44) hx hb dX2_init_25 (by decide) (fun c_ => absurd c_ (nI_ge hc (by decide))) (fun _ => ?_)
      refine lv_aload_n hx hb dX2_init_28 rfl (lv_at hl 1 rfl) ?_
      refine va_get (D := G) (ci := 2) (v := .ref r0) (C := RX2) (T := TX2) (N := 4) hx hb hts hiX2 hown hK hP 0 rfl rfl 1 (by decide) (hts (.fieldLink RX2 12 "CardFans$Watcher" "thoughts" "LCardFans$Row;") (by decide +kernel)) (fun _ h9 => h9) rfl dX2_init_29 ?_
      refine lv_iload_n hx hb dX2_init_32 rfl (lv_at hl 0 rfl) ?_
      refine lv_ldc (v := nI 65535) hx hb hown (hts (.constant RX2 22 (65535)) (by decide +kernel)) dX2_init_33 ?_
      refine x_callv (va_runV (As := [.int (nI i), .int (nI 65535)]) (rest := []) ⟨hx, hb, hml, hown, hts⟩ (c_X1_put l G T _ r0 a1 a2 f (fun _ => 0) i hc (nI 65535)) (cwV 2 hts gX2_init_X1_put rfl rfl rfl (by decide +kernel) ⟨Nat.le_of_ble_eq_true rfl, Nat.le_of_ble_eq_true rfl⟩) (x_preV (wc := [(r0, .inr (1, [.ref a1, .ref a2])), (a1, .inl (T 0, 16, .inl f)), (a2, .inl (T 0, 16, .inl (fun _ => 0)))]) hK hP hD hS hA hXB hZ [1, 2, 3] rfl rfl _ _ 1 1 rfl rfl) rfl rfl hl.1 rfl (lv_room (Nat.le_of_ble_eq_true rfl)) dX2_init_35 ⟨Nat.le_of_ble_eq_true rfl, Nat.le_of_ble_eq_true rfl⟩) hP hD hS hA [1, 2, 3] rfl (fun _ _ => rfl) (fun u1 H locs _ hP hD hS => ?_)
      have hP : va_P G vwCl ([(h0, .inr (2, [.int sh, .ref r0, .int 0, .int 0])), (r0, .inr (1, [.ref a1, .ref a2])), (a1, .inl (T 0, 16, .inl (upd f i (nI 65535)))), (a2, .inl (T 0, 16, .inl (fun _ => 0)))]) H := hP
      have hD : va_D A ([(h0, .inr (2, [.int sh, .ref r0, .int 0, .int 0])), (r0, .inr (1, [.ref a1, .ref a2])), (a1, .inl (T 0, 16, .inl (upd f i (nI 65535)))), (a2, .inl (T 0, 16, .inl (fun _ => 0)))]) := hD
      refine lv_iinc (v := nI (i + 1)) (lv' := [(2, .int (nI (i + 1))), (0, .ref h0), (1, .int sh)]) hx hb dX2_init_38 hl (k := 0) rfl (x_inc _) (by decide) rfl (fun ls hl => ?_)
      refine lv_goto (tgt := 22) hx hb dX2_init_41 (by decide) ?_
      exact ih (i + 1) _ (by omega) (by omega) (xlt_s (fun a ha => by rw [pk_un (by omega)]; exact hf a ha) (by rw [pk_us])) _ _ hP hD hS ls (lv_sub hl [0, 1, 2] rfl)
    · refine lv_icmp_ge (tgt := 44) hx hb dX2_init_25 (by decide) (fun _ => ?_) (fun c_ => absurd (nI_le (by omega) (by omega)) c_)
      have hP := x_can hP 2 (g := (fun _ => nI 65535)) rfl (fun j hj => hf j (by omega))
      have hD := xd_set hD 2 (e := .inl (T 0, 16, .inl (fun _ => nI 65535))) rfl
      have hP : va_P G vwCl ([(h0, .inr (2, [.int sh, .ref r0, .int 0, .int 0])), (r0, .inr (1, [.ref a1, .ref a2])), (a1, .inl (T 0, 16, .inl (fun _ => nI 65535))), (a2, .inl (T 0, 16, .inl (fun _ => 0)))]) H := hP
      have hD : va_D A ([(h0, .inr (2, [.int sh, .ref r0, .int 0, .int 0])), (r0, .inr (1, [.ref a1, .ref a2])), (a1, .inl (T 0, 16, .inl (fun _ => nI 65535))), (a2, .inl (T 0, 16, .inl (fun _ => 0)))]) := hD
      exact W.vret hx hb hr (fun t ht hW => ⟨⟨(r0, a1, a2), rfl, hD, x_at ht hP⟩, hS.F ht⟩) hS.2.2 dX2_init_44

set_option maxHeartbeats 4000000 in
set_option maxRecDepth 100000 in
/-- Watcher.follow -/
theorem c_X2_follow (l : Launch) (G : va_G) (T : Nat → ClassId) (sz : Nat) (h0 : Nat) (a0 a1 a2 : Nat) (sh an gl : Int32) (f g : Nat → Int32) (k n : Nat) (hw : xwn k n = true) : Met l yX2_follow wsX2_follow ({ frames := 3, cells := 0, slots := 0, locals := 69 }) (va_Pc [.ref h0, .int (nI k), .int (nI n)] (xPre G T ([(h0, .inr (2, [.int sh, .ref a0, .int an, .int gl])), (a0, .inr (1, [.ref a1, .ref a2])), (a1, .inl (T 0, 16, .inl f)), (a2, .inl (T 0, 16, .inl g))]) sz)) (va_Qv (fun (u : Nat → Int32) => True) (fun u t => va_P G vwCl ([(h0, .inr (2, [.int sh, .ref a0, .int an, .int gl])), (a0, .inr (1, [.ref a1, .ref a2])), (a1, .inl (T 0, 16, .inl (fun j => f (xpb k n j)))), (a2, .inl (T 0, 16, .inl u))]) t.heap) (va_A ([(h0, .inr (2, [.int sh, .ref a0, .int an, .int gl])), (a0, .inr (1, [.ref a1, .ref a2])), (a1, .inl (T 0, 16, .inl f)), (a2, .inl (T 0, 16, .inl g))]) sz)) 0 0 (va_A ([(h0, .inr (2, [.int sh, .ref a0, .int an, .int gl])), (a0, .inr (1, [.ref a1, .ref a2])), (a1, .inl (T 0, 16, .inl f)), (a2, .inl (T 0, 16, .inl g))]) sz) := by
  refine Met.ofW (cc := cX2_follow) (maxL := 3) (ret := none) (by decide +kernel) rfl ?_
  intro p e s m args below meth c s₁ B hml hv
  obtain ⟨rfl, hsz, hP, hK, hD0, hXB, hZ⟩ := hv
  have hx := B.exec
  have hb := B.bytes
  have hr := B.returns
  have hts := atoms_spec (ws := wsX2_follow) B.pre
  have hown : s.vm.findClass RX2 = some m.cls := findClass_of_methodNamed B.named
  have hlocks := B.notSynchronized
  subst hsz
  have hD := hD0.self (sz := s.heap.size)
  generalize hAe : va_A ([(h0, .inr (2, [.int sh, .ref a0, .int an, .int gl])), (a0, .inr (1, [.ref a1, .ref a2])), (a1, .inl (T 0, 16, .inl f)), (a2, .inl (T 0, 16, .inl g))]) s.heap.size = A at hD hZ ⊢
  have hA : ∀ q : Nat, s.heap.size ≤ q → A q := fun q h => by rw [← hAe]; exact Or.inr h
  have hS : va_S A s.heap s.heap [] := va_S.rf
  have hP : va_P G vwCl ([(h0, .inr (2, [.int sh, .ref a0, .int an, .int gl])), (a0, .inr (1, [.ref a1, .ref a2])), (a1, .inl (T 0, 16, .inl f)), (a2, .inl (T 0, 16, .inl g))]) s.heap := hP
  have hiX2 : ∀ w ∈ u_ws RX2 TX2 4, w ∈ wsX2_follow := by decide +kernel
  have hl := lv_entry ([.ref h0, .int (nI k), .int (nI n)]) (n := 3) (Nat.le_of_ble_eq_true rfl)
  rw [lg_entry_eq]
  generalize (lg_sl ([.ref h0, .int (nI k), .int (nI n)]) ++ List.replicate (3 - (lg_sl ([.ref h0, .int (nI k), .int (nI n)])).length) Slot.unset).toArray = ls at hl ⊢
  have hl : lv_has ls 3 [(0, .ref h0), (1, .int (nI k)), (2, .int (nI n))] := hl
  refine lv_aload_n hx hb dX2_follow_0 rfl (lv_at hl 0 rfl) ?_
  refine va_get (D := G) (ci := 2) (v := .ref a0) (C := RX2) (T := TX2) (N := 4) hx hb hts hiX2 hown hK hP 0 rfl rfl 1 (by decide) (hts (.fieldLink RX2 12 "CardFans$Watcher" "thoughts" "LCardFans$Row;") (by decide +kernel)) (fun _ h9 => h9) rfl dX2_follow_1 ?_
  refine lv_iload_n hx hb dX2_follow_4 rfl (lv_at hl 1 rfl) ?_
  refine lv_iload_n hx hb dX2_follow_5 rfl (lv_at hl 2 rfl) ?_
  refine x_callv (va_runV (As := [.int (nI k), .int (nI n)]) (rest := []) ⟨hx, hb, hml, hown, hts⟩ (c_X1_carry l G T _ a0 a1 a2 f g k n hw) (cwV 2 hts gX2_follow_X1_carry rfl rfl rfl (by decide +kernel) ⟨Nat.le_of_ble_eq_true rfl, Nat.le_of_ble_eq_true rfl⟩) (x_preV (wc := [(a0, .inr (1, [.ref a1, .ref a2])), (a1, .inl (T 0, 16, .inl f)), (a2, .inl (T 0, 16, .inl g))]) hK hP hD hS hA hXB hZ [1, 2, 3] rfl rfl _ _ 1 1 rfl rfl) rfl rfl hl.1 rfl (lv_room (Nat.le_of_ble_eq_true rfl)) dX2_follow_6 ⟨Nat.le_of_ble_eq_true rfl, Nat.le_of_ble_eq_true rfl⟩) hP hD hS hA [1, 2, 3] rfl (fun _ _ => rfl) (fun u1 H locs _ hP hD hS => ?_)
  have hP : va_P G vwCl ([(h0, .inr (2, [.int sh, .ref a0, .int an, .int gl])), (a0, .inr (1, [.ref a1, .ref a2])), (a1, .inl (T 0, 16, .inl (fun j => f (xpb k n j)))), (a2, .inl (T 0, 16, .inl u1))]) H := hP
  have hD : va_D A ([(h0, .inr (2, [.int sh, .ref a0, .int an, .int gl])), (a0, .inr (1, [.ref a1, .ref a2])), (a1, .inl (T 0, 16, .inl (fun j => f (xpb k n j)))), (a2, .inl (T 0, 16, .inl u1))]) := hD
  exact W.vret hx hb hr (fun t ht hW => ⟨⟨u1, rfl, trivial, x_at ht hP⟩, hS.F ht⟩) hS.2.2 dX2_follow_9

set_option maxHeartbeats 4000000 in
set_option maxRecDepth 100000 in
/-- strikesElsewhere -/
theorem c_X2_strikesElsewhere (l : Launch) (G : va_G) (T : Nat → ClassId) (sz : Nat) (h0 : Nat) (a0 a1 a2 : Nat) (sh an gl : Int32) (f g : Nat → Int32) (k : Nat) (hk : k < 16) : Met l yX2_strikesElsewhere wsX2_strikesElsewhere ({ frames := 2, cells := 0, slots := 0, locals := 42 }) (va_Pc [.ref h0, .int (nI k)] (xPre G T ([(h0, .inr (2, [.int sh, .ref a0, .int an, .int gl])), (a0, .inr (1, [.ref a1, .ref a2])), (a1, .inl (T 0, 16, .inl f)), (a2, .inl (T 0, 16, .inl g))]) sz)) (va_Qi (fun (r : Int32) (u : Unit) => r = xb (xsc f k (f k) 16)) (fun u t => va_P G vwCl ([(h0, .inr (2, [.int sh, .ref a0, .int an, .int gl])), (a0, .inr (1, [.ref a1, .ref a2])), (a1, .inl (T 0, 16, .inl (xse f k (f k) 16))), (a2, .inl (T 0, 16, .inl g))]) t.heap) (va_A ([(h0, .inr (2, [.int sh, .ref a0, .int an, .int gl])), (a0, .inr (1, [.ref a1, .ref a2])), (a1, .inl (T 0, 16, .inl f)), (a2, .inl (T 0, 16, .inl g))]) sz)) 0 0 (va_A ([(h0, .inr (2, [.int sh, .ref a0, .int an, .int gl])), (a0, .inr (1, [.ref a1, .ref a2])), (a1, .inl (T 0, 16, .inl f)), (a2, .inl (T 0, 16, .inl g))]) sz) := by
  refine Met.ofW (cc := cX2_strikesElsewhere) (maxL := 6) (ret := (some .boolean)) (by decide +kernel) rfl ?_
  intro p e s m args below meth c s₁ B hml hv
  obtain ⟨rfl, hsz, hP, hK, hD0, hXB, hZ⟩ := hv
  have hx := B.exec
  have hb := B.bytes
  have hr := B.returns
  have hts := atoms_spec (ws := wsX2_strikesElsewhere) B.pre
  have hown : s.vm.findClass RX2 = some m.cls := findClass_of_methodNamed B.named
  have hlocks := B.notSynchronized
  subst hsz
  have hD := hD0.self (sz := s.heap.size)
  generalize hAe : va_A ([(h0, .inr (2, [.int sh, .ref a0, .int an, .int gl])), (a0, .inr (1, [.ref a1, .ref a2])), (a1, .inl (T 0, 16, .inl f)), (a2, .inl (T 0, 16, .inl g))]) s.heap.size = A at hD hZ ⊢
  have hA : ∀ q : Nat, s.heap.size ≤ q → A q := fun q h => by rw [← hAe]; exact Or.inr h
  have hS : va_S A s.heap s.heap [] := va_S.rf
  have hP : va_P G vwCl ([(h0, .inr (2, [.int sh, .ref a0, .int an, .int gl])), (a0, .inr (1, [.ref a1, .ref a2])), (a1, .inl (T 0, 16, .inl f)), (a2, .inl (T 0, 16, .inl g))]) s.heap := hP
  have hiX2 : ∀ w ∈ u_ws RX2 TX2 4, w ∈ wsX2_strikesElsewhere := by decide +kernel
  have hl := lv_entry ([.ref h0, .int (nI k)]) (n := 6) (Nat.le_of_ble_eq_true rfl)
  rw [lg_entry_eq]
  generalize (lg_sl ([.ref h0, .int (nI k)]) ++ List.replicate (6 - (lg_sl ([.ref h0, .int (nI k)])).length) Slot.unset).toArray = ls at hl ⊢
  have hl : lv_has ls 6 [(0, .ref h0), (1, .int (nI k))] := hl
  refine lv_aload_n hx hb dX2_strikesElsewhere_0 rfl (lv_at hl 0 rfl) ?_
  refine va_get (D := G) (ci := 2) (v := .ref a0) (C := RX2) (T := TX2) (N := 4) hx hb hts hiX2 hown hK hP 0 rfl rfl 1 (by decide) (hts (.fieldLink RX2 12 "CardFans$Watcher" "thoughts" "LCardFans$Row;") (by decide +kernel)) (fun _ h9 => h9) rfl dX2_strikesElsewhere_1 ?_
  refine lv_iload_n hx hb dX2_strikesElsewhere_4 rfl (lv_at hl 1 rfl) ?_
  refine x_calli (va_runV (As := [.int (nI k)]) (rest := []) ⟨hx, hb, hml, hown, hts⟩ (c_X1_at l G T _ a0 a1 a2 f g k hk) (cwV 1 hts gX2_strikesElsewhere_X1_at rfl rfl rfl (by decide +kernel) ⟨Nat.le_of_ble_eq_true rfl, Nat.le_of_ble_eq_true rfl⟩) (x_preV (wc := [(a0, .inr (1, [.ref a1, .ref a2])), (a1, .inl (T 0, 16, .inl f)), (a2, .inl (T 0, 16, .inl g))]) hK hP hD hS hA hXB hZ [1, 2, 3] rfl rfl _ _ 1 1 rfl rfl) rfl rfl hl.1 rfl (lv_room (Nat.le_of_ble_eq_true rfl)) dX2_strikesElsewhere_5 ⟨Nat.le_of_ble_eq_true rfl, Nat.le_of_ble_eq_true rfl⟩) hP hD hS hA [1, 2, 3] rfl (fun _ _ _ => rfl) (fun r1 u H locs hw1 hP hD hS => ?_)
  have hP : va_P G vwCl ([(h0, .inr (2, [.int sh, .ref a0, .int an, .int gl])), (a0, .inr (1, [.ref a1, .ref a2])), (a1, .inl (T 0, 16, .inl f)), (a2, .inl (T 0, 16, .inl g))]) H := hP
  have hD : va_D A ([(h0, .inr (2, [.int sh, .ref a0, .int an, .int gl])), (a0, .inr (1, [.ref a1, .ref a2])), (a1, .inl (T 0, 16, .inl f)), (a2, .inl (T 0, 16, .inl g))]) := hD
  refine x_topi (y := f k) (hw1) ?_
  refine lv_istore_n (lv' := [(2, .int (f k)), (0, .ref h0), (1, .int (nI k))]) hx hb dX2_strikesElsewhere_8 rfl hl (by decide) rfl (fun ls hl => ?_)
  refine lv_iconst (v := nI 0) hx hb dX2_strikesElsewhere_9 (by decide) ?_
  refine lv_istore_n (lv' := [(3, .int (nI 0)), (2, .int (f k)), (0, .ref h0), (1, .int (nI k))]) hx hb dX2_strikesElsewhere_10 rfl hl (by decide) rfl (fun ls hl => ?_)
  refine lv_iconst (v := nI 0) hx hb dX2_strikesElsewhere_11 (by decide) ?_
  refine lv_istore (lv' := [(4, .int (nI 0)), (3, .int (nI 0)), (2, .int (f k)), (0, .ref h0), (1, .int (nI k))]) hx hb dX2_strikesElsewhere_12 hl (by decide) rfl (fun ls hl => ?_)
  suffices LP : ∀ (n : Nat) (i : Nat), (i ≤ 16) → (16 < i + n) → ∀ (H : Heap) (locs : List Loc), va_P G vwCl ([(h0, .inr (2, [.int sh, .ref a0, .int an, .int gl])), (a0, .inr (1, [.ref a1, .ref a2])), (a1, .inl (T 0, 16, .inl (xse f k (f k) i))), (a2, .inl (T 0, 16, .inl g))]) H → va_D A ([(h0, .inr (2, [.int sh, .ref a0, .int an, .int gl])), (a0, .inr (1, [.ref a1, .ref a2])), (a1, .inl (T 0, 16, .inl (xse f k (f k) i))), (a2, .inl (T 0, 16, .inl g))]) → va_S A s.heap H locs → ∀ (ls : Array Slot), lv_has ls 6 [(4, .int (nI i)), (3, .int (xb (xsc f k (f k) i))), (2, .int (f k)), (0, .ref h0), (1, .int (nI k))] → W p l e (headSpec wsX2_strikesElsewhere ({ frames := 2, cells := 0, slots := 0, locals := 42 })).room s m ([.ref h0, .int (nI k)] : List Value).toArray below meth c H locs 0 0 (MQ below (va_Qi (fun (r : Int32) (u : Unit) => r = xb (xsc f k (f k) 16)) (fun u t => va_P G vwCl ([(h0, .inr (2, [.int sh, .ref a0, .int an, .int gl])), (a0, .inr (1, [.ref a1, .ref a2])), (a1, .inl (T 0, 16, .inl (xse f k (f k) 16))), (a2, .inl (T 0, 16, .inl g))]) t.heap) A) ([.ref h0, .int (nI k)] : List Value).toArray s 0 0 A) (F0 m 14 ls []) from LP 17 0 (by decide) (by decide) _ _ hP hD hS ls (lv_sub hl [0, 1, 2, 3, 4] rfl)
  clear hP hD hS hl
  intro n
  induction n with
  | zero => intro i hi hn H locs _ _ _ ls _; exfalso; omega
  | succ n ih =>
    intro i hi hn H locs hP hD hS ls hl
    refine lv_iload hx hb dX2_strikesElsewhere_14 (lv_at hl 0 rfl) ?_
    refine lv_bipush (v := nI 16) hx hb dX2_strikesElsewhere_16 (by decide) ?_
    by_cases hc : i < 16
    · refine lv_icmp_ge (tgt := 68) hx hb dX2_strikesElsewhere_18 (by decide) (fun c_ => absurd c_ (nI_ge hc (by decide))) (fun _ => ?_)
      refine lv_aload_n hx hb dX2_strikesElsewhere_21 rfl (lv_at hl 3 rfl) ?_
      refine va_get (D := G) (ci := 2) (v := .ref a0) (C := RX2) (T := TX2) (N := 4) hx hb hts hiX2 hown hK hP 0 rfl rfl 1 (by decide) (hts (.fieldLink RX2 12 "CardFans$Watcher" "thoughts" "LCardFans$Row;") (by decide +kernel)) (fun _ h9 => h9) rfl dX2_strikesElsewhere_22 ?_
      refine lv_iload hx hb dX2_strikesElsewhere_25 (lv_at hl 0 rfl) ?_
      refine x_calli (va_runV (As := [.int (nI i)]) (rest := []) ⟨hx, hb, hml, hown, hts⟩ (c_X1_at l G T _ a0 a1 a2 (xse f k (f k) i) g i hc) (cwV 1 hts gX2_strikesElsewhere_X1_at rfl rfl rfl (by decide +kernel) ⟨Nat.le_of_ble_eq_true rfl, Nat.le_of_ble_eq_true rfl⟩) (x_preV (wc := [(a0, .inr (1, [.ref a1, .ref a2])), (a1, .inl (T 0, 16, .inl (xse f k (f k) i))), (a2, .inl (T 0, 16, .inl g))]) hK hP hD hS hA hXB hZ [1, 2, 3] rfl rfl _ _ 1 1 rfl rfl) rfl rfl hl.1 rfl (lv_room (Nat.le_of_ble_eq_true rfl)) dX2_strikesElsewhere_27 ⟨Nat.le_of_ble_eq_true rfl, Nat.le_of_ble_eq_true rfl⟩) hP hD hS hA [1, 2, 3] rfl (fun _ _ _ => rfl) (fun r2 u H locs hw2 hP hD hS => ?_)
      have hP : va_P G vwCl ([(h0, .inr (2, [.int sh, .ref a0, .int an, .int gl])), (a0, .inr (1, [.ref a1, .ref a2])), (a1, .inl (T 0, 16, .inl (xse f k (f k) i))), (a2, .inl (T 0, 16, .inl g))]) H := hP
      have hD : va_D A ([(h0, .inr (2, [.int sh, .ref a0, .int an, .int gl])), (a0, .inr (1, [.ref a1, .ref a2])), (a1, .inl (T 0, 16, .inl (xse f k (f k) i))), (a2, .inl (T 0, 16, .inl g))]) := hD
      subst hw2
      refine lv_istore (lv' := [(5, .int (xse f k (f k) i i)), (4, .int (nI i)), (3, .int (xb (xsc f k (f k) i))), (2, .int (f k)), (0, .ref h0), (1, .int (nI k))]) hx hb dX2_strikesElsewhere_30 hl (by decide) rfl (fun ls hl => ?_)
      refine lv_iload hx hb dX2_strikesElsewhere_32 (lv_at hl 1 rfl) ?_
      refine lv_iload_n hx hb dX2_strikesElsewhere_34 rfl (lv_at hl 5 rfl) ?_
      by_cases he : i = k
      · refine lv_icmp_eq (tgt := 62) hx hb dX2_strikesElsewhere_35 (by decide) (fun _ => ?_) (fun c_ => absurd (congrArg nI he) c_)
        have e1 : xse f k (f k) (i + 1) = xse f k (f k) i := by show xsk _ k (f k) i = _; exact xsk_f (fun h => h.1 he)
        have e2 : xsc f k (f k) (i + 1) = xsc f k (f k) i := by show (_ || _) = _; rw [decide_eq_false (fun h => h.1 he), Bool.or_false]
        refine lv_iinc (v := nI (i + 1)) (lv' := [(4, .int (nI (i + 1))), (5, .int (xse f k (f k) i i)), (3, .int (xb (xsc f k (f k) i))), (2, .int (f k)), (0, .ref h0), (1, .int (nI k))]) hx hb dX2_strikesElsewhere_62 hl (k := 1) rfl (x_inc _) (by decide) rfl (fun ls hl => ?_)
        refine lv_goto (tgt := 14) hx hb dX2_strikesElsewhere_65 (by decide) ?_
        rw [← e1] at hP hD; rw [← e2] at hl
        exact ih (i + 1) (by omega) (by omega) _ _ hP hD hS ls (lv_sub hl [0, 2, 3, 4, 5] rfl)
      · refine lv_icmp_eq (tgt := 62) hx hb dX2_strikesElsewhere_35 (by decide) (fun c_ => absurd c_ (fun h => he ((nI_eq (by omega) (by omega)).mp h))) (fun _ => ?_)
        refine lv_iload hx hb dX2_strikesElsewhere_38 (lv_at hl 0 rfl) ?_
        refine lv_iload_n hx hb dX2_strikesElsewhere_40 rfl (lv_at hl 3 rfl) ?_
        refine lv_iand hx hb dX2_strikesElsewhere_41 ?_
        refine lv_if_eq (tgt := 62) hx hb dX2_strikesElsewhere_42 (by decide) (fun c1 => ?_) (fun c1 => ?_)
        · have e1 : xse f k (f k) (i + 1) = xse f k (f k) i := by show xsk _ k (f k) i = _; exact xsk_f (fun h => h.2 c1)
          have e2 : xsc f k (f k) (i + 1) = xsc f k (f k) i := by show (_ || _) = _; rw [decide_eq_false (fun h => h.2 c1), Bool.or_false]
          refine lv_iinc (v := nI (i + 1)) (lv' := [(4, .int (nI (i + 1))), (5, .int (xse f k (f k) i i)), (3, .int (xb (xsc f k (f k) i))), (2, .int (f k)), (0, .ref h0), (1, .int (nI k))]) hx hb dX2_strikesElsewhere_62 hl (k := 1) rfl (x_inc _) (by decide) rfl (fun ls hl => ?_)
          refine lv_goto (tgt := 14) hx hb dX2_strikesElsewhere_65 (by decide) ?_
          rw [← e1] at hP hD; rw [← e2] at hl
          exact ih (i + 1) (by omega) (by omega) _ _ hP hD hS ls (lv_sub hl [0, 2, 3, 4, 5] rfl)
        · refine lv_aload_n hx hb dX2_strikesElsewhere_45 rfl (lv_at hl 4 rfl) ?_
          refine va_get (D := G) (ci := 2) (v := .ref a0) (C := RX2) (T := TX2) (N := 4) hx hb hts hiX2 hown hK hP 0 rfl rfl 1 (by decide) (hts (.fieldLink RX2 12 "CardFans$Watcher" "thoughts" "LCardFans$Row;") (by decide +kernel)) (fun _ h9 => h9) rfl dX2_strikesElsewhere_46 ?_
          refine lv_iload hx hb dX2_strikesElsewhere_49 (lv_at hl 1 rfl) ?_
          refine lv_iload hx hb dX2_strikesElsewhere_51 (lv_at hl 0 rfl) ?_
          refine lv_iload_n hx hb dX2_strikesElsewhere_53 rfl (lv_at hl 3 rfl) ?_
          refine lv_iconst (v := (-1)) hx hb dX2_strikesElsewhere_54 (by decide) ?_
          refine lv_ixor hx hb dX2_strikesElsewhere_55 ?_
          refine lv_iand hx hb dX2_strikesElsewhere_56 ?_
          refine x_callv (va_runV (As := [.int (nI i), .int ((xse f k (f k) i i) &&& (f k ^^^ (-1)))]) (rest := []) ⟨hx, hb, hml, hown, hts⟩ (c_X1_put l G T _ a0 a1 a2 (xse f k (f k) i) g i hc (xse f k (f k) i i &&& (f k ^^^ (-1)))) (cwV 2 hts gX2_strikesElsewhere_X1_put rfl rfl rfl (by decide +kernel) ⟨Nat.le_of_ble_eq_true rfl, Nat.le_of_ble_eq_true rfl⟩) (x_preV (wc := [(a0, .inr (1, [.ref a1, .ref a2])), (a1, .inl (T 0, 16, .inl (xse f k (f k) i))), (a2, .inl (T 0, 16, .inl g))]) hK hP hD hS hA hXB hZ [1, 2, 3] rfl rfl _ _ 1 1 rfl rfl) rfl rfl hl.1 rfl (lv_room (Nat.le_of_ble_eq_true rfl)) dX2_strikesElsewhere_57 ⟨Nat.le_of_ble_eq_true rfl, Nat.le_of_ble_eq_true rfl⟩) hP hD hS hA [1, 2, 3] rfl (fun _ _ => rfl) (fun u1 H locs _ hP hD hS => ?_)
          have hP : va_P G vwCl ([(h0, .inr (2, [.int sh, .ref a0, .int an, .int gl])), (a0, .inr (1, [.ref a1, .ref a2])), (a1, .inl (T 0, 16, .inl (upd (xse f k (f k) i) i (xse f k (f k) i i &&& (f k ^^^ (-1)))))), (a2, .inl (T 0, 16, .inl g))]) H := hP
          have hD : va_D A ([(h0, .inr (2, [.int sh, .ref a0, .int an, .int gl])), (a0, .inr (1, [.ref a1, .ref a2])), (a1, .inl (T 0, 16, .inl (upd (xse f k (f k) i) i (xse f k (f k) i i &&& (f k ^^^ (-1)))))), (a2, .inl (T 0, 16, .inl g))]) := hD
          have e1 : xse f k (f k) (i + 1) = upd (xse f k (f k) i) i (xse f k (f k) i i &&& (f k ^^^ (-1))) := by show xsk _ k (f k) i = _; exact xsk_t he c1
          have e2 : xb (xsc f k (f k) (i + 1)) = nI 1 := by show xb (_ || _) = _; rw [decide_eq_true ⟨he, c1⟩, Bool.or_true]; rfl
          refine lv_iconst (v := nI 1) hx hb dX2_strikesElsewhere_60 (by decide) ?_
          refine lv_istore_n (lv' := [(3, .int (nI 1)), (5, .int (xse f k (f k) i i)), (4, .int (nI i)), (2, .int (f k)), (0, .ref h0), (1, .int (nI k))]) hx hb dX2_strikesElsewhere_61 rfl hl (by decide) rfl (fun ls hl => ?_)
          refine lv_iinc (v := nI (i + 1)) (lv' := [(4, .int (nI (i + 1))), (3, .int (nI 1)), (5, .int (xse f k (f k) i i)), (2, .int (f k)), (0, .ref h0), (1, .int (nI k))]) hx hb dX2_strikesElsewhere_62 hl (k := 2) rfl (x_inc _) (by decide) rfl (fun ls hl => ?_)
          refine lv_goto (tgt := 14) hx hb dX2_strikesElsewhere_65 (by decide) ?_
          rw [← e1] at hP hD; rw [← e2] at hl
          exact ih (i + 1) (by omega) (by omega) _ _ hP hD hS ls (lv_sub hl [0, 1, 3, 4, 5] rfl)
    · refine lv_icmp_ge (tgt := 68) hx hb dX2_strikesElsewhere_18 (by decide) (fun _ => ?_) (fun c_ => absurd (nI_le (by omega) (by omega)) c_)
      refine lv_iload_n hx hb dX2_strikesElsewhere_68 rfl (lv_at hl 1 rfl) ?_
      obtain rfl : i = 16 := by omega
      exact W.zret (v := (xb (xsc f k (f k) 16))) hx hb hr (xb_nar _) (fun t ht hW => ⟨⟨(xb (xsc f k (f k) 16)), (), rfl, rfl, x_at ht hP⟩, hS.F ht⟩) hS.2.2 dX2_strikesElsewhere_69

set_option maxHeartbeats 4000000 in
set_option maxRecDepth 100000 in
/-- concludes -/
theorem c_X2_concludes (l : Launch) (G : va_G) (T : Nat → ClassId) (sz : Nat) (N : Nat) (hN : N = 257) (h0 : Nat) (a0 a1 a2 : Nat) (sh an gl : Int32) (f g : Nat → Int32) : Met l yX2_concludes wsX2_concludes ({ frames := 3, cells := 0, slots := 0, locals := 67 }) (va_Pc [.ref h0] (xPre G T ([(h0, .inr (2, [.int sh, .ref a0, .int an, .int gl])), (a0, .inr (1, [.ref a1, .ref a2])), (a1, .inl (T 0, 16, .inl f)), (a2, .inl (T 0, 16, .inl g))]) sz)) (va_Qi (fun (r : Int32) (u : Unit) => r = xb (xcl N f).1) (fun u t => va_P G vwCl ([(h0, .inr (2, [.int sh, .ref a0, .int an, .int gl])), (a0, .inr (1, [.ref a1, .ref a2])), (a1, .inl (T 0, 16, .inl ((xcl N f).2))), (a2, .inl (T 0, 16, .inl g))]) t.heap) (va_A ([(h0, .inr (2, [.int sh, .ref a0, .int an, .int gl])), (a0, .inr (1, [.ref a1, .ref a2])), (a1, .inl (T 0, 16, .inl f)), (a2, .inl (T 0, 16, .inl g))]) sz)) 0 0 (va_A ([(h0, .inr (2, [.int sh, .ref a0, .int an, .int gl])), (a0, .inr (1, [.ref a1, .ref a2])), (a1, .inl (T 0, 16, .inl f)), (a2, .inl (T 0, 16, .inl g))]) sz) := by
  refine Met.ofW (cc := cX2_concludes) (maxL := 4) (ret := (some .boolean)) (by decide +kernel) rfl ?_
  intro p e s m args below meth c s₁ B hml hv
  obtain ⟨rfl, hsz, hP, hK, hD0, hXB, hZ⟩ := hv
  have hx := B.exec
  have hb := B.bytes
  have hr := B.returns
  have hts := atoms_spec (ws := wsX2_concludes) B.pre
  have hown : s.vm.findClass RX2 = some m.cls := findClass_of_methodNamed B.named
  have hlocks := B.notSynchronized
  subst hsz
  have hD := hD0.self (sz := s.heap.size)
  generalize hAe : va_A ([(h0, .inr (2, [.int sh, .ref a0, .int an, .int gl])), (a0, .inr (1, [.ref a1, .ref a2])), (a1, .inl (T 0, 16, .inl f)), (a2, .inl (T 0, 16, .inl g))]) s.heap.size = A at hD hZ ⊢
  have hA : ∀ q : Nat, s.heap.size ≤ q → A q := fun q h => by rw [← hAe]; exact Or.inr h
  have hS : va_S A s.heap s.heap [] := va_S.rf
  have hP : va_P G vwCl ([(h0, .inr (2, [.int sh, .ref a0, .int an, .int gl])), (a0, .inr (1, [.ref a1, .ref a2])), (a1, .inl (T 0, 16, .inl f)), (a2, .inl (T 0, 16, .inl g))]) s.heap := hP
  have hiX2 : ∀ w ∈ u_ws RX2 TX2 4, w ∈ wsX2_concludes := by decide +kernel
  have hl := lv_entry ([.ref h0]) (n := 4) (Nat.le_of_ble_eq_true rfl)
  rw [lg_entry_eq]
  generalize (lg_sl ([.ref h0]) ++ List.replicate (4 - (lg_sl ([.ref h0])).length) Slot.unset).toArray = ls at hl ⊢
  have hl : lv_has ls 4 [(0, .ref h0)] := hl
  refine lv_iconst (v := nI 1) hx hb dX2_concludes_0 (by decide) ?_
  refine lv_istore_n (lv' := [(1, .int (nI 1)), (0, .ref h0)]) hx hb dX2_concludes_1 rfl hl (by decide) rfl (fun ls hl => ?_)
  refine lv_iconst (v := nI 0) hx hb dX2_concludes_2 (by decide) ?_
  refine lv_istore_n (lv' := [(2, .int (nI 0)), (1, .int (nI 1)), (0, .ref h0)]) hx hb dX2_concludes_3 rfl hl (by decide) rfl (fun ls hl => ?_)
  suffices LP1 : ∀ (n1 : Nat) (f1 : Nat → Int32) (ch : Bool) (rd : Nat), (rd ≤ N) → (N < rd + n1) → ((if ch then xcl (N - rd) f1 else (true, f1)) = xcl N f) → ∀ (H : Heap) (locs : List Loc), va_P G vwCl ([(h0, .inr (2, [.int sh, .ref a0, .int an, .int gl])), (a0, .inr (1, [.ref a1, .ref a2])), (a1, .inl (T 0, 16, .inl f1)), (a2, .inl (T 0, 16, .inl g))]) H → va_D A ([(h0, .inr (2, [.int sh, .ref a0, .int an, .int gl])), (a0, .inr (1, [.ref a1, .ref a2])), (a1, .inl (T 0, 16, .inl f1)), (a2, .inl (T 0, 16, .inl g))]) → va_S A s.heap H locs → ∀ (ls : Array Slot), lv_has ls 4 [(2, .int (nI rd)), (1, .int (xb ch)), (0, .ref h0)] → W p l e (headSpec wsX2_concludes ({ frames := 3, cells := 0, slots := 0, locals := 67 })).room s m ([.ref h0] : List Value).toArray below meth c H locs 0 0 (MQ below (va_Qi (fun (r : Int32) (u : Unit) => r = xb (xcl N f).1) (fun u t => va_P G vwCl ([(h0, .inr (2, [.int sh, .ref a0, .int an, .int gl])), (a0, .inr (1, [.ref a1, .ref a2])), (a1, .inl (T 0, 16, .inl ((xcl N f).2))), (a2, .inl (T 0, 16, .inl g))]) t.heap) A) ([.ref h0] : List Value).toArray s 0 0 A) (F0 m 4 ls []) from LP1 258 f true 0 (by omega) (by omega) rfl _ _ hP hD hS ls (lv_sub hl [0, 1, 2] rfl)
  clear hP hD hS hl
  intro n1
  induction n1 with
  | zero => intro f1 ch rd hrd hn hv H locs _ _ _ ls _; exfalso; omega
  | succ n1 ih1 =>
    intro f1 ch rd hrd hn hv H locs hP hD hS ls hl
    refine lv_iload_n hx hb dX2_concludes_4 rfl (lv_at hl 1 rfl) ?_
    cases ch with
    | false =>
      rw [if_neg Bool.false_ne_true] at hv
      refine lv_if_eq (tgt := 74) hx hb dX2_concludes_5 (by decide) (fun _ => ?_) (fun c_ => absurd (rfl) c_)
      refine lv_iconst (v := nI 1) hx hb dX2_concludes_74 (by decide) ?_
      have e2 : (xcl N f).2 = f1 := by rw [← hv]
      have e3 : (xcl N f).1 = true := by rw [← hv]
      have hP : va_P G vwCl ([(h0, .inr (2, [.int sh, .ref a0, .int an, .int gl])), (a0, .inr (1, [.ref a1, .ref a2])), (a1, .inl (T 0, 16, .inl ((xcl N f).2))), (a2, .inl (T 0, 16, .inl g))]) H := by rw [e2]; exact hP
      exact W.zret (v := nI 1) hx hb hr rfl (fun t ht hW => ⟨⟨nI 1, (), rfl, by rw [e3]; rfl, x_at ht hP⟩, hS.F ht⟩) hS.2.2 dX2_concludes_75
    | true =>
      rw [if_pos rfl] at hv
      refine lv_if_eq (tgt := 74) hx hb dX2_concludes_5 (by decide) (fun c_ => absurd c_ (by decide)) (fun _ => ?_)
      refine lv_iload_n hx hb dX2_concludes_8 rfl (lv_at hl 0 rfl) ?_
      refine lv_sipush (v := nI 256) hx hb dX2_concludes_9 (by decide) ?_
      by_cases hrd2 : rd ≤ 256
      · refine lv_icmp_gt (tgt := 74) hx hb dX2_concludes_12 (by decide) (fun c_ => absurd c_ (nI_ngt (by omega) (by omega))) (fun _ => ?_)
        refine lv_iconst (v := nI 0) hx hb dX2_concludes_15 (by decide) ?_
        refine lv_istore_n (lv' := [(1, .int (nI 0)), (2, .int (nI rd)), (0, .ref h0)]) hx hb dX2_concludes_16 rfl hl (by decide) rfl (fun ls hl => ?_)
        refine lv_iconst (v := nI 0) hx hb dX2_concludes_17 (by decide) ?_
        refine lv_istore_n (lv' := [(3, .int (nI 0)), (1, .int (nI 0)), (2, .int (nI rd)), (0, .ref h0)]) hx hb dX2_concludes_18 rfl hl (by decide) rfl (fun ls hl => ?_)
        suffices LP2 : ∀ (n2 : Nat) (i : Nat), (i ≤ 16) → (16 < i + n2) → ∀ (H : Heap) (locs : List Loc), va_P G vwCl ([(h0, .inr (2, [.int sh, .ref a0, .int an, .int gl])), (a0, .inr (1, [.ref a1, .ref a2])), (a1, .inl (T 0, 16, .inl (xrp f1 i))), (a2, .inl (T 0, 16, .inl g))]) H → va_D A ([(h0, .inr (2, [.int sh, .ref a0, .int an, .int gl])), (a0, .inr (1, [.ref a1, .ref a2])), (a1, .inl (T 0, 16, .inl (xrp f1 i))), (a2, .inl (T 0, 16, .inl g))]) → va_S A s.heap H locs → ∀ (ls : Array Slot), lv_has ls 4 [(3, .int (nI i)), (1, .int (xb (xrc f1 i))), (2, .int (nI rd)), (0, .ref h0)] → W p l e (headSpec wsX2_concludes ({ frames := 3, cells := 0, slots := 0, locals := 67 })).room s m ([.ref h0] : List Value).toArray below meth c H locs 0 0 (MQ below (va_Qi (fun (r : Int32) (u : Unit) => r = xb (xcl N f).1) (fun u t => va_P G vwCl ([(h0, .inr (2, [.int sh, .ref a0, .int an, .int gl])), (a0, .inr (1, [.ref a1, .ref a2])), (a1, .inl (T 0, 16, .inl ((xcl N f).2))), (a2, .inl (T 0, 16, .inl g))]) t.heap) A) ([.ref h0] : List Value).toArray s 0 0 A) (F0 m 19 ls []) from LP2 17 0 (by decide) (by decide) _ _ hP hD hS ls (lv_sub hl [0, 1, 2, 3] rfl)
        clear hP hD hS hl
        intro n2
        induction n2 with
        | zero => intro i hi hn2 H locs _ _ _ ls _; exfalso; omega
        | succ n2 ih2 =>
          intro i hi hn2 H locs hP hD hS ls hl
          refine lv_iload_n hx hb dX2_concludes_19 rfl (lv_at hl 0 rfl) ?_
          refine lv_bipush (v := nI 16) hx hb dX2_concludes_20 (by decide) ?_
          by_cases hc : i < 16
          · refine lv_icmp_ge (tgt := 55) hx hb dX2_concludes_22 (by decide) (fun c_ => absurd c_ (nI_ge hc (by decide))) (fun _ => ?_)
            refine lv_aload_n hx hb dX2_concludes_25 rfl (lv_at hl 3 rfl) ?_
            refine va_get (D := G) (ci := 2) (v := .ref a0) (C := RX2) (T := TX2) (N := 4) hx hb hts hiX2 hown hK hP 0 rfl rfl 1 (by decide) (hts (.fieldLink RX2 12 "CardFans$Watcher" "thoughts" "LCardFans$Row;") (by decide +kernel)) (fun _ h9 => h9) rfl dX2_concludes_26 ?_
            refine lv_iload_n hx hb dX2_concludes_29 rfl (lv_at hl 0 rfl) ?_
            refine x_calli (va_runV (As := [.int (nI i)]) (rest := []) ⟨hx, hb, hml, hown, hts⟩ (c_X1_at l G T _ a0 a1 a2 (xrp f1 i) g i hc) (cwV 1 hts gX2_concludes_X1_at rfl rfl rfl (by decide +kernel) ⟨Nat.le_of_ble_eq_true rfl, Nat.le_of_ble_eq_true rfl⟩) (x_preV (wc := [(a0, .inr (1, [.ref a1, .ref a2])), (a1, .inl (T 0, 16, .inl (xrp f1 i))), (a2, .inl (T 0, 16, .inl g))]) hK hP hD hS hA hXB hZ [1, 2, 3] rfl rfl _ _ 1 1 rfl rfl) rfl rfl hl.1 rfl (lv_room (Nat.le_of_ble_eq_true rfl)) dX2_concludes_30 ⟨Nat.le_of_ble_eq_true rfl, Nat.le_of_ble_eq_true rfl⟩) hP hD hS hA [1, 2, 3] rfl (fun _ _ _ => rfl) (fun r1 u H locs hw1 hP hD hS => ?_)
            have hP : va_P G vwCl ([(h0, .inr (2, [.int sh, .ref a0, .int an, .int gl])), (a0, .inr (1, [.ref a1, .ref a2])), (a1, .inl (T 0, 16, .inl (xrp f1 i))), (a2, .inl (T 0, 16, .inl g))]) H := hP
            have hD : va_D A ([(h0, .inr (2, [.int sh, .ref a0, .int an, .int gl])), (a0, .inr (1, [.ref a1, .ref a2])), (a1, .inl (T 0, 16, .inl (xrp f1 i))), (a2, .inl (T 0, 16, .inl g))]) := hD
            subst hw1
            refine x_calli (va_runSN (As := [.int (xrp f1 i i)]) (rest := []) ⟨hx, hb, hml, hown, hts⟩ (c_X3_isOneAlone l G T _ (xrp f1 i i)) (⟨va_cnB 1 hts gX2_concludes_X3_isOneAlone_n51 rfl rfl rfl (hXB.1 (.methodLinkNest RX2 51 yX3_isOneAlone "CardFans") (by decide +kernel)) (hts (.initialized RX3) (by decide +kernel)) (by decide +kernel) ⟨Nat.le_of_ble_eq_true rfl, Nat.le_of_ble_eq_true rfl⟩, hts (.static yX3_isOneAlone) (by decide +kernel), trivial⟩) (x_preS (wc := []) hK hP hD hS hA hXB hZ [] rfl rfl _) rfl rfl hl.1 rfl (lv_room (Nat.le_of_ble_eq_true rfl)) dX2_concludes_33 ⟨Nat.le_of_ble_eq_true rfl, Nat.le_of_ble_eq_true rfl⟩) hP hD hS hA [] rfl (fun _ _ _ => rfl) (fun r2 u H locs hw2 hP hD hS => ?_)
            have hP : va_P G vwCl ([(h0, .inr (2, [.int sh, .ref a0, .int an, .int gl])), (a0, .inr (1, [.ref a1, .ref a2])), (a1, .inl (T 0, 16, .inl (xrp f1 i))), (a2, .inl (T 0, 16, .inl g))]) H := hP
            have hD : va_D A ([(h0, .inr (2, [.int sh, .ref a0, .int an, .int gl])), (a0, .inr (1, [.ref a1, .ref a2])), (a1, .inl (T 0, 16, .inl (xrp f1 i))), (a2, .inl (T 0, 16, .inl g))]) := hD
            refine lv_if_eq (tgt := 49) hx hb dX2_concludes_36 (by decide) (fun c1 => ?_) (fun c1 => ?_)
            · have h1 := xb_of_eq hw2 c1
              have e1 : xrp f1 (i + 1) = xrp f1 i := by show (if _ then _ else _) = _; rw [h1]; rfl
              have e2 : xrc f1 (i + 1) = xrc f1 i := by show (_ || (_ && _)) = _; rw [h1, Bool.false_and, Bool.or_false]
              refine lv_iinc (v := nI (i + 1)) (lv' := [(3, .int (nI (i + 1))), (1, .int (xb (xrc f1 i))), (2, .int (nI rd)), (0, .ref h0)]) hx hb dX2_concludes_49 hl (k := 0) rfl (x_inc _) (by decide) rfl (fun ls hl => ?_)
              refine lv_goto (tgt := 19) hx hb dX2_concludes_52 (by decide) ?_
              rw [← e1] at hP hD; rw [← e2] at hl
              exact ih2 (i + 1) (by omega) (by omega) _ _ hP hD hS ls (lv_sub hl [0, 1, 2, 3] rfl)
            · have h1 := xb_of_ne hw2 c1
              refine lv_aload_n hx hb dX2_concludes_39 rfl (lv_at hl 3 rfl) ?_
              refine lv_iload_n hx hb dX2_concludes_40 rfl (lv_at hl 0 rfl) ?_
              refine x_calli (va_runV (As := [.int (nI i)]) (rest := []) ⟨hx, hb, hml, hown, hts⟩ (c_X2_strikesElsewhere l G T _ h0 a0 a1 a2 sh an gl (xrp f1 i) g i hc) (cwV 1 hts gX2_concludes_X2_strikesElsewhere rfl rfl rfl (by decide +kernel) ⟨Nat.le_of_ble_eq_true rfl, Nat.le_of_ble_eq_true rfl⟩) (x_preV (wc := [(h0, .inr (2, [.int sh, .ref a0, .int an, .int gl])), (a0, .inr (1, [.ref a1, .ref a2])), (a1, .inl (T 0, 16, .inl (xrp f1 i))), (a2, .inl (T 0, 16, .inl g))]) hK hP hD hS hA hXB hZ [0, 1, 2, 3] rfl rfl _ _ 0 2 rfl rfl) rfl rfl hl.1 rfl (lv_room (Nat.le_of_ble_eq_true rfl)) dX2_concludes_41 ⟨Nat.le_of_ble_eq_true rfl, Nat.le_of_ble_eq_true rfl⟩) hP hD hS hA [0, 1, 2, 3] rfl (fun _ _ _ => rfl) (fun r3 u H locs hw3 hP hD hS => ?_)
              have hP : va_P G vwCl ([(h0, .inr (2, [.int sh, .ref a0, .int an, .int gl])), (a0, .inr (1, [.ref a1, .ref a2])), (a1, .inl (T 0, 16, .inl (xse (xrp f1 i) i (xrp f1 i i) 16))), (a2, .inl (T 0, 16, .inl g))]) H := hP
              have hD : va_D A ([(h0, .inr (2, [.int sh, .ref a0, .int an, .int gl])), (a0, .inr (1, [.ref a1, .ref a2])), (a1, .inl (T 0, 16, .inl (xse (xrp f1 i) i (xrp f1 i i) 16))), (a2, .inl (T 0, 16, .inl g))]) := hD
              have e1 : xrp f1 (i + 1) = xse (xrp f1 i) i (xrp f1 i i) 16 := by show (if _ then _ else _) = _; rw [h1]; rfl
              refine lv_if_eq (tgt := 49) hx hb dX2_concludes_44 (by decide) (fun c2 => ?_) (fun c2 => ?_)
              · have e2 : xrc f1 (i + 1) = xrc f1 i := by show (_ || (_ && _)) = _; rw [xb_of_eq hw3 c2, Bool.and_false, Bool.or_false]
                refine lv_iinc (v := nI (i + 1)) (lv' := [(3, .int (nI (i + 1))), (1, .int (xb (xrc f1 i))), (2, .int (nI rd)), (0, .ref h0)]) hx hb dX2_concludes_49 hl (k := 0) rfl (x_inc _) (by decide) rfl (fun ls hl => ?_)
                refine lv_goto (tgt := 19) hx hb dX2_concludes_52 (by decide) ?_
                rw [← e1] at hP hD; rw [← e2] at hl
                exact ih2 (i + 1) (by omega) (by omega) _ _ hP hD hS ls (lv_sub hl [0, 1, 2, 3] rfl)
              · have e2 : xb (xrc f1 (i + 1)) = nI 1 := by show xb (_ || (_ && _)) = _; rw [xb_of_ne hw3 c2, h1, Bool.and_true, Bool.or_true]; rfl
                refine lv_iconst (v := nI 1) hx hb dX2_concludes_47 (by decide) ?_
                refine lv_istore_n (lv' := [(1, .int (nI 1)), (3, .int (nI i)), (2, .int (nI rd)), (0, .ref h0)]) hx hb dX2_concludes_48 rfl hl (by decide) rfl (fun ls hl => ?_)
                refine lv_iinc (v := nI (i + 1)) (lv' := [(3, .int (nI (i + 1))), (1, .int (nI 1)), (2, .int (nI rd)), (0, .ref h0)]) hx hb dX2_concludes_49 hl (k := 1) rfl (x_inc _) (by decide) rfl (fun ls hl => ?_)
                refine lv_goto (tgt := 19) hx hb dX2_concludes_52 (by decide) ?_
                rw [← e1] at hP hD; rw [← e2] at hl
                exact ih2 (i + 1) (by omega) (by omega) _ _ hP hD hS ls (lv_sub hl [0, 1, 2, 3] rfl)
          · obtain rfl : i = 16 := by omega
            refine lv_icmp_ge (tgt := 55) hx hb dX2_concludes_22 (by decide) (fun _ => ?_) (fun c_ => absurd (nI_le (by omega) (by omega)) c_)
            refine lv_aload_n hx hb dX2_concludes_55 rfl (lv_at hl 3 rfl) ?_
            refine va_get (D := G) (ci := 2) (v := .ref a0) (C := RX2) (T := TX2) (N := 4) hx hb hts hiX2 hown hK hP 0 rfl rfl 1 (by decide) (hts (.fieldLink RX2 12 "CardFans$Watcher" "thoughts" "LCardFans$Row;") (by decide +kernel)) (fun _ h9 => h9) rfl dX2_concludes_56 ?_
            refine lv_iconst (v := nI 0) hx hb dX2_concludes_59 (by decide) ?_
            refine x_calli (va_runV (As := [.int (nI 0)]) (rest := []) ⟨hx, hb, hml, hown, hts⟩ (c_X1_firstPlaceOf l G T _ a0 a1 a2 (xrp f1 16) g (nI 0)) (cwV 1 hts gX2_concludes_X1_firstPlaceOf rfl rfl rfl (by decide +kernel) ⟨Nat.le_of_ble_eq_true rfl, Nat.le_of_ble_eq_true rfl⟩) (x_preV (wc := [(a0, .inr (1, [.ref a1, .ref a2])), (a1, .inl (T 0, 16, .inl (xrp f1 16))), (a2, .inl (T 0, 16, .inl g))]) hK hP hD hS hA hXB hZ [1, 2, 3] rfl rfl _ _ 1 1 rfl rfl) rfl rfl hl.1 rfl (lv_room (Nat.le_of_ble_eq_true rfl)) dX2_concludes_60 ⟨Nat.le_of_ble_eq_true rfl, Nat.le_of_ble_eq_true rfl⟩) hP hD hS hA [1, 2, 3] rfl (fun _ _ _ => rfl) (fun r3 u H locs hw3 hP hD hS => ?_)
            have hP : va_P G vwCl ([(h0, .inr (2, [.int sh, .ref a0, .int an, .int gl])), (a0, .inr (1, [.ref a1, .ref a2])), (a1, .inl (T 0, 16, .inl (xrp f1 16))), (a2, .inl (T 0, 16, .inl g))]) H := hP
            have hD : va_D A ([(h0, .inr (2, [.int sh, .ref a0, .int an, .int gl])), (a0, .inr (1, [.ref a1, .ref a2])), (a1, .inl (T 0, 16, .inl (xrp f1 16))), (a2, .inl (T 0, 16, .inl g))]) := hD
            have hz := xfp_neg hw3
            obtain ⟨z, hz2⟩ : ∃ z, N - rd = z + 1 := ⟨256 - rd, by omega⟩
            rw [hz2, xcl_s] at hv
            refine lv_if_lt (tgt := 68) hx hb dX2_concludes_63 (by decide) (fun c3 => ?_) (fun c3 => ?_)
            · have hzf := hz.mp c3
              rw [hzf, if_neg Bool.false_ne_true] at hv
              refine lv_iinc (v := nI (rd + 1)) (lv' := [(2, .int (nI (rd + 1))), (3, .int (nI 16)), (1, .int (xb (xrc f1 16))), (0, .ref h0)]) hx hb dX2_concludes_68 hl (k := 2) rfl (x_inc _) (by decide) rfl (fun ls hl => ?_)
              refine lv_goto (tgt := 4) hx hb dX2_concludes_71 (by decide) ?_
              exact ih1 (xrp f1 16) (xrc f1 16) (rd + 1) (by omega) (by omega) (by rw [show N - (rd + 1) = z by omega]; exact hv) _ _ hP hD hS ls (lv_sub hl [0, 2, 3] rfl)
            · have hzt : xz (xrp f1 16) = true := by cases hb9 : xz (xrp f1 16) with | true => rfl | false => exact absurd (hz.mpr hb9) c3
              rw [hzt, if_pos rfl] at hv
              refine lv_iconst (v := nI 0) hx hb dX2_concludes_66 (by decide) ?_
              have e2 : (xcl N f).2 = xrp f1 16 := by rw [← hv]
              have e3 : (xcl N f).1 = false := by rw [← hv]
              have hP : va_P G vwCl ([(h0, .inr (2, [.int sh, .ref a0, .int an, .int gl])), (a0, .inr (1, [.ref a1, .ref a2])), (a1, .inl (T 0, 16, .inl ((xcl N f).2))), (a2, .inl (T 0, 16, .inl g))]) H := by rw [e2]; exact hP
              exact W.zret (v := nI 0) hx hb hr rfl (fun t ht hW => ⟨⟨nI 0, (), rfl, by rw [e3]; rfl, x_at ht hP⟩, hS.F ht⟩) hS.2.2 dX2_concludes_67
      · obtain rfl : rd = N := by omega
        rw [Nat.sub_self] at hv
        have hv : (true, f1) = xcl rd f := hv
        refine lv_icmp_gt (tgt := 74) hx hb dX2_concludes_12 (by decide) (fun _ => ?_) (fun c_ => absurd (nI_lt (by omega) (by omega)) c_)
        have hN2 := hN
        refine lv_iconst (v := nI 1) hx hb dX2_concludes_74 (by decide) ?_
        have e2 : (xcl rd f).2 = f1 := by rw [← hv]
        have e3 : (xcl rd f).1 = true := by rw [← hv]
        have hP : va_P G vwCl ([(h0, .inr (2, [.int sh, .ref a0, .int an, .int gl])), (a0, .inr (1, [.ref a1, .ref a2])), (a1, .inl (T 0, 16, .inl ((xcl rd f).2))), (a2, .inl (T 0, 16, .inl g))]) H := by rw [e2]; exact hP
        exact W.zret (v := nI 1) hx hb hr rfl (fun t ht hW => ⟨⟨nI 1, (), rfl, by rw [e3]; rfl, x_at ht hP⟩, hS.F ht⟩) hS.2.2 dX2_concludes_75

set_option maxHeartbeats 4000000 in
set_option maxRecDepth 100000 in
/-- thinkAnew -/
theorem c_X2_thinkAnew (l : Launch) (G : va_G) (T : Nat → ClassId) (sz : Nat) (h0 : Nat) (a0 a1 a2 : Nat) (sh an gl : Int32) (f g : Nat → Int32) (k : Nat) (hk : k < 16) (x : Int32) : Met l yX2_thinkAnew wsX2_thinkAnew ({ frames := 2, cells := 0, slots := 0, locals := 42 }) (va_Pc [.ref h0, .int (nI k), .int x] (xPre G T ([(h0, .inr (2, [.int sh, .ref a0, .int an, .int gl])), (a0, .inr (1, [.ref a1, .ref a2])), (a1, .inl (T 0, 16, .inl f)), (a2, .inl (T 0, 16, .inl g))]) sz)) (va_Qv (fun (u : Unit) => True) (fun u t => va_P G vwCl ([(h0, .inr (2, [.int sh, .ref a0, .int an, .int gl])), (a0, .inr (1, [.ref a1, .ref a2])), (a1, .inl (T 0, 16, .inl (upd (fun _ => nI 65535 &&& (xso x ^^^ (-1))) k (xso x)))), (a2, .inl (T 0, 16, .inl g))]) t.heap) (va_A ([(h0, .inr (2, [.int sh, .ref a0, .int an, .int gl])), (a0, .inr (1, [.ref a1, .ref a2])), (a1, .inl (T 0, 16, .inl f)), (a2, .inl (T 0, 16, .inl g))]) sz)) 0 0 (va_A ([(h0, .inr (2, [.int sh, .ref a0, .int an, .int gl])), (a0, .inr (1, [.ref a1, .ref a2])), (a1, .inl (T 0, 16, .inl f)), (a2, .inl (T 0, 16, .inl g))]) sz) := by
  refine Met.ofW (cc := cX2_thinkAnew) (maxL := 4) (ret := none) (by decide +kernel) rfl ?_
  intro p e s m args below meth c s₁ B hml hv
  obtain ⟨rfl, hsz, hP, hK, hD0, hXB, hZ⟩ := hv
  have hx := B.exec
  have hb := B.bytes
  have hr := B.returns
  have hts := atoms_spec (ws := wsX2_thinkAnew) B.pre
  have hown : s.vm.findClass RX2 = some m.cls := findClass_of_methodNamed B.named
  have hlocks := B.notSynchronized
  subst hsz
  have hD := hD0.self (sz := s.heap.size)
  generalize hAe : va_A ([(h0, .inr (2, [.int sh, .ref a0, .int an, .int gl])), (a0, .inr (1, [.ref a1, .ref a2])), (a1, .inl (T 0, 16, .inl f)), (a2, .inl (T 0, 16, .inl g))]) s.heap.size = A at hD hZ ⊢
  have hA : ∀ q : Nat, s.heap.size ≤ q → A q := fun q h => by rw [← hAe]; exact Or.inr h
  have hS : va_S A s.heap s.heap [] := va_S.rf
  have hP : va_P G vwCl ([(h0, .inr (2, [.int sh, .ref a0, .int an, .int gl])), (a0, .inr (1, [.ref a1, .ref a2])), (a1, .inl (T 0, 16, .inl f)), (a2, .inl (T 0, 16, .inl g))]) s.heap := hP
  have hiX2 : ∀ w ∈ u_ws RX2 TX2 4, w ∈ wsX2_thinkAnew := by decide +kernel
  have hl := lv_entry ([.ref h0, .int (nI k), .int x]) (n := 4) (Nat.le_of_ble_eq_true rfl)
  rw [lg_entry_eq]
  generalize (lg_sl ([.ref h0, .int (nI k), .int x]) ++ List.replicate (4 - (lg_sl ([.ref h0, .int (nI k), .int x])).length) Slot.unset).toArray = ls at hl ⊢
  have hl : lv_has ls 4 [(0, .ref h0), (1, .int (nI k)), (2, .int x)] := hl
  refine lv_iconst (v := nI 0) hx hb dX2_thinkAnew_0 (by decide) ?_
  refine lv_istore_n (lv' := [(3, .int (nI 0)), (0, .ref h0), (1, .int (nI k)), (2, .int x)]) hx hb dX2_thinkAnew_1 rfl hl (by decide) rfl (fun ls hl => ?_)
  suffices LP : ∀ (n : Nat) (i : Nat) (f : Nat → Int32), (i ≤ 16) → (16 < i + n) → (∀ j, j < i → f j = nI 65535 &&& (xso x ^^^ (-1))) → ∀ (H : Heap) (locs : List Loc), va_P G vwCl ([(h0, .inr (2, [.int sh, .ref a0, .int an, .int gl])), (a0, .inr (1, [.ref a1, .ref a2])), (a1, .inl (T 0, 16, .inl f)), (a2, .inl (T 0, 16, .inl g))]) H → va_D A ([(h0, .inr (2, [.int sh, .ref a0, .int an, .int gl])), (a0, .inr (1, [.ref a1, .ref a2])), (a1, .inl (T 0, 16, .inl f)), (a2, .inl (T 0, 16, .inl g))]) → va_S A s.heap H locs → ∀ (ls : Array Slot), lv_has ls 4 [(3, .int (nI i)), (0, .ref h0), (1, .int (nI k)), (2, .int x)] → W p l e (headSpec wsX2_thinkAnew ({ frames := 2, cells := 0, slots := 0, locals := 42 })).room s m ([.ref h0, .int (nI k), .int x] : List Value).toArray below meth c H locs 0 0 (MQ below (va_Qv (fun (u : Unit) => True) (fun u t => va_P G vwCl ([(h0, .inr (2, [.int sh, .ref a0, .int an, .int gl])), (a0, .inr (1, [.ref a1, .ref a2])), (a1, .inl (T 0, 16, .inl (upd (fun _ => nI 65535 &&& (xso x ^^^ (-1))) k (xso x)))), (a2, .inl (T 0, 16, .inl g))]) t.heap) A) ([.ref h0, .int (nI k), .int x] : List Value).toArray s 0 0 A) (F0 m 2 ls []) from LP 17 0 _ (by decide) (by decide) (fun j hj => absurd hj (Nat.not_lt_zero j)) _ _ hP hD hS ls (lv_sub hl [0, 1, 2, 3] rfl)
  clear hP hD hS hl
  intro n
  induction n with
  | zero => intro i f hi hn hf H locs _ _ _ ls _; exfalso; omega
  | succ n ih =>
    intro i f hi hn hf H locs hP hD hS ls hl
    refine lv_iload_n hx hb dX2_thinkAnew_2 rfl (lv_at hl 0 rfl) ?_
    refine lv_bipush (v := nI 16) hx hb dX2_thinkAnew_3 (by decide) ?_
    by_cases hc : i < 16
    · refine lv_icmp_ge (tgt := 31) hx hb dX2_thinkAnew_5 (by decide) (fun c_ => absurd c_ (nI_ge hc (by decide))) (fun _ => ?_)
      refine lv_aload_n hx hb dX2_thinkAnew_8 rfl (lv_at hl 1 rfl) ?_
      refine va_get (D := G) (ci := 2) (v := .ref a0) (C := RX2) (T := TX2) (N := 4) hx hb hts hiX2 hown hK hP 0 rfl rfl 1 (by decide) (hts (.fieldLink RX2 12 "CardFans$Watcher" "thoughts" "LCardFans$Row;") (by decide +kernel)) (fun _ h9 => h9) rfl dX2_thinkAnew_9 ?_
      refine lv_iload_n hx hb dX2_thinkAnew_12 rfl (lv_at hl 0 rfl) ?_
      refine lv_ldc (v := nI 65535) hx hb hown (hts (.constant RX2 22 (65535)) (by decide +kernel)) dX2_thinkAnew_13 ?_
      refine lv_iload_n hx hb dX2_thinkAnew_15 rfl (lv_at hl 3 rfl) ?_
      refine x_calli (va_runSN (As := [.int x]) (rest := [.int (nI 65535), .int (nI i), .ref a0]) ⟨hx, hb, hml, hown, hts⟩ (c_X3_setOf l G T _ x) (⟨va_cnB 1 hts gX2_thinkAnew_X3_setOf_n34 rfl rfl rfl (hXB.1 (.methodLinkNest RX2 34 yX3_setOf "CardFans") (by decide +kernel)) (hts (.initialized RX3) (by decide +kernel)) (by decide +kernel) ⟨Nat.le_of_ble_eq_true rfl, Nat.le_of_ble_eq_true rfl⟩, hts (.static yX3_setOf) (by decide +kernel), trivial⟩) (x_preS (wc := []) hK hP hD hS hA hXB hZ [] rfl rfl _) rfl rfl hl.1 rfl (lv_room (Nat.le_of_ble_eq_true rfl)) dX2_thinkAnew_16 ⟨Nat.le_of_ble_eq_true rfl, Nat.le_of_ble_eq_true rfl⟩) hP hD hS hA [] rfl (fun _ _ _ => rfl) (fun r1 u H locs hw1 hP hD hS => ?_)
      have hP : va_P G vwCl ([(h0, .inr (2, [.int sh, .ref a0, .int an, .int gl])), (a0, .inr (1, [.ref a1, .ref a2])), (a1, .inl (T 0, 16, .inl f)), (a2, .inl (T 0, 16, .inl g))]) H := hP
      have hD : va_D A ([(h0, .inr (2, [.int sh, .ref a0, .int an, .int gl])), (a0, .inr (1, [.ref a1, .ref a2])), (a1, .inl (T 0, 16, .inl f)), (a2, .inl (T 0, 16, .inl g))]) := hD
      subst hw1
      refine lv_iconst (v := (-1)) hx hb dX2_thinkAnew_19 (by decide) ?_
      refine lv_ixor hx hb dX2_thinkAnew_20 ?_
      refine lv_iand hx hb dX2_thinkAnew_21 ?_
      refine x_callv (va_runV (As := [.int (nI i), .int (nI 65535 &&& ((xso x) ^^^ (-1)))]) (rest := []) ⟨hx, hb, hml, hown, hts⟩ (c_X1_put l G T _ a0 a1 a2 f g i hc (nI 65535 &&& (xso x ^^^ (-1)))) (cwV 2 hts gX2_thinkAnew_X1_put rfl rfl rfl (by decide +kernel) ⟨Nat.le_of_ble_eq_true rfl, Nat.le_of_ble_eq_true rfl⟩) (x_preV (wc := [(a0, .inr (1, [.ref a1, .ref a2])), (a1, .inl (T 0, 16, .inl f)), (a2, .inl (T 0, 16, .inl g))]) hK hP hD hS hA hXB hZ [1, 2, 3] rfl rfl _ _ 1 1 rfl rfl) rfl rfl hl.1 rfl (lv_room (Nat.le_of_ble_eq_true rfl)) dX2_thinkAnew_22 ⟨Nat.le_of_ble_eq_true rfl, Nat.le_of_ble_eq_true rfl⟩) hP hD hS hA [1, 2, 3] rfl (fun _ _ => rfl) (fun u1 H locs _ hP hD hS => ?_)
      have hP : va_P G vwCl ([(h0, .inr (2, [.int sh, .ref a0, .int an, .int gl])), (a0, .inr (1, [.ref a1, .ref a2])), (a1, .inl (T 0, 16, .inl (upd f i (nI 65535 &&& (xso x ^^^ (-1)))))), (a2, .inl (T 0, 16, .inl g))]) H := hP
      have hD : va_D A ([(h0, .inr (2, [.int sh, .ref a0, .int an, .int gl])), (a0, .inr (1, [.ref a1, .ref a2])), (a1, .inl (T 0, 16, .inl (upd f i (nI 65535 &&& (xso x ^^^ (-1)))))), (a2, .inl (T 0, 16, .inl g))]) := hD
      refine lv_iinc (v := nI (i + 1)) (lv' := [(3, .int (nI (i + 1))), (0, .ref h0), (1, .int (nI k)), (2, .int x)]) hx hb dX2_thinkAnew_25 hl (k := 0) rfl (x_inc _) (by decide) rfl (fun ls hl => ?_)
      refine lv_goto (tgt := 2) hx hb dX2_thinkAnew_28 (by decide) ?_
      exact ih (i + 1) _ (by omega) (by omega) (xlt_s (fun a ha => by rw [pk_un (by omega)]; exact hf a ha) (by rw [pk_us])) _ _ hP hD hS ls (lv_sub hl [0, 1, 2, 3] rfl)
    · refine lv_icmp_ge (tgt := 31) hx hb dX2_thinkAnew_5 (by decide) (fun _ => ?_) (fun c_ => absurd (nI_le (by omega) (by omega)) c_)
      refine lv_aload_n hx hb dX2_thinkAnew_31 rfl (lv_at hl 1 rfl) ?_
      refine va_get (D := G) (ci := 2) (v := .ref a0) (C := RX2) (T := TX2) (N := 4) hx hb hts hiX2 hown hK hP 0 rfl rfl 1 (by decide) (hts (.fieldLink RX2 12 "CardFans$Watcher" "thoughts" "LCardFans$Row;") (by decide +kernel)) (fun _ h9 => h9) rfl dX2_thinkAnew_32 ?_
      refine lv_iload_n hx hb dX2_thinkAnew_35 rfl (lv_at hl 2 rfl) ?_
      refine lv_iload_n hx hb dX2_thinkAnew_36 rfl (lv_at hl 3 rfl) ?_
      refine x_calli (va_runSN (As := [.int x]) (rest := [.int (nI k), .ref a0]) ⟨hx, hb, hml, hown, hts⟩ (c_X3_setOf l G T _ x) (⟨va_cnB 1 hts gX2_thinkAnew_X3_setOf_n34 rfl rfl rfl (hXB.1 (.methodLinkNest RX2 34 yX3_setOf "CardFans") (by decide +kernel)) (hts (.initialized RX3) (by decide +kernel)) (by decide +kernel) ⟨Nat.le_of_ble_eq_true rfl, Nat.le_of_ble_eq_true rfl⟩, hts (.static yX3_setOf) (by decide +kernel), trivial⟩) (x_preS (wc := []) hK hP hD hS hA hXB hZ [] rfl rfl _) rfl rfl hl.1 rfl (lv_room (Nat.le_of_ble_eq_true rfl)) dX2_thinkAnew_37 ⟨Nat.le_of_ble_eq_true rfl, Nat.le_of_ble_eq_true rfl⟩) hP hD hS hA [] rfl (fun _ _ _ => rfl) (fun r1 u H locs hw1 hP hD hS => ?_)
      have hP : va_P G vwCl ([(h0, .inr (2, [.int sh, .ref a0, .int an, .int gl])), (a0, .inr (1, [.ref a1, .ref a2])), (a1, .inl (T 0, 16, .inl f)), (a2, .inl (T 0, 16, .inl g))]) H := hP
      have hD : va_D A ([(h0, .inr (2, [.int sh, .ref a0, .int an, .int gl])), (a0, .inr (1, [.ref a1, .ref a2])), (a1, .inl (T 0, 16, .inl f)), (a2, .inl (T 0, 16, .inl g))]) := hD
      subst hw1
      refine x_callv (va_runV (As := [.int (nI k), .int (xso x)]) (rest := []) ⟨hx, hb, hml, hown, hts⟩ (c_X1_put l G T _ a0 a1 a2 f g k hk (xso x)) (cwV 2 hts gX2_thinkAnew_X1_put rfl rfl rfl (by decide +kernel) ⟨Nat.le_of_ble_eq_true rfl, Nat.le_of_ble_eq_true rfl⟩) (x_preV (wc := [(a0, .inr (1, [.ref a1, .ref a2])), (a1, .inl (T 0, 16, .inl f)), (a2, .inl (T 0, 16, .inl g))]) hK hP hD hS hA hXB hZ [1, 2, 3] rfl rfl _ _ 1 1 rfl rfl) rfl rfl hl.1 rfl (lv_room (Nat.le_of_ble_eq_true rfl)) dX2_thinkAnew_40 ⟨Nat.le_of_ble_eq_true rfl, Nat.le_of_ble_eq_true rfl⟩) hP hD hS hA [1, 2, 3] rfl (fun _ _ => rfl) (fun u1 H locs _ hP hD hS => ?_)
      have hP : va_P G vwCl ([(h0, .inr (2, [.int sh, .ref a0, .int an, .int gl])), (a0, .inr (1, [.ref a1, .ref a2])), (a1, .inl (T 0, 16, .inl (upd f k (xso x)))), (a2, .inl (T 0, 16, .inl g))]) H := hP
      have hD : va_D A ([(h0, .inr (2, [.int sh, .ref a0, .int an, .int gl])), (a0, .inr (1, [.ref a1, .ref a2])), (a1, .inl (T 0, 16, .inl (upd f k (xso x)))), (a2, .inl (T 0, 16, .inl g))]) := hD
      have hP := x_can hP 2 (g := (upd (fun _ => nI 65535 &&& (xso x ^^^ (-1))) k (xso x))) rfl (fun j hj => (Decidable.em (j = k)).elim (fun e => by subst e; rw [pk_us, pk_us]) (fun e => by rw [pk_un e, pk_un e]; exact hf j (by omega)))
      have hD := xd_set hD 2 (e := .inl (T 0, 16, .inl (upd (fun _ => nI 65535 &&& (xso x ^^^ (-1))) k (xso x)))) rfl
      have hP : va_P G vwCl ([(h0, .inr (2, [.int sh, .ref a0, .int an, .int gl])), (a0, .inr (1, [.ref a1, .ref a2])), (a1, .inl (T 0, 16, .inl (upd (fun _ => nI 65535 &&& (xso x ^^^ (-1))) k (xso x)))), (a2, .inl (T 0, 16, .inl g))]) H := hP
      have hD : va_D A ([(h0, .inr (2, [.int sh, .ref a0, .int an, .int gl])), (a0, .inr (1, [.ref a1, .ref a2])), (a1, .inl (T 0, 16, .inl (upd (fun _ => nI 65535 &&& (xso x ^^^ (-1))) k (xso x)))), (a2, .inl (T 0, 16, .inl g))]) := hD
      exact W.vret hx hb hr (fun t ht hW => ⟨⟨(), rfl, trivial, x_at ht hP⟩, hS.F ht⟩) hS.2.2 dX2_thinkAnew_43

set_option maxHeartbeats 4000000 in
set_option maxRecDepth 100000 in
/-- see -/
theorem c_X2_see (l : Launch) (G : va_G) (T : Nat → ClassId) (sz : Nat) (N : Nat) (hN : N = 257) (h0 : Nat) (a0 a1 a2 : Nat) (sh an gl : Int32) (f g : Nat → Int32) (k : Nat) (hk : k < 16) (x : Int32) : Met l yX2_see wsX2_see ({ frames := 4, cells := 0, slots := 0, locals := 91 }) (va_Pc [.ref h0, .int (nI k), .int x] (xPre G T ([(h0, .inr (2, [.int sh, .ref a0, .int an, .int gl])), (a0, .inr (1, [.ref a1, .ref a2])), (a1, .inl (T 0, 16, .inl f)), (a2, .inl (T 0, 16, .inl g))]) sz)) (va_Qv (fun (u : Unit) => True) (fun u t => va_P G vwCl ([(h0, .inr (2, [.int sh, .ref a0, .int (if (xcl N (upd f k (xso x))).1 then an else an + nI 1), .int (gl + nI 1)])), (a0, .inr (1, [.ref a1, .ref a2])), (a1, .inl (T 0, 16, .inl (xgl N f k (xso x)))), (a2, .inl (T 0, 16, .inl g))]) t.heap) (va_A ([(h0, .inr (2, [.int sh, .ref a0, .int an, .int gl])), (a0, .inr (1, [.ref a1, .ref a2])), (a1, .inl (T 0, 16, .inl f)), (a2, .inl (T 0, 16, .inl g))]) sz)) 0 0 (va_A ([(h0, .inr (2, [.int sh, .ref a0, .int an, .int gl])), (a0, .inr (1, [.ref a1, .ref a2])), (a1, .inl (T 0, 16, .inl f)), (a2, .inl (T 0, 16, .inl g))]) sz) := by
  refine Met.ofW (cc := cX2_see) (maxL := 3) (ret := none) (by decide +kernel) rfl ?_
  intro p e s m args below meth c s₁ B hml hv
  obtain ⟨rfl, hsz, hP, hK, hD0, hXB, hZ⟩ := hv
  have hx := B.exec
  have hb := B.bytes
  have hr := B.returns
  have hts := atoms_spec (ws := wsX2_see) B.pre
  have hown : s.vm.findClass RX2 = some m.cls := findClass_of_methodNamed B.named
  have hlocks := B.notSynchronized
  subst hsz
  have hD := hD0.self (sz := s.heap.size)
  generalize hAe : va_A ([(h0, .inr (2, [.int sh, .ref a0, .int an, .int gl])), (a0, .inr (1, [.ref a1, .ref a2])), (a1, .inl (T 0, 16, .inl f)), (a2, .inl (T 0, 16, .inl g))]) s.heap.size = A at hD hZ ⊢
  have hA : ∀ q : Nat, s.heap.size ≤ q → A q := fun q h => by rw [← hAe]; exact Or.inr h
  have hS : va_S A s.heap s.heap [] := va_S.rf
  have hP : va_P G vwCl ([(h0, .inr (2, [.int sh, .ref a0, .int an, .int gl])), (a0, .inr (1, [.ref a1, .ref a2])), (a1, .inl (T 0, 16, .inl f)), (a2, .inl (T 0, 16, .inl g))]) s.heap := hP
  have hiX2 : ∀ w ∈ u_ws RX2 TX2 4, w ∈ wsX2_see := by decide +kernel
  have hl := lv_entry ([.ref h0, .int (nI k), .int x]) (n := 3) (Nat.le_of_ble_eq_true rfl)
  rw [lg_entry_eq]
  generalize (lg_sl ([.ref h0, .int (nI k), .int x]) ++ List.replicate (3 - (lg_sl ([.ref h0, .int (nI k), .int x])).length) Slot.unset).toArray = ls at hl ⊢
  have hl : lv_has ls 3 [(0, .ref h0), (1, .int (nI k)), (2, .int x)] := hl
  refine lv_aload_n hx hb dX2_see_0 rfl (lv_at hl 0 rfl) ?_
  refine lv_dup hx hb dX2_see_1 rfl ?_
  refine va_get (D := G) (ci := 2) (v := .int gl) (C := RX2) (T := TX2) (N := 4) hx hb hts hiX2 hown hK hP 0 rfl rfl 3 (by decide) (hts (.fieldLink RX2 30 "CardFans$Watcher" "glimpses" "I") (by decide +kernel)) (fun _ h9 => h9) rfl dX2_see_2 ?_
  refine lv_iconst (v := nI 1) hx hb dX2_see_5 (by decide) ?_
  refine lv_iadd hx hb dX2_see_6 ?_
  refine va_put (D := G) (ci := 2) (v := .int (gl + nI 1)) (ty := .int) (C := RX2) (T := TX2) (N := 4) hx hb hts hiX2 tyX2 tyX2_ok nmX2 hown hK hP hD hS 0 rfl rfl 3 (by decide) (hts (.fieldLink RX2 30 "CardFans$Watcher" "glimpses" "I") (by decide +kernel)) (fun _ h9 => h9) rfl (by decide +kernel) rfl rfl (Nat.le_of_ble_eq_true rfl) dX2_see_7 (fun H locs hP hD hS => ?_)
  have hP : va_P G vwCl ([(h0, .inr (2, [.int sh, .ref a0, .int an, .int (gl + nI 1)])), (a0, .inr (1, [.ref a1, .ref a2])), (a1, .inl (T 0, 16, .inl f)), (a2, .inl (T 0, 16, .inl g))]) H := hP
  have hD : va_D A ([(h0, .inr (2, [.int sh, .ref a0, .int an, .int (gl + nI 1)])), (a0, .inr (1, [.ref a1, .ref a2])), (a1, .inl (T 0, 16, .inl f)), (a2, .inl (T 0, 16, .inl g))]) := hD
  refine lv_aload_n hx hb dX2_see_10 rfl (lv_at hl 0 rfl) ?_
  refine va_get (D := G) (ci := 2) (v := .ref a0) (C := RX2) (T := TX2) (N := 4) hx hb hts hiX2 hown hK hP 0 rfl rfl 1 (by decide) (hts (.fieldLink RX2 12 "CardFans$Watcher" "thoughts" "LCardFans$Row;") (by decide +kernel)) (fun _ h9 => h9) rfl dX2_see_11 ?_
  refine lv_iload_n hx hb dX2_see_14 rfl (lv_at hl 1 rfl) ?_
  refine lv_iload_n hx hb dX2_see_15 rfl (lv_at hl 2 rfl) ?_
  refine x_calli (va_runSN (As := [.int x]) (rest := [.int (nI k), .ref a0]) ⟨hx, hb, hml, hown, hts⟩ (c_X3_setOf l G T _ x) (⟨va_cnB 1 hts gX2_see_X3_setOf_n34 rfl rfl rfl (hXB.1 (.methodLinkNest RX2 34 yX3_setOf "CardFans") (by decide +kernel)) (hts (.initialized RX3) (by decide +kernel)) (by decide +kernel) ⟨Nat.le_of_ble_eq_true rfl, Nat.le_of_ble_eq_true rfl⟩, hts (.static yX3_setOf) (by decide +kernel), trivial⟩) (x_preS (wc := []) hK hP hD hS hA hXB hZ [] rfl rfl _) rfl rfl hl.1 rfl (lv_room (Nat.le_of_ble_eq_true rfl)) dX2_see_16 ⟨Nat.le_of_ble_eq_true rfl, Nat.le_of_ble_eq_true rfl⟩) hP hD hS hA [] rfl (fun _ _ _ => rfl) (fun r1 u H locs hw1 hP hD hS => ?_)
  have hP : va_P G vwCl ([(h0, .inr (2, [.int sh, .ref a0, .int an, .int (gl + nI 1)])), (a0, .inr (1, [.ref a1, .ref a2])), (a1, .inl (T 0, 16, .inl f)), (a2, .inl (T 0, 16, .inl g))]) H := hP
  have hD : va_D A ([(h0, .inr (2, [.int sh, .ref a0, .int an, .int (gl + nI 1)])), (a0, .inr (1, [.ref a1, .ref a2])), (a1, .inl (T 0, 16, .inl f)), (a2, .inl (T 0, 16, .inl g))]) := hD
  subst hw1
  refine x_callv (va_runV (As := [.int (nI k), .int (xso x)]) (rest := []) ⟨hx, hb, hml, hown, hts⟩ (c_X1_put l G T _ a0 a1 a2 f g k hk (xso x)) (cwV 2 hts gX2_see_X1_put rfl rfl rfl (by decide +kernel) ⟨Nat.le_of_ble_eq_true rfl, Nat.le_of_ble_eq_true rfl⟩) (x_preV (wc := [(a0, .inr (1, [.ref a1, .ref a2])), (a1, .inl (T 0, 16, .inl f)), (a2, .inl (T 0, 16, .inl g))]) hK hP hD hS hA hXB hZ [1, 2, 3] rfl rfl _ _ 1 1 rfl rfl) rfl rfl hl.1 rfl (lv_room (Nat.le_of_ble_eq_true rfl)) dX2_see_19 ⟨Nat.le_of_ble_eq_true rfl, Nat.le_of_ble_eq_true rfl⟩) hP hD hS hA [1, 2, 3] rfl (fun _ _ => rfl) (fun u1 H locs _ hP hD hS => ?_)
  have hP : va_P G vwCl ([(h0, .inr (2, [.int sh, .ref a0, .int an, .int (gl + nI 1)])), (a0, .inr (1, [.ref a1, .ref a2])), (a1, .inl (T 0, 16, .inl (upd f k (xso x)))), (a2, .inl (T 0, 16, .inl g))]) H := hP
  have hD : va_D A ([(h0, .inr (2, [.int sh, .ref a0, .int an, .int (gl + nI 1)])), (a0, .inr (1, [.ref a1, .ref a2])), (a1, .inl (T 0, 16, .inl (upd f k (xso x)))), (a2, .inl (T 0, 16, .inl g))]) := hD
  refine lv_aload_n hx hb dX2_see_22 rfl (lv_at hl 0 rfl) ?_
  refine x_calli (va_runV (As := []) (rest := []) ⟨hx, hb, hml, hown, hts⟩ (c_X2_concludes l G T _ N hN h0 a0 a1 a2 sh an (gl + nI 1) (upd f k (xso x)) g) (cwV 0 hts gX2_see_X2_concludes rfl rfl rfl (by decide +kernel) ⟨Nat.le_of_ble_eq_true rfl, Nat.le_of_ble_eq_true rfl⟩) (x_preV (wc := [(h0, .inr (2, [.int sh, .ref a0, .int an, .int (gl + nI 1)])), (a0, .inr (1, [.ref a1, .ref a2])), (a1, .inl (T 0, 16, .inl (upd f k (xso x)))), (a2, .inl (T 0, 16, .inl g))]) hK hP hD hS hA hXB hZ [0, 1, 2, 3] rfl rfl _ _ 0 2 rfl rfl) rfl rfl hl.1 rfl (lv_room (Nat.le_of_ble_eq_true rfl)) dX2_see_23 ⟨Nat.le_of_ble_eq_true rfl, Nat.le_of_ble_eq_true rfl⟩) hP hD hS hA [0, 1, 2, 3] rfl (fun _ _ _ => rfl) (fun r2 u H locs hw2 hP hD hS => ?_)
  have hP : va_P G vwCl ([(h0, .inr (2, [.int sh, .ref a0, .int an, .int (gl + nI 1)])), (a0, .inr (1, [.ref a1, .ref a2])), (a1, .inl (T 0, 16, .inl ((xcl N (upd f k (xso x))).2))), (a2, .inl (T 0, 16, .inl g))]) H := hP
  have hD : va_D A ([(h0, .inr (2, [.int sh, .ref a0, .int an, .int (gl + nI 1)])), (a0, .inr (1, [.ref a1, .ref a2])), (a1, .inl (T 0, 16, .inl ((xcl N (upd f k (xso x))).2))), (a2, .inl (T 0, 16, .inl g))]) := hD
  refine lv_if_ne (tgt := 45) hx hb dX2_see_26 (by decide) (fun c1 => ?_) (fun c1 => ?_)
  · have h1 := xb_of_ne hw2 c1
    have e1 : xgl N f k (xso x) = (xcl N (upd f k (xso x))).2 := by unfold xgl; rw [if_pos h1]
    have e2 : (if (xcl N (upd f k (xso x))).1 then an else an + nI 1) = an := if_pos h1
    have hP : va_P G vwCl ([(h0, .inr (2, [.int sh, .ref a0, .int (if (xcl N (upd f k (xso x))).1 then an else an + nI 1), .int (gl + nI 1)])), (a0, .inr (1, [.ref a1, .ref a2])), (a1, .inl (T 0, 16, .inl (xgl N f k (xso x)))), (a2, .inl (T 0, 16, .inl g))]) H := by rw [e1, e2]; exact hP
    exact W.vret hx hb hr (fun t ht hW => ⟨⟨(), rfl, trivial, x_at ht hP⟩, hS.F ht⟩) hS.2.2 dX2_see_45
  · have h1 := xb_of_eq hw2 c1
    refine lv_aload_n hx hb dX2_see_29 rfl (lv_at hl 0 rfl) ?_
    refine lv_iload_n hx hb dX2_see_30 rfl (lv_at hl 1 rfl) ?_
    refine lv_iload_n hx hb dX2_see_31 rfl (lv_at hl 2 rfl) ?_
    refine x_callv (va_runV (As := [.int (nI k), .int x]) (rest := []) ⟨hx, hb, hml, hown, hts⟩ (c_X2_thinkAnew l G T _ h0 a0 a1 a2 sh an (gl + nI 1) (xcl N (upd f k (xso x))).2 g k hk x) (cwV 2 hts gX2_see_X2_thinkAnew rfl rfl rfl (by decide +kernel) ⟨Nat.le_of_ble_eq_true rfl, Nat.le_of_ble_eq_true rfl⟩) (x_preV (wc := [(h0, .inr (2, [.int sh, .ref a0, .int an, .int (gl + nI 1)])), (a0, .inr (1, [.ref a1, .ref a2])), (a1, .inl (T 0, 16, .inl ((xcl N (upd f k (xso x))).2))), (a2, .inl (T 0, 16, .inl g))]) hK hP hD hS hA hXB hZ [0, 1, 2, 3] rfl rfl _ _ 0 2 rfl rfl) rfl rfl hl.1 rfl (lv_room (Nat.le_of_ble_eq_true rfl)) dX2_see_32 ⟨Nat.le_of_ble_eq_true rfl, Nat.le_of_ble_eq_true rfl⟩) hP hD hS hA [0, 1, 2, 3] rfl (fun _ _ => rfl) (fun u3 H locs _ hP hD hS => ?_)
    have hP : va_P G vwCl ([(h0, .inr (2, [.int sh, .ref a0, .int an, .int (gl + nI 1)])), (a0, .inr (1, [.ref a1, .ref a2])), (a1, .inl (T 0, 16, .inl (upd (fun _ => nI 65535 &&& (xso x ^^^ (-1))) k (xso x)))), (a2, .inl (T 0, 16, .inl g))]) H := hP
    have hD : va_D A ([(h0, .inr (2, [.int sh, .ref a0, .int an, .int (gl + nI 1)])), (a0, .inr (1, [.ref a1, .ref a2])), (a1, .inl (T 0, 16, .inl (upd (fun _ => nI 65535 &&& (xso x ^^^ (-1))) k (xso x)))), (a2, .inl (T 0, 16, .inl g))]) := hD
    refine lv_aload_n hx hb dX2_see_35 rfl (lv_at hl 0 rfl) ?_
    refine lv_dup hx hb dX2_see_36 rfl ?_
    refine va_get (D := G) (ci := 2) (v := .int an) (C := RX2) (T := TX2) (N := 4) hx hb hts hiX2 hown hK hP 0 rfl rfl 2 (by decide) (hts (.fieldLink RX2 45 "CardFans$Watcher" "timesAnew" "I") (by decide +kernel)) (fun _ h9 => h9) rfl dX2_see_37 ?_
    refine lv_iconst (v := nI 1) hx hb dX2_see_40 (by decide) ?_
    refine lv_iadd hx hb dX2_see_41 ?_
    refine va_put (D := G) (ci := 2) (v := .int (an + nI 1)) (ty := .int) (C := RX2) (T := TX2) (N := 4) hx hb hts hiX2 tyX2 tyX2_ok nmX2 hown hK hP hD hS 0 rfl rfl 2 (by decide) (hts (.fieldLink RX2 45 "CardFans$Watcher" "timesAnew" "I") (by decide +kernel)) (fun _ h9 => h9) rfl (by decide +kernel) rfl rfl (Nat.le_of_ble_eq_true rfl) dX2_see_42 (fun H locs hP hD hS => ?_)
    have hP : va_P G vwCl ([(h0, .inr (2, [.int sh, .ref a0, .int (an + nI 1), .int (gl + nI 1)])), (a0, .inr (1, [.ref a1, .ref a2])), (a1, .inl (T 0, 16, .inl (upd (fun _ => nI 65535 &&& (xso x ^^^ (-1))) k (xso x)))), (a2, .inl (T 0, 16, .inl g))]) H := hP
    have hD : va_D A ([(h0, .inr (2, [.int sh, .ref a0, .int (an + nI 1), .int (gl + nI 1)])), (a0, .inr (1, [.ref a1, .ref a2])), (a1, .inl (T 0, 16, .inl (upd (fun _ => nI 65535 &&& (xso x ^^^ (-1))) k (xso x)))), (a2, .inl (T 0, 16, .inl g))]) := hD
    have h2 : ¬ (xcl N (upd f k (xso x))).1 = true := by rw [h1]; exact Bool.false_ne_true
    have e1 : xgl N f k (xso x) = upd (fun _ => nI 65535 &&& (xso x ^^^ (-1))) k (xso x) := by unfold xgl; rw [if_neg h2]
    have e2 : (if (xcl N (upd f k (xso x))).1 then an else an + nI 1) = an + nI 1 := if_neg h2
    have hP : va_P G vwCl ([(h0, .inr (2, [.int sh, .ref a0, .int (if (xcl N (upd f k (xso x))).1 then an else an + nI 1), .int (gl + nI 1)])), (a0, .inr (1, [.ref a1, .ref a2])), (a1, .inl (T 0, 16, .inl (xgl N f k (xso x)))), (a2, .inl (T 0, 16, .inl g))]) H := by rw [e1, e2]; exact hP
    exact W.vret hx hb hr (fun t ht hW => ⟨⟨(), rfl, trivial, x_at ht hP⟩, hS.F ht⟩) hS.2.2 dX2_see_45

set_option maxHeartbeats 4000000 in
set_option maxRecDepth 100000 in
/-- placesHeldPossible -/
theorem c_X2_placesHeldPossible (l : Launch) (G : va_G) (T : Nat → ClassId) (sz : Nat) (h0 : Nat) (a0 a1 a2 : Nat) (sh an gl : Int32) (f g : Nat → Int32) (p0 p1 p2 : Nat) (pf pg : Nat → Int32) : Met l yX2_placesHeldPossible wsX2_placesHeldPossible ({ frames := 2, cells := 0, slots := 0, locals := 42 }) (va_Pc [.ref h0, .ref p0] (xPre G T ([(h0, .inr (2, [.int sh, .ref a0, .int an, .int gl])), (a0, .inr (1, [.ref a1, .ref a2])), (a1, .inl (T 0, 16, .inl f)), (a2, .inl (T 0, 16, .inl g)), (p0, .inr (1, [.ref p1, .ref p2])), (p1, .inl (T 0, 16, .inl pf)), (p2, .inl (T 0, 16, .inl pg))]) sz)) (va_Qi (fun (r : Int32) (u : Unit) => r = nI (xct (fun j => decide (¬ f j &&& xso (pf j) = 0)) 16)) (fun u t => va_P G vwCl ([(h0, .inr (2, [.int sh, .ref a0, .int an, .int gl])), (a0, .inr (1, [.ref a1, .ref a2])), (a1, .inl (T 0, 16, .inl f)), (a2, .inl (T 0, 16, .inl g)), (p0, .inr (1, [.ref p1, .ref p2])), (p1, .inl (T 0, 16, .inl pf)), (p2, .inl (T 0, 16, .inl pg))]) t.heap) (va_A ([(h0, .inr (2, [.int sh, .ref a0, .int an, .int gl])), (a0, .inr (1, [.ref a1, .ref a2])), (a1, .inl (T 0, 16, .inl f)), (a2, .inl (T 0, 16, .inl g)), (p0, .inr (1, [.ref p1, .ref p2])), (p1, .inl (T 0, 16, .inl pf)), (p2, .inl (T 0, 16, .inl pg))]) sz)) 0 0 (va_A ([(h0, .inr (2, [.int sh, .ref a0, .int an, .int gl])), (a0, .inr (1, [.ref a1, .ref a2])), (a1, .inl (T 0, 16, .inl f)), (a2, .inl (T 0, 16, .inl g)), (p0, .inr (1, [.ref p1, .ref p2])), (p1, .inl (T 0, 16, .inl pf)), (p2, .inl (T 0, 16, .inl pg))]) sz) := by
  refine Met.ofW (cc := cX2_placesHeldPossible) (maxL := 4) (ret := (some .int)) (by decide +kernel) rfl ?_
  intro p e s m args below meth c s₁ B hml hv
  obtain ⟨rfl, hsz, hP, hK, hD0, hXB, hZ⟩ := hv
  have hx := B.exec
  have hb := B.bytes
  have hr := B.returns
  have hts := atoms_spec (ws := wsX2_placesHeldPossible) B.pre
  have hown : s.vm.findClass RX2 = some m.cls := findClass_of_methodNamed B.named
  have hlocks := B.notSynchronized
  subst hsz
  have hD := hD0.self (sz := s.heap.size)
  generalize hAe : va_A ([(h0, .inr (2, [.int sh, .ref a0, .int an, .int gl])), (a0, .inr (1, [.ref a1, .ref a2])), (a1, .inl (T 0, 16, .inl f)), (a2, .inl (T 0, 16, .inl g)), (p0, .inr (1, [.ref p1, .ref p2])), (p1, .inl (T 0, 16, .inl pf)), (p2, .inl (T 0, 16, .inl pg))]) s.heap.size = A at hD hZ ⊢
  have hA : ∀ q : Nat, s.heap.size ≤ q → A q := fun q h => by rw [← hAe]; exact Or.inr h
  have hS : va_S A s.heap s.heap [] := va_S.rf
  have hP : va_P G vwCl ([(h0, .inr (2, [.int sh, .ref a0, .int an, .int gl])), (a0, .inr (1, [.ref a1, .ref a2])), (a1, .inl (T 0, 16, .inl f)), (a2, .inl (T 0, 16, .inl g)), (p0, .inr (1, [.ref p1, .ref p2])), (p1, .inl (T 0, 16, .inl pf)), (p2, .inl (T 0, 16, .inl pg))]) s.heap := hP
  have hiX2 : ∀ w ∈ u_ws RX2 TX2 4, w ∈ wsX2_placesHeldPossible := by decide +kernel
  have hl := lv_entry ([.ref h0, .ref p0]) (n := 4) (Nat.le_of_ble_eq_true rfl)
  rw [lg_entry_eq]
  generalize (lg_sl ([.ref h0, .ref p0]) ++ List.replicate (4 - (lg_sl ([.ref h0, .ref p0])).length) Slot.unset).toArray = ls at hl ⊢
  have hl : lv_has ls 4 [(0, .ref h0), (1, .ref p0)] := hl
  refine lv_iconst (v := nI 0) hx hb dX2_placesHeldPossible_0 (by decide) ?_
  refine lv_istore_n (lv' := [(2, .int (nI 0)), (0, .ref h0), (1, .ref p0)]) hx hb dX2_placesHeldPossible_1 rfl hl (by decide) rfl (fun ls hl => ?_)
  refine lv_iconst (v := nI 0) hx hb dX2_placesHeldPossible_2 (by decide) ?_
  refine lv_istore_n (lv' := [(3, .int (nI 0)), (2, .int (nI 0)), (0, .ref h0), (1, .ref p0)]) hx hb dX2_placesHeldPossible_3 rfl hl (by decide) rfl (fun ls hl => ?_)
  suffices LP : ∀ (n : Nat) (i : Nat), (i ≤ 16) → (16 < i + n) → ∀ (H : Heap) (locs : List Loc), va_P G vwCl ([(h0, .inr (2, [.int sh, .ref a0, .int an, .int gl])), (a0, .inr (1, [.ref a1, .ref a2])), (a1, .inl (T 0, 16, .inl f)), (a2, .inl (T 0, 16, .inl g)), (p0, .inr (1, [.ref p1, .ref p2])), (p1, .inl (T 0, 16, .inl pf)), (p2, .inl (T 0, 16, .inl pg))]) H → va_D A ([(h0, .inr (2, [.int sh, .ref a0, .int an, .int gl])), (a0, .inr (1, [.ref a1, .ref a2])), (a1, .inl (T 0, 16, .inl f)), (a2, .inl (T 0, 16, .inl g)), (p0, .inr (1, [.ref p1, .ref p2])), (p1, .inl (T 0, 16, .inl pf)), (p2, .inl (T 0, 16, .inl pg))]) → va_S A s.heap H locs → ∀ (ls : Array Slot), lv_has ls 4 [(3, .int (nI i)), (2, .int (nI (xct (fun j => decide (¬ f j &&& xso (pf j) = 0)) i))), (0, .ref h0), (1, .ref p0)] → W p l e (headSpec wsX2_placesHeldPossible ({ frames := 2, cells := 0, slots := 0, locals := 42 })).room s m ([.ref h0, .ref p0] : List Value).toArray below meth c H locs 0 0 (MQ below (va_Qi (fun (r : Int32) (u : Unit) => r = nI (xct (fun j => decide (¬ f j &&& xso (pf j) = 0)) 16)) (fun u t => va_P G vwCl ([(h0, .inr (2, [.int sh, .ref a0, .int an, .int gl])), (a0, .inr (1, [.ref a1, .ref a2])), (a1, .inl (T 0, 16, .inl f)), (a2, .inl (T 0, 16, .inl g)), (p0, .inr (1, [.ref p1, .ref p2])), (p1, .inl (T 0, 16, .inl pf)), (p2, .inl (T 0, 16, .inl pg))]) t.heap) A) ([.ref h0, .ref p0] : List Value).toArray s 0 0 A) (F0 m 4 ls []) from LP 17 0 (by decide) (by decide) _ _ hP hD hS ls (lv_sub hl [0, 1, 2, 3] rfl)
  clear hP hD hS hl
  intro n
  induction n with
  | zero => intro i hi hn H locs _ _ _ ls _; exfalso; omega
  | succ n ih =>
    intro i hi hn H locs hP hD hS ls hl
    refine lv_iload_n hx hb dX2_placesHeldPossible_4 rfl (lv_at hl 0 rfl) ?_
    refine lv_bipush (v := nI 16) hx hb dX2_placesHeldPossible_5 (by decide) ?_
    by_cases hc : i < 16
    · refine lv_icmp_ge (tgt := 39) hx hb dX2_placesHeldPossible_7 (by decide) (fun c_ => absurd c_ (nI_ge hc (by decide))) (fun _ => ?_)
      refine lv_aload_n hx hb dX2_placesHeldPossible_10 rfl (lv_at hl 2 rfl) ?_
      refine va_get (D := G) (ci := 2) (v := .ref a0) (C := RX2) (T := TX2) (N := 4) hx hb hts hiX2 hown hK hP 0 rfl rfl 1 (by decide) (hts (.fieldLink RX2 12 "CardFans$Watcher" "thoughts" "LCardFans$Row;") (by decide +kernel)) (fun _ h9 => h9) rfl dX2_placesHeldPossible_11 ?_
      refine lv_iload_n hx hb dX2_placesHeldPossible_14 rfl (lv_at hl 0 rfl) ?_
      refine x_calli (va_runV (As := [.int (nI i)]) (rest := []) ⟨hx, hb, hml, hown, hts⟩ (c_X1_at l G T _ a0 a1 a2 f g i hc) (cwV 1 hts gX2_placesHeldPossible_X1_at rfl rfl rfl (by decide +kernel) ⟨Nat.le_of_ble_eq_true rfl, Nat.le_of_ble_eq_true rfl⟩) (x_preV (wc := [(a0, .inr (1, [.ref a1, .ref a2])), (a1, .inl (T 0, 16, .inl f)), (a2, .inl (T 0, 16, .inl g))]) hK hP hD hS hA hXB hZ [1, 2, 3] rfl rfl _ _ 1 1 rfl rfl) rfl rfl hl.1 rfl (lv_room (Nat.le_of_ble_eq_true rfl)) dX2_placesHeldPossible_15 ⟨Nat.le_of_ble_eq_true rfl, Nat.le_of_ble_eq_true rfl⟩) hP hD hS hA [1, 2, 3] rfl (fun _ _ _ => rfl) (fun r1 u H locs hw1 hP hD hS => ?_)
      have hP : va_P G vwCl ([(h0, .inr (2, [.int sh, .ref a0, .int an, .int gl])), (a0, .inr (1, [.ref a1, .ref a2])), (a1, .inl (T 0, 16, .inl f)), (a2, .inl (T 0, 16, .inl g)), (p0, .inr (1, [.ref p1, .ref p2])), (p1, .inl (T 0, 16, .inl pf)), (p2, .inl (T 0, 16, .inl pg))]) H := hP
      have hD : va_D A ([(h0, .inr (2, [.int sh, .ref a0, .int an, .int gl])), (a0, .inr (1, [.ref a1, .ref a2])), (a1, .inl (T 0, 16, .inl f)), (a2, .inl (T 0, 16, .inl g)), (p0, .inr (1, [.ref p1, .ref p2])), (p1, .inl (T 0, 16, .inl pf)), (p2, .inl (T 0, 16, .inl pg))]) := hD
      subst hw1
      refine lv_aload_n hx hb dX2_placesHeldPossible_18 rfl (lv_at hl 3 rfl) ?_
      refine lv_iload_n hx hb dX2_placesHeldPossible_19 rfl (lv_at hl 0 rfl) ?_
      have hd := @xct_t (fun j => decide (¬ f j &&& xso (pf j) = 0)) i
      have hd2 := @xct_f (fun j => decide (¬ f j &&& xso (pf j) = 0)) i
      refine x_calli (va_runV (As := [.int (nI i)]) (rest := [.int (f i)]) ⟨hx, hb, hml, hown, hts⟩ (c_X1_at l G T _ p0 p1 p2 pf pg i hc) (cwV 1 hts gX2_placesHeldPossible_X1_at rfl rfl rfl (by decide +kernel) ⟨Nat.le_of_ble_eq_true rfl, Nat.le_of_ble_eq_true rfl⟩) (x_preV (wc := [(p0, .inr (1, [.ref p1, .ref p2])), (p1, .inl (T 0, 16, .inl pf)), (p2, .inl (T 0, 16, .inl pg))]) hK hP hD hS hA hXB hZ [4, 5, 6] rfl rfl _ _ 4 1 rfl rfl) rfl rfl hl.1 rfl (lv_room (Nat.le_of_ble_eq_true rfl)) dX2_placesHeldPossible_20 ⟨Nat.le_of_ble_eq_true rfl, Nat.le_of_ble_eq_true rfl⟩) hP hD hS hA [4, 5, 6] rfl (fun _ _ _ => rfl) (fun r2 u H locs hw2 hP hD hS => ?_)
      have hP : va_P G vwCl ([(h0, .inr (2, [.int sh, .ref a0, .int an, .int gl])), (a0, .inr (1, [.ref a1, .ref a2])), (a1, .inl (T 0, 16, .inl f)), (a2, .inl (T 0, 16, .inl g)), (p0, .inr (1, [.ref p1, .ref p2])), (p1, .inl (T 0, 16, .inl pf)), (p2, .inl (T 0, 16, .inl pg))]) H := hP
      have hD : va_D A ([(h0, .inr (2, [.int sh, .ref a0, .int an, .int gl])), (a0, .inr (1, [.ref a1, .ref a2])), (a1, .inl (T 0, 16, .inl f)), (a2, .inl (T 0, 16, .inl g)), (p0, .inr (1, [.ref p1, .ref p2])), (p1, .inl (T 0, 16, .inl pf)), (p2, .inl (T 0, 16, .inl pg))]) := hD
      subst hw2
      refine x_calli (va_runSN (As := [.int (pf i)]) (rest := [.int (f i)]) ⟨hx, hb, hml, hown, hts⟩ (c_X3_setOf l G T _ (pf i)) (⟨va_cnB 1 hts gX2_placesHeldPossible_X3_setOf_n34 rfl rfl rfl (hXB.1 (.methodLinkNest RX2 34 yX3_setOf "CardFans") (by decide +kernel)) (hts (.initialized RX3) (by decide +kernel)) (by decide +kernel) ⟨Nat.le_of_ble_eq_true rfl, Nat.le_of_ble_eq_true rfl⟩, hts (.static yX3_setOf) (by decide +kernel), trivial⟩) (x_preS (wc := []) hK hP hD hS hA hXB hZ [] rfl rfl _) rfl rfl hl.1 rfl (lv_room (Nat.le_of_ble_eq_true rfl)) dX2_placesHeldPossible_23 ⟨Nat.le_of_ble_eq_true rfl, Nat.le_of_ble_eq_true rfl⟩) hP hD hS hA [] rfl (fun _ _ _ => rfl) (fun r3 u H locs hw3 hP hD hS => ?_)
      have hP : va_P G vwCl ([(h0, .inr (2, [.int sh, .ref a0, .int an, .int gl])), (a0, .inr (1, [.ref a1, .ref a2])), (a1, .inl (T 0, 16, .inl f)), (a2, .inl (T 0, 16, .inl g)), (p0, .inr (1, [.ref p1, .ref p2])), (p1, .inl (T 0, 16, .inl pf)), (p2, .inl (T 0, 16, .inl pg))]) H := hP
      have hD : va_D A ([(h0, .inr (2, [.int sh, .ref a0, .int an, .int gl])), (a0, .inr (1, [.ref a1, .ref a2])), (a1, .inl (T 0, 16, .inl f)), (a2, .inl (T 0, 16, .inl g)), (p0, .inr (1, [.ref p1, .ref p2])), (p1, .inl (T 0, 16, .inl pf)), (p2, .inl (T 0, 16, .inl pg))]) := hD
      subst hw3
      refine lv_iand hx hb dX2_placesHeldPossible_26 ?_
      refine lv_if_eq (tgt := 33) hx hb dX2_placesHeldPossible_27 (by decide) (fun c1 => ?_) (fun c1 => ?_)
      · have e1 : xct (fun j => decide (¬ f j &&& xso (pf j) = 0)) (i + 1) = xct (fun j => decide (¬ f j &&& xso (pf j) = 0)) i := hd2 (by simpa using c1)
        rw [← e1] at hl
        refine lv_iinc (v := nI (i + 1)) (lv' := [(3, .int (nI (i + 1))), (2, .int (nI (xct (fun j => decide (¬ f j &&& xso (pf j) = 0)) (i + 1)))), (0, .ref h0), (1, .ref p0)]) hx hb dX2_placesHeldPossible_33 hl (k := 0) rfl (x_inc _) (by decide) rfl (fun ls hl => ?_)
        refine lv_goto (tgt := 4) hx hb dX2_placesHeldPossible_36 (by decide) ?_
        exact ih (i + 1) (by omega) (by omega) _ _ hP hD hS ls (lv_sub hl [0, 1, 2, 3] rfl)
      · refine lv_iinc (v := nI (xct (fun j => decide (¬ f j &&& xso (pf j) = 0)) (i + 1))) (lv' := [(2, .int (nI (xct (fun j => decide (¬ f j &&& xso (pf j) = 0)) (i + 1)))), (3, .int (nI i)), (0, .ref h0), (1, .ref p0)]) hx hb dX2_placesHeldPossible_30 hl (k := 1) rfl (by rw [hd (by simpa using c1)]; exact x_inc _) (by decide) rfl (fun ls hl => ?_)
        refine lv_iinc (v := nI (i + 1)) (lv' := [(3, .int (nI (i + 1))), (2, .int (nI (xct (fun j => decide (¬ f j &&& xso (pf j) = 0)) (i + 1)))), (0, .ref h0), (1, .ref p0)]) hx hb dX2_placesHeldPossible_33 hl (k := 1) rfl (x_inc _) (by decide) rfl (fun ls hl => ?_)
        refine lv_goto (tgt := 4) hx hb dX2_placesHeldPossible_36 (by decide) ?_
        exact ih (i + 1) (by omega) (by omega) _ _ hP hD hS ls (lv_sub hl [0, 1, 2, 3] rfl)
    · refine lv_icmp_ge (tgt := 39) hx hb dX2_placesHeldPossible_7 (by decide) (fun _ => ?_) (fun c_ => absurd (nI_le (by omega) (by omega)) c_)
      refine lv_iload_n hx hb dX2_placesHeldPossible_39 rfl (lv_at hl 1 rfl) ?_
      exact W.iret (v := nI (xct (fun j => decide (¬ f j &&& xso (pf j) = 0)) i)) hx hb hr (fun t ht hW => ⟨⟨nI (xct (fun j => decide (¬ f j &&& xso (pf j) = 0)) i), (), rfl, by rw [show i = 16 by omega], x_at ht hP⟩, hS.F ht⟩) hS.2.2 dX2_placesHeldPossible_40

set_option maxHeartbeats 4000000 in
set_option maxRecDepth 100000 in
/-- placesSettled -/
theorem c_X2_placesSettled (l : Launch) (G : va_G) (T : Nat → ClassId) (sz : Nat) (h0 : Nat) (a0 a1 a2 : Nat) (sh an gl : Int32) (f g : Nat → Int32) : Met l yX2_placesSettled wsX2_placesSettled ({ frames := 2, cells := 0, slots := 0, locals := 42 }) (va_Pc [.ref h0] (xPre G T ([(h0, .inr (2, [.int sh, .ref a0, .int an, .int gl])), (a0, .inr (1, [.ref a1, .ref a2])), (a1, .inl (T 0, 16, .inl f)), (a2, .inl (T 0, 16, .inl g))]) sz)) (va_Qi (fun (r : Int32) (u : Unit) => r = nI (xct (fun j => xone (f j)) 16)) (fun u t => va_P G vwCl ([(h0, .inr (2, [.int sh, .ref a0, .int an, .int gl])), (a0, .inr (1, [.ref a1, .ref a2])), (a1, .inl (T 0, 16, .inl f)), (a2, .inl (T 0, 16, .inl g))]) t.heap) (va_A ([(h0, .inr (2, [.int sh, .ref a0, .int an, .int gl])), (a0, .inr (1, [.ref a1, .ref a2])), (a1, .inl (T 0, 16, .inl f)), (a2, .inl (T 0, 16, .inl g))]) sz)) 0 0 (va_A ([(h0, .inr (2, [.int sh, .ref a0, .int an, .int gl])), (a0, .inr (1, [.ref a1, .ref a2])), (a1, .inl (T 0, 16, .inl f)), (a2, .inl (T 0, 16, .inl g))]) sz) := by
  refine Met.ofW (cc := cX2_placesSettled) (maxL := 3) (ret := (some .int)) (by decide +kernel) rfl ?_
  intro p e s m args below meth c s₁ B hml hv
  obtain ⟨rfl, hsz, hP, hK, hD0, hXB, hZ⟩ := hv
  have hx := B.exec
  have hb := B.bytes
  have hr := B.returns
  have hts := atoms_spec (ws := wsX2_placesSettled) B.pre
  have hown : s.vm.findClass RX2 = some m.cls := findClass_of_methodNamed B.named
  have hlocks := B.notSynchronized
  subst hsz
  have hD := hD0.self (sz := s.heap.size)
  generalize hAe : va_A ([(h0, .inr (2, [.int sh, .ref a0, .int an, .int gl])), (a0, .inr (1, [.ref a1, .ref a2])), (a1, .inl (T 0, 16, .inl f)), (a2, .inl (T 0, 16, .inl g))]) s.heap.size = A at hD hZ ⊢
  have hA : ∀ q : Nat, s.heap.size ≤ q → A q := fun q h => by rw [← hAe]; exact Or.inr h
  have hS : va_S A s.heap s.heap [] := va_S.rf
  have hP : va_P G vwCl ([(h0, .inr (2, [.int sh, .ref a0, .int an, .int gl])), (a0, .inr (1, [.ref a1, .ref a2])), (a1, .inl (T 0, 16, .inl f)), (a2, .inl (T 0, 16, .inl g))]) s.heap := hP
  have hiX2 : ∀ w ∈ u_ws RX2 TX2 4, w ∈ wsX2_placesSettled := by decide +kernel
  have hl := lv_entry ([.ref h0]) (n := 3) (Nat.le_of_ble_eq_true rfl)
  rw [lg_entry_eq]
  generalize (lg_sl ([.ref h0]) ++ List.replicate (3 - (lg_sl ([.ref h0])).length) Slot.unset).toArray = ls at hl ⊢
  have hl : lv_has ls 3 [(0, .ref h0)] := hl
  refine lv_iconst (v := nI 0) hx hb dX2_placesSettled_0 (by decide) ?_
  refine lv_istore_n (lv' := [(1, .int (nI 0)), (0, .ref h0)]) hx hb dX2_placesSettled_1 rfl hl (by decide) rfl (fun ls hl => ?_)
  refine lv_iconst (v := nI 0) hx hb dX2_placesSettled_2 (by decide) ?_
  refine lv_istore_n (lv' := [(2, .int (nI 0)), (1, .int (nI 0)), (0, .ref h0)]) hx hb dX2_placesSettled_3 rfl hl (by decide) rfl (fun ls hl => ?_)
  suffices LP : ∀ (n : Nat) (i : Nat), (i ≤ 16) → (16 < i + n) → ∀ (H : Heap) (locs : List Loc), va_P G vwCl ([(h0, .inr (2, [.int sh, .ref a0, .int an, .int gl])), (a0, .inr (1, [.ref a1, .ref a2])), (a1, .inl (T 0, 16, .inl f)), (a2, .inl (T 0, 16, .inl g))]) H → va_D A ([(h0, .inr (2, [.int sh, .ref a0, .int an, .int gl])), (a0, .inr (1, [.ref a1, .ref a2])), (a1, .inl (T 0, 16, .inl f)), (a2, .inl (T 0, 16, .inl g))]) → va_S A s.heap H locs → ∀ (ls : Array Slot), lv_has ls 3 [(2, .int (nI i)), (1, .int (nI (xct (fun j => xone (f j)) i))), (0, .ref h0)] → W p l e (headSpec wsX2_placesSettled ({ frames := 2, cells := 0, slots := 0, locals := 42 })).room s m ([.ref h0] : List Value).toArray below meth c H locs 0 0 (MQ below (va_Qi (fun (r : Int32) (u : Unit) => r = nI (xct (fun j => xone (f j)) 16)) (fun u t => va_P G vwCl ([(h0, .inr (2, [.int sh, .ref a0, .int an, .int gl])), (a0, .inr (1, [.ref a1, .ref a2])), (a1, .inl (T 0, 16, .inl f)), (a2, .inl (T 0, 16, .inl g))]) t.heap) A) ([.ref h0] : List Value).toArray s 0 0 A) (F0 m 4 ls []) from LP 17 0 (by decide) (by decide) _ _ hP hD hS ls (lv_sub hl [0, 1, 2] rfl)
  clear hP hD hS hl
  intro n
  induction n with
  | zero => intro i hi hn H locs _ _ _ ls _; exfalso; omega
  | succ n ih =>
    intro i hi hn H locs hP hD hS ls hl
    refine lv_iload_n hx hb dX2_placesSettled_4 rfl (lv_at hl 0 rfl) ?_
    refine lv_bipush (v := nI 16) hx hb dX2_placesSettled_5 (by decide) ?_
    by_cases hc : i < 16
    · refine lv_icmp_ge (tgt := 33) hx hb dX2_placesSettled_7 (by decide) (fun c_ => absurd c_ (nI_ge hc (by decide))) (fun _ => ?_)
      refine lv_aload_n hx hb dX2_placesSettled_10 rfl (lv_at hl 2 rfl) ?_
      refine va_get (D := G) (ci := 2) (v := .ref a0) (C := RX2) (T := TX2) (N := 4) hx hb hts hiX2 hown hK hP 0 rfl rfl 1 (by decide) (hts (.fieldLink RX2 12 "CardFans$Watcher" "thoughts" "LCardFans$Row;") (by decide +kernel)) (fun _ h9 => h9) rfl dX2_placesSettled_11 ?_
      refine lv_iload_n hx hb dX2_placesSettled_14 rfl (lv_at hl 0 rfl) ?_
      refine x_calli (va_runV (As := [.int (nI i)]) (rest := []) ⟨hx, hb, hml, hown, hts⟩ (c_X1_at l G T _ a0 a1 a2 f g i hc) (cwV 1 hts gX2_placesSettled_X1_at rfl rfl rfl (by decide +kernel) ⟨Nat.le_of_ble_eq_true rfl, Nat.le_of_ble_eq_true rfl⟩) (x_preV (wc := [(a0, .inr (1, [.ref a1, .ref a2])), (a1, .inl (T 0, 16, .inl f)), (a2, .inl (T 0, 16, .inl g))]) hK hP hD hS hA hXB hZ [1, 2, 3] rfl rfl _ _ 1 1 rfl rfl) rfl rfl hl.1 rfl (lv_room (Nat.le_of_ble_eq_true rfl)) dX2_placesSettled_15 ⟨Nat.le_of_ble_eq_true rfl, Nat.le_of_ble_eq_true rfl⟩) hP hD hS hA [1, 2, 3] rfl (fun _ _ _ => rfl) (fun r1 u H locs hw1 hP hD hS => ?_)
      have hP : va_P G vwCl ([(h0, .inr (2, [.int sh, .ref a0, .int an, .int gl])), (a0, .inr (1, [.ref a1, .ref a2])), (a1, .inl (T 0, 16, .inl f)), (a2, .inl (T 0, 16, .inl g))]) H := hP
      have hD : va_D A ([(h0, .inr (2, [.int sh, .ref a0, .int an, .int gl])), (a0, .inr (1, [.ref a1, .ref a2])), (a1, .inl (T 0, 16, .inl f)), (a2, .inl (T 0, 16, .inl g))]) := hD
      subst hw1
      have hd := @xct_t (fun j => xone (f j)) i
      have hd2 := @xct_f (fun j => xone (f j)) i
      refine x_calli (va_runSN (As := [.int (f i)]) (rest := []) ⟨hx, hb, hml, hown, hts⟩ (c_X3_isOneAlone l G T _ (f i)) (⟨va_cnB 1 hts gX2_placesSettled_X3_isOneAlone_n51 rfl rfl rfl (hXB.1 (.methodLinkNest RX2 51 yX3_isOneAlone "CardFans") (by decide +kernel)) (hts (.initialized RX3) (by decide +kernel)) (by decide +kernel) ⟨Nat.le_of_ble_eq_true rfl, Nat.le_of_ble_eq_true rfl⟩, hts (.static yX3_isOneAlone) (by decide +kernel), trivial⟩) (x_preS (wc := []) hK hP hD hS hA hXB hZ [] rfl rfl _) rfl rfl hl.1 rfl (lv_room (Nat.le_of_ble_eq_true rfl)) dX2_placesSettled_18 ⟨Nat.le_of_ble_eq_true rfl, Nat.le_of_ble_eq_true rfl⟩) hP hD hS hA [] rfl (fun _ _ _ => rfl) (fun r2 u H locs hw2 hP hD hS => ?_)
      have hP : va_P G vwCl ([(h0, .inr (2, [.int sh, .ref a0, .int an, .int gl])), (a0, .inr (1, [.ref a1, .ref a2])), (a1, .inl (T 0, 16, .inl f)), (a2, .inl (T 0, 16, .inl g))]) H := hP
      have hD : va_D A ([(h0, .inr (2, [.int sh, .ref a0, .int an, .int gl])), (a0, .inr (1, [.ref a1, .ref a2])), (a1, .inl (T 0, 16, .inl f)), (a2, .inl (T 0, 16, .inl g))]) := hD
      refine lv_if_eq (tgt := 27) hx hb dX2_placesSettled_21 (by decide) (fun c1 => ?_) (fun c1 => ?_)
      · have e1 : xct (fun j => xone (f j)) (i + 1) = xct (fun j => xone (f j)) i := hd2 (by rw [xb_of_eq hw2 c1]; exact Bool.false_ne_true)
        rw [← e1] at hl
        refine lv_iinc (v := nI (i + 1)) (lv' := [(2, .int (nI (i + 1))), (1, .int (nI (xct (fun j => xone (f j)) (i + 1)))), (0, .ref h0)]) hx hb dX2_placesSettled_27 hl (k := 0) rfl (x_inc _) (by decide) rfl (fun ls hl => ?_)
        refine lv_goto (tgt := 4) hx hb dX2_placesSettled_30 (by decide) ?_
        exact ih (i + 1) (by omega) (by omega) _ _ hP hD hS ls (lv_sub hl [0, 1, 2] rfl)
      · refine lv_iinc (v := nI (xct (fun j => xone (f j)) (i + 1))) (lv' := [(1, .int (nI (xct (fun j => xone (f j)) (i + 1)))), (2, .int (nI i)), (0, .ref h0)]) hx hb dX2_placesSettled_24 hl (k := 1) rfl (by rw [hd (xb_of_ne hw2 c1)]; exact x_inc _) (by decide) rfl (fun ls hl => ?_)
        refine lv_iinc (v := nI (i + 1)) (lv' := [(2, .int (nI (i + 1))), (1, .int (nI (xct (fun j => xone (f j)) (i + 1)))), (0, .ref h0)]) hx hb dX2_placesSettled_27 hl (k := 1) rfl (x_inc _) (by decide) rfl (fun ls hl => ?_)
        refine lv_goto (tgt := 4) hx hb dX2_placesSettled_30 (by decide) ?_
        exact ih (i + 1) (by omega) (by omega) _ _ hP hD hS ls (lv_sub hl [0, 1, 2] rfl)
    · refine lv_icmp_ge (tgt := 33) hx hb dX2_placesSettled_7 (by decide) (fun _ => ?_) (fun c_ => absurd (nI_le (by omega) (by omega)) c_)
      refine lv_iload_n hx hb dX2_placesSettled_33 rfl (lv_at hl 1 rfl) ?_
      exact W.iret (v := nI (xct (fun j => xone (f j)) i)) hx hb hr (fun t ht hW => ⟨⟨nI (xct (fun j => xone (f j)) i), (), rfl, by rw [show i = 16 by omega], x_at ht hP⟩, hS.F ht⟩) hS.2.2 dX2_placesSettled_34

set_option maxHeartbeats 4000000 in
set_option maxRecDepth 100000 in
/-- placesSettledRightly -/
theorem c_X2_placesSettledRightly (l : Launch) (G : va_G) (T : Nat → ClassId) (sz : Nat) (h0 : Nat) (a0 a1 a2 : Nat) (sh an gl : Int32) (f g : Nat → Int32) (p0 p1 p2 : Nat) (pf pg : Nat → Int32) : Met l yX2_placesSettledRightly wsX2_placesSettledRightly ({ frames := 2, cells := 0, slots := 0, locals := 42 }) (va_Pc [.ref h0, .ref p0] (xPre G T ([(h0, .inr (2, [.int sh, .ref a0, .int an, .int gl])), (a0, .inr (1, [.ref a1, .ref a2])), (a1, .inl (T 0, 16, .inl f)), (a2, .inl (T 0, 16, .inl g)), (p0, .inr (1, [.ref p1, .ref p2])), (p1, .inl (T 0, 16, .inl pf)), (p2, .inl (T 0, 16, .inl pg))]) sz)) (va_Qi (fun (r : Int32) (u : Unit) => r = nI (xct (fun j => decide (f j = xso (pf j))) 16)) (fun u t => va_P G vwCl ([(h0, .inr (2, [.int sh, .ref a0, .int an, .int gl])), (a0, .inr (1, [.ref a1, .ref a2])), (a1, .inl (T 0, 16, .inl f)), (a2, .inl (T 0, 16, .inl g)), (p0, .inr (1, [.ref p1, .ref p2])), (p1, .inl (T 0, 16, .inl pf)), (p2, .inl (T 0, 16, .inl pg))]) t.heap) (va_A ([(h0, .inr (2, [.int sh, .ref a0, .int an, .int gl])), (a0, .inr (1, [.ref a1, .ref a2])), (a1, .inl (T 0, 16, .inl f)), (a2, .inl (T 0, 16, .inl g)), (p0, .inr (1, [.ref p1, .ref p2])), (p1, .inl (T 0, 16, .inl pf)), (p2, .inl (T 0, 16, .inl pg))]) sz)) 0 0 (va_A ([(h0, .inr (2, [.int sh, .ref a0, .int an, .int gl])), (a0, .inr (1, [.ref a1, .ref a2])), (a1, .inl (T 0, 16, .inl f)), (a2, .inl (T 0, 16, .inl g)), (p0, .inr (1, [.ref p1, .ref p2])), (p1, .inl (T 0, 16, .inl pf)), (p2, .inl (T 0, 16, .inl pg))]) sz) := by
  refine Met.ofW (cc := cX2_placesSettledRightly) (maxL := 4) (ret := (some .int)) (by decide +kernel) rfl ?_
  intro p e s m args below meth c s₁ B hml hv
  obtain ⟨rfl, hsz, hP, hK, hD0, hXB, hZ⟩ := hv
  have hx := B.exec
  have hb := B.bytes
  have hr := B.returns
  have hts := atoms_spec (ws := wsX2_placesSettledRightly) B.pre
  have hown : s.vm.findClass RX2 = some m.cls := findClass_of_methodNamed B.named
  have hlocks := B.notSynchronized
  subst hsz
  have hD := hD0.self (sz := s.heap.size)
  generalize hAe : va_A ([(h0, .inr (2, [.int sh, .ref a0, .int an, .int gl])), (a0, .inr (1, [.ref a1, .ref a2])), (a1, .inl (T 0, 16, .inl f)), (a2, .inl (T 0, 16, .inl g)), (p0, .inr (1, [.ref p1, .ref p2])), (p1, .inl (T 0, 16, .inl pf)), (p2, .inl (T 0, 16, .inl pg))]) s.heap.size = A at hD hZ ⊢
  have hA : ∀ q : Nat, s.heap.size ≤ q → A q := fun q h => by rw [← hAe]; exact Or.inr h
  have hS : va_S A s.heap s.heap [] := va_S.rf
  have hP : va_P G vwCl ([(h0, .inr (2, [.int sh, .ref a0, .int an, .int gl])), (a0, .inr (1, [.ref a1, .ref a2])), (a1, .inl (T 0, 16, .inl f)), (a2, .inl (T 0, 16, .inl g)), (p0, .inr (1, [.ref p1, .ref p2])), (p1, .inl (T 0, 16, .inl pf)), (p2, .inl (T 0, 16, .inl pg))]) s.heap := hP
  have hiX2 : ∀ w ∈ u_ws RX2 TX2 4, w ∈ wsX2_placesSettledRightly := by decide +kernel
  have hl := lv_entry ([.ref h0, .ref p0]) (n := 4) (Nat.le_of_ble_eq_true rfl)
  rw [lg_entry_eq]
  generalize (lg_sl ([.ref h0, .ref p0]) ++ List.replicate (4 - (lg_sl ([.ref h0, .ref p0])).length) Slot.unset).toArray = ls at hl ⊢
  have hl : lv_has ls 4 [(0, .ref h0), (1, .ref p0)] := hl
  refine lv_iconst (v := nI 0) hx hb dX2_placesSettledRightly_0 (by decide) ?_
  refine lv_istore_n (lv' := [(2, .int (nI 0)), (0, .ref h0), (1, .ref p0)]) hx hb dX2_placesSettledRightly_1 rfl hl (by decide) rfl (fun ls hl => ?_)
  refine lv_iconst (v := nI 0) hx hb dX2_placesSettledRightly_2 (by decide) ?_
  refine lv_istore_n (lv' := [(3, .int (nI 0)), (2, .int (nI 0)), (0, .ref h0), (1, .ref p0)]) hx hb dX2_placesSettledRightly_3 rfl hl (by decide) rfl (fun ls hl => ?_)
  suffices LP : ∀ (n : Nat) (i : Nat), (i ≤ 16) → (16 < i + n) → ∀ (H : Heap) (locs : List Loc), va_P G vwCl ([(h0, .inr (2, [.int sh, .ref a0, .int an, .int gl])), (a0, .inr (1, [.ref a1, .ref a2])), (a1, .inl (T 0, 16, .inl f)), (a2, .inl (T 0, 16, .inl g)), (p0, .inr (1, [.ref p1, .ref p2])), (p1, .inl (T 0, 16, .inl pf)), (p2, .inl (T 0, 16, .inl pg))]) H → va_D A ([(h0, .inr (2, [.int sh, .ref a0, .int an, .int gl])), (a0, .inr (1, [.ref a1, .ref a2])), (a1, .inl (T 0, 16, .inl f)), (a2, .inl (T 0, 16, .inl g)), (p0, .inr (1, [.ref p1, .ref p2])), (p1, .inl (T 0, 16, .inl pf)), (p2, .inl (T 0, 16, .inl pg))]) → va_S A s.heap H locs → ∀ (ls : Array Slot), lv_has ls 4 [(3, .int (nI i)), (2, .int (nI (xct (fun j => decide (f j = xso (pf j))) i))), (0, .ref h0), (1, .ref p0)] → W p l e (headSpec wsX2_placesSettledRightly ({ frames := 2, cells := 0, slots := 0, locals := 42 })).room s m ([.ref h0, .ref p0] : List Value).toArray below meth c H locs 0 0 (MQ below (va_Qi (fun (r : Int32) (u : Unit) => r = nI (xct (fun j => decide (f j = xso (pf j))) 16)) (fun u t => va_P G vwCl ([(h0, .inr (2, [.int sh, .ref a0, .int an, .int gl])), (a0, .inr (1, [.ref a1, .ref a2])), (a1, .inl (T 0, 16, .inl f)), (a2, .inl (T 0, 16, .inl g)), (p0, .inr (1, [.ref p1, .ref p2])), (p1, .inl (T 0, 16, .inl pf)), (p2, .inl (T 0, 16, .inl pg))]) t.heap) A) ([.ref h0, .ref p0] : List Value).toArray s 0 0 A) (F0 m 4 ls []) from LP 17 0 (by decide) (by decide) _ _ hP hD hS ls (lv_sub hl [0, 1, 2, 3] rfl)
  clear hP hD hS hl
  intro n
  induction n with
  | zero => intro i hi hn H locs _ _ _ ls _; exfalso; omega
  | succ n ih =>
    intro i hi hn H locs hP hD hS ls hl
    refine lv_iload_n hx hb dX2_placesSettledRightly_4 rfl (lv_at hl 0 rfl) ?_
    refine lv_bipush (v := nI 16) hx hb dX2_placesSettledRightly_5 (by decide) ?_
    by_cases hc : i < 16
    · refine lv_icmp_ge (tgt := 38) hx hb dX2_placesSettledRightly_7 (by decide) (fun c_ => absurd c_ (nI_ge hc (by decide))) (fun _ => ?_)
      refine lv_aload_n hx hb dX2_placesSettledRightly_10 rfl (lv_at hl 2 rfl) ?_
      refine va_get (D := G) (ci := 2) (v := .ref a0) (C := RX2) (T := TX2) (N := 4) hx hb hts hiX2 hown hK hP 0 rfl rfl 1 (by decide) (hts (.fieldLink RX2 12 "CardFans$Watcher" "thoughts" "LCardFans$Row;") (by decide +kernel)) (fun _ h9 => h9) rfl dX2_placesSettledRightly_11 ?_
      refine lv_iload_n hx hb dX2_placesSettledRightly_14 rfl (lv_at hl 0 rfl) ?_
      refine x_calli (va_runV (As := [.int (nI i)]) (rest := []) ⟨hx, hb, hml, hown, hts⟩ (c_X1_at l G T _ a0 a1 a2 f g i hc) (cwV 1 hts gX2_placesSettledRightly_X1_at rfl rfl rfl (by decide +kernel) ⟨Nat.le_of_ble_eq_true rfl, Nat.le_of_ble_eq_true rfl⟩) (x_preV (wc := [(a0, .inr (1, [.ref a1, .ref a2])), (a1, .inl (T 0, 16, .inl f)), (a2, .inl (T 0, 16, .inl g))]) hK hP hD hS hA hXB hZ [1, 2, 3] rfl rfl _ _ 1 1 rfl rfl) rfl rfl hl.1 rfl (lv_room (Nat.le_of_ble_eq_true rfl)) dX2_placesSettledRightly_15 ⟨Nat.le_of_ble_eq_true rfl, Nat.le_of_ble_eq_true rfl⟩) hP hD hS hA [1, 2, 3] rfl (fun _ _ _ => rfl) (fun r1 u H locs hw1 hP hD hS => ?_)
      have hP : va_P G vwCl ([(h0, .inr (2, [.int sh, .ref a0, .int an, .int gl])), (a0, .inr (1, [.ref a1, .ref a2])), (a1, .inl (T 0, 16, .inl f)), (a2, .inl (T 0, 16, .inl g)), (p0, .inr (1, [.ref p1, .ref p2])), (p1, .inl (T 0, 16, .inl pf)), (p2, .inl (T 0, 16, .inl pg))]) H := hP
      have hD : va_D A ([(h0, .inr (2, [.int sh, .ref a0, .int an, .int gl])), (a0, .inr (1, [.ref a1, .ref a2])), (a1, .inl (T 0, 16, .inl f)), (a2, .inl (T 0, 16, .inl g)), (p0, .inr (1, [.ref p1, .ref p2])), (p1, .inl (T 0, 16, .inl pf)), (p2, .inl (T 0, 16, .inl pg))]) := hD
      subst hw1
      refine lv_aload_n hx hb dX2_placesSettledRightly_18 rfl (lv_at hl 3 rfl) ?_
      refine lv_iload_n hx hb dX2_placesSettledRightly_19 rfl (lv_at hl 0 rfl) ?_
      have hd := @xct_t (fun j => decide (f j = xso (pf j))) i
      have hd2 := @xct_f (fun j => decide (f j = xso (pf j))) i
      refine x_calli (va_runV (As := [.int (nI i)]) (rest := [.int (f i)]) ⟨hx, hb, hml, hown, hts⟩ (c_X1_at l G T _ p0 p1 p2 pf pg i hc) (cwV 1 hts gX2_placesSettledRightly_X1_at rfl rfl rfl (by decide +kernel) ⟨Nat.le_of_ble_eq_true rfl, Nat.le_of_ble_eq_true rfl⟩) (x_preV (wc := [(p0, .inr (1, [.ref p1, .ref p2])), (p1, .inl (T 0, 16, .inl pf)), (p2, .inl (T 0, 16, .inl pg))]) hK hP hD hS hA hXB hZ [4, 5, 6] rfl rfl _ _ 4 1 rfl rfl) rfl rfl hl.1 rfl (lv_room (Nat.le_of_ble_eq_true rfl)) dX2_placesSettledRightly_20 ⟨Nat.le_of_ble_eq_true rfl, Nat.le_of_ble_eq_true rfl⟩) hP hD hS hA [4, 5, 6] rfl (fun _ _ _ => rfl) (fun r2 u H locs hw2 hP hD hS => ?_)
      have hP : va_P G vwCl ([(h0, .inr (2, [.int sh, .ref a0, .int an, .int gl])), (a0, .inr (1, [.ref a1, .ref a2])), (a1, .inl (T 0, 16, .inl f)), (a2, .inl (T 0, 16, .inl g)), (p0, .inr (1, [.ref p1, .ref p2])), (p1, .inl (T 0, 16, .inl pf)), (p2, .inl (T 0, 16, .inl pg))]) H := hP
      have hD : va_D A ([(h0, .inr (2, [.int sh, .ref a0, .int an, .int gl])), (a0, .inr (1, [.ref a1, .ref a2])), (a1, .inl (T 0, 16, .inl f)), (a2, .inl (T 0, 16, .inl g)), (p0, .inr (1, [.ref p1, .ref p2])), (p1, .inl (T 0, 16, .inl pf)), (p2, .inl (T 0, 16, .inl pg))]) := hD
      subst hw2
      refine x_calli (va_runSN (As := [.int (pf i)]) (rest := [.int (f i)]) ⟨hx, hb, hml, hown, hts⟩ (c_X3_setOf l G T _ (pf i)) (⟨va_cnB 1 hts gX2_placesSettledRightly_X3_setOf_n34 rfl rfl rfl (hXB.1 (.methodLinkNest RX2 34 yX3_setOf "CardFans") (by decide +kernel)) (hts (.initialized RX3) (by decide +kernel)) (by decide +kernel) ⟨Nat.le_of_ble_eq_true rfl, Nat.le_of_ble_eq_true rfl⟩, hts (.static yX3_setOf) (by decide +kernel), trivial⟩) (x_preS (wc := []) hK hP hD hS hA hXB hZ [] rfl rfl _) rfl rfl hl.1 rfl (lv_room (Nat.le_of_ble_eq_true rfl)) dX2_placesSettledRightly_23 ⟨Nat.le_of_ble_eq_true rfl, Nat.le_of_ble_eq_true rfl⟩) hP hD hS hA [] rfl (fun _ _ _ => rfl) (fun r3 u H locs hw3 hP hD hS => ?_)
      have hP : va_P G vwCl ([(h0, .inr (2, [.int sh, .ref a0, .int an, .int gl])), (a0, .inr (1, [.ref a1, .ref a2])), (a1, .inl (T 0, 16, .inl f)), (a2, .inl (T 0, 16, .inl g)), (p0, .inr (1, [.ref p1, .ref p2])), (p1, .inl (T 0, 16, .inl pf)), (p2, .inl (T 0, 16, .inl pg))]) H := hP
      have hD : va_D A ([(h0, .inr (2, [.int sh, .ref a0, .int an, .int gl])), (a0, .inr (1, [.ref a1, .ref a2])), (a1, .inl (T 0, 16, .inl f)), (a2, .inl (T 0, 16, .inl g)), (p0, .inr (1, [.ref p1, .ref p2])), (p1, .inl (T 0, 16, .inl pf)), (p2, .inl (T 0, 16, .inl pg))]) := hD
      subst hw3
      refine lv_icmp_ne (tgt := 32) hx hb dX2_placesSettledRightly_26 (by decide) (fun c1 => ?_) (fun c1 => ?_)
      · have e1 : xct (fun j => decide (f j = xso (pf j))) (i + 1) = xct (fun j => decide (f j = xso (pf j))) i := hd2 (by simpa using c1)
        rw [← e1] at hl
        refine lv_iinc (v := nI (i + 1)) (lv' := [(3, .int (nI (i + 1))), (2, .int (nI (xct (fun j => decide (f j = xso (pf j))) (i + 1)))), (0, .ref h0), (1, .ref p0)]) hx hb dX2_placesSettledRightly_32 hl (k := 0) rfl (x_inc _) (by decide) rfl (fun ls hl => ?_)
        refine lv_goto (tgt := 4) hx hb dX2_placesSettledRightly_35 (by decide) ?_
        exact ih (i + 1) (by omega) (by omega) _ _ hP hD hS ls (lv_sub hl [0, 1, 2, 3] rfl)
      · refine lv_iinc (v := nI (xct (fun j => decide (f j = xso (pf j))) (i + 1))) (lv' := [(2, .int (nI (xct (fun j => decide (f j = xso (pf j))) (i + 1)))), (3, .int (nI i)), (0, .ref h0), (1, .ref p0)]) hx hb dX2_placesSettledRightly_29 hl (k := 1) rfl (by rw [hd (by simpa using c1)]; exact x_inc _) (by decide) rfl (fun ls hl => ?_)
        refine lv_iinc (v := nI (i + 1)) (lv' := [(3, .int (nI (i + 1))), (2, .int (nI (xct (fun j => decide (f j = xso (pf j))) (i + 1)))), (0, .ref h0), (1, .ref p0)]) hx hb dX2_placesSettledRightly_32 hl (k := 1) rfl (x_inc _) (by decide) rfl (fun ls hl => ?_)
        refine lv_goto (tgt := 4) hx hb dX2_placesSettledRightly_35 (by decide) ?_
        exact ih (i + 1) (by omega) (by omega) _ _ hP hD hS ls (lv_sub hl [0, 1, 2, 3] rfl)
    · refine lv_icmp_ge (tgt := 38) hx hb dX2_placesSettledRightly_7 (by decide) (fun _ => ?_) (fun c_ => absurd (nI_le (by omega) (by omega)) c_)
      refine lv_iload_n hx hb dX2_placesSettledRightly_38 rfl (lv_at hl 1 rfl) ?_
      exact W.iret (v := nI (xct (fun j => decide (f j = xso (pf j))) i)) hx hb hr (fun t ht hW => ⟨⟨nI (xct (fun j => decide (f j = xso (pf j))) i), (), rfl, by rw [show i = 16 by omega], x_at ht hP⟩, hS.F ht⟩) hS.2.2 dX2_placesSettledRightly_39

set_option maxHeartbeats 4000000 in
set_option maxRecDepth 100000 in
/-- cardsThought -/
theorem c_X2_cardsThought (l : Launch) (G : va_G) (T : Nat → ClassId) (sz : Nat) (h0 : Nat) (a0 a1 a2 : Nat) (sh an gl : Int32) (f g : Nat → Int32) : Met l yX2_cardsThought wsX2_cardsThought ({ frames := 2, cells := 0, slots := 0, locals := 42 }) (va_Pc [.ref h0] (xPre G T ([(h0, .inr (2, [.int sh, .ref a0, .int an, .int gl])), (a0, .inr (1, [.ref a1, .ref a2])), (a1, .inl (T 0, 16, .inl f)), (a2, .inl (T 0, 16, .inl g))]) sz)) (va_Qi (fun (r : Int32) (u : Unit) => r = xsm f 16) (fun u t => va_P G vwCl ([(h0, .inr (2, [.int sh, .ref a0, .int an, .int gl])), (a0, .inr (1, [.ref a1, .ref a2])), (a1, .inl (T 0, 16, .inl f)), (a2, .inl (T 0, 16, .inl g))]) t.heap) (va_A ([(h0, .inr (2, [.int sh, .ref a0, .int an, .int gl])), (a0, .inr (1, [.ref a1, .ref a2])), (a1, .inl (T 0, 16, .inl f)), (a2, .inl (T 0, 16, .inl g))]) sz)) 0 0 (va_A ([(h0, .inr (2, [.int sh, .ref a0, .int an, .int gl])), (a0, .inr (1, [.ref a1, .ref a2])), (a1, .inl (T 0, 16, .inl f)), (a2, .inl (T 0, 16, .inl g))]) sz) := by
  refine Met.ofW (cc := cX2_cardsThought) (maxL := 3) (ret := (some .int)) (by decide +kernel) rfl ?_
  intro p e s m args below meth c s₁ B hml hv
  obtain ⟨rfl, hsz, hP, hK, hD0, hXB, hZ⟩ := hv
  have hx := B.exec
  have hb := B.bytes
  have hr := B.returns
  have hts := atoms_spec (ws := wsX2_cardsThought) B.pre
  have hown : s.vm.findClass RX2 = some m.cls := findClass_of_methodNamed B.named
  have hlocks := B.notSynchronized
  subst hsz
  have hD := hD0.self (sz := s.heap.size)
  generalize hAe : va_A ([(h0, .inr (2, [.int sh, .ref a0, .int an, .int gl])), (a0, .inr (1, [.ref a1, .ref a2])), (a1, .inl (T 0, 16, .inl f)), (a2, .inl (T 0, 16, .inl g))]) s.heap.size = A at hD hZ ⊢
  have hA : ∀ q : Nat, s.heap.size ≤ q → A q := fun q h => by rw [← hAe]; exact Or.inr h
  have hS : va_S A s.heap s.heap [] := va_S.rf
  have hP : va_P G vwCl ([(h0, .inr (2, [.int sh, .ref a0, .int an, .int gl])), (a0, .inr (1, [.ref a1, .ref a2])), (a1, .inl (T 0, 16, .inl f)), (a2, .inl (T 0, 16, .inl g))]) s.heap := hP
  have hiX2 : ∀ w ∈ u_ws RX2 TX2 4, w ∈ wsX2_cardsThought := by decide +kernel
  have hl := lv_entry ([.ref h0]) (n := 3) (Nat.le_of_ble_eq_true rfl)
  rw [lg_entry_eq]
  generalize (lg_sl ([.ref h0]) ++ List.replicate (3 - (lg_sl ([.ref h0])).length) Slot.unset).toArray = ls at hl ⊢
  have hl : lv_has ls 3 [(0, .ref h0)] := hl
  refine lv_iconst (v := nI 0) hx hb dX2_cardsThought_0 (by decide) ?_
  refine lv_istore_n (lv' := [(1, .int (nI 0)), (0, .ref h0)]) hx hb dX2_cardsThought_1 rfl hl (by decide) rfl (fun ls hl => ?_)
  refine lv_iconst (v := nI 0) hx hb dX2_cardsThought_2 (by decide) ?_
  refine lv_istore_n (lv' := [(2, .int (nI 0)), (1, .int (nI 0)), (0, .ref h0)]) hx hb dX2_cardsThought_3 rfl hl (by decide) rfl (fun ls hl => ?_)
  suffices LP : ∀ (n : Nat) (i : Nat), (i ≤ 16) → (16 < i + n) → ∀ (H : Heap) (locs : List Loc), va_P G vwCl ([(h0, .inr (2, [.int sh, .ref a0, .int an, .int gl])), (a0, .inr (1, [.ref a1, .ref a2])), (a1, .inl (T 0, 16, .inl f)), (a2, .inl (T 0, 16, .inl g))]) H → va_D A ([(h0, .inr (2, [.int sh, .ref a0, .int an, .int gl])), (a0, .inr (1, [.ref a1, .ref a2])), (a1, .inl (T 0, 16, .inl f)), (a2, .inl (T 0, 16, .inl g))]) → va_S A s.heap H locs → ∀ (ls : Array Slot), lv_has ls 3 [(2, .int (nI i)), (1, .int (xsm f i)), (0, .ref h0)] → W p l e (headSpec wsX2_cardsThought ({ frames := 2, cells := 0, slots := 0, locals := 42 })).room s m ([.ref h0] : List Value).toArray below meth c H locs 0 0 (MQ below (va_Qi (fun (r : Int32) (u : Unit) => r = xsm f 16) (fun u t => va_P G vwCl ([(h0, .inr (2, [.int sh, .ref a0, .int an, .int gl])), (a0, .inr (1, [.ref a1, .ref a2])), (a1, .inl (T 0, 16, .inl f)), (a2, .inl (T 0, 16, .inl g))]) t.heap) A) ([.ref h0] : List Value).toArray s 0 0 A) (F0 m 4 ls []) from LP 17 0 (by decide) (by decide) _ _ hP hD hS ls (lv_sub hl [0, 1, 2] rfl)
  clear hP hD hS hl
  intro n
  induction n with
  | zero => intro i hi hn H locs _ _ _ ls _; exfalso; omega
  | succ n ih =>
    intro i hi hn H locs hP hD hS ls hl
    refine lv_iload_n hx hb dX2_cardsThought_4 rfl (lv_at hl 0 rfl) ?_
    refine lv_bipush (v := nI 16) hx hb dX2_cardsThought_5 (by decide) ?_
    by_cases hc : i < 16
    · refine lv_icmp_ge (tgt := 30) hx hb dX2_cardsThought_7 (by decide) (fun c_ => absurd c_ (nI_ge hc (by decide))) (fun _ => ?_)
      refine lv_iload_n hx hb dX2_cardsThought_10 rfl (lv_at hl 1 rfl) ?_
      refine lv_aload_n hx hb dX2_cardsThought_11 rfl (lv_at hl 2 rfl) ?_
      refine va_get (D := G) (ci := 2) (v := .ref a0) (C := RX2) (T := TX2) (N := 4) hx hb hts hiX2 hown hK hP 0 rfl rfl 1 (by decide) (hts (.fieldLink RX2 12 "CardFans$Watcher" "thoughts" "LCardFans$Row;") (by decide +kernel)) (fun _ h9 => h9) rfl dX2_cardsThought_12 ?_
      refine lv_iload_n hx hb dX2_cardsThought_15 rfl (lv_at hl 0 rfl) ?_
      refine x_calli (va_runV (As := [.int (nI i)]) (rest := [.int (xsm f i)]) ⟨hx, hb, hml, hown, hts⟩ (c_X1_at l G T _ a0 a1 a2 f g i hc) (cwV 1 hts gX2_cardsThought_X1_at rfl rfl rfl (by decide +kernel) ⟨Nat.le_of_ble_eq_true rfl, Nat.le_of_ble_eq_true rfl⟩) (x_preV (wc := [(a0, .inr (1, [.ref a1, .ref a2])), (a1, .inl (T 0, 16, .inl f)), (a2, .inl (T 0, 16, .inl g))]) hK hP hD hS hA hXB hZ [1, 2, 3] rfl rfl _ _ 1 1 rfl rfl) rfl rfl hl.1 rfl (lv_room (Nat.le_of_ble_eq_true rfl)) dX2_cardsThought_16 ⟨Nat.le_of_ble_eq_true rfl, Nat.le_of_ble_eq_true rfl⟩) hP hD hS hA [1, 2, 3] rfl (fun _ _ _ => rfl) (fun r1 u H locs hw1 hP hD hS => ?_)
      have hP : va_P G vwCl ([(h0, .inr (2, [.int sh, .ref a0, .int an, .int gl])), (a0, .inr (1, [.ref a1, .ref a2])), (a1, .inl (T 0, 16, .inl f)), (a2, .inl (T 0, 16, .inl g))]) H := hP
      have hD : va_D A ([(h0, .inr (2, [.int sh, .ref a0, .int an, .int gl])), (a0, .inr (1, [.ref a1, .ref a2])), (a1, .inl (T 0, 16, .inl f)), (a2, .inl (T 0, 16, .inl g))]) := hD
      subst hw1
      refine x_calli (va_runS (As := [.int (f i)]) (rest := [.int (xsm f i)]) ⟨hx, hb, hml, hown, hts⟩ (c_J6_bitCount_0f7a4 l G T _ (f i)) (va_cwS 1 hts gX2_cardsThought_J6_bitCount_0f7a4 rfl rfl rfl (by decide +kernel) ⟨Nat.le_of_ble_eq_true rfl, Nat.le_of_ble_eq_true rfl⟩) (x_preS (wc := []) hK hP hD hS hA hXB hZ [] rfl rfl _) rfl rfl hl.1 rfl (lv_room (Nat.le_of_ble_eq_true rfl)) dX2_cardsThought_19 ⟨Nat.le_of_ble_eq_true rfl, Nat.le_of_ble_eq_true rfl⟩) hP hD hS hA [] rfl (fun _ _ _ => rfl) (fun r2 u H locs hw2 hP hD hS => ?_)
      have hP : va_P G vwCl ([(h0, .inr (2, [.int sh, .ref a0, .int an, .int gl])), (a0, .inr (1, [.ref a1, .ref a2])), (a1, .inl (T 0, 16, .inl f)), (a2, .inl (T 0, 16, .inl g))]) H := hP
      have hD : va_D A ([(h0, .inr (2, [.int sh, .ref a0, .int an, .int gl])), (a0, .inr (1, [.ref a1, .ref a2])), (a1, .inl (T 0, 16, .inl f)), (a2, .inl (T 0, 16, .inl g))]) := hD
      subst hw2
      refine lv_iadd hx hb dX2_cardsThought_22 ?_
      refine x_topi (y := (xsm f (i + 1))) (rfl) ?_
      refine lv_istore_n (lv' := [(1, .int (xsm f (i + 1))), (2, .int (nI i)), (0, .ref h0)]) hx hb dX2_cardsThought_23 rfl hl (by decide) rfl (fun ls hl => ?_)
      refine lv_iinc (v := nI (i + 1)) (lv' := [(2, .int (nI (i + 1))), (1, .int (xsm f (i + 1))), (0, .ref h0)]) hx hb dX2_cardsThought_24 hl (k := 1) rfl (x_inc _) (by decide) rfl (fun ls hl => ?_)
      refine lv_goto (tgt := 4) hx hb dX2_cardsThought_27 (by decide) ?_
      exact ih (i + 1) (by omega) (by omega) _ _ hP hD hS ls (lv_sub hl [0, 1, 2] rfl)
    · refine lv_icmp_ge (tgt := 30) hx hb dX2_cardsThought_7 (by decide) (fun _ => ?_) (fun c_ => absurd (nI_le (by omega) (by omega)) c_)
      refine lv_iload_n hx hb dX2_cardsThought_30 rfl (lv_at hl 1 rfl) ?_
      exact W.iret (v := xsm f i) hx hb hr (fun t ht hW => ⟨⟨xsm f i, (), rfl, by rw [show i = 16 by omega], x_at ht hP⟩, hS.F ht⟩) hS.2.2 dX2_cardsThought_31
end XL4
end
section
section XSA
/-! what a state of the pack is: the cards, the thoughts, who is sharp, how often anew, glimpses, habits, taken cards, watchers, players, lean, ways, false cuts, cards taken -/
abbrev XM : Type := (Nat → Int32) × (Nat → Nat → Int32) × (Nat → Int32) × (Nat → Int32) × (Nat → Int32) × (Nat → Int32) × (Nat → Int32) × Nat × Nat × Int32 × Int32 × Int32 × Nat
abbrev mpk (M : XM) : Nat → Int32 := M.1
abbrev mth (M : XM) : Nat → Nat → Int32 := M.2.1
abbrev msh (M : XM) : Nat → Int32 := M.2.2.1
abbrev man (M : XM) : Nat → Int32 := M.2.2.2.1
abbrev mgl (M : XM) : Nat → Int32 := M.2.2.2.2.1
abbrev mhb (M : XM) : Nat → Int32 := M.2.2.2.2.2.1
abbrev mtk (M : XM) : Nat → Int32 := M.2.2.2.2.2.2.1
abbrev mnw (M : XM) : Nat := M.2.2.2.2.2.2.2.1
abbrev mnp (M : XM) : Nat := M.2.2.2.2.2.2.2.2.1
abbrev mle (M : XM) : Int32 := M.2.2.2.2.2.2.2.2.2.1
abbrev mwy (M : XM) : Int32 := M.2.2.2.2.2.2.2.2.2.2.1
abbrev mfc (M : XM) : Int32 := M.2.2.2.2.2.2.2.2.2.2.2.1
abbrev mta (M : XM) : Nat := M.2.2.2.2.2.2.2.2.2.2.2.2
abbrev xmk (pk : Nat → Int32) (th : Nat → Nat → Int32) (sh : Nat → Int32) (an : Nat → Int32) (gl : Nat → Int32) (hb : Nat → Int32) (tk : Nat → Int32) (nw : Nat) (np : Nat) (le : Int32) (wy : Int32) (fc : Int32) (ta : Nat) : XM := (pk, th, sh, an, gl, hb, tk, nw, np, le, wy, fc, ta)
/-- the cells of the class: at the addresses ad, with what is of no account, sc -/
def xC (T : Nat → ClassId) (ad : Nat → Nat) (sc : Nat → Nat → Int32) (M : XM) : va_W := [(ad 0, .inr (3, [.ref (ad 1), .ref (ad 4), .ref (ad 7), .ref (ad 8), .int (nI (mnw M)), .int (nI (mnp M)), .int (mwy M), .int (mfc M), .int (mle M), .int (nI (mta M))])), (ad 1, .inr (1, [.ref (ad 2), .ref (ad 3)])), (ad 2, .inl (T 0, 16, .inl (mpk M))), (ad 3, .inl (T 0, 16, .inl (sc 0))), (ad 4, .inr (1, [.ref (ad 5), .ref (ad 6)])), (ad 5, .inl (T 0, 16, .inl (sc 1))), (ad 6, .inl (T 0, 16, .inl (sc 2))), (ad 7, .inl (T 2, 4, .inr (.inr (.inr (.inr (fun j => if j < mnw M then some (ad (9 + 4 * j)) else none)))))), (ad 8, .inl (T 1, 4, .inr (.inr (.inr (.inr (fun j => if j < mnp M then some (ad (25 + j)) else none))))))] ++ ((List.range (mnw M)).flatMap (fun k => [(ad (9 + 4 * k), .inr (2, [.int (msh M k), .ref (ad (10 + 4 * k)), .int (man M k), .int (mgl M k)])), (ad (10 + 4 * k), .inr (1, [.ref (ad (11 + 4 * k)), .ref (ad (12 + 4 * k))])), (ad (11 + 4 * k), .inl (T 0, 16, .inl (mth M k))), (ad (12 + 4 * k), .inl (T 0, 16, .inl (sc (3 + k))))]) ++ (List.range (mnp M)).map (fun k => (ad (25 + k), .inr (0, [.int (mhb M k), .int (mtk M k)]))))
theorem xC_w0 (T : Nat → ClassId) (ad : Nat → Nat) (sc : Nat → Nat → Int32) (M : XM) {k : Nat} (hn : mnw M ≤ 4) (hk : k < mnw M) : (xC T ad sc M)[9 + 4 * k]? = some (ad (9 + 4 * k), .inr (2, [.int (msh M k), .ref (ad (10 + 4 * k)), .int (man M k), .int (mgl M k)])) := by
  obtain ⟨pk, th, sh, an, gl, hb, tk, nw, np, le, wy, fc, ta⟩ := M
  rcases (show nw = 1 ∨ nw = 2 ∨ nw = 3 ∨ nw = 4 by have h : nw ≤ 4 := hn; have h2 : k < nw := hk; omega) with rfl | rfl | rfl | rfl
  · rcases (show k = 0 by have h2 : k < 1 := hk; omega) with rfl <;> rfl
  · rcases (show k = 0 ∨ k = 1 by have h2 : k < 2 := hk; omega) with rfl | rfl <;> rfl
  · rcases (show k = 0 ∨ k = 1 ∨ k = 2 by have h2 : k < 3 := hk; omega) with rfl | rfl | rfl <;> rfl
  · rcases (show k = 0 ∨ k = 1 ∨ k = 2 ∨ k = 3 by have h2 : k < 4 := hk; omega) with rfl | rfl | rfl | rfl <;> rfl
theorem xC_w1 (T : Nat → ClassId) (ad : Nat → Nat) (sc : Nat → Nat → Int32) (M : XM) {k : Nat} (hn : mnw M ≤ 4) (hk : k < mnw M) : (xC T ad sc M)[10 + 4 * k]? = some (ad (10 + 4 * k), .inr (1, [.ref (ad (11 + 4 * k)), .ref (ad (12 + 4 * k))])) := by
  obtain ⟨pk, th, sh, an, gl, hb, tk, nw, np, le, wy, fc, ta⟩ := M
  rcases (show nw = 1 ∨ nw = 2 ∨ nw = 3 ∨ nw = 4 by have h : nw ≤ 4 := hn; have h2 : k < nw := hk; omega) with rfl | rfl | rfl | rfl
  · rcases (show k = 0 by have h2 : k < 1 := hk; omega) with rfl <;> rfl
  · rcases (show k = 0 ∨ k = 1 by have h2 : k < 2 := hk; omega) with rfl | rfl <;> rfl
  · rcases (show k = 0 ∨ k = 1 ∨ k = 2 by have h2 : k < 3 := hk; omega) with rfl | rfl | rfl <;> rfl
  · rcases (show k = 0 ∨ k = 1 ∨ k = 2 ∨ k = 3 by have h2 : k < 4 := hk; omega) with rfl | rfl | rfl | rfl <;> rfl
theorem xC_w2 (T : Nat → ClassId) (ad : Nat → Nat) (sc : Nat → Nat → Int32) (M : XM) {k : Nat} (hn : mnw M ≤ 4) (hk : k < mnw M) : (xC T ad sc M)[11 + 4 * k]? = some (ad (11 + 4 * k), .inl (T 0, 16, .inl (mth M k))) := by
  obtain ⟨pk, th, sh, an, gl, hb, tk, nw, np, le, wy, fc, ta⟩ := M
  rcases (show nw = 1 ∨ nw = 2 ∨ nw = 3 ∨ nw = 4 by have h : nw ≤ 4 := hn; have h2 : k < nw := hk; omega) with rfl | rfl | rfl | rfl
  · rcases (show k = 0 by have h2 : k < 1 := hk; omega) with rfl <;> rfl
  · rcases (show k = 0 ∨ k = 1 by have h2 : k < 2 := hk; omega) with rfl | rfl <;> rfl
  · rcases (show k = 0 ∨ k = 1 ∨ k = 2 by have h2 : k < 3 := hk; omega) with rfl | rfl | rfl <;> rfl
  · rcases (show k = 0 ∨ k = 1 ∨ k = 2 ∨ k = 3 by have h2 : k < 4 := hk; omega) with rfl | rfl | rfl | rfl <;> rfl
theorem xC_w3 (T : Nat → ClassId) (ad : Nat → Nat) (sc : Nat → Nat → Int32) (M : XM) {k : Nat} (hn : mnw M ≤ 4) (hk : k < mnw M) : (xC T ad sc M)[12 + 4 * k]? = some (ad (12 + 4 * k), .inl (T 0, 16, .inl (sc (3 + k)))) := by
  obtain ⟨pk, th, sh, an, gl, hb, tk, nw, np, le, wy, fc, ta⟩ := M
  rcases (show nw = 1 ∨ nw = 2 ∨ nw = 3 ∨ nw = 4 by have h : nw ≤ 4 := hn; have h2 : k < nw := hk; omega) with rfl | rfl | rfl | rfl
  · rcases (show k = 0 by have h2 : k < 1 := hk; omega) with rfl <;> rfl
  · rcases (show k = 0 ∨ k = 1 by have h2 : k < 2 := hk; omega) with rfl | rfl <;> rfl
  · rcases (show k = 0 ∨ k = 1 ∨ k = 2 by have h2 : k < 3 := hk; omega) with rfl | rfl | rfl <;> rfl
  · rcases (show k = 0 ∨ k = 1 ∨ k = 2 ∨ k = 3 by have h2 : k < 4 := hk; omega) with rfl | rfl | rfl | rfl <;> rfl
theorem xC_wis (T : Nat → ClassId) (ad : Nat → Nat) (sc : Nat → Nat → Int32) (M : XM) {k : Nat} (hn : mnw M ≤ 4) (hk : k < mnw M) : [9 + 4 * k, 10 + 4 * k, 11 + 4 * k, 12 + 4 * k].map (fun i => (xC T ad sc M)[i]?) = ([(ad (9 + 4 * k), .inr (2, [.int (msh M k), .ref (ad (10 + 4 * k)), .int (man M k), .int (mgl M k)])), (ad (10 + 4 * k), .inr (1, [.ref (ad (11 + 4 * k)), .ref (ad (12 + 4 * k))])), (ad (11 + 4 * k), .inl (T 0, 16, .inl (mth M k))), (ad (12 + 4 * k), .inl (T 0, 16, .inl (sc (3 + k))))] : va_W).map some := by
  simp only [List.map_cons, List.map_nil, xC_w0 T ad sc M hn hk, xC_w1 T ad sc M hn hk, xC_w2 T ad sc M hn hk, xC_w3 T ad sc M hn hk]
theorem xC_1 (T : Nat → ClassId) (ad : Nat → Nat) (sc : Nat → Nat → Int32) (M : XM) : (xC T ad sc M)[1]? = some (ad 1, .inr (1, [.ref (ad 2), .ref (ad 3)])) := rfl
theorem xC_2 (T : Nat → ClassId) (ad : Nat → Nat) (sc : Nat → Nat → Int32) (M : XM) : (xC T ad sc M)[2]? = some (ad 2, .inl (T 0, 16, .inl (mpk M))) := rfl
theorem xC_3 (T : Nat → ClassId) (ad : Nat → Nat) (sc : Nat → Nat → Int32) (M : XM) : (xC T ad sc M)[3]? = some (ad 3, .inl (T 0, 16, .inl (sc 0))) := rfl
theorem xC_wis2 (T : Nat → ClassId) (ad : Nat → Nat) (sc : Nat → Nat → Int32) (M : XM) {k : Nat} (hn : mnw M ≤ 4) (hk : k < mnw M) : [9 + 4 * k, 10 + 4 * k, 11 + 4 * k, 12 + 4 * k, 1, 2, 3].map (fun i => (xC T ad sc M)[i]?) = ([(ad (9 + 4 * k), .inr (2, [.int (msh M k), .ref (ad (10 + 4 * k)), .int (man M k), .int (mgl M k)])), (ad (10 + 4 * k), .inr (1, [.ref (ad (11 + 4 * k)), .ref (ad (12 + 4 * k))])), (ad (11 + 4 * k), .inl (T 0, 16, .inl (mth M k))), (ad (12 + 4 * k), .inl (T 0, 16, .inl (sc (3 + k)))), (ad 1, .inr (1, [.ref (ad 2), .ref (ad 3)])), (ad 2, .inl (T 0, 16, .inl (mpk M))), (ad 3, .inl (T 0, 16, .inl (sc 0)))] : va_W).map some := by
  simp only [List.map_cons, List.map_nil, xC_w0 T ad sc M hn hk, xC_w1 T ad sc M hn hk, xC_w2 T ad sc M hn hk, xC_w3 T ad sc M hn hk, xC_1, xC_2, xC_3]
theorem xrep_same : ∀ (is : List Nat) (ws wc : va_W), is.map (fun i => ws[i]?) = wc.map some → xrep ws is wc = ws
  | [], ws, wc, _ => by cases wc <;> rfl
  | i :: is, ws, [], h => by simp at h
  | i :: is, ws, p :: wc, h => by
    simp only [List.map_cons, List.cons.injEq] at h
    have e : ws.set i p = ws := by
      apply List.ext_getElem?
      intro j
      rw [List.getElem?_set]
      split
      · rename_i e
        subst e
        rw [if_pos (List.getElem?_eq_some_iff.mp h.1).1, h.1]
      · rfl
    show xrep (ws.set i p) is wc = ws
    rw [e]
    exact xrep_same is ws wc h.2
theorem xC_wn {k : Nat} (hk : k < 4) : va_nd [9 + 4 * k, 10 + 4 * k, 11 + 4 * k, 12 + 4 * k] = true := by
  rcases (show k = 0 ∨ k = 1 ∨ k = 2 ∨ k = 3 by omega) with rfl | rfl | rfl | rfl <;> rfl
theorem xC_wn2 {k : Nat} (hk : k < 4) : va_nd [9 + 4 * k, 10 + 4 * k, 11 + 4 * k, 12 + 4 * k, 1, 2, 3] = true := by
  rcases (show k = 0 ∨ k = 1 ∨ k = 2 ∨ k = 3 by omega) with rfl | rfl | rfl | rfl <;> rfl
/-- a watcher changes -/
abbrev xMw (M : XM) (k : Nat) (an1 gl1 : Int32) (f1 : Nat → Int32) : XM := xmk (mpk M) (va_up (mth M) k f1) (msh M) (upd (man M) k an1) (upd (mgl M) k gl1) (mhb M) (mtk M) (mnw M) (mnp M) (mle M) (mwy M) (mfc M) (mta M)
theorem xC_wrep (T : Nat → ClassId) (ad : Nat → Nat) (sc : Nat → Nat → Int32) (M : XM) {k : Nat} (hn : mnw M ≤ 4) (hk : k < mnw M) (an1 gl1 : Int32) (f1 g1 : Nat → Int32) : xrep (xC T ad sc M) [9 + 4 * k, 10 + 4 * k, 11 + 4 * k, 12 + 4 * k] [(ad (9 + 4 * k), .inr (2, [.int (msh M k), .ref (ad (10 + 4 * k)), .int an1, .int gl1])), (ad (10 + 4 * k), .inr (1, [.ref (ad (11 + 4 * k)), .ref (ad (12 + 4 * k))])), (ad (11 + 4 * k), .inl (T 0, 16, .inl f1)), (ad (12 + 4 * k), .inl (T 0, 16, .inl g1))] = xC T ad (va_up sc (3 + k) g1) (xMw M k an1 gl1 f1) := by
  obtain ⟨pk, th, sh, an, gl, hb, tk, nw, np, le, wy, fc, ta⟩ := M
  rcases (show nw = 1 ∨ nw = 2 ∨ nw = 3 ∨ nw = 4 by have h : nw ≤ 4 := hn; have h2 : k < nw := hk; omega) with rfl | rfl | rfl | rfl
  · rcases (show k = 0 by have h2 : k < 1 := hk; omega) with rfl <;> rfl
  · rcases (show k = 0 ∨ k = 1 by have h2 : k < 2 := hk; omega) with rfl | rfl <;> rfl
  · rcases (show k = 0 ∨ k = 1 ∨ k = 2 by have h2 : k < 3 := hk; omega) with rfl | rfl | rfl <;> rfl
  · rcases (show k = 0 ∨ k = 1 ∨ k = 2 ∨ k = 3 by have h2 : k < 4 := hk; omega) with rfl | rfl | rfl | rfl <;> rfl
theorem xC_p (T : Nat → ClassId) (ad : Nat → Nat) (sc : Nat → Nat → Int32) (M : XM) {k : Nat} (hn : mnw M ≤ 4) (hm : mnp M ≤ 4) (hk : k < mnp M) : (xC T ad sc M)[9 + 4 * mnw M + k]? = some (ad (25 + k), .inr (0, [.int (mhb M k), .int (mtk M k)])) := by
  obtain ⟨pk, th, sh, an, gl, hb, tk, nw, np, le, wy, fc, ta⟩ := M
  rcases (show nw = 0 ∨ nw = 1 ∨ nw = 2 ∨ nw = 3 ∨ nw = 4 by have h : nw ≤ 4 := hn; omega) with rfl | rfl | rfl | rfl | rfl
  · rcases (show np = 1 ∨ np = 2 ∨ np = 3 ∨ np = 4 by have h : np ≤ 4 := hm; have h2 : k < np := hk; omega) with rfl | rfl | rfl | rfl
    · rcases (show k = 0 by have h2 : k < 1 := hk; omega) with rfl <;> rfl
    · rcases (show k = 0 ∨ k = 1 by have h2 : k < 2 := hk; omega) with rfl | rfl <;> rfl
    · rcases (show k = 0 ∨ k = 1 ∨ k = 2 by have h2 : k < 3 := hk; omega) with rfl | rfl | rfl <;> rfl
    · rcases (show k = 0 ∨ k = 1 ∨ k = 2 ∨ k = 3 by have h2 : k < 4 := hk; omega) with rfl | rfl | rfl | rfl <;> rfl
  · rcases (show np = 1 ∨ np = 2 ∨ np = 3 ∨ np = 4 by have h : np ≤ 4 := hm; have h2 : k < np := hk; omega) with rfl | rfl | rfl | rfl
    · rcases (show k = 0 by have h2 : k < 1 := hk; omega) with rfl <;> rfl
    · rcases (show k = 0 ∨ k = 1 by have h2 : k < 2 := hk; omega) with rfl | rfl <;> rfl
    · rcases (show k = 0 ∨ k = 1 ∨ k = 2 by have h2 : k < 3 := hk; omega) with rfl | rfl | rfl <;> rfl
    · rcases (show k = 0 ∨ k = 1 ∨ k = 2 ∨ k = 3 by have h2 : k < 4 := hk; omega) with rfl | rfl | rfl | rfl <;> rfl
  · rcases (show np = 1 ∨ np = 2 ∨ np = 3 ∨ np = 4 by have h : np ≤ 4 := hm; have h2 : k < np := hk; omega) with rfl | rfl | rfl | rfl
    · rcases (show k = 0 by have h2 : k < 1 := hk; omega) with rfl <;> rfl
    · rcases (show k = 0 ∨ k = 1 by have h2 : k < 2 := hk; omega) with rfl | rfl <;> rfl
    · rcases (show k = 0 ∨ k = 1 ∨ k = 2 by have h2 : k < 3 := hk; omega) with rfl | rfl | rfl <;> rfl
    · rcases (show k = 0 ∨ k = 1 ∨ k = 2 ∨ k = 3 by have h2 : k < 4 := hk; omega) with rfl | rfl | rfl | rfl <;> rfl
  · rcases (show np = 1 ∨ np = 2 ∨ np = 3 ∨ np = 4 by have h : np ≤ 4 := hm; have h2 : k < np := hk; omega) with rfl | rfl | rfl | rfl
    · rcases (show k = 0 by have h2 : k < 1 := hk; omega) with rfl <;> rfl
    · rcases (show k = 0 ∨ k = 1 by have h2 : k < 2 := hk; omega) with rfl | rfl <;> rfl
    · rcases (show k = 0 ∨ k = 1 ∨ k = 2 by have h2 : k < 3 := hk; omega) with rfl | rfl | rfl <;> rfl
    · rcases (show k = 0 ∨ k = 1 ∨ k = 2 ∨ k = 3 by have h2 : k < 4 := hk; omega) with rfl | rfl | rfl | rfl <;> rfl
  · rcases (show np = 1 ∨ np = 2 ∨ np = 3 ∨ np = 4 by have h : np ≤ 4 := hm; have h2 : k < np := hk; omega) with rfl | rfl | rfl | rfl
    · rcases (show k = 0 by have h2 : k < 1 := hk; omega) with rfl <;> rfl
    · rcases (show k = 0 ∨ k = 1 by have h2 : k < 2 := hk; omega) with rfl | rfl <;> rfl
    · rcases (show k = 0 ∨ k = 1 ∨ k = 2 by have h2 : k < 3 := hk; omega) with rfl | rfl | rfl <;> rfl
    · rcases (show k = 0 ∨ k = 1 ∨ k = 2 ∨ k = 3 by have h2 : k < 4 := hk; omega) with rfl | rfl | rfl | rfl <;> rfl
abbrev xMp (M : XM) (k : Nat) (v : Int32) : XM := xmk (mpk M) (mth M) (msh M) (man M) (mgl M) (mhb M) (upd (mtk M) k v) (mnw M) (mnp M) (mle M) (mwy M) (mfc M) (mta M)
theorem xC_pset (T : Nat → ClassId) (ad : Nat → Nat) (sc : Nat → Nat → Int32) (M : XM) {k : Nat} (hn : mnw M ≤ 4) (hm : mnp M ≤ 4) (hk : k < mnp M) (v : Int32) : (xC T ad sc M).set (9 + 4 * mnw M + k) (ad (25 + k), .inr (0, [.int (mhb M k), .int v])) = xC T ad sc (xMp M k v) := by
  obtain ⟨pk, th, sh, an, gl, hb, tk, nw, np, le, wy, fc, ta⟩ := M
  rcases (show nw = 0 ∨ nw = 1 ∨ nw = 2 ∨ nw = 3 ∨ nw = 4 by have h : nw ≤ 4 := hn; omega) with rfl | rfl | rfl | rfl | rfl
  · rcases (show np = 1 ∨ np = 2 ∨ np = 3 ∨ np = 4 by have h : np ≤ 4 := hm; have h2 : k < np := hk; omega) with rfl | rfl | rfl | rfl
    · rcases (show k = 0 by have h2 : k < 1 := hk; omega) with rfl <;> rfl
    · rcases (show k = 0 ∨ k = 1 by have h2 : k < 2 := hk; omega) with rfl | rfl <;> rfl
    · rcases (show k = 0 ∨ k = 1 ∨ k = 2 by have h2 : k < 3 := hk; omega) with rfl | rfl | rfl <;> rfl
    · rcases (show k = 0 ∨ k = 1 ∨ k = 2 ∨ k = 3 by have h2 : k < 4 := hk; omega) with rfl | rfl | rfl | rfl <;> rfl
  · rcases (show np = 1 ∨ np = 2 ∨ np = 3 ∨ np = 4 by have h : np ≤ 4 := hm; have h2 : k < np := hk; omega) with rfl | rfl | rfl | rfl
    · rcases (show k = 0 by have h2 : k < 1 := hk; omega) with rfl <;> rfl
    · rcases (show k = 0 ∨ k = 1 by have h2 : k < 2 := hk; omega) with rfl | rfl <;> rfl
    · rcases (show k = 0 ∨ k = 1 ∨ k = 2 by have h2 : k < 3 := hk; omega) with rfl | rfl | rfl <;> rfl
    · rcases (show k = 0 ∨ k = 1 ∨ k = 2 ∨ k = 3 by have h2 : k < 4 := hk; omega) with rfl | rfl | rfl | rfl <;> rfl
  · rcases (show np = 1 ∨ np = 2 ∨ np = 3 ∨ np = 4 by have h : np ≤ 4 := hm; have h2 : k < np := hk; omega) with rfl | rfl | rfl | rfl
    · rcases (show k = 0 by have h2 : k < 1 := hk; omega) with rfl <;> rfl
    · rcases (show k = 0 ∨ k = 1 by have h2 : k < 2 := hk; omega) with rfl | rfl <;> rfl
    · rcases (show k = 0 ∨ k = 1 ∨ k = 2 by have h2 : k < 3 := hk; omega) with rfl | rfl | rfl <;> rfl
    · rcases (show k = 0 ∨ k = 1 ∨ k = 2 ∨ k = 3 by have h2 : k < 4 := hk; omega) with rfl | rfl | rfl | rfl <;> rfl
  · rcases (show np = 1 ∨ np = 2 ∨ np = 3 ∨ np = 4 by have h : np ≤ 4 := hm; have h2 : k < np := hk; omega) with rfl | rfl | rfl | rfl
    · rcases (show k = 0 by have h2 : k < 1 := hk; omega) with rfl <;> rfl
    · rcases (show k = 0 ∨ k = 1 by have h2 : k < 2 := hk; omega) with rfl | rfl <;> rfl
    · rcases (show k = 0 ∨ k = 1 ∨ k = 2 by have h2 : k < 3 := hk; omega) with rfl | rfl | rfl <;> rfl
    · rcases (show k = 0 ∨ k = 1 ∨ k = 2 ∨ k = 3 by have h2 : k < 4 := hk; omega) with rfl | rfl | rfl | rfl <;> rfl
  · rcases (show np = 1 ∨ np = 2 ∨ np = 3 ∨ np = 4 by have h : np ≤ 4 := hm; have h2 : k < np := hk; omega) with rfl | rfl | rfl | rfl
    · rcases (show k = 0 by have h2 : k < 1 := hk; omega) with rfl <;> rfl
    · rcases (show k = 0 ∨ k = 1 by have h2 : k < 2 := hk; omega) with rfl | rfl <;> rfl
    · rcases (show k = 0 ∨ k = 1 ∨ k = 2 by have h2 : k < 3 := hk; omega) with rfl | rfl | rfl <;> rfl
    · rcases (show k = 0 ∨ k = 1 ∨ k = 2 ∨ k = 3 by have h2 : k < 4 := hk; omega) with rfl | rfl | rfl | rfl <;> rfl
/-- addresses of a new watcher's cells, of a new player's -/
def xadW (ad : Nat → Nat) (n q0 q1 q2 q3 : Nat) : Nat → Nat := fun r => if r = 9 + 4 * n then q0 else if r = 10 + 4 * n then q1 else if r = 11 + 4 * n then q2 else if r = 12 + 4 * n then q3 else ad r
def xadP (ad : Nat → Nat) (n q : Nat) : Nat → Nat := fun r => if r = 25 + n then q else ad r
/-- what holds of a state behind n calls -/
def xI (M : XM) (n : Nat) : Prop := mnw M ≤ 4 ∧ mnp M ≤ 4 ∧ (∀ j, j < 16 → ∃ c, c < 16 ∧ mpk M j = nI c) ∧ (∀ c, c < 16 → ∃ j, j < 16 ∧ mpk M j = nI c) ∧ (∀ w, w < mnw M → msh M w = nI 0 ∨ msh M w = nI 1) ∧ (∀ w, w < mnw M → ∀ j, j < 16 → (mth M w j).toBitVec.toNat < 65536 ∧ ¬ mth M w j = 0) ∧ (∀ w, mnw M ≤ w → man M w = 0 ∧ mgl M w = 0) ∧ (∀ q, q < mnp M → ∃ h, h < 16 ∧ mhb M q = nI h) ∧ (∃ v, v < 16 ∧ mle M = nI v) ∧ mta M ≤ n ∧ n ≤ 512
def xka (x : Int32) : Nat := x.toNatClampNeg
theorem xka_n {n : Nat} (h : n < 2 ^ 31) : xka (nI n) = n := nI_clamp h
/-- what count tells -/
def xcnt (M : XM) : Nat → Int32
  | 0 => mwy M
  | 1 => mfc M
  | 2 => nI (mnw M)
  | 3 => nI (mnp M)
  | 4 => mle M
  | 5 => nI (mta M)
  | _ => nI (xct (fun j => decide (mpk M j = nI j)) 16)
/-- what watcher tells -/
def xtold (M : XM) (w : Nat) : Nat → Int32
  | 0 => msh M w
  | 1 => nI (xct (fun j => decide (¬ mth M w j &&& xso (mpk M j) = 0)) 16)
  | 2 => nI (xct (fun j => xone (mth M w j)) 16)
  | 3 => nI (xct (fun j => decide (mth M w j = xso (mpk M j))) 16)
  | 4 => man M w
  | _ => mgl M w
/-- thoughts moved by a way -/
def xmv (M : XM) (k n : Nat) (c : Nat → Bool) : Nat → Nat → Int32 := fun w => if c w then fun j => mth M w (xpb k n j) else mth M w
theorem xmv_up (M : XM) (k n : Nat) {c c' : Nat → Bool} {i : Nat} (h0 : c i = false) (h1 : c' i = true) (h2 : ∀ j, j ≠ i → c' j = c j) : va_up (xmv M k n c) i (fun j => mth M i (xpb k n j)) = xmv M k n c' := by
  funext w
  unfold va_up xmv
  by_cases e : w = i
  · subst e
    rw [if_pos rfl, if_pos h1]
  · rw [if_neg e, h2 w e]
theorem xmv_at (M : XM) (k n : Nat) {c : Nat → Bool} {i : Nat} (h0 : c i = false) : xmv M k n c i = mth M i := by
  unfold xmv
  rw [if_neg (by rw [h0]; exact Bool.false_ne_true)]
theorem xmv_no (M : XM) (k n : Nat) {c : Nat → Bool} (h0 : ∀ i, c i = false) : xmv M k n c = mth M := by
  funext w
  exact xmv_at M k n (h0 w)
theorem xmv_cong (M : XM) (k n : Nat) {c c' : Nat → Bool} (h0 : ∀ i, c i = c' i) : xmv M k n c = xmv M k n c' := by
  rw [show c = c' from funext h0]
end XSA
end
