section
-- ===== PART A: goes FIRST, ahead of the names: the tables' words, and 'selects' of the private methods out of them =====
/-- a private method of a class that the tables say can be made, by its rows of tables_1 -/
def lw_okq (q : MethodName × Nat) : Prop := (q.1.cls ≠ "java/lang/invoke/MethodHandle" ∧ q.1.cls ≠ "java/lang/invoke/VarHandle") ∧ Cond.instantiable q.1.cls q.2 ∈ tables_1 ∧ Cond.privateMethod q.1 ∈ tables_1 ∧ Cond.instanceMethod q.1 ∈ tables_1
theorem lw_p0 : lw_okq (⟨"java/lang/Throwable", "fillInStackTrace", "(I)Ljava/lang/Throwable;"⟩, 6) := ⟨⟨by decide +kernel, by decide +kernel⟩, List.mem_of_getElem? (i := 199) (by decide +kernel), List.mem_of_getElem? (i := 197) (by decide +kernel), List.mem_of_getElem? (i := 198) (by decide +kernel)⟩
theorem lw_p1 : lw_okq (⟨"WaxCopies", "checkWhat", "(II)V"⟩, 7) := ⟨⟨by decide +kernel, by decide +kernel⟩, List.mem_of_getElem? (i := 14) (by decide +kernel), List.mem_of_getElem? (i := 245) (by decide +kernel), List.mem_of_getElem? (i := 246) (by decide +kernel)⟩
theorem lw_p2 : lw_okq (⟨"WaxCopies", "checkTrack", "(I)V"⟩, 7) := ⟨⟨by decide +kernel, by decide +kernel⟩, List.mem_of_getElem? (i := 14) (by decide +kernel), List.mem_of_getElem? (i := 300) (by decide +kernel), List.mem_of_getElem? (i := 301) (by decide +kernel)⟩
theorem lw_p3 : lw_okq (⟨"WaxCopies", "checkLoudness", "(I)V"⟩, 7) := ⟨⟨by decide +kernel, by decide +kernel⟩, List.mem_of_getElem? (i := 14) (by decide +kernel), List.mem_of_getElem? (i := 320) (by decide +kernel), List.mem_of_getElem? (i := 321) (by decide +kernel)⟩
theorem lw_p4 : lw_okq (⟨"WaxCopies", "saveState", "()V"⟩, 7) := ⟨⟨by decide +kernel, by decide +kernel⟩, List.mem_of_getElem? (i := 14) (by decide +kernel), List.mem_of_getElem? (i := 325) (by decide +kernel), List.mem_of_getElem? (i := 326) (by decide +kernel)⟩
theorem lw_p5 : lw_okq (⟨"WaxCopies", "dropOldestState", "()V"⟩, 7) := ⟨⟨by decide +kernel, by decide +kernel⟩, List.mem_of_getElem? (i := 14) (by decide +kernel), List.mem_of_getElem? (i := 329) (by decide +kernel), List.mem_of_getElem? (i := 330) (by decide +kernel)⟩
theorem lw_p6 : lw_okq (⟨"WaxCopies", "checkLever", "(I)V"⟩, 7) := ⟨⟨by decide +kernel, by decide +kernel⟩, List.mem_of_getElem? (i := 14) (by decide +kernel), List.mem_of_getElem? (i := 362) (by decide +kernel), List.mem_of_getElem? (i := 363) (by decide +kernel)⟩
theorem lw_p7 : lw_okq (⟨"WaxCopies", "checkCylinder", "(I)V"⟩, 7) := ⟨⟨by decide +kernel, by decide +kernel⟩, List.mem_of_getElem? (i := 14) (by decide +kernel), List.mem_of_getElem? (i := 409) (by decide +kernel), List.mem_of_getElem? (i := 410) (by decide +kernel)⟩
theorem lw_p8 : lw_okq (⟨"WaxCopies$Steps", "stepOn", "(II)V"⟩, 2) := ⟨⟨by decide +kernel, by decide +kernel⟩, List.mem_of_getElem? (i := 107) (by decide +kernel), List.mem_of_getElem? (i := 496) (by decide +kernel), List.mem_of_getElem? (i := 497) (by decide +kernel)⟩
theorem lw_p9 : lw_okq (⟨"WaxCopies$Steps", "clearestOf", "(II)I"⟩, 2) := ⟨⟨by decide +kernel, by decide +kernel⟩, List.mem_of_getElem? (i := 107) (by decide +kernel), List.mem_of_getElem? (i := 503) (by decide +kernel), List.mem_of_getElem? (i := 504) (by decide +kernel)⟩
def lw_privs_1 : List (MethodName × Nat) := [(⟨"java/lang/Throwable", "fillInStackTrace", "(I)Ljava/lang/Throwable;"⟩, 6), (⟨"WaxCopies", "checkWhat", "(II)V"⟩, 7), (⟨"WaxCopies", "checkTrack", "(I)V"⟩, 7), (⟨"WaxCopies", "checkLoudness", "(I)V"⟩, 7), (⟨"WaxCopies", "saveState", "()V"⟩, 7), (⟨"WaxCopies", "dropOldestState", "()V"⟩, 7), (⟨"WaxCopies", "checkLever", "(I)V"⟩, 7), (⟨"WaxCopies", "checkCylinder", "(I)V"⟩, 7), (⟨"WaxCopies$Steps", "stepOn", "(II)V"⟩, 2), (⟨"WaxCopies$Steps", "clearestOf", "(II)I"⟩, 2)]
theorem lw_r1 : ∀ q ∈ lw_privs_1, lw_okq q := List.forall_mem_cons.mpr ⟨lw_p0, List.forall_mem_cons.mpr ⟨lw_p1, List.forall_mem_cons.mpr ⟨lw_p2, List.forall_mem_cons.mpr ⟨lw_p3, List.forall_mem_cons.mpr ⟨lw_p4, List.forall_mem_cons.mpr ⟨lw_p5, List.forall_mem_cons.mpr ⟨lw_p6, List.forall_mem_cons.mpr ⟨lw_p7, List.forall_mem_cons.mpr ⟨lw_p8, List.forall_mem_cons.mpr ⟨lw_p9, fun _ h => absurd h List.not_mem_nil⟩⟩⟩⟩⟩⟩⟩⟩⟩⟩
def lw_privs : List (MethodName × Nat) := lw_privs_1
def lw_tbl : List Cond := k2_sels lw_privs ++ tables_1
theorem lw_privs_ok : ∀ q ∈ lw_privs, lw_okq q := lw_r1
/-- the streams that the claim lets the run draw from -/
abbrev lw_cs : List Choice := [Jvm.Choice.named "NaN.bits"]
theorem lw_bits : nanBits ∈ lw_cs := by first | decide | exact List.mem_cons_self | simp [lw_cs, nanBits]
end
section
/-! ===== BEGIN words of one list among another's, by their places ===== -/
theorem goodIn_r {big : List Cond} (ws : List Cond) (ps : List Nat) (hp : ws = ps.filterMap (fun i => big[i]?)) (h : ws.all goodWord = true) : GoodIn big ws := by
  intro w hw
  have h1 := List.all_eq_true.mp h w hw
  rw [hp] at hw
  obtain ⟨i, -, hi⟩ := List.mem_filterMap.mp hw
  have hm : w ∈ big := by first | exact List.mem_of_getElem? hi | exact List.getElem?_mem hi
  exact ⟨hm, good_of_word h1⟩
theorem goodIn_app {big a b : List Cond} (ha : GoodIn big a) (hb : GoodIn big b) : GoodIn big (a ++ b) := fun w h => (List.mem_append.mp h).elim (ha w) (hb w)
theorem goodIn_ca {big a b : List Cond} {c : Cond} (ha : GoodIn big (c :: a)) (hb : GoodIn big b) : GoodIn big (c :: (a ++ b)) := fun w h => (List.mem_cons.mp h).elim (fun e => ha w (List.mem_cons.mpr (Or.inl e))) (fun h => (List.mem_append.mp h).elim (fun h => ha w (List.mem_cons.mpr (Or.inr h))) (hb w))
theorem goodIn_sub {big ws : List Cond} (hm : ∀ w ∈ ws, w ∈ big) (h : ws.all goodWord = true) : GoodIn big ws := fun w hw => ⟨hm w hw, good_of_word (List.all_eq_true.mp h w hw)⟩
/-! ===== END ===== -/

/-! ===== BEGIN exceptions that leave a method, and their catching by the caller (launches without stack traces) ===== -/
section VXA
/-! The laws vx_back, vx_callV, vx_callS, vx_callSW, vx_throw0, vx_throwS follow proofs of the library, with one case more: JvmDerived/Free/Laws.lean (Back.of_free), Shelf42/LK1.lean (callV, callS), Shelf/KitTraced.lean (throwNew0V, throwNewS). -/
/-- where a method has thrown q: the class by its name, the cell, what was written, the world -/
def vx_T (XC : String → State → State → Prop) (st : State) (q : Addr) (t : State) (mc ms : Nat) (free : Addr → Prop) : Prop :=
  ∃ (E : String) (ce : Cell) (L : List Loc), XC E st t ∧ t.heap[q]? = some ce ∧ ce.vm = .none ∧ st.vm.findClass E = some ce.cls ∧ st.WarmedH t.vm ∧ st.sameButNew ({ t with vm := st.vm } : State) L mc ms ∧ ∀ z ∈ L, free z.base
def vx_Q (Qc : Array Value → State → Outcome → State → Prop) (XC : String → State → State → Prop) (mc ms : Nat) (free : Addr → Prop) : Array Value → State → Outcome → State → Prop := fun a st o t =>
  (Qc a st o t ∧ ∃ L, FrameEnd st o t L mc ms ∧ ∀ q ∈ L, free q.base) ∨ ∃ q, o = .threw q ∧ vx_T XC st q t mc ms free
/-- a callee that returns or throws -/
def vx_Met (l : Launch) (y : MethodName) (ws : List Cond) (rm : Room) (Pc : Array Value → State → Prop) (Qc : Array Value → State → Outcome → State → Prop) (XC : String → State → State → Prop) (mc ms : Nat) (free : Addr → Prop) : Prop :=
  MetFree l y (headSpec ws rm) Pc (fun _ _ _ _ _ => True) (vx_Q Qc XC mc ms free)
def vx_Post (XC : String → State → State → Prop) (mc ms : Nat) (free : Addr → Prop) : Pt → Array Value → Addr → Pt → Prop := fun A a q B =>
  ∃ (g : JFrame) (mk : MethodId) (t : State) (L : List Loc) (E : String) (ce : Cell), B.U.heap = t.heap ∧ B.U.vm = t.vm ∧ XC E (A.U.calling g mk a) t ∧ t.heap[q]? = some ce ∧ ce.vm = .none ∧ A.U.vm.findClass E = some ce.cls ∧ B.locs = A.locs ++ L ∧ (∀ z ∈ L, free z.base) ∧ B.cells = A.cells + mc ∧ B.slots = A.slots + ms
def vx_Back (l : Launch) (R : Room) (p : Program) (e : Env) (below : List Frame) (s : State) (sargs : Array Value) (y : MethodName) (len W9 : Nat)
    (Pre : Pt → Array Value → Prop) (Post : Pt → Array Value → Option Value → Pt → Prop) (PostX : Pt → Array Value → Addr → Pt → Prop) : Prop :=
  ∀ (m : MethodId) (meth : Method) (c : Code) (A : Pt) (g : JFrame) (ig : Instr) (mk : MethodId) (a : Array Value),
    Stand p l e R s m sargs below meth c A.U A.locs A.cells A.slots → g.method = m → g.locals.size = c.maxLocals → decode c.code g.pc = .ok (ig, len) →
    2 * g.monitorRoom + (g.stack.map fun v => v.category).sum ≤ W9 → A.U.methodNamed? y = some mk → Pre A a →
    (∃ (v : Option Value) (B : Pt), Stand p l e R s m sargs below meth c B.U B.locs B.cells B.slots ∧ Post A a v B ∧
      Steps p.tables e below (doInvoke e (A.U.setTop g) [] mk a).1 (B.U.setTop { g with pc := g.pc + len, stack := v.toList ++ g.stack })) ∨
    (∃ (q : Addr) (B : Pt), Stand p l e R s m sargs below meth c B.U B.locs B.cells B.slots ∧ PostX A a q B ∧
      Steps p.tables e below (doInvoke e (A.U.setTop g) [] mk a).1 ((B.U.setTop g).pushFrame (.throwing q)))
section Payer
variable {l : Launch} {R : Room} {p : Program} {e : Env} {below : List Frame} {s : State} {sargs : Array Value} {y : MethodName} {len W9 : Nat}
theorem vx_back {ws : List Cond} {rm : Room} {Pc : Array Value → State → Prop} {Qc : Array Value → State → Outcome → State → Prop} {XC : String → State → State → Prop} {mc ms : Nat} {free : Addr → Prop} {bytes : ByteArray} {maxL : Nat} {ret : Option FieldType}
    (hM : vx_Met l y ws rm Pc Qc XC mc ms free) (hblind : FrameBlind Pc) (hrc : rm.cells = mc) (hrs : rm.slots = ms)
    (hframes : rm.frames + 1 ≤ R.frames) (hlocals : W9 + (maxL + 11) + rm.locals ≤ R.locals)
    (hws : ∀ w ∈ ws, ∀ a' U, s.WarmedH U.vm → w.before a' U = true) (hcode : Cond.code y bytes maxL ret ∈ ws) (hinit : ∀ a' U, s.WarmedH U.vm → (Cond.initialized y.cls).before a' U = true) :
    vx_Back l R p e below s sargs y len W9 (PreOf R mc ms Pc) (PostOf Qc mc ms free) (vx_Post XC mc ms free) := by
  intro m meth c A g ig mk a X hg hsize hdg hW hn hp
  have h1 : (headSpec ws rm).pre.before a A.U = true := atoms_intro fun w hw => hws w hw _ _ X.warmed
  have h2 : (Cond.code y bytes maxL ret).before a A.U = true := hws _ hcode _ _ X.warmed
  have h3 : (Cond.initialized y.cls).before a A.U = true := hinit _ _ X.warmed
  have h4 : A.cells + (headSpec ws rm).room.cells ≤ R.cells := by rw [show (headSpec ws rm).room.cells = mc from hrc]; exact hp.1
  have h5 : A.slots + (headSpec ws rm).room.slots ≤ R.slots := by rw [show (headSpec ws rm).room.slots = ms from hrs]; exact hp.2.1
  have hPc : Pc a (A.U.calling g mk a) := hblind _ _ _ _ hp.2.2
  obtain ⟨U, Ls, c0, s0⟩ := A
  dsimp only [Pt.U, Pt.locs, Pt.cells, Pt.slots] at h1 h2 h3 h4 h5 X hn hPc ⊢
  obtain ⟨methY, cY, hmY, hcY, -, hlY, -, -, -, -⟩ := Cond.code_spec hn h2
  obtain ⟨kY, hkY, -⟩ := className_of_methodNamed hn
  have hinitY : kY.init = .initialized := Cond.initialized_spec (findClass_of_methodNamed hn) hkY h3
  have h : At U g.method c below := by rw [hg]; exact X.here
  have hlocals9 : W9 + (maxL + 11) + (headSpec ws rm).room.locals ≤ R.locals := hlocals
  have happ : (headSpec ws rm).appliesLoose y e.platform (U.calling g mk a) = true :=
    Spec.appliesLoose_calling (g := g) h hdg hn hkY hinitY
      (X.room_calling (g := g) (R' := (headSpec ws rm).room) hsize hmY hcY hframes (by rw [hlY]; omega) h4 h5) h1
  obtain ⟨mid, hmid⟩ := h.above
  have hfr : (U.setTop g).frames = (.java g :: mid) ++ below := by rw [State.frames_setTop' g h.top, hmid]; rfl
  obtain ⟨o, s₂, hsteps, -, hend, hq⟩ := Steps.callFree hM p X.admits X.cas X.clock (acts := []) hfr happ hPc trivial
  have hq' : vx_Q Qc XC mc ms free a (U.calling g mk a) o s₂ := hq
  rw [State.frames_setTop' g h.top] at hend
  obtain ⟨g₀, hg0⟩ := Option.isSome_iff_exists.mp h.top
  obtain ⟨r, hr⟩ := State.topJava?_eq_some.mp hg0
  have hr' : (({ U with heap := s₂.heap, slotsUsed := s₂.slotsUsed } : State).setVm s₂.vm).frames = .java g₀ :: r := hr
  rcases hq' with ⟨hqc, L, hfe, hL⟩ | ⟨q, rfl, E, ce, L, hx, hce, hcv, hcl, hW₂, hsm, hL⟩
  · obtain ⟨⟨v, rfl⟩, hW₂, e2, q2, q3, q4, q5, q6⟩ := id hfe
    have e3 : s₂ = ({ (U.calling g mk a).setFrames s₂.frames with heap := s₂.heap, slotsUsed := s₂.slotsUsed } : State).setVm s₂.vm := by
      have : s₂ = ({ s₂ with vm := (U.calling g mk a).vm } : State).setVm s₂.vm := rfl
      rw [e2] at this
      exact this
    obtain ⟨c₂, i₂, len₂, hc₂, hd₂, hf₂⟩ := hend
    have hW' : U.WarmedH s₂.vm := hW₂
    have hcc : c₂ = c := by
      have h1 : s₂.code? g.method = U.code? g.method := by
        rw [State.code?_eq, State.code?_eq, hW'.alike.method?]
      exact Option.some.inj (hc₂.symm.trans (h1.trans h.code))
    subst hcc
    have hlen : len₂ = len := by rw [hdg] at hd₂; cases hd₂; rfl
    subst hlen
    have hs₂ : s₂ = (({ U with heap := s₂.heap, slotsUsed := s₂.slotsUsed } : State).setVm s₂.vm).setTop { g with pc := g.pc + len₂, stack := v.toList ++ g.stack } := by
      refine e3.trans ?_
      rw [hf₂, State.calling_eq h.top, State.setFrames_setFrames, State.setTop_of_frames _ hr', hr]
      rfl
    have hsame : U.sameButNew ({ U with heap := s₂.heap, slotsUsed := s₂.slotsUsed } : State) L mc ms := by
      refine ⟨?_, q2, q3, q4, q5, q6⟩
      obtain ⟨t, ht, -⟩ := State.frames_cons hr
      show ({ U with heap := s₂.heap, slotsUsed := s₂.slotsUsed } : State) = { U.setFrames U.frames with heap := s₂.heap, slotsUsed := s₂.slotsUsed }
      rw [State.setFrames_self ht]
    subst hg
    refine Or.inl ⟨v, ⟨(({ U with heap := s₂.heap, slotsUsed := s₂.slotsUsed } : State).setVm s₂.vm), Ls ++ L, c0 + mc, s0 + ms⟩,
      ⟨X.admits, X.cas, X.clock, X.frames, X.room, X.hears, X.method, X.code, (X.here.setHeapUsed s₂.heap s₂.slotsUsed).setVm hW'.alike, X.tail, State.WarmedH.trans X.warmed hW', X.limits, X.bytes, X.same.trans (hsame.setVm s.vm)⟩,
      ⟨g, mk, s₂, L, rfl, rfl, hqc, rfl, hL, rfl, rfl⟩, ?_⟩
    show Steps p.tables e below _ ((({ U with heap := s₂.heap, slotsUsed := s₂.slotsUsed } : State).setVm s₂.vm).setTop { g with pc := g.pc + len₂, stack := v.toList ++ g.stack })
    rw [← hs₂]
    exact hsteps
  · obtain ⟨e2, q2, q3, q4, q5, q6⟩ := id hsm
    have e3 : s₂ = ({ (U.calling g mk a).setFrames s₂.frames with heap := s₂.heap, slotsUsed := s₂.slotsUsed } : State).setVm s₂.vm := by
      have : s₂ = ({ s₂ with vm := (U.calling g mk a).vm } : State).setVm s₂.vm := rfl
      rw [e2] at this
      exact this
    have hf₂ : s₂.frames = .throwing q :: .java g :: U.frames.tail := hend
    have hW' : U.WarmedH s₂.vm := hW₂
    have hs₂ : s₂ = ((({ U with heap := s₂.heap, slotsUsed := s₂.slotsUsed } : State).setVm s₂.vm).setTop g).pushFrame (.throwing q) := by
      refine e3.trans ?_
      rw [hf₂, State.calling_eq h.top, State.setFrames_setFrames, State.pushFrame, State.frames_setTop _ hr', State.setTop_of_frames _ hr', State.setFrames_setFrames, hr]
      rfl
    have hsame : U.sameButNew ({ U with heap := s₂.heap, slotsUsed := s₂.slotsUsed } : State) L mc ms := by
      refine ⟨?_, q2, q3, q4, q5, q6⟩
      obtain ⟨t, ht, -⟩ := State.frames_cons hr
      show ({ U with heap := s₂.heap, slotsUsed := s₂.slotsUsed } : State) = { U.setFrames U.frames with heap := s₂.heap, slotsUsed := s₂.slotsUsed }
      rw [State.setFrames_self ht]
    subst hg
    refine Or.inr ⟨q, ⟨(({ U with heap := s₂.heap, slotsUsed := s₂.slotsUsed } : State).setVm s₂.vm), Ls ++ L, c0 + mc, s0 + ms⟩,
      ⟨X.admits, X.cas, X.clock, X.frames, X.room, X.hears, X.method, X.code, (X.here.setHeapUsed s₂.heap s₂.slotsUsed).setVm hW'.alike, X.tail, State.WarmedH.trans X.warmed hW', X.limits, X.bytes, X.same.trans (hsame.setVm s.vm)⟩,
      ⟨g, mk, s₂, L, E, ce, rfl, rfl, hx, hce, hcv, hcl, rfl, hL, rfl, rfl⟩, ?_⟩
    show Steps p.tables e below _ (((({ U with heap := s₂.heap, slotsUsed := s₂.slotsUsed } : State).setVm s₂.vm).setTop g).pushFrame (.throwing q))
    rw [← hs₂]
    exact hsteps
end Payer
section Calls
variable {p : Program} {l : Launch} {e : Env} {R : Room} {s : State} {m : MethodId} {args : Array Value} {below : List Frame} {meth : Method} {c : Code} {T : State} {locs : List Loc} {cells slots : Nat}
theorem vx_callV (X : Stand p l e R s m args below meth c T locs cells slots) (hexec : p.tables.exec = Jvm.exec) {own C : String} {index : Nat} {y : MethodName} {bytes : ByteArray} {maxL : Nat} {ret : Option FieldType}
    (hown : s.vm.findClass own = some m.cls) (hlink : (Cond.methodLink own index y).before args s = true) (hinst : (Cond.instanceMethod y).before args s = true) (hsel : (Cond.selects C y y).before args s = true)
    (hcode : (Cond.code y bytes maxL ret).before args s = true) (hy : y.cls ≠ "java/lang/invoke/MethodHandle" ∧ y.cls ≠ "java/lang/invoke/VarHandle")
    {W9 : Nat} {Pre : Pt → Array Value → Prop} {Post : Pt → Array Value → Option Value → Pt → Prop} {PostX : Pt → Array Value → Addr → Pt → Prop} (hK : vx_Back l R p e below s args y 3 W9 Pre Post PostX)
    {b : Addr} {cellB : Cell} (hcell : T.heap[b]? = some cellB) (hobj : cellB.vm.isStatics = false) (hcls : s.vm.findClass C = some cellB.cls)
    {g : JFrame} (hg : g.method = m) (hsize : g.locals.size = c.maxLocals) {argsL rest : List Value} (hlen : ∀ sig, parseMethodDescriptor y.desc = some sig → argsL.length = sig.parameters.length)
    (hstack : g.stack = argsL.reverse ++ .ref b :: rest) (hW : 2 * g.monitorRoom + (rest.map fun v => v.category).sum ≤ W9) (hdg : decode c.code g.pc = .ok (.invokevirtual index, 3))
    (hpre : ∀ vm₁, s.WarmedH vm₁ → Pre ⟨T.setVm vm₁, locs, cells, slots⟩ (Value.ref b :: argsL).toArray) :
    (∃ (v : Option Value) (vm₁ : Vm) (B : Pt), s.WarmedH vm₁ ∧ Stand p l e R s m args below meth c B.U B.locs B.cells B.slots ∧ Post ⟨T.setVm vm₁, locs, cells, slots⟩ (Value.ref b :: argsL).toArray v B ∧
      ∀ target, Steps p.tables e below (B.U.setTop { g with pc := g.pc + 3, stack := v.toList ++ rest }) target → Steps p.tables e below (T.setTop g) target) ∨
    (∃ (q : Addr) (vm₁ : Vm) (B : Pt), s.WarmedH vm₁ ∧ Stand p l e R s m args below meth c B.U B.locs B.cells B.slots ∧ PostX ⟨T.setVm vm₁, locs, cells, slots⟩ (Value.ref b :: argsL).toArray q B ∧
      Steps p.tables e below (T.setTop g) ((B.U.setTop { g with stack := rest }).pushFrame (.throwing q))) := by
  obtain ⟨mk, methM, hnamed, hmethM, hstM, habM⟩ := Cond.instanceMethod_spec hinst
  obtain ⟨methM', cM, hmethM', -, -, -, -, -, -, hsigM⟩ := Cond.code_spec hnamed hcode
  cases hmethM.symm.trans hmethM'
  obtain ⟨c2, r2, m2, q1, q2, q3, q4, kP, hkP, hkPi⟩ := Cond.selects_spec hsel
  cases hcls.symm.trans q1
  cases (State.methodFound?_of_named hnamed hy).symm.trans q2
  cases hnamed.symm.trans q3
  have hselP : selectMethod e.platform s.vm cellB.cls mk = .method mk := by rw [Launch.admits_selectMethod X.admits]; exact q4
  obtain ⟨vm₁, X₁, hstep₁⟩ := X.invokevirtual hexec hown hlink hnamed hmethM hstM hkP hkPi hy (a := b) (cell := cellB) hcell
    (fun z h => by rw [h] at hobj; cases hobj) hselP hmethM habM hkP hkPi (g := g) hg (argsL := argsL) (rest := rest) (hlen _ hsigM) hstack hdg
  rcases hK m meth c ⟨T.setVm vm₁, locs, cells, slots⟩ { g with stack := rest } (.invokevirtual index) mk (Value.ref b :: argsL).toArray X₁ hg hsize hdg hW (X₁.named hnamed) (hpre vm₁ X₁.warmed) with ⟨v, B, X', hpost, hsteps⟩ | ⟨q, B, X', hpost, hsteps⟩
  · exact Or.inl ⟨v, vm₁, B, X₁.warmed, X', hpost, fun target h => hstep₁ _ fun acts => by rw [doInvoke_state]; exact hsteps.trans h⟩
  · exact Or.inr ⟨q, vm₁, B, X₁.warmed, X', hpost, hstep₁ _ fun acts => by rw [doInvoke_state]; exact hsteps⟩
theorem vx_callS (X : Stand p l e R s m args below meth c T locs cells slots) (hexec : p.tables.exec = Jvm.exec) {own : String} {index : Nat} {y : MethodName} {bytes : ByteArray} {maxL : Nat} {ret : Option FieldType}
    (hown : s.vm.findClass own = some m.cls) (hlink : (Cond.methodLink own index y).before args s = true) (hstat : (Cond.static y).before args s = true) (hinit : (Cond.initialized y.cls).before args s = true)
    (hcode : (Cond.code y bytes maxL ret).before args s = true) (hy : y.cls ≠ "java/lang/invoke/MethodHandle" ∧ y.cls ≠ "java/lang/invoke/VarHandle")
    {W9 : Nat} {Pre : Pt → Array Value → Prop} {Post : Pt → Array Value → Option Value → Pt → Prop} {PostX : Pt → Array Value → Addr → Pt → Prop} (hK : vx_Back l R p e below s args y 3 W9 Pre Post PostX)
    {g : JFrame} (hg : g.method = m) (hsize : g.locals.size = c.maxLocals) {argsL rest : List Value} (hlen : ∀ sig, parseMethodDescriptor y.desc = some sig → argsL.length = sig.parameters.length)
    (hstack : g.stack = argsL.reverse ++ rest) (hW : 2 * g.monitorRoom + (rest.map fun v => v.category).sum ≤ W9) (hdg : decode c.code g.pc = .ok (.invokestatic index, 3))
    (hpre : ∀ vm₁, s.WarmedH vm₁ → Pre ⟨T.setVm vm₁, locs, cells, slots⟩ argsL.toArray) :
    (∃ (v : Option Value) (vm₁ : Vm) (B : Pt), s.WarmedH vm₁ ∧ Stand p l e R s m args below meth c B.U B.locs B.cells B.slots ∧ Post ⟨T.setVm vm₁, locs, cells, slots⟩ argsL.toArray v B ∧
      ∀ target, Steps p.tables e below (B.U.setTop { g with pc := g.pc + 3, stack := v.toList ++ rest }) target → Steps p.tables e below (T.setTop g) target) ∨
    (∃ (q : Addr) (vm₁ : Vm) (B : Pt), s.WarmedH vm₁ ∧ Stand p l e R s m args below meth c B.U B.locs B.cells B.slots ∧ PostX ⟨T.setVm vm₁, locs, cells, slots⟩ argsL.toArray q B ∧
      Steps p.tables e below (T.setTop g) ((B.U.setTop { g with stack := rest }).pushFrame (.throwing q))) := by
  obtain ⟨mk, hnamed⟩ := Cond.code_named hcode
  obtain ⟨methM, cM, hmethM, -, -, -, -, -, -, hsigM⟩ := Cond.code_spec hnamed hcode
  have hstatic : methM.isStatic = true := Cond.static_spec hnamed hmethM hstat
  obtain ⟨kP, hkP, -⟩ := className_of_methodNamed hnamed
  have hinitP : kP.init = .initialized := Cond.initialized_spec (findClass_of_methodNamed hnamed) hkP hinit
  obtain ⟨vm₁, X₁, hstep₁⟩ := X.invokestatic hexec hown hlink hnamed hmethM hstatic hkP hinitP hy (g := g) hg (argsL := argsL) (rest := rest) (hlen _ hsigM) hstack hdg
  rcases hK m meth c ⟨T.setVm vm₁, locs, cells, slots⟩ { g with stack := rest } (.invokestatic index) mk argsL.toArray X₁ hg hsize hdg hW (X₁.named hnamed) (hpre vm₁ X₁.warmed) with ⟨v, B, X', hpost, hsteps⟩ | ⟨q, B, X', hpost, hsteps⟩
  · exact Or.inl ⟨v, vm₁, B, X₁.warmed, X', hpost, fun target h => hstep₁ _ fun acts => by rw [doInvoke_state]; exact hsteps.trans h⟩
  · exact Or.inr ⟨q, vm₁, B, X₁.warmed, X', hpost, hstep₁ _ fun acts => by rw [doInvoke_state]; exact hsteps⟩
end Calls
theorem vx_cls {s : State} {T : State} {vm₁ : Vm} {E : String} {k : ClassId} (hW : s.WarmedH vm₁) (h : (T.setVm vm₁).vm.findClass E = some k) : s.vm.findClass E = some k := by
  have h1 : vm₁.findClass E = some k := h
  rw [hW.alike.findClass] at h1
  exact h1
/-- the method's frame g, with q thrown over it -/
def vx_W (p : Program) (l : Launch) (e : Env) (R : Room) (s : State) (m : MethodId) (args : Array Value) (below : List Frame) (meth : Method) (c : Code) (H : Heap) (locs : List Loc) (cells slots : Nat) (Q : State → Prop) (g : JFrame) (q : Addr) : Prop :=
  ∀ T : State, T.heap = H → Stand p l e R s m args below meth c T locs cells slots → ∃ t, Steps p.tables e below ((T.setTop g).pushFrame (.throwing q)) t ∧ Q t
def vx_Run (p : Program) (l : Launch) (e : Env) (R : Room) (s : State) (m : MethodId) (args : Array Value) (below : List Frame) (meth : Method) (c : Code) (H : Heap) (locs : List Loc) (cells slots mc ms : Nat) (g : JFrame) (rest : List Value) (Qa : State → Outcome → State → Prop) (XC : String → State → State → Prop) (free : Addr → Prop) : Prop :=
  ∀ T : State, T.heap = H → Stand p l e R s m args below meth c T locs cells slots →
    (∃ (v : Option Value) (st₀ t T' : State) (L : List Loc), st₀.heap = H ∧ Stand p l e R s m args below meth c T' (locs ++ L) (cells + mc) (slots + ms) ∧ (∀ q ∈ L, free q.base) ∧ T'.heap = t.heap ∧ T'.vm = t.vm ∧ Qa st₀ (.returned v) t ∧
      Goes p e below T g T' { g with pc := g.pc + 3, stack := v.toList ++ rest }) ∨
    (∃ (q : Addr) (st₀ t T' : State) (L : List Loc) (E : String) (ce : Cell), st₀.heap = H ∧ Stand p l e R s m args below meth c T' (locs ++ L) (cells + mc) (slots + ms) ∧ (∀ z ∈ L, free z.base) ∧ T'.heap = t.heap ∧ T'.vm = t.vm ∧ XC E st₀ t ∧ t.heap[q]? = some ce ∧ ce.vm = .none ∧ s.vm.findClass E = some ce.cls ∧
      Steps p.tables e below (T.setTop g) ((T'.setTop { g with stack := rest }).pushFrame (.throwing q)))
def vx_X {S : Type} (px : S → Prop) (B : String → S → State → Prop) (A : Nat → Prop) : String → State → State → Prop := fun E st t => ∃ u : S, px u ∧ B E u t ∧ va_F A st t
section Runs
variable {p : Program} {l : Launch} {e : Env} {R : Room} {s : State} {m : MethodId} {args : Array Value} {below : List Frame} {meth : Method} {c : Code} {H : Heap} {locs : List Loc} {cells slots : Nat}
variable {y : MethodName} {bytes cc : ByteArray} {maxL nL mc ms n index : Nat} {ret : Option FieldType} {ws : List Cond} {rm : Room} {Pc : Array Value → State → Prop} {Qc : Array Value → State → Outcome → State → Prop} {XC : String → State → State → Prop} {free : Addr → Prop} {Ts : List Cond} {own C : String} {b : Addr} {As rest : List Value} {g : JFrame}
theorem vx_callBack (cb : CallB R s args own index y bytes maxL ret ws rm mc ms n) (hM : vx_Met l y ws rm Pc Qc XC mc ms free) (hbl : FrameBlind Pc) : vx_Back l R p e below s args y 3 8 (PreOf R mc ms Pc) (PostOf Qc mc ms free) (vx_Post XC mc ms free) := by
  obtain ⟨hrc, hrs, hfr, hlo, hws, hcw, -, hini, -⟩ := cb
  exact vx_back (bytes := bytes) (maxL := maxL) (ret := ret) hM hbl hrc hrs hfr hlo hws hcw (fun a' U hW => word_at hW (Or.inl (by first | rfl | simp [Cond.onTables, Cond.keeps, Cond.steady])) hini)
theorem vx_runV (S : CallFix p m c cc nL s args Ts own) (hM : vx_Met l y ws rm Pc Qc XC mc ms free) (cw : CallW R s args own C index y bytes maxL ret ws rm mc ms n) (hp : PreV s H C b Pc As)
    (hg : g.method = m) (hn : As.length = n) (hsize : g.locals.size = nL) (hstack : g.stack = As.reverse ++ .ref b :: rest) (hW : 2 * g.monitorRoom + (rest.map fun v => v.category).sum ≤ 8) (hdg : decode cc g.pc = .ok (.invokevirtual index, 3)) (hf : cells + mc ≤ R.cells ∧ slots + ms ≤ R.slots) :
    vx_Run p l e R s m args below meth c H locs cells slots mc ms g rest (Qc (Value.ref b :: As).toArray) XC free := by
  have hK : vx_Back l R p e below s args y 3 8 (PreOf R mc ms Pc) (PostOf Qc mc ms free) (vx_Post XC mc ms free) := vx_callBack cw.1 hM hp.1
  obtain ⟨⟨-, -, -, -, -, -, hcode, -, hy, hlen, hl⟩, hin, hse⟩ := cw
  obtain ⟨hx, hb, hml, ho, -⟩ := S
  obtain ⟨-, ⟨cellB, hcB, hoB, hclB⟩, hPc⟩ := hp
  intro T hT X
  rcases vx_callV X hx (C := C) (bytes := bytes) (maxL := maxL) (ret := ret) ho hl hin hse hcode hy hK (by rw [hT]; exact hcB) hoB hclB hg (hsize.trans hml.symm) (argsL := As) (rest := rest) (fun sig h => hn.trans (hlen sig h)) hstack hW (by rw [hb]; exact hdg)
    (fun vm₁ hW₁ => ⟨hf.1, hf.2, hPc (T.setVm vm₁) hT hW₁⟩) with ⟨v, vm₁, ⟨U', l2, c2, s2⟩, hW₁, X', ⟨g', mk, t, L, e1, e2, hq, h1, hL, h2, h3⟩, st⟩ | ⟨q, vm₁, ⟨U', l2, c2, s2⟩, hW₁, X', ⟨g', mk, t, L, E, ce, e1, e2, hq, hce, hcv, hcl, h1, hL, h2, h3⟩, st⟩
  · dsimp only [Pt.U, Pt.locs, Pt.cells, Pt.slots] at X' e1 e2 h1 h2 h3 st
    subst h1; subst h2; subst h3
    exact Or.inl ⟨v, (T.setVm vm₁).calling g' mk (Value.ref b :: As).toArray, t, U', L, hT, X', hL, e1, e2, hq, st⟩
  · dsimp only [Pt.U, Pt.locs, Pt.cells, Pt.slots] at X' e1 e2 h1 h2 h3 st hcl
    subst h1; subst h2; subst h3
    exact Or.inr ⟨q, (T.setVm vm₁).calling g' mk (Value.ref b :: As).toArray, t, U', L, E, ce, hT, X', hL, e1, e2, hq, hce, hcv, vx_cls hW₁ hcl, st⟩
theorem vx_runS (S : CallFix p m c cc nL s args Ts own) (hM : vx_Met l y ws rm Pc Qc XC mc ms free) (cw : CallB R s args own index y bytes maxL ret ws rm mc ms n ∧ (Cond.static y).before args s = true) (hp : PreS s H Pc As)
    (hg : g.method = m) (hn : As.length = n) (hsize : g.locals.size = nL) (hstack : g.stack = As.reverse ++ rest) (hW : 2 * g.monitorRoom + (rest.map fun v => v.category).sum ≤ 8) (hdg : decode cc g.pc = .ok (.invokestatic index, 3)) (hf : cells + mc ≤ R.cells ∧ slots + ms ≤ R.slots) :
    vx_Run p l e R s m args below meth c H locs cells slots mc ms g rest (Qc As.toArray) XC free := by
  have hK : vx_Back l R p e below s args y 3 8 (PreOf R mc ms Pc) (PostOf Qc mc ms free) (vx_Post XC mc ms free) := vx_callBack cw.1 hM hp.1
  obtain ⟨⟨-, -, -, -, -, -, hcode, hini, hy, hlen, hl⟩, hstt⟩ := cw
  obtain ⟨hx, hb, hml, ho, -⟩ := S
  intro T hT X
  rcases vx_callS X hx (bytes := bytes) (maxL := maxL) (ret := ret) ho hl hstt hini hcode hy hK hg (hsize.trans hml.symm) (argsL := As) (rest := rest) (fun sig h => hn.trans (hlen sig h)) hstack hW (by rw [hb]; exact hdg)
    (fun vm₁ hW₁ => ⟨hf.1, hf.2, hp.2 (T.setVm vm₁) hT hW₁⟩) with ⟨v, vm₁, ⟨U', l2, c2, s2⟩, hW₁, X', ⟨g', mk, t, L, e1, e2, hq, h1, hL, h2, h3⟩, st⟩ | ⟨q, vm₁, ⟨U', l2, c2, s2⟩, hW₁, X', ⟨g', mk, t, L, E, ce, e1, e2, hq, hce, hcv, hcl, h1, hL, h2, h3⟩, st⟩
  · dsimp only [Pt.U, Pt.locs, Pt.cells, Pt.slots] at X' e1 e2 h1 h2 h3 st
    subst h1; subst h2; subst h3
    exact Or.inl ⟨v, (T.setVm vm₁).calling g' mk As.toArray, t, U', L, hT, X', hL, e1, e2, hq, st⟩
  · dsimp only [Pt.U, Pt.locs, Pt.cells, Pt.slots] at X' e1 e2 h1 h2 h3 st hcl
    subst h1; subst h2; subst h3
    exact Or.inr ⟨q, (T.setVm vm₁).calling g' mk As.toArray, t, U', L, E, ce, hT, X', hL, e1, e2, hq, hce, hcv, vx_cls hW₁ hcl, st⟩
end Runs
section Rows
variable {p : Program} {l : Launch} {e : Env} {R : Room} {s : State} {m : MethodId} {args : Array Value} {below : List Frame} {meth : Method} {c : Code} {H : Heap} {locs : List Loc} {cells slots : Nat} {Q : State → Prop}
variable {mc ms : Nat} {free : Addr → Prop} {A0 A1 : Nat → Prop} {H0 : Heap} {a : Array Value} {pc : Nat} {ls : Array Slot} {st0 rest : List Value}
theorem vx_keep {st₀ t T' : State} {L : List Loc} (h0 : st₀.heap = H) (e1 : T'.heap = t.heap) (hS : va_S A0 H0 H locs) (hA : ∀ q, q < H.size → A1 q → A0 q) (hf : ∀ q, free q → A0 q) (hL : ∀ q ∈ L, free q.base) (hF : va_F A1 st₀ t) :
    H.size ≤ T'.heap.size ∧ (∀ q : Nat, q < H.size → ¬ A1 q → T'.heap[q]? = H[q]?) ∧ va_S A0 H0 T'.heap (locs ++ L) := by
  obtain ⟨hz, hk⟩ := hF
  rw [h0] at hz hk
  exact ⟨by rw [e1]; exact hz, fun q h1 h2 => by rw [e1]; exact hk q h1 h2,
    ⟨Nat.le_trans hS.1 (by rw [e1]; exact hz), fun q h1 h2 => by rw [e1, hk q (Nat.lt_of_lt_of_le h1 hS.1) (fun z => h2 (hA q (Nat.lt_of_lt_of_le h1 hS.1) z))]; exact hS.2.1 q h1 h2, fun q hq => by
      rcases List.mem_append.mp hq with h | h
      · exact hS.2.2 q h
      · exact hf _ (hL q h)⟩⟩
theorem vx_calli {S SX : Type} {post : Int32 → S → Prop} {px : SX → Prop} {B : S → State → Prop} {BX : String → SX → State → Prop} {AX : Nat → Prop} (hr : vx_Run p l e R s m args below meth c H locs cells slots mc ms (F0 m pc ls st0) rest (va_Qi post B A1 a) (vx_X px BX AX) free) (hS : va_S A0 H0 H locs) (hA : ∀ q, q < H.size → A1 q → A0 q) (hf : ∀ q, free q → A0 q) (hAX : ∀ q, q < H.size → AX q → A0 q)
    (kx : ∀ (E : String) (ce : Cell) (q9 : Addr) (u : SX) (t : State) (H1 : Heap) (locs1 : List Loc), t.heap = H1 → s.vm.Alike t.vm → px u → BX E u t → H.size ≤ H1.size → (∀ q : Nat, q < H.size → ¬ AX q → H1[q]? = H[q]?) → va_S A0 H0 H1 locs1 → H1[q9]? = some ce → ce.vm = .none → s.vm.findClass E = some ce.cls → vx_W p l e R s m args below meth c H1 locs1 (cells + mc) (slots + ms) Q (F0 m pc ls rest) q9)
    (kk : ∀ (r : Int32) (u : S) (t : State) (H1 : Heap) (locs1 : List Loc), t.heap = H1 → s.vm.Alike t.vm → post r u → B u t → H.size ≤ H1.size → (∀ q : Nat, q < H.size → ¬ A1 q → H1[q]? = H[q]?) → va_S A0 H0 H1 locs1 → W p l e R s m args below meth c H1 locs1 (cells + mc) (slots + ms) Q (F0 m (pc + 3) ls (.int r :: rest))) : W p l e R s m args below meth c H locs cells slots Q (F0 m pc ls st0) := by
  intro T hT X
  rcases hr T hT X with ⟨v, st₀, t, T', L, h0, X', hL, e1, e2, ⟨⟨r, u, hv, hp, hb⟩, hF⟩, st⟩ | ⟨q, st₀, t, T', L, E, ce, h0, X', hL, e1, e2, ⟨u, hp, hb, hF⟩, hce, hcv, hcl, st⟩
  · cases hv
    obtain ⟨k1, k2, k3⟩ := vx_keep h0 e1 hS hA hf hL hF
    obtain ⟨t2, a1, b1⟩ := kk r u t T'.heap (locs ++ L) e1.symm (by rw [← e2]; exact X'.warmed.alike) hp hb k1 k2 k3 T' rfl X'
    exact ⟨t2, st t2 a1, b1⟩
  · obtain ⟨k1, k2, k3⟩ := vx_keep h0 e1 hS hAX hf hL hF
    obtain ⟨t2, a1, b1⟩ := kx E ce q u t T'.heap (locs ++ L) e1.symm (by rw [← e2]; exact X'.warmed.alike) hp hb k1 k2 k3 (by rw [e1]; exact hce) hcv hcl T' rfl X'
    exact ⟨t2, st.trans a1, b1⟩
theorem vx_calll {S SX : Type} {post : Int64 → S → Prop} {px : SX → Prop} {B : S → State → Prop} {BX : String → SX → State → Prop} {AX : Nat → Prop} (hr : vx_Run p l e R s m args below meth c H locs cells slots mc ms (F0 m pc ls st0) rest (va_Ql post B A1 a) (vx_X px BX AX) free) (hS : va_S A0 H0 H locs) (hA : ∀ q, q < H.size → A1 q → A0 q) (hf : ∀ q, free q → A0 q) (hAX : ∀ q, q < H.size → AX q → A0 q)
    (kx : ∀ (E : String) (ce : Cell) (q9 : Addr) (u : SX) (t : State) (H1 : Heap) (locs1 : List Loc), t.heap = H1 → s.vm.Alike t.vm → px u → BX E u t → H.size ≤ H1.size → (∀ q : Nat, q < H.size → ¬ AX q → H1[q]? = H[q]?) → va_S A0 H0 H1 locs1 → H1[q9]? = some ce → ce.vm = .none → s.vm.findClass E = some ce.cls → vx_W p l e R s m args below meth c H1 locs1 (cells + mc) (slots + ms) Q (F0 m pc ls rest) q9)
    (kk : ∀ (r : Int64) (u : S) (t : State) (H1 : Heap) (locs1 : List Loc), t.heap = H1 → s.vm.Alike t.vm → post r u → B u t → H.size ≤ H1.size → (∀ q : Nat, q < H.size → ¬ A1 q → H1[q]? = H[q]?) → va_S A0 H0 H1 locs1 → W p l e R s m args below meth c H1 locs1 (cells + mc) (slots + ms) Q (F0 m (pc + 3) ls (.long r :: rest))) : W p l e R s m args below meth c H locs cells slots Q (F0 m pc ls st0) := by
  intro T hT X
  rcases hr T hT X with ⟨v, st₀, t, T', L, h0, X', hL, e1, e2, ⟨⟨r, u, hv, hp, hb⟩, hF⟩, st⟩ | ⟨q, st₀, t, T', L, E, ce, h0, X', hL, e1, e2, ⟨u, hp, hb, hF⟩, hce, hcv, hcl, st⟩
  · cases hv
    obtain ⟨k1, k2, k3⟩ := vx_keep h0 e1 hS hA hf hL hF
    obtain ⟨t2, a1, b1⟩ := kk r u t T'.heap (locs ++ L) e1.symm (by rw [← e2]; exact X'.warmed.alike) hp hb k1 k2 k3 T' rfl X'
    exact ⟨t2, st t2 a1, b1⟩
  · obtain ⟨k1, k2, k3⟩ := vx_keep h0 e1 hS hAX hf hL hF
    obtain ⟨t2, a1, b1⟩ := kx E ce q u t T'.heap (locs ++ L) e1.symm (by rw [← e2]; exact X'.warmed.alike) hp hb k1 k2 k3 (by rw [e1]; exact hce) hcv hcl T' rfl X'
    exact ⟨t2, st.trans a1, b1⟩
theorem vx_callf {S SX : Type} {post : UInt32 → S → Prop} {px : SX → Prop} {B : S → State → Prop} {BX : String → SX → State → Prop} {AX : Nat → Prop} (hr : vx_Run p l e R s m args below meth c H locs cells slots mc ms (F0 m pc ls st0) rest (va_Qf post B A1 a) (vx_X px BX AX) free) (hS : va_S A0 H0 H locs) (hA : ∀ q, q < H.size → A1 q → A0 q) (hf : ∀ q, free q → A0 q) (hAX : ∀ q, q < H.size → AX q → A0 q)
    (kx : ∀ (E : String) (ce : Cell) (q9 : Addr) (u : SX) (t : State) (H1 : Heap) (locs1 : List Loc), t.heap = H1 → s.vm.Alike t.vm → px u → BX E u t → H.size ≤ H1.size → (∀ q : Nat, q < H.size → ¬ AX q → H1[q]? = H[q]?) → va_S A0 H0 H1 locs1 → H1[q9]? = some ce → ce.vm = .none → s.vm.findClass E = some ce.cls → vx_W p l e R s m args below meth c H1 locs1 (cells + mc) (slots + ms) Q (F0 m pc ls rest) q9)
    (kk : ∀ (r : UInt32) (u : S) (t : State) (H1 : Heap) (locs1 : List Loc), t.heap = H1 → s.vm.Alike t.vm → post r u → B u t → H.size ≤ H1.size → (∀ q : Nat, q < H.size → ¬ A1 q → H1[q]? = H[q]?) → va_S A0 H0 H1 locs1 → W p l e R s m args below meth c H1 locs1 (cells + mc) (slots + ms) Q (F0 m (pc + 3) ls (.float r :: rest))) : W p l e R s m args below meth c H locs cells slots Q (F0 m pc ls st0) := by
  intro T hT X
  rcases hr T hT X with ⟨v, st₀, t, T', L, h0, X', hL, e1, e2, ⟨⟨r, u, hv, hp, hb⟩, hF⟩, st⟩ | ⟨q, st₀, t, T', L, E, ce, h0, X', hL, e1, e2, ⟨u, hp, hb, hF⟩, hce, hcv, hcl, st⟩
  · cases hv
    obtain ⟨k1, k2, k3⟩ := vx_keep h0 e1 hS hA hf hL hF
    obtain ⟨t2, a1, b1⟩ := kk r u t T'.heap (locs ++ L) e1.symm (by rw [← e2]; exact X'.warmed.alike) hp hb k1 k2 k3 T' rfl X'
    exact ⟨t2, st t2 a1, b1⟩
  · obtain ⟨k1, k2, k3⟩ := vx_keep h0 e1 hS hAX hf hL hF
    obtain ⟨t2, a1, b1⟩ := kx E ce q u t T'.heap (locs ++ L) e1.symm (by rw [← e2]; exact X'.warmed.alike) hp hb k1 k2 k3 (by rw [e1]; exact hce) hcv hcl T' rfl X'
    exact ⟨t2, st.trans a1, b1⟩
theorem vx_calld {S SX : Type} {post : UInt64 → S → Prop} {px : SX → Prop} {B : S → State → Prop} {BX : String → SX → State → Prop} {AX : Nat → Prop} (hr : vx_Run p l e R s m args below meth c H locs cells slots mc ms (F0 m pc ls st0) rest (va_Qd post B A1 a) (vx_X px BX AX) free) (hS : va_S A0 H0 H locs) (hA : ∀ q, q < H.size → A1 q → A0 q) (hf : ∀ q, free q → A0 q) (hAX : ∀ q, q < H.size → AX q → A0 q)
    (kx : ∀ (E : String) (ce : Cell) (q9 : Addr) (u : SX) (t : State) (H1 : Heap) (locs1 : List Loc), t.heap = H1 → s.vm.Alike t.vm → px u → BX E u t → H.size ≤ H1.size → (∀ q : Nat, q < H.size → ¬ AX q → H1[q]? = H[q]?) → va_S A0 H0 H1 locs1 → H1[q9]? = some ce → ce.vm = .none → s.vm.findClass E = some ce.cls → vx_W p l e R s m args below meth c H1 locs1 (cells + mc) (slots + ms) Q (F0 m pc ls rest) q9)
    (kk : ∀ (r : UInt64) (u : S) (t : State) (H1 : Heap) (locs1 : List Loc), t.heap = H1 → s.vm.Alike t.vm → post r u → B u t → H.size ≤ H1.size → (∀ q : Nat, q < H.size → ¬ A1 q → H1[q]? = H[q]?) → va_S A0 H0 H1 locs1 → W p l e R s m args below meth c H1 locs1 (cells + mc) (slots + ms) Q (F0 m (pc + 3) ls (.double r :: rest))) : W p l e R s m args below meth c H locs cells slots Q (F0 m pc ls st0) := by
  intro T hT X
  rcases hr T hT X with ⟨v, st₀, t, T', L, h0, X', hL, e1, e2, ⟨⟨r, u, hv, hp, hb⟩, hF⟩, st⟩ | ⟨q, st₀, t, T', L, E, ce, h0, X', hL, e1, e2, ⟨u, hp, hb, hF⟩, hce, hcv, hcl, st⟩
  · cases hv
    obtain ⟨k1, k2, k3⟩ := vx_keep h0 e1 hS hA hf hL hF
    obtain ⟨t2, a1, b1⟩ := kk r u t T'.heap (locs ++ L) e1.symm (by rw [← e2]; exact X'.warmed.alike) hp hb k1 k2 k3 T' rfl X'
    exact ⟨t2, st t2 a1, b1⟩
  · obtain ⟨k1, k2, k3⟩ := vx_keep h0 e1 hS hAX hf hL hF
    obtain ⟨t2, a1, b1⟩ := kx E ce q u t T'.heap (locs ++ L) e1.symm (by rw [← e2]; exact X'.warmed.alike) hp hb k1 k2 k3 (by rw [e1]; exact hce) hcv hcl T' rfl X'
    exact ⟨t2, st.trans a1, b1⟩
theorem vx_callv {S SX : Type} {post : S → Prop} {px : SX → Prop} {B : S → State → Prop} {BX : String → SX → State → Prop} {AX : Nat → Prop} (hr : vx_Run p l e R s m args below meth c H locs cells slots mc ms (F0 m pc ls st0) rest (va_Qv post B A1 a) (vx_X px BX AX) free) (hS : va_S A0 H0 H locs) (hA : ∀ q, q < H.size → A1 q → A0 q) (hf : ∀ q, free q → A0 q) (hAX : ∀ q, q < H.size → AX q → A0 q)
    (kx : ∀ (E : String) (ce : Cell) (q9 : Addr) (u : SX) (t : State) (H1 : Heap) (locs1 : List Loc), t.heap = H1 → s.vm.Alike t.vm → px u → BX E u t → H.size ≤ H1.size → (∀ q : Nat, q < H.size → ¬ AX q → H1[q]? = H[q]?) → va_S A0 H0 H1 locs1 → H1[q9]? = some ce → ce.vm = .none → s.vm.findClass E = some ce.cls → vx_W p l e R s m args below meth c H1 locs1 (cells + mc) (slots + ms) Q (F0 m pc ls rest) q9)
    (kk : ∀ (u : S) (t : State) (H1 : Heap) (locs1 : List Loc), t.heap = H1 → s.vm.Alike t.vm → post u → B u t → H.size ≤ H1.size → (∀ q : Nat, q < H.size → ¬ A1 q → H1[q]? = H[q]?) → va_S A0 H0 H1 locs1 → W p l e R s m args below meth c H1 locs1 (cells + mc) (slots + ms) Q (F0 m (pc + 3) ls (rest))) : W p l e R s m args below meth c H locs cells slots Q (F0 m pc ls st0) := by
  intro T hT X
  rcases hr T hT X with ⟨v, st₀, t, T', L, h0, X', hL, e1, e2, ⟨⟨u, hv, hp, hb⟩, hF⟩, st⟩ | ⟨q, st₀, t, T', L, E, ce, h0, X', hL, e1, e2, ⟨u, hp, hb, hF⟩, hce, hcv, hcl, st⟩
  · cases hv
    obtain ⟨k1, k2, k3⟩ := vx_keep h0 e1 hS hA hf hL hF
    obtain ⟨t2, a1, b1⟩ := kk u t T'.heap (locs ++ L) e1.symm (by rw [← e2]; exact X'.warmed.alike) hp hb k1 k2 k3 T' rfl X'
    exact ⟨t2, st t2 a1, b1⟩
  · obtain ⟨k1, k2, k3⟩ := vx_keep h0 e1 hS hAX hf hL hF
    obtain ⟨t2, a1, b1⟩ := kx E ce q u t T'.heap (locs ++ L) e1.symm (by rw [← e2]; exact X'.warmed.alike) hp hb k1 k2 k3 (by rw [e1]; exact hce) hcv hcl T' rfl X'
    exact ⟨t2, st.trans a1, b1⟩
/-- caught by the row x of this method's table; the rows ahead don't take it -/
theorem vx_catch {own name : String} {E : String} {ce : Cell} {q : Addr} (hown : s.vm.findClass own = some m.cls) (pre : List ExceptionTableEntry) (x : ExceptionTableEntry) (suf : List ExceptionTableEntry) (hsplit : c.exceptionTable.toList = pre ++ x :: suf)
    (hpass : ∀ z ∈ pre, covers z pc = false ∨ (z.catchType ≠ 0 ∧ ∃ nm : String, (Cond.classLink own z.catchType nm).before args s = true ∧ va_Nc E nm s)) (hx : covers x pc = true) (h0 : x.catchType ≠ 0)
    (hlink : (Cond.classLink own x.catchType name).before args s = true) (hcast : (Cond.castable E name).before args s = true) (hcell : H[q]? = some ce) (hv : ce.vm = .none) (hcl : s.vm.findClass E = some ce.cls)
    (kk : W p l e R s m args below meth c H locs cells slots Q (F0 m x.handlerPc ls [.ref q])) : vx_W p l e R s m args below meth c H locs cells slots Q (F0 m pc ls rest) q := by
  intro T hT X
  have hpl : e.platform.magicAccessors = ({} : Platform).magicAccessors := by rw [X.admits.platform]
  obtain ⟨c3, c4, hc3, hc4, hasg⟩ := Cond.castable_spec hcast
  cases Option.some.inj (hc3.symm.trans hcl)
  obtain ⟨c5, hc5, hcl5⟩ := Cond.classLink_spec hown hlink e.platform hpl
  cases Option.some.inj (hc4.symm.trans hc5)
  obtain ⟨vm', X', st⟩ := X.thenCaughtThrough q (g := F0 m pc ls rest) rfl (Steps.refl _) (by rw [hT]; exact hcell) (by rw [hv]; rfl) (by obtain ⟨k9, h9, -⟩ := Vm.findClass_spec hcl; exact ⟨k9, h9⟩) pre x suf hsplit
    (fun z hz => by
      rcases hpass z hz with h | ⟨hz0, nm, hl1, hn1⟩
      · exact Or.inl h
      · obtain ⟨c6, hc6, hcl6⟩ := Cond.classLink_spec hown hl1 e.platform hpl
        obtain ⟨a8, b8, h1, h2, h3⟩ := hn1
        cases Option.some.inj (h1.symm.trans hcl)
        cases Option.some.inj (h2.symm.trans hc6)
        exact Or.inr ⟨hz0, _, hcl6, h3⟩) hx (Or.inr ⟨h0, c4, hcl5, hasg⟩)
  obtain ⟨t, a1, b1⟩ := kk (T.setVm vm') hT X'
  exact ⟨t, st.trans a1, b1⟩
end Rows
section Ends
variable {p : Program} {l : Launch} {e : Env} {R : Room} {s : State} {m : MethodId} {args : Array Value} {below : List Frame} {meth : Method} {c : Code} {H : Heap} {locs : List Loc} {cells slots : Nat} {Q : State → Prop}
variable {mc ms : Nat} {free : Addr → Prop} {A0 A1 : Nat → Prop} {H0 : Heap} {a : Array Value} {ls : Array Slot} {st0 rest : List Value}
variable {Qc : Array Value → State → Outcome → State → Prop} {XC : String → State → State → Prop}
/-- what a body that may throw owes at its end -/
def vx_MQ (below : List Frame) (Qc : Array Value → State → Outcome → State → Prop) (XC : String → State → State → Prop) (a : Array Value) (s : State) (mc ms : Nat) (free : Addr → Prop) : State → Prop := fun t =>
  ∃ o, t.status = .running ∧ Ended t below o ∧ vx_Q Qc XC mc ms free a s o t
theorem vx_ret {g : JFrame} {mc ms : Nat} (k : W p l e R s m args below meth c H locs cells slots (MQ below Qc args s mc ms free) g) : W p l e R s m args below meth c H locs cells slots (vx_MQ below Qc XC args s mc ms free) g := by
  intro T hT X
  obtain ⟨t, a1, o, b1, b2, b3, b4⟩ := k T hT X
  exact ⟨t, a1, o, b1, b2, Or.inl ⟨b3, b4⟩⟩
/-- not caught here: it goes on to the caller -/
theorem vx_widen {g : JFrame} {q : Addr} {k n : Nat} (h1 : cells ≤ k) (h2 : slots ≤ n) (kk : vx_W p l e R s m args below meth c H locs k n Q g q) : vx_W p l e R s m args below meth c H locs cells slots Q g q := fun T hT X => kk T hT (stand_widen X h1 h2)
theorem vx_out {pc : Nat} {E : String} {ce : Cell} {q : Addr} {mc ms : Nat} (hout : ∀ x ∈ c.exceptionTable.toList, covers x pc = false) (hlocks : meth.locks = false) (hcell : H[q]? = some ce) (hv : ce.vm = .none) (hcl : s.vm.findClass E = some ce.cls)
    (hx : ∀ t : State, t.heap = H → s.vm.Alike t.vm → XC E s t) (hf : ∀ z ∈ locs, free z.base) (hc : cells ≤ mc) (hs : slots ≤ ms) :
    vx_W p l e R s m args below meth c H locs cells slots (vx_MQ below Qc XC args s mc ms free) (F0 m pc ls rest) q := by
  intro T hT X
  obtain ⟨st1, hrun, hend, hW, hsm⟩ := X.leaveThrown q (g := F0 m pc ls rest) rfl rfl rfl hout hlocks
  have hcell9 : (T.setFrames (.throwing q :: below)).heap[q]? = some ce := by
    show T.heap[q]? = some ce
    rw [hT]; exact hcell
  exact ⟨_, st1, .threw q, hrun, hend, Or.inr ⟨q, rfl, E, ce, locs, hx _ hT hW.alike, hcell9, hv, hcl, hW, hsm.mono hc hs, hf⟩⟩
theorem vx_frame {U : State} {k n : Nat} (h : s.sameButNew ({ U with vm := s.vm } : State) locs k n) : s.heap.size ≤ U.heap.size ∧ ∀ q : Nat, q < s.heap.size → (∀ z ∈ locs, z.base ≠ q) → U.heap[q]? = s.heap[q]? := by
  obtain ⟨-, h2, -, -, -, h6⟩ := h
  refine ⟨h2, fun q hq hz => ?_⟩
  obtain ⟨c9, e1, e2, e3, e4⟩ := h6 q _ (Array.getElem?_eq_getElem hq)
  have hs : c9.slots = (s.heap[q]).slots := Array.ext_getElem? fun i => e4 i fun hm => hz _ hm rfl
  have h9 : c9 = s.heap[q] := by
    rw [hs] at e2
    exact e2
  have e5 : U.heap[q]? = some c9 := e1
  rw [e5, h9, Array.getElem?_eq_getElem hq]
/-- the words of a throw but the four that speak of the heap -/
def vx_no (w : Cond) : Bool := decide (w ≠ .isRef (.static Bundle.tN "UNASSIGNED_STACK" Bundle.steD)) && decide (w ≠ .isRef (.static Bundle.tN "SUPPRESSED_SENTINEL" Bundle.listD)) && decide (w ≠ .laysStatic Bundle.tN "UNASSIGNED_STACK" Bundle.steD) && decide (w ≠ .laysStatic Bundle.tN "SUPPRESSED_SENTINEL" Bundle.listD)
def vx_at0 (own : String) (ic : Nat) (X : String) (names : List String) : List Cond := (Bundle.ownAtoms0 own ic X names).filter vx_no
def vx_atS (own : String) (ic : Nat) (X : String) (names : List String) : List Cond := (Bundle.ownAtoms own ic X names).filter vx_no
/-- a word that the tables alone decide, or a good one -/
def vx_ot (w : Cond) : Bool := w.onTables || goodWord w
theorem vx_ot_at {args a' : Array Value} {s U : State} {w : Cond} (hW : s.WarmedH U.vm) (hvm : s.vm = U.vm) (hg : vx_ot w = true) (h : w.before args s = true) : w.before a' U = true := by
  simp only [vx_ot, Bool.or_eq_true] at hg
  rcases hg with hg | hg
  · exact va_tabs hg hvm h
  · exact word_at hW (good_of_word hg) h
/-- a list's words: the good ones out of the method's own list, the others by premises of their own -/
theorem vx_hat {args : Array Value} {s : State} {L B : List Cond} (h1 : ∀ w ∈ L.filter goodWord, w.before args s = true) (h2 : ∀ w ∈ L.filter (fun w => !goodWord w), w ∈ B) (h3 : ∀ w ∈ B, w.before args s = true) : ∀ w ∈ L, w.before args s = true := by
  intro w hw
  by_cases g : goodWord w = true
  · exact h1 w (List.mem_filter.mpr ⟨hw, g⟩)
  · refine h3 w (h2 w (List.mem_filter.mpr ⟨hw, ?_⟩))
    show (!goodWord w) = true
    cases hgw : goodWord w
    · rfl
    · exact absurd hgw g
theorem vx_c {args : Array Value} {s : State} {w : Cond} {B : List Cond} (h : w.before args s = true) (t : ∀ w ∈ B, w.before args s = true) : ∀ w' ∈ w :: B, w'.before args s = true := fun w' h' => (List.mem_cons.mp h').elim (fun e => by rw [e]; exact h) (t w')
theorem vx_n {args : Array Value} {s : State} : ∀ w ∈ ([] : List Cond), w.before args s = true := fun _ h => nomatch h
theorem vx_own {args : Array Value} {s : State} {L : List Cond} (h1 : ∀ w ∈ L.filter vx_no, w.before args s = true)
    (hU : (Cond.isRef (.static Bundle.tN "UNASSIGNED_STACK" Bundle.steD)).before args s = true) (hN : (Cond.isRef (.static Bundle.tN "SUPPRESSED_SENTINEL" Bundle.listD)).before args s = true)
    (lU : (Cond.laysStatic Bundle.tN "UNASSIGNED_STACK" Bundle.steD).before args s = true) (lN : (Cond.laysStatic Bundle.tN "SUPPRESSED_SENTINEL" Bundle.listD).before args s = true) : ∀ w ∈ L, w.before args s = true := by
  intro w hw
  by_cases e1 : w = .isRef (.static Bundle.tN "UNASSIGNED_STACK" Bundle.steD)
  · rw [e1]; exact hU
  · by_cases e2 : w = .isRef (.static Bundle.tN "SUPPRESSED_SENTINEL" Bundle.listD)
    · rw [e2]; exact hN
    · by_cases e3 : w = .laysStatic Bundle.tN "UNASSIGNED_STACK" Bundle.steD
      · rw [e3]; exact lU
      · by_cases e4 : w = .laysStatic Bundle.tN "SUPPRESSED_SENTINEL" Bundle.listD
        · rw [e4]; exact lN
        · exact h1 w (List.mem_filter.mpr ⟨hw, by unfold vx_no; rw [decide_eq_true e1, decide_eq_true e2, decide_eq_true e3, decide_eq_true e4]; rfl⟩)
/-- where a static field lies, its class's statics cell in H -/
def vx_L (C n d : String) (A : Nat → Prop) (U : State) (H : Heap) : Prop := ∃ (c : ClassId) (k : Class) (i : Nat) (f : Field) (a : Nat) (cell : Cell), U.vm.findClass C = some c ∧ U.fieldFound? C n d = some (c, k, i, f) ∧ f.isStatic = true ∧ k.statics = some a ∧ H[a]? = some cell ∧ cell.vm.isStatics = true ∧ cell.cls = c ∧ f.slot < cell.slots.size ∧ k.staticTypes[f.slot]? = some f.type ∧ ¬ A a
theorem vx_L.moved {C n d : String} {A : Nat → Prop} {u U : State} {H : Heap} (hvm : u.vm.Alike U.vm) (h : vx_L C n d A u H) : vx_L C n d A U H := by
  obtain ⟨c, k, i, f, a, cell, h1, h2, h3, h4, h5, h6, h7, h8, h9, h10⟩ := h
  obtain ⟨k', hi', he⟩ := State.fieldFound?_setVm hvm h2
  exact ⟨c, k', i, f, a, cell, by rw [hvm.findClass]; exact h1, hi', h3, by rw [he]; exact h4, h5, h6, h7, h8, by rw [he]; exact h9, h10⟩
theorem vx_L.kept {C n d : String} {A : Nat → Prop} {U : State} {H H1 : Heap} (h : vx_L C n d A U H) (hq : ∀ a : Nat, a < H.size → ¬ A a → H1[a]? = H[a]?) : vx_L C n d A U H1 := by
  obtain ⟨c, k, i, f, a, cell, h1, h2, h3, h4, h5, h6, h7, h8, h9, h10⟩ := h
  exact ⟨c, k, i, f, a, cell, h1, h2, h3, h4, by rw [hq a (Array.getElem?_eq_some_iff.mp h5).1 h10]; exact h5, h6, h7, h8, h9, h10⟩
theorem vx_L.narrow {C n d : String} {A B : Nat → Prop} {U : State} {H : Heap} (h : vx_L C n d A U H) (hAB : ∀ q, B q → A q) : vx_L C n d B U H := by
  obtain ⟨c, k, i, f, a, cell, h1, h2, h3, h4, h5, h6, h7, h8, h9, h10⟩ := h
  exact ⟨c, k, i, f, a, cell, h1, h2, h3, h4, h5, h6, h7, h8, h9, fun z => h10 (hAB _ z)⟩
theorem vx_L.word {C n d : String} {A : Nat → Prop} {s : State} {args : Array Value} (h : vx_L C n d A s s.heap) : (Cond.laysStatic C n d).before args s = true := by
  obtain ⟨c, k, i, f, a, cell, h1, h2, h3, h4, h5, h6, h7, h8, h9, -⟩ := h
  show (Cond.laysStatic C n d).holds args s none s [] = true
  exact Cond.laysStatic_of h1 h2 h3 h4 h5 h6 h7 h8 h9
/-- .. and what it holds: null or some reference -/
def vx_Zq (C n d : String) (A : Nat → Prop) (U : State) (H : Heap) : Prop := va_Zq C n d A U H ∧ vx_L C n d A U H
theorem vx_Zq.moved {C n d : String} {A : Nat → Prop} {u U : State} {H : Heap} (hvm : u.vm.Alike U.vm) (h : vx_Zq C n d A u H) : vx_Zq C n d A U H := ⟨va_Zq.moved hvm h.1, vx_L.moved hvm h.2⟩
theorem vx_Zq.kept {C n d : String} {A : Nat → Prop} {U : State} {H H1 : Heap} (h : vx_Zq C n d A U H) (hq : ∀ a : Nat, a < H.size → ¬ A a → H1[a]? = H[a]?) : vx_Zq C n d A U H1 := ⟨va_Zq.kept h.1 hq, vx_L.kept h.2 hq⟩
theorem vx_Zq.narrow {C n d : String} {A B : Nat → Prop} {U : State} {H : Heap} (h : vx_Zq C n d A U H) (hAB : ∀ q, B q → A q) : vx_Zq C n d B U H := ⟨va_Zq.narrow h.1 hAB, vx_L.narrow h.2 hAB⟩
theorem vx_Zqof {args : Array Value} {s : State} {C n d : String} {A : Nat → Prop} (hl : (Cond.laysStatic C n d).before args s = true) (hini : (Cond.initialized C).before args s = true) (h : (Cond.isRef (.static C n d)).before args s = true) (hA : ∀ a : Nat, a < s.heap.size → ¬ A a) : vx_Zq C n d A s s.heap := by
  refine ⟨va_Zqof hl hini h hA, ?_⟩
  obtain ⟨c, k, i, f, a, cell, h1, h2, h3, h4, h5, h6, h7, h8, h9⟩ := Cond.laysStatic_spec hl
  exact ⟨c, k, i, f, a, cell, h1, h2, h3, h4, h5, h6, h7, h8, h9, hA a (Array.getElem?_eq_some_iff.mp h5).1⟩
theorem vx_isRef {C n d : String} {v : Value} {A : Nat → Prop} {s : State} {args : Array Value} (h : va_Z C n d v A s s.heap) (hv : v.isRef = true) : (Cond.isRef (.static C n d)).before args s = true := by
  obtain ⟨cf, kf, fi, f, a, cell, h1, h2, h3, h4, h5, h6, h7, -⟩ := h
  have he : (Term.static C n d).eval args s none [] s = some v := by
    simp [Term.eval, State.fieldNamed?, h1, h2, h4, h5, h6, h7]
  simp only [Cond.before, Cond.holds, Cond.value, he]
  cases v <;> simp_all [Value.isRef]
theorem vx_isRefq {C n d : String} {A : Nat → Prop} {s : State} {args : Array Value} (h : va_Zq C n d A s s.heap) : (Cond.isRef (.static C n d)).before args s = true := by
  rcases h with h | ⟨t, h⟩
  · exact vx_isRef h rfl
  · exact vx_isRef h rfl
/-- the same frame, seen from here: as if the method were called anew in this heap -/
theorem vx_rebase {T : State} (X : Stand p l e R s m args below meth c T locs cells slots) {R' : Room} (hf : R'.frames ≤ R.frames) (hl : R'.locals ≤ R.locals) (hc : cells + R'.cells ≤ R.cells) (hs : slots + R'.slots ≤ R.slots) :
    Stand p l e R' ((T.setVm s.vm).setFrames (.invoking m args :: below)) m args below meth c T [] 0 0 := by
  have htop : (T.setVm s.vm).topJava?.isSome := X.here.top
  have hF : ((T.setVm s.vm).setFrames (.invoking m args :: below)).frames = .invoking m args :: below := State.frames_setFrames _ (State.cur_lt_of_top htop)
  obtain ⟨g₀, hg0⟩ := Option.isSome_iff_exists.mp htop
  obtain ⟨r, hr⟩ := State.topJava?_eq_some.mp hg0
  have hl9 : e.platform.stackLimits (T.setVm s.vm).me = e.platform.stackLimits s.me := X.limits
  have hb9 : (T.setVm s.vm).me.stackBytes = s.me.stackBytes := X.bytes
  refine ⟨X.admits, X.cas, X.clock, hF, ?_, X.hears, X.method, X.code, X.here, X.tail, X.warmed, ?_, ?_, ?_⟩
  · have h := X.room
    have hU : ((T.setVm s.vm).setFrames (.invoking m args :: below)).localsInUse = s.localsInUse := by
      rw [State.localsInUse_invoking hF (meth := meth) (c := c) X.method X.code, State.localsInUse_invoking X.frames X.method X.code]
    simp only [State.hasRoom, Bool.and_eq_true, decide_eq_true_eq] at h ⊢
    obtain ⟨⟨⟨⟨h1, h2, h3, h4, h5, h6⟩, h7⟩, h8⟩, h9⟩ := h
    rw [X.frames, List.length_cons] at h2 h3
    have q1 := X.heapSize
    have q2 := X.used
    simp only [hF, hU, List.length_cons, State.stackLimits_setFrames, State.stackBytes_setFrames, hl9, hb9]
    refine ⟨⟨⟨⟨by omega, by omega, by omega, by omega, by omega, h6⟩, ?_⟩, ?_⟩, X.book⟩
    · show T.heap.size + R'.cells ≤ e.platform.maxCells
      omega
    · show T.slotsUsed + R'.slots ≤ e.platform.maxSlots
      omega
  · rw [State.stackLimits_setFrames]; rfl
  · rw [State.stackBytes_setFrames]; rfl
  · refine ⟨?_, Nat.le_refl _, Nat.le_refl _, ?_, ?_, fun a c9 h9 => ⟨c9, h9, rfl, rfl, fun _ _ => rfl⟩⟩
    · obtain ⟨t, ht, -⟩ := State.frames_cons hr
      show T.setVm s.vm = { ((T.setVm s.vm).setFrames (.invoking m args :: below)).setFrames (T.setVm s.vm).frames with heap := T.heap, slotsUsed := T.slotsUsed }
      rw [State.setFrames_setFrames, State.setFrames_self ht]
      rfl
    · show T.slotsUsed = T.slotsUsed + ((T.heap.toList.drop T.heap.size).map (·.slots.size)).sum
      rw [List.drop_eq_nil_of_le (Nat.le_of_eq Array.length_toList)]
      rfl
    · show ((T.heap.toList.drop T.heap.size).map (·.slots.size)).sum ≤ 0
      rw [List.drop_eq_nil_of_le (Nat.le_of_eq Array.length_toList)]
      exact Nat.le_refl _
/-- 'throw new E()': new; dup; invokespecial; athrow -/
theorem vx_throw0 {cc : ByteArray} {pc : Nat} (hexec : p.tables.exec = Jvm.exec) (hb : c.code = cc) (hl : l.stackTraces = false) {own cls : String} {names : List String} {ik ic mc ms : Nat} {A : Nat → Prop}
    (hown : s.vm.findClass own = some m.cls) (hcls : Bundle.fit cls = true) (hnames : ∀ n ∈ names, Bundle.fit n = true)
    (hk : (Cond.classLink own ik cls).before args s = true) (hini : (Cond.initialized cls).before args s = true) (hat : ∀ w ∈ vx_at0 own ic cls names, w.before args s = true)
    (hgood : ∀ w ∈ Cond.classLink own ik cls :: Cond.initialized cls :: vx_at0 own ic cls names, vx_ot w = true)
    (hU : vx_Zq Bundle.tN "UNASSIGNED_STACK" Bundle.steD A s s.heap) (hN : vx_Zq Bundle.tN "SUPPRESSED_SENTINEL" Bundle.listD A s s.heap) (hS : va_S A s.heap H locs) (hsize : ls.size = c.maxLocals)
    (d0 : decode cc pc = .ok (.new ik, 3)) (d3 : decode cc (pc + 3) = .ok (.dup, 1)) (d4 : decode cc (pc + 4) = .ok (.invokespecial ic, 3)) (d7 : decode cc (pc + 7) = .ok (.athrow, 1))
    (hout : ∀ x ∈ c.exceptionTable.toList, covers x (pc + 7) = false)
    (hRframes : names.length + 3 < R.frames) (hRlocals : (rest.map fun v => v.category).sum + (13 * (names.length + 1) + 42) ≤ R.locals) (hRcells : cells + 1 ≤ R.cells) (hRslots : slots + 6 ≤ R.slots) (hlocks : meth.locks = false)
    (hx : ∀ t : State, s.vm.Alike t.vm → H.size ≤ t.heap.size → (∀ q : Nat, q < H.size → t.heap[q]? = H[q]?) → XC cls s t)
    (hf : ∀ z ∈ locs, free z.base) (hc : cells + 1 ≤ mc) (hs : slots + 6 ≤ ms) :
    W p l e R s m args below meth c H locs cells slots (vx_MQ below Qc XC args s mc ms free) (F0 m pc ls rest) := by
  intro T hT X
  have htr : e.platform.stackTraces = false := (show e.platform.stackTraces = l.stackTraces by rw [X.admits.platform]).trans hl
  have Y := vx_rebase X (R' := { frames := R.frames, locals := R.locals, cells := 1, slots := 6 }) (Nat.le_refl _) (Nat.le_refl _) hRcells hRslots
  obtain ⟨s', hA⟩ : ∃ z, z = (T.setVm s.vm).setFrames (.invoking m args :: below) := ⟨_, rfl⟩
  rw [← hA] at Y
  have hvm : s'.vm = s.vm := by rw [hA]; rfl
  have hhp : s'.heap = H := by rw [hA]; exact hT
  have hW0 : s.WarmedH s'.vm := by rw [hvm]; exact State.WarmedH.refl s
  have hat' : ∀ w ∈ vx_at0 own ic cls names, w.before args s' = true := fun w hw => vx_ot_at hW0 hvm.symm (hgood w (List.mem_cons_of_mem _ (List.mem_cons_of_mem _ hw))) (hat w hw)
  have hk' : (Cond.classLink own ik cls).before args s' = true := vx_ot_at hW0 hvm.symm (hgood _ List.mem_cons_self) hk
  have hini' : (Cond.initialized cls).before args s' = true := vx_ot_at hW0 hvm.symm (hgood _ (List.mem_cons_of_mem _ List.mem_cons_self)) hini
  have hU' : vx_Zq Bundle.tN "UNASSIGNED_STACK" Bundle.steD A s' s'.heap := by rw [hhp]; exact vx_Zq.moved hW0.alike (hU.kept hS.2.1)
  have hN' : vx_Zq Bundle.tN "SUPPRESSED_SENTINEL" Bundle.listD A s' s'.heap := by rw [hhp]; exact vx_Zq.moved hW0.alike (hN.kept hS.2.1)
  have h : ∀ w ∈ Bundle.ownAtoms0 own ic cls names, w.before args s' = true := vx_own hat' (vx_isRefq hU'.1) (vx_isRefq hN'.1) hU'.2.word hN'.2.word
  have hown' : s'.vm.findClass own = some m.cls := by rw [hvm]; exact hown
  have hins : (Cond.instantiable cls 6).before args s' = true := h _ (by simp [Bundle.ownAtoms0])
  obtain ⟨vm₁, cX, kX, hfX, hkX, -, -, X₁, st1⟩ := Y.newCold hexec (own := own) (C := cls) (index := ik) (n := 6) hown' hk' hins hini'
    (g := F0 m pc ls rest) rfl (by rw [hb]; exact d0) (Nat.le_refl _) (Nat.le_refl _)
  generalize hT1 : (T.setVm vm₁).pushCell { cls := cX, slots := kX.instanceTypes.map defaultValue, vm := .none } = T1 at X₁ st1
  have hcat : (Value.ref T.heap.size).category = 1 := rfl
  have hcellA : T1.heap[T.heap.size]? = some (freshCell cX kX) := by rw [← hT1]; exact State.heap_pushCell_size _ _
  have d3' : decode c.code (pc + 3) = .ok (.dup, 1) := by rw [hb]; exact d3
  obtain ⟨U, hsteps, hrun, hend, hW, hsame, ce, hce, hO⟩ := X₁.ctorThrow0 hexec htr (own := own) (cls := cls) (names := names) (ic := ic) hown' hcls hnames h (fun x hx => nomatch hx) hfX hkX hcellA (by rw [hhp, hT]; exact Nat.le_refl _)
    (g := { method := m, pc := pc + 4, locals := ls, stack := .ref T.heap.size :: .ref T.heap.size :: rest, locked := none }) rfl hsize rfl rfl (rest := rest) rfl
    (by rw [hb]; exact d4) (by rw [hb]; exact d7) hout hRframes (by simp only [List.map_cons, List.sum_cons, hcat]; omega) hlocks
  obtain ⟨f1, f2⟩ := vx_frame hsame
  rw [hhp] at f1 f2
  have hWs : s.WarmedH U.vm := State.WarmedH.trans hW0 hW
  have hcl : s.vm.findClass cls = some ce.cls := by
    have h9 := hO.cls
    rw [hvm] at h9
    exact h9
  have hall : s.sameButNew ({ U with vm := s.vm } : State) locs mc ms := by
    subst hA
    obtain ⟨e1, e2⟩ := hsame
    rw [State.setFrames_setFrames] at e1
    have h2 : (T.setVm s.vm).sameButNew ({ U with vm := s.vm } : State) [] (0 + 1) (0 + 6) := ⟨e1, e2⟩
    have h3 := X.same.trans h2
    rw [List.append_nil] at h3
    exact h3.mono hc hs
  refine ⟨U, ?_, .threw T.heap.size, hrun, hend, Or.inr ⟨T.heap.size, rfl, cls, ce, locs, hx U hWs.alike f1 (fun q hq => f2 q hq (fun z hz => nomatch hz)), hce, hO.vm, hcl, hWs, hall, hf⟩⟩
  refine st1 _ ?_
  show Steps p.tables e below (T1.setTop { method := m, pc := pc + 3, locals := ls, stack := .ref T.heap.size :: rest, locked := none }) _
  jvm_step X₁.here [X₁.here.top, hexec, d3', Value.category]
  exact hsteps
/-- 'throw new E("text")': new; dup; ldc; invokespecial; athrow -/
theorem vx_throwS {cc : ByteArray} {pc : Nat} (hexec : p.tables.exec = Jvm.exec) (hb : c.code = cc) (hl : l.stackTraces = false) {own cls text : String} {names : List String} {ik is ic mc ms sa : Nat} {A : Nat → Prop}
    (hown : s.vm.findClass own = some m.cls) (hcls : Bundle.fit cls = true) (hnames : ∀ n ∈ names, Bundle.fit n = true)
    (hk : (Cond.classLink own ik cls).before args s = true) (hini : (Cond.initialized cls).before args s = true) (hstr : vk_R own is text sa s) (hat : ∀ w ∈ vx_atS own ic cls names, w.before args s = true)
    (hgood : ∀ w ∈ Cond.classLink own ik cls :: Cond.initialized cls :: vx_atS own ic cls names, vx_ot w = true)
    (hU : vx_Zq Bundle.tN "UNASSIGNED_STACK" Bundle.steD A s s.heap) (hN : vx_Zq Bundle.tN "SUPPRESSED_SENTINEL" Bundle.listD A s s.heap) (hS : va_S A s.heap H locs) (hsize : ls.size = c.maxLocals)
    (d0 : decode cc pc = .ok (.new ik, 3)) (d3 : decode cc (pc + 3) = .ok (.dup, 1)) (d4 : decode cc (pc + 4) = .ok (.ldc is, 2)) (d6 : decode cc (pc + 6) = .ok (.invokespecial ic, 3)) (d9 : decode cc (pc + 9) = .ok (.athrow, 1))
    (hout : ∀ x ∈ c.exceptionTable.toList, covers x (pc + 9) = false)
    (hRframes : names.length + 3 < R.frames) (hRlocals : (rest.map fun v => v.category).sum + (13 * (names.length + 1) + 43) ≤ R.locals) (hRcells : cells + 1 ≤ R.cells) (hRslots : slots + 6 ≤ R.slots) (hlocks : meth.locks = false)
    (hx : ∀ t : State, s.vm.Alike t.vm → H.size ≤ t.heap.size → (∀ q : Nat, q < H.size → t.heap[q]? = H[q]?) → XC cls s t)
    (hf : ∀ z ∈ locs, free z.base) (hc : cells + 1 ≤ mc) (hs : slots + 6 ≤ ms) :
    W p l e R s m args below meth c H locs cells slots (vx_MQ below Qc XC args s mc ms free) (F0 m pc ls rest) := by
  intro T hT X
  have htr : e.platform.stackTraces = false := (show e.platform.stackTraces = l.stackTraces by rw [X.admits.platform]).trans hl
  have Y := vx_rebase X (R' := { frames := R.frames, locals := R.locals, cells := 1, slots := 6 }) (Nat.le_refl _) (Nat.le_refl _) hRcells hRslots
  obtain ⟨s', hA⟩ : ∃ z, z = (T.setVm s.vm).setFrames (.invoking m args :: below) := ⟨_, rfl⟩
  rw [← hA] at Y
  have hvm : s'.vm = s.vm := by rw [hA]; rfl
  have hhp : s'.heap = H := by rw [hA]; exact hT
  have hW0 : s.WarmedH s'.vm := by rw [hvm]; exact State.WarmedH.refl s
  have hat' : ∀ w ∈ vx_atS own ic cls names, w.before args s' = true := fun w hw => vx_ot_at hW0 hvm.symm (hgood w (List.mem_cons_of_mem _ (List.mem_cons_of_mem _ hw))) (hat w hw)
  have hk' : (Cond.classLink own ik cls).before args s' = true := vx_ot_at hW0 hvm.symm (hgood _ List.mem_cons_self) hk
  have hini' : (Cond.initialized cls).before args s' = true := vx_ot_at hW0 hvm.symm (hgood _ (List.mem_cons_of_mem _ List.mem_cons_self)) hini
  have hU' : vx_Zq Bundle.tN "UNASSIGNED_STACK" Bundle.steD A s' s'.heap := by rw [hhp]; exact vx_Zq.moved hW0.alike (hU.kept hS.2.1)
  have hN' : vx_Zq Bundle.tN "SUPPRESSED_SENTINEL" Bundle.listD A s' s'.heap := by rw [hhp]; exact vx_Zq.moved hW0.alike (hN.kept hS.2.1)
  have h : ∀ w ∈ Bundle.ownAtoms own ic cls names, w.before args s' = true := vx_own hat' (vx_isRefq hU'.1) (vx_isRefq hN'.1) hU'.2.word hN'.2.word
  have hown' : s'.vm.findClass own = some m.cls := by rw [hvm]; exact hown
  have hins : (Cond.instantiable cls 6).before args s' = true := h _ (by simp [Bundle.ownAtoms])
  obtain ⟨vm₁, cX, kX, hfX, hkX, -, -, X₁, st1⟩ := Y.newCold hexec (own := own) (C := cls) (index := ik) (n := 6) hown' hk' hins hini'
    (g := F0 m pc ls rest) rfl (by rw [hb]; exact d0) (Nat.le_refl _) (Nat.le_refl _)
  generalize hT1 : (T.setVm vm₁).pushCell { cls := cX, slots := kX.instanceTypes.map defaultValue, vm := .none } = T1 at X₁ st1
  have hcat : (Value.ref T.heap.size).category = 1 := rfl
  have hcellA : T1.heap[T.heap.size]? = some (freshCell cX kX) := by rw [← hT1]; exact State.heap_pushCell_size _ _
  have d3' : decode c.code (pc + 3) = .ok (.dup, 1) := by rw [hb]; exact d3
  have d4' : decode c.code (pc + 4) = .ok (.ldc is, 2) := by rw [hb]; exact d4
  have hstr' : vk_R own is text sa s' := vk_R.warm hW0 hstr
  obtain ⟨U, hsteps, hrun, hend, hW, hsame, ce, hce, hO⟩ := X₁.ctorThrowS hexec htr (own := own) (cls := cls) (names := names) (ic := ic) hown' hcls hnames h (fun x hx => nomatch hx) hfX hkX hcellA (by rw [hhp, hT]; exact Nat.le_refl _) (msg := .ref sa) rfl
    (g := { method := m, pc := pc + 6, locals := ls, stack := .ref sa :: .ref T.heap.size :: .ref T.heap.size :: rest, locked := none }) rfl hsize rfl rfl (rest := rest) rfl
    (by rw [hb]; exact d6) (by rw [hb]; exact d9) hout hRframes (by simp only [List.map_cons, List.sum_cons, hcat]; omega) hlocks
  obtain ⟨f1, f2⟩ := vx_frame hsame
  rw [hhp] at f1 f2
  have hWs : s.WarmedH U.vm := State.WarmedH.trans hW0 hW
  have hcl : s.vm.findClass cls = some ce.cls := by
    have h9 := hO.cls
    rw [hvm] at h9
    exact h9
  have hall : s.sameButNew ({ U with vm := s.vm } : State) locs mc ms := by
    subst hA
    obtain ⟨e1, e2⟩ := hsame
    rw [State.setFrames_setFrames] at e1
    have h2 : (T.setVm s.vm).sameButNew ({ U with vm := s.vm } : State) [] (0 + 1) (0 + 6) := ⟨e1, e2⟩
    have h3 := X.same.trans h2
    rw [List.append_nil] at h3
    exact h3.mono hc hs
  refine ⟨U, ?_, .threw T.heap.size, hrun, hend, Or.inr ⟨T.heap.size, rfl, cls, ce, locs, hx U hWs.alike f1 (fun q hq => f2 q hq (fun z hz => nomatch hz)), hce, hO.vm, hcl, hWs, hall, hf⟩⟩
  refine st1 _ ?_
  show Steps p.tables e below (T1.setTop { method := m, pc := pc + 3, locals := ls, stack := .ref T.heap.size :: rest, locked := none }) _
  jvm_step X₁.here [X₁.here.top, hexec, d3', Value.category]
  exact X₁.ldcString hexec (own := own) (text := text) (index := is) (a := sa) hown' hstr'.1 hstr'.2
    (g := { method := m, pc := pc + 4, locals := ls, stack := .ref T.heap.size :: .ref T.heap.size :: rest, locked := none }) rfl d4' _ hsteps
/-- 'throw new E("text")', the text by a wide index -/
theorem vx_throwSW {cc : ByteArray} {pc : Nat} (hexec : p.tables.exec = Jvm.exec) (hb : c.code = cc) (hl : l.stackTraces = false) {own cls text : String} {names : List String} {ik is ic mc ms sa : Nat} {A : Nat → Prop}
    (hown : s.vm.findClass own = some m.cls) (hcls : Bundle.fit cls = true) (hnames : ∀ n ∈ names, Bundle.fit n = true)
    (hk : (Cond.classLink own ik cls).before args s = true) (hini : (Cond.initialized cls).before args s = true) (hstr : vk_R own is text sa s) (hat : ∀ w ∈ vx_atS own ic cls names, w.before args s = true)
    (hgood : ∀ w ∈ Cond.classLink own ik cls :: Cond.initialized cls :: vx_atS own ic cls names, vx_ot w = true)
    (hU : vx_Zq Bundle.tN "UNASSIGNED_STACK" Bundle.steD A s s.heap) (hN : vx_Zq Bundle.tN "SUPPRESSED_SENTINEL" Bundle.listD A s s.heap) (hS : va_S A s.heap H locs) (hsize : ls.size = c.maxLocals)
    (d0 : decode cc pc = .ok (.new ik, 3)) (d3 : decode cc (pc + 3) = .ok (.dup, 1)) (d4 : decode cc (pc + 4) = .ok (.ldc_w is, 3)) (d7 : decode cc (pc + 7) = .ok (.invokespecial ic, 3)) (d10 : decode cc (pc + 10) = .ok (.athrow, 1))
    (hout : ∀ x ∈ c.exceptionTable.toList, covers x (pc + 10) = false)
    (hRframes : names.length + 3 < R.frames) (hRlocals : (rest.map fun v => v.category).sum + (13 * (names.length + 1) + 43) ≤ R.locals) (hRcells : cells + 1 ≤ R.cells) (hRslots : slots + 6 ≤ R.slots) (hlocks : meth.locks = false)
    (hx : ∀ t : State, s.vm.Alike t.vm → H.size ≤ t.heap.size → (∀ q : Nat, q < H.size → t.heap[q]? = H[q]?) → XC cls s t)
    (hf : ∀ z ∈ locs, free z.base) (hc : cells + 1 ≤ mc) (hs : slots + 6 ≤ ms) :
    W p l e R s m args below meth c H locs cells slots (vx_MQ below Qc XC args s mc ms free) (F0 m pc ls rest) := by
  intro T hT X
  have htr : e.platform.stackTraces = false := (show e.platform.stackTraces = l.stackTraces by rw [X.admits.platform]).trans hl
  have Y := vx_rebase X (R' := { frames := R.frames, locals := R.locals, cells := 1, slots := 6 }) (Nat.le_refl _) (Nat.le_refl _) hRcells hRslots
  obtain ⟨s', hA⟩ : ∃ z, z = (T.setVm s.vm).setFrames (.invoking m args :: below) := ⟨_, rfl⟩
  rw [← hA] at Y
  have hvm : s'.vm = s.vm := by rw [hA]; rfl
  have hhp : s'.heap = H := by rw [hA]; exact hT
  have hW0 : s.WarmedH s'.vm := by rw [hvm]; exact State.WarmedH.refl s
  have hat' : ∀ w ∈ vx_atS own ic cls names, w.before args s' = true := fun w hw => vx_ot_at hW0 hvm.symm (hgood w (List.mem_cons_of_mem _ (List.mem_cons_of_mem _ hw))) (hat w hw)
  have hk' : (Cond.classLink own ik cls).before args s' = true := vx_ot_at hW0 hvm.symm (hgood _ List.mem_cons_self) hk
  have hini' : (Cond.initialized cls).before args s' = true := vx_ot_at hW0 hvm.symm (hgood _ (List.mem_cons_of_mem _ List.mem_cons_self)) hini
  have hU' : vx_Zq Bundle.tN "UNASSIGNED_STACK" Bundle.steD A s' s'.heap := by rw [hhp]; exact vx_Zq.moved hW0.alike (hU.kept hS.2.1)
  have hN' : vx_Zq Bundle.tN "SUPPRESSED_SENTINEL" Bundle.listD A s' s'.heap := by rw [hhp]; exact vx_Zq.moved hW0.alike (hN.kept hS.2.1)
  have h : ∀ w ∈ Bundle.ownAtoms own ic cls names, w.before args s' = true := vx_own hat' (vx_isRefq hU'.1) (vx_isRefq hN'.1) hU'.2.word hN'.2.word
  have hown' : s'.vm.findClass own = some m.cls := by rw [hvm]; exact hown
  have hins : (Cond.instantiable cls 6).before args s' = true := h _ (by simp [Bundle.ownAtoms])
  obtain ⟨vm₁, cX, kX, hfX, hkX, -, -, X₁, st1⟩ := Y.newCold hexec (own := own) (C := cls) (index := ik) (n := 6) hown' hk' hins hini'
    (g := F0 m pc ls rest) rfl (by rw [hb]; exact d0) (Nat.le_refl _) (Nat.le_refl _)
  generalize hT1 : (T.setVm vm₁).pushCell { cls := cX, slots := kX.instanceTypes.map defaultValue, vm := .none } = T1 at X₁ st1
  have hcat : (Value.ref T.heap.size).category = 1 := rfl
  have hcellA : T1.heap[T.heap.size]? = some (freshCell cX kX) := by rw [← hT1]; exact State.heap_pushCell_size _ _
  have d3' : decode c.code (pc + 3) = .ok (.dup, 1) := by rw [hb]; exact d3
  have d4' : decode c.code (pc + 4) = .ok (.ldc_w is, 3) := by rw [hb]; exact d4
  have hstr' : vk_R own is text sa s' := vk_R.warm hW0 hstr
  obtain ⟨U, hsteps, hrun, hend, hW, hsame, ce, hce, hO⟩ := X₁.ctorThrowS hexec htr (own := own) (cls := cls) (names := names) (ic := ic) hown' hcls hnames h (fun x hx => nomatch hx) hfX hkX hcellA (by rw [hhp, hT]; exact Nat.le_refl _) (msg := .ref sa) rfl
    (g := { method := m, pc := pc + 7, locals := ls, stack := .ref sa :: .ref T.heap.size :: .ref T.heap.size :: rest, locked := none }) rfl hsize rfl rfl (rest := rest) rfl
    (by rw [hb]; exact d7) (by rw [hb]; exact d10) hout hRframes (by simp only [List.map_cons, List.sum_cons, hcat]; omega) hlocks
  obtain ⟨f1, f2⟩ := vx_frame hsame
  rw [hhp] at f1 f2
  have hWs : s.WarmedH U.vm := State.WarmedH.trans hW0 hW
  have hcl : s.vm.findClass cls = some ce.cls := by
    have h9 := hO.cls
    rw [hvm] at h9
    exact h9
  have hall : s.sameButNew ({ U with vm := s.vm } : State) locs mc ms := by
    subst hA
    obtain ⟨e1, e2⟩ := hsame
    rw [State.setFrames_setFrames] at e1
    have h2 : (T.setVm s.vm).sameButNew ({ U with vm := s.vm } : State) [] (0 + 1) (0 + 6) := ⟨e1, e2⟩
    have h3 := X.same.trans h2
    rw [List.append_nil] at h3
    exact h3.mono hc hs
  refine ⟨U, ?_, .threw T.heap.size, hrun, hend, Or.inr ⟨T.heap.size, rfl, cls, ce, locs, hx U hWs.alike f1 (fun q hq => f2 q hq (fun z hz => nomatch hz)), hce, hO.vm, hcl, hWs, hall, hf⟩⟩
  refine st1 _ ?_
  show Steps p.tables e below (T1.setTop { method := m, pc := pc + 3, locals := ls, stack := .ref T.heap.size :: rest, locked := none }) _
  jvm_step X₁.here [X₁.here.top, hexec, d3', Value.category]
  exact X₁.ldcStringW hexec (own := own) (text := text) (index := is) (a := sa) hown' hstr'.1 hstr'.2
    (g := { method := m, pc := pc + 4, locals := ls, stack := .ref T.heap.size :: .ref T.heap.size :: rest, locked := none }) rfl d4' _ hsteps
end Ends
section Bodies
variable {l : Launch}
theorem vx_ofW {y : MethodName} {ws ws' : List Cond} {rm : Room} {Pc : Array Value → State → Prop} {Qc : Array Value → State → Outcome → State → Prop} {XC : String → State → State → Prop} {mc ms : Nat} {free : Addr → Prop} {cc : ByteArray} {maxL : Nat} {ret : Option FieldType}
    (hy : plainName y.cls = true) (hw : ws = Cond.code y cc maxL ret :: ws')
    (body : ∀ p e s m args below meth c s₁, BodyLoose p l y (headSpec ws rm) cc maxL ret e s m args below meth c s₁ → c.maxLocals = maxL → (∀ x ∈ c.exceptionTable.toList, False) → Pc args s →
      W p l e (headSpec ws rm).room s m args below meth c s.heap [] 0 0 (vx_MQ below Qc XC args s mc ms free) (entryFrame m args maxL)) : vx_Met l y ws rm Pc Qc XC mc ms free := by
  refine MetFree.of_bodyS (code := cc) (maxLocals := maxL) (ret := ret) hy ?_ ?_
  · intro args s m h hn
    obtain ⟨meth, c, h1, h2, h3, h4, h5, h6, -, -⟩ := Cond.code_spec hn (atoms_spec (ws := ws) h _ (by rw [hw]; exact List.mem_cons_self))
    exact ⟨meth, c, h1, h2, h3, h4, h5, h6⟩
  · intro p e s m args below meth c s₁ B hml hP _
    have hh0 : s₁.heap = s.heap := by rw [B.state]; rfl
    have ht : ∀ x ∈ c.exceptionTable.toList, False := by
      obtain ⟨meth9, c9, h1, h2, -, -, -, -, h7, -⟩ := Cond.code_spec B.named (atoms_spec (ws := ws) B.pre _ (by rw [hw]; exact List.mem_cons_self))
      cases Option.some.inj (h1.symm.trans B.method)
      cases Option.some.inj (h2.symm.trans (Stand.of_body B).code)
      intro x hx
      rw [Array.isEmpty_iff.mp h7] at hx
      cases hx
    obtain ⟨t, a1, o, b1, b2, b3⟩ := body p e s m args below meth c s₁ B hml ht hP s₁ hh0 (Stand.of_body B)
    exact ⟨t, o, a1, b1, b2, b3⟩
/-- the table of a body with handlers -/
theorem vx_table {p : Program} {x y : MethodName} {S : Spec} {cc bytes : ByteArray} {maxL maxL' : Nat} {ret ret' : Option FieldType} {e : Env} {s s₁ : State} {m : MethodId} {args : Array Value} {below : List Frame} {meth : Method} {c : Code} {hh : List (Nat × Nat × Nat × Nat)}
    (B : BodyLoose p l y S cc maxL ret e s m args below meth c s₁) (h : (Cond.codeWith y bytes maxL' ret' hh).before args s = true) : c.exceptionTable.toList = tableOf hh := by
  obtain ⟨m9, meth9, c9, hn9, h1, h2, -, -, h6, -⟩ := Cond.codeWith_spec h
  cases Option.some.inj (hn9.symm.trans B.named)
  cases Option.some.inj (h1.symm.trans B.method)
  cases Option.some.inj (h2.symm.trans (Stand.of_body B).code)
  rw [← h6, table_eq]
end Bodies
end VXA
/-! ===== END ===== -/
/-! ===== BEGIN a static call of a method with an exception table ===== -/
section VXS
variable {p : Program} {l : Launch} {e : Env} {R : Room} {s : State} {m : MethodId} {args : Array Value} {below : List Frame} {meth : Method} {c : Code} {T : State} {H : Heap} {locs : List Loc} {cells slots : Nat}
abbrev vx_CSW (R : Room) (s : State) (args : Array Value) (own : String) (index : Nat) (y : MethodName) (bytes : ByteArray) (maxL : Nat) (ret : Option FieldType) (hh : List (Nat × Nat × Nat × Nat)) (ws : List Cond) (rm : Room) (mc ms n : Nat) : Prop :=
  (rm.cells = mc ∧ rm.slots = ms ∧ rm.frames + 1 ≤ R.frames ∧ 8 + (maxL + 11) + rm.locals ≤ R.locals ∧ (∀ w ∈ ws, ∀ (a' : Array Value) (U : State), s.WarmedH U.vm → w.before a' U = true) ∧ Cond.codeWith y bytes maxL ret hh ∈ ws) ∧
  (Cond.codeWith y bytes maxL ret hh).before args s = true ∧ (Cond.initialized y.cls).before args s = true ∧ (y.cls ≠ "java/lang/invoke/MethodHandle" ∧ y.cls ≠ "java/lang/invoke/VarHandle") ∧
  (∀ sig, parseMethodDescriptor y.desc = some sig → n = sig.parameters.length) ∧ (Cond.methodLink own index y).before args s = true ∧ (Cond.static y).before args s = true
theorem vx_cwSW {own : String} {index maxL mc ms : Nat} {y : MethodName} {bytes : ByteArray} {ret : Option FieldType} {hh : List (Nat × Nat × Nat × Nat)} {Ts ws ws' : List Cond} {rm : Room} (n : Nat) (ht : ∀ w ∈ Ts, w.before args s = true) (hT : GoodIn Ts (va_wsS own index y ws)) (hw : ws = Cond.codeWith y bytes maxL ret hh :: ws') (hrc : rm.cells = mc) (hrs : rm.slots = ms)
    (hd : y.cls ≠ "java/lang/invoke/MethodHandle" ∧ y.cls ≠ "java/lang/invoke/VarHandle" ∧ (parseMethodDescriptor y.desc).map (fun d => d.parameters.length) = some n) (hR : rm.frames + 1 ≤ R.frames ∧ 8 + (maxL + 11) + rm.locals ≤ R.locals) :
    vx_CSW R s args own index y bytes maxL ret hh ws rm mc ms n := by
  have ok : ∀ w ∈ va_wsS own index y ws, w.before args s = true := fun w h => ht w (hT w h).1
  have hG : GoodIn Ts ws := fun w h => hT w (by unfold va_wsS; exact List.mem_append_right _ h)
  have hc : Cond.codeWith y bytes maxL ret hh ∈ ws := by rw [hw]; exact List.mem_cons_self
  refine ⟨⟨hrc, hrs, hR.1, hR.2, pay_in ht hG, hc⟩, ht _ (hG _ hc).1, ok _ (by simp [va_wsS]), ⟨hd.1, hd.2.1⟩, fun sig h => ?_, ok _ (by simp [va_wsS]), ok _ (by simp [va_wsS])⟩
  have h2 := hd.2.2
  rw [h] at h2
  exact (Option.some.inj h2).symm
theorem vx_callSW (X : Stand p l e R s m args below meth c T locs cells slots) (hexec : p.tables.exec = Jvm.exec) {own : String} {index : Nat} {y : MethodName} {bytes : ByteArray} {maxL : Nat} {ret : Option FieldType} {hh : List (Nat × Nat × Nat × Nat)}
    (hown : s.vm.findClass own = some m.cls) (hlink : (Cond.methodLink own index y).before args s = true) (hstat : (Cond.static y).before args s = true) (hinit : (Cond.initialized y.cls).before args s = true)
    (hcode : (Cond.codeWith y bytes maxL ret hh).before args s = true) (hy : y.cls ≠ "java/lang/invoke/MethodHandle" ∧ y.cls ≠ "java/lang/invoke/VarHandle")
    {W9 : Nat} {Pre : Pt → Array Value → Prop} {Post : Pt → Array Value → Option Value → Pt → Prop} (hK : Back l R p e below s args y 3 W9 Pre Post)
    {g : JFrame} (hg : g.method = m) (hsize : g.locals.size = c.maxLocals) {argsL rest : List Value} (hlen : ∀ sig, parseMethodDescriptor y.desc = some sig → argsL.length = sig.parameters.length)
    (hstack : g.stack = argsL.reverse ++ rest) (hW : 2 * g.monitorRoom + (rest.map fun v => v.category).sum ≤ W9) (hdg : decode c.code g.pc = .ok (.invokestatic index, 3))
    (hpre : ∀ vm₁, s.WarmedH vm₁ → Pre ⟨T.setVm vm₁, locs, cells, slots⟩ argsL.toArray) :
    ∃ (v : Option Value) (vm₁ : Vm) (B : Pt), s.WarmedH vm₁ ∧ Stand p l e R s m args below meth c B.U B.locs B.cells B.slots ∧ Post ⟨T.setVm vm₁, locs, cells, slots⟩ argsL.toArray v B ∧
      ∀ target, Steps p.tables e below (B.U.setTop { g with pc := g.pc + 3, stack := v.toList ++ rest }) target → Steps p.tables e below (T.setTop g) target := by
  obtain ⟨mk, methM, cM, hnamed, hmethM, -, -, -, -, -, -, hsigM⟩ := Cond.codeWith_spec hcode
  have hstatic : methM.isStatic = true := Cond.static_spec hnamed hmethM hstat
  obtain ⟨kP, hkP, -⟩ := className_of_methodNamed hnamed
  have hinitP : kP.init = .initialized := Cond.initialized_spec (findClass_of_methodNamed hnamed) hkP hinit
  obtain ⟨vm₁, X₁, hstep₁⟩ := X.invokestatic hexec hown hlink hnamed hmethM hstatic hkP hinitP hy (g := g) hg (argsL := argsL) (rest := rest) (hlen _ hsigM) hstack hdg
  obtain ⟨v, B, X', hpost, hsteps⟩ := hK m meth c ⟨T.setVm vm₁, locs, cells, slots⟩ { g with stack := rest } (.invokestatic index) mk argsL.toArray X₁ hg hsize hdg hW (X₁.named hnamed) (hpre vm₁ X₁.warmed)
  exact ⟨v, vm₁, B, X₁.warmed, X', hpost, fun target h => hstep₁ _ fun acts => by rw [doInvoke_state]; exact hsteps.trans h⟩
theorem vx_runSW {y : MethodName} {bytes cc : ByteArray} {maxL nL mc ms n index : Nat} {ret : Option FieldType} {hh : List (Nat × Nat × Nat × Nat)} {ws : List Cond} {rm : Room} {Pc : Array Value → State → Prop} {Qc : Array Value → State → Outcome → State → Prop} {free : Addr → Prop} {Ts : List Cond} {own : String} {As rest : List Value} {g : JFrame}
    (S : CallFix p m c cc nL s args Ts own) (hM : Met l y ws rm Pc Qc mc ms free) (cw : vx_CSW R s args own index y bytes maxL ret hh ws rm mc ms n) (hp : PreS s H Pc As)
    (hg : g.method = m) (hn : As.length = n) (hsize : g.locals.size = nL) (hstack : g.stack = As.reverse ++ rest) (hW : 2 * g.monitorRoom + (rest.map fun v => v.category).sum ≤ 8) (hdg : decode cc g.pc = .ok (.invokestatic index, 3)) (hf : cells + mc ≤ R.cells ∧ slots + ms ≤ R.slots) :
    va_Run p l e R s m args below meth c H locs cells slots mc ms g rest (Qc As.toArray) (free) := by
  obtain ⟨⟨hrc, hrs, hfr, hlo, hws, hcw⟩, hcode, hini, hy, hlen, hl, hstt⟩ := cw
  have hK : Back l R p e below s args y 3 8 (PreOf R mc ms Pc) (PostOf Qc mc ms free) := va_backW (hh := hh) (bytes := bytes) (maxL := maxL) (ret := ret) hM hp.1 hrc hrs hfr hlo hws hcw (fun a' U hW => word_at hW (Or.inl (by first | rfl | simp [Cond.onTables, Cond.keeps, Cond.steady])) hini)
  obtain ⟨hx, hb, hml, ho, -⟩ := S
  intro T hT X
  obtain ⟨v, vm₁, ⟨U', l2, c2, s2⟩, hW₁, X', ⟨g', mk, t, L, e1, e2, hq, h1, hL, h2, h3⟩, st⟩ := vx_callSW X hx (hh := hh) (bytes := bytes) (maxL := maxL) (ret := ret) ho hl hstt hini hcode hy hK hg (hsize.trans hml.symm) (argsL := As) (rest := rest) (fun sig h => hn.trans (hlen sig h)) hstack hW (by rw [hb]; exact hdg)
    (fun vm₁ hW₁ => ⟨hf.1, hf.2, hp.2 (T.setVm vm₁) hT hW₁⟩)
  dsimp only [Pt.U, Pt.locs, Pt.cells, Pt.slots] at X' e1 e2 h1 h2 h3 st
  subst h1; subst h2; subst h3
  exact ⟨v, (T.setVm vm₁).calling g' mk As.toArray, t, U', L, hT, X', hL, e1, e2, hq, st⟩
/-- not caught here, past rows that name other classes: it goes on to the caller -/
theorem vx_outP {p : Program} {l : Launch} {e : Env} {R : Room} {s : State} {m : MethodId} {args : Array Value} {below : List Frame} {meth : Method} {c : Code} {H : Heap} {locs : List Loc} {cells slots : Nat} {free : Addr → Prop} {ls : Array Slot} {rest : List Value} {Qc : Array Value → State → Outcome → State → Prop} {XC : String → State → State → Prop}
    {pc : Nat} {own E : String} {ce : Cell} {q : Addr} {mc ms : Nat} (hown : s.vm.findClass own = some m.cls) (hlocks : meth.locks = false)
    (hpass : ∀ z ∈ c.exceptionTable.toList, covers z pc = false ∨ (z.catchType ≠ 0 ∧ ∃ nm : String, (Cond.classLink own z.catchType nm).before args s = true ∧ va_Nc E nm s)) (hcell : H[q]? = some ce) (hv : ce.vm = .none) (hcl : s.vm.findClass E = some ce.cls)
    (hx : ∀ t : State, t.heap = H → s.vm.Alike t.vm → XC E s t) (hf : ∀ z ∈ locs, free z.base) (hc : cells ≤ mc) (hs : slots ≤ ms) :
    vx_W p l e R s m args below meth c H locs cells slots (vx_MQ below Qc XC args s mc ms free) (F0 m pc ls rest) q := by
  intro T hT X
  have hpl : e.platform.magicAccessors = ({} : Platform).magicAccessors := by rw [X.admits.platform]
  obtain ⟨vm', hW', X', st⟩ := X.outThrough hlocks q (g := F0 m pc ls rest) rfl rfl rfl (cell := ce) (by rw [hT]; exact hcell) (by rw [hv]; rfl)
    (by obtain ⟨k9, h9, -⟩ := Vm.findClass_spec hcl; exact ⟨k9, h9⟩) (fun z hz => by
      rcases hpass z hz with h | ⟨hz0, nm, hl1, hn1⟩
      · exact Or.inl h
      · obtain ⟨c6, hc6, hcl6⟩ := Cond.classLink_spec hown hl1 e.platform hpl
        obtain ⟨a8, b8, h1, h2, h3⟩ := hn1
        cases Option.some.inj (h1.symm.trans hcl)
        cases Option.some.inj (h2.symm.trans hc6)
        exact Or.inr ⟨hz0, _, hcl6, h3⟩)
  obtain ⟨g₀, hfr⟩ := X'.frames_eq
  have hcell9 : ((T.setVm vm').setFrames (.throwing q :: below)).heap[q]? = some ce := by
    show T.heap[q]? = some ce
    rw [hT]; exact hcell
  have hend : Ended ((T.setVm vm').setFrames (.throwing q :: below)) below (.threw q) := State.frames_setFrames _ (State.cur_lt_of_frames hfr)
  refine ⟨(T.setVm vm').setFrames (.throwing q :: below), ?_, .threw q, X'.here.running, hend, Or.inr ⟨q, rfl, E, ce, locs, hx _ hT (X'.ends _).1.alike, hcell9, hv, hcl, (X'.ends _).1, (X'.ends _).2.mono hc hs, hf⟩⟩
  rw [X.pushThrowing_eq]
  exact st
/-- a thing of a world lies in the heap -/
theorem vx_lt {D : va_G} {cl : List vw_C} {ws : va_W} {H1 : Heap} (h : va_P D cl ws H1) {k : Nat} {q : Nat × va_E} (hk : ws[k]? = some q) : q.1 < H1.size := (h k q hk).lt
end VXS
/-! ===== END ===== -/
/-! ===== BEGIN methods with a table of their own: called by a name, returning or throwing ===== -/
section VXH
/-! vx_backW, vx_callVX, vx_callSX, vx_callVW, vx_runVW, vx_runVX, vx_runSX, vx_ofWH follow the same proofs as their sisters above (Free/Laws.lean, Shelf42/LK1.lean); vx_outP calls Shelf42/NT130.lean (outThrough). -/
section
variable {l : Launch} {R : Room} {p : Program} {e : Env} {below : List Frame} {s : State} {sargs : Array Value} {y : MethodName} {len W9 : Nat}
theorem vx_backW {ws : List Cond} {rm : Room} {Pc : Array Value → State → Prop} {Qc : Array Value → State → Outcome → State → Prop} {XC : String → State → State → Prop} {mc ms : Nat} {free : Addr → Prop} {bytes : ByteArray} {maxL : Nat} {ret : Option FieldType} {hh : List (Nat × Nat × Nat × Nat)}
    (hM : vx_Met l y ws rm Pc Qc XC mc ms free) (hblind : FrameBlind Pc) (hrc : rm.cells = mc) (hrs : rm.slots = ms)
    (hframes : rm.frames + 1 ≤ R.frames) (hlocals : W9 + (maxL + 11) + rm.locals ≤ R.locals)
    (hws : ∀ w ∈ ws, ∀ a' U, s.WarmedH U.vm → w.before a' U = true) (hcode : Cond.codeWith y bytes maxL ret hh ∈ ws) (hinit : ∀ a' U, s.WarmedH U.vm → (Cond.initialized y.cls).before a' U = true) :
    vx_Back l R p e below s sargs y len W9 (PreOf R mc ms Pc) (PostOf Qc mc ms free) (vx_Post XC mc ms free) := by
  intro m meth c A g ig mk a X hg hsize hdg hW hn hp
  have h1 : (headSpec ws rm).pre.before a A.U = true := atoms_intro fun w hw => hws w hw _ _ X.warmed
  have h2 : (Cond.codeWith y bytes maxL ret hh).before a A.U = true := hws _ hcode _ _ X.warmed
  have h3 : (Cond.initialized y.cls).before a A.U = true := hinit _ _ X.warmed
  have h4 : A.cells + (headSpec ws rm).room.cells ≤ R.cells := by rw [show (headSpec ws rm).room.cells = mc from hrc]; exact hp.1
  have h5 : A.slots + (headSpec ws rm).room.slots ≤ R.slots := by rw [show (headSpec ws rm).room.slots = ms from hrs]; exact hp.2.1
  have hPc : Pc a (A.U.calling g mk a) := hblind _ _ _ _ hp.2.2
  obtain ⟨U, Ls, c0, s0⟩ := A
  dsimp only [Pt.U, Pt.locs, Pt.cells, Pt.slots] at h1 h2 h3 h4 h5 X hn hPc ⊢
  obtain ⟨m9, methY, cY, hn9, hmY, hcY, -, hlY, -⟩ := Cond.codeWith_spec h2
  cases Option.some.inj (hn9.symm.trans hn)
  obtain ⟨kY, hkY, -⟩ := className_of_methodNamed hn
  have hinitY : kY.init = .initialized := Cond.initialized_spec (findClass_of_methodNamed hn) hkY h3
  have h : At U g.method c below := by rw [hg]; exact X.here
  have hlocals9 : W9 + (maxL + 11) + (headSpec ws rm).room.locals ≤ R.locals := hlocals
  have happ : (headSpec ws rm).appliesLoose y e.platform (U.calling g mk a) = true :=
    Spec.appliesLoose_calling (g := g) h hdg hn hkY hinitY
      (X.room_calling (g := g) (R' := (headSpec ws rm).room) hsize hmY hcY hframes (by rw [hlY]; omega) h4 h5) h1
  obtain ⟨mid, hmid⟩ := h.above
  have hfr : (U.setTop g).frames = (.java g :: mid) ++ below := by rw [State.frames_setTop' g h.top, hmid]; rfl
  obtain ⟨o, s₂, hsteps, -, hend, hq⟩ := Steps.callFree hM p X.admits X.cas X.clock (acts := []) hfr happ hPc trivial
  have hq' : vx_Q Qc XC mc ms free a (U.calling g mk a) o s₂ := hq
  rw [State.frames_setTop' g h.top] at hend
  obtain ⟨g₀, hg0⟩ := Option.isSome_iff_exists.mp h.top
  obtain ⟨r, hr⟩ := State.topJava?_eq_some.mp hg0
  have hr' : (({ U with heap := s₂.heap, slotsUsed := s₂.slotsUsed } : State).setVm s₂.vm).frames = .java g₀ :: r := hr
  rcases hq' with ⟨hqc, L, hfe, hL⟩ | ⟨q, rfl, E, ce, L, hx, hce, hcv, hcl, hW₂, hsm, hL⟩
  · obtain ⟨⟨v, rfl⟩, hW₂, e2, q2, q3, q4, q5, q6⟩ := id hfe
    have e3 : s₂ = ({ (U.calling g mk a).setFrames s₂.frames with heap := s₂.heap, slotsUsed := s₂.slotsUsed } : State).setVm s₂.vm := by
      have : s₂ = ({ s₂ with vm := (U.calling g mk a).vm } : State).setVm s₂.vm := rfl
      rw [e2] at this
      exact this
    obtain ⟨c₂, i₂, len₂, hc₂, hd₂, hf₂⟩ := hend
    have hW' : U.WarmedH s₂.vm := hW₂
    have hcc : c₂ = c := by
      have h1 : s₂.code? g.method = U.code? g.method := by
        rw [State.code?_eq, State.code?_eq, hW'.alike.method?]
      exact Option.some.inj (hc₂.symm.trans (h1.trans h.code))
    subst hcc
    have hlen : len₂ = len := by rw [hdg] at hd₂; cases hd₂; rfl
    subst hlen
    have hs₂ : s₂ = (({ U with heap := s₂.heap, slotsUsed := s₂.slotsUsed } : State).setVm s₂.vm).setTop { g with pc := g.pc + len₂, stack := v.toList ++ g.stack } := by
      refine e3.trans ?_
      rw [hf₂, State.calling_eq h.top, State.setFrames_setFrames, State.setTop_of_frames _ hr', hr]
      rfl
    have hsame : U.sameButNew ({ U with heap := s₂.heap, slotsUsed := s₂.slotsUsed } : State) L mc ms := by
      refine ⟨?_, q2, q3, q4, q5, q6⟩
      obtain ⟨t, ht, -⟩ := State.frames_cons hr
      show ({ U with heap := s₂.heap, slotsUsed := s₂.slotsUsed } : State) = { U.setFrames U.frames with heap := s₂.heap, slotsUsed := s₂.slotsUsed }
      rw [State.setFrames_self ht]
    subst hg
    refine Or.inl ⟨v, ⟨(({ U with heap := s₂.heap, slotsUsed := s₂.slotsUsed } : State).setVm s₂.vm), Ls ++ L, c0 + mc, s0 + ms⟩,
      ⟨X.admits, X.cas, X.clock, X.frames, X.room, X.hears, X.method, X.code, (X.here.setHeapUsed s₂.heap s₂.slotsUsed).setVm hW'.alike, X.tail, State.WarmedH.trans X.warmed hW', X.limits, X.bytes, X.same.trans (hsame.setVm s.vm)⟩,
      ⟨g, mk, s₂, L, rfl, rfl, hqc, rfl, hL, rfl, rfl⟩, ?_⟩
    show Steps p.tables e below _ ((({ U with heap := s₂.heap, slotsUsed := s₂.slotsUsed } : State).setVm s₂.vm).setTop { g with pc := g.pc + len₂, stack := v.toList ++ g.stack })
    rw [← hs₂]
    exact hsteps
  · obtain ⟨e2, q2, q3, q4, q5, q6⟩ := id hsm
    have e3 : s₂ = ({ (U.calling g mk a).setFrames s₂.frames with heap := s₂.heap, slotsUsed := s₂.slotsUsed } : State).setVm s₂.vm := by
      have : s₂ = ({ s₂ with vm := (U.calling g mk a).vm } : State).setVm s₂.vm := rfl
      rw [e2] at this
      exact this
    have hf₂ : s₂.frames = .throwing q :: .java g :: U.frames.tail := hend
    have hW' : U.WarmedH s₂.vm := hW₂
    have hs₂ : s₂ = ((({ U with heap := s₂.heap, slotsUsed := s₂.slotsUsed } : State).setVm s₂.vm).setTop g).pushFrame (.throwing q) := by
      refine e3.trans ?_
      rw [hf₂, State.calling_eq h.top, State.setFrames_setFrames, State.pushFrame, State.frames_setTop _ hr', State.setTop_of_frames _ hr', State.setFrames_setFrames, hr]
      rfl
    have hsame : U.sameButNew ({ U with heap := s₂.heap, slotsUsed := s₂.slotsUsed } : State) L mc ms := by
      refine ⟨?_, q2, q3, q4, q5, q6⟩
      obtain ⟨t, ht, -⟩ := State.frames_cons hr
      show ({ U with heap := s₂.heap, slotsUsed := s₂.slotsUsed } : State) = { U.setFrames U.frames with heap := s₂.heap, slotsUsed := s₂.slotsUsed }
      rw [State.setFrames_self ht]
    subst hg
    refine Or.inr ⟨q, ⟨(({ U with heap := s₂.heap, slotsUsed := s₂.slotsUsed } : State).setVm s₂.vm), Ls ++ L, c0 + mc, s0 + ms⟩,
      ⟨X.admits, X.cas, X.clock, X.frames, X.room, X.hears, X.method, X.code, (X.here.setHeapUsed s₂.heap s₂.slotsUsed).setVm hW'.alike, X.tail, State.WarmedH.trans X.warmed hW', X.limits, X.bytes, X.same.trans (hsame.setVm s.vm)⟩,
      ⟨g, mk, s₂, L, E, ce, rfl, rfl, hx, hce, hcv, hcl, rfl, hL, rfl, rfl⟩, ?_⟩
    show Steps p.tables e below _ (((({ U with heap := s₂.heap, slotsUsed := s₂.slotsUsed } : State).setVm s₂.vm).setTop g).pushFrame (.throwing q))
    rw [← hs₂]
    exact hsteps
end
variable {p : Program} {l : Launch} {e : Env} {R : Room} {s : State} {m : MethodId} {args : Array Value} {below : List Frame} {meth : Method} {c : Code} {T : State} {H : Heap} {locs : List Loc} {cells slots : Nat}
theorem vx_callVX (X : Stand p l e R s m args below meth c T locs cells slots) (hexec : p.tables.exec = Jvm.exec) {own C : String} {index : Nat} {y : MethodName} {bytes : ByteArray} {maxL : Nat} {ret : Option FieldType} {hh : List (Nat × Nat × Nat × Nat)}
    (hown : s.vm.findClass own = some m.cls) (hlink : (Cond.methodLink own index y).before args s = true) (hinst : (Cond.instanceMethod y).before args s = true) (hsel : (Cond.selects C y y).before args s = true)
    (hcode : (Cond.codeWith y bytes maxL ret hh).before args s = true) (hy : y.cls ≠ "java/lang/invoke/MethodHandle" ∧ y.cls ≠ "java/lang/invoke/VarHandle")
    {W9 : Nat} {Pre : Pt → Array Value → Prop} {Post : Pt → Array Value → Option Value → Pt → Prop} {PostX : Pt → Array Value → Addr → Pt → Prop} (hK : vx_Back l R p e below s args y 3 W9 Pre Post PostX)
    {b : Addr} {cellB : Cell} (hcell : T.heap[b]? = some cellB) (hobj : cellB.vm.isStatics = false) (hcls : s.vm.findClass C = some cellB.cls)
    {g : JFrame} (hg : g.method = m) (hsize : g.locals.size = c.maxLocals) {argsL rest : List Value} (hlen : ∀ sig, parseMethodDescriptor y.desc = some sig → argsL.length = sig.parameters.length)
    (hstack : g.stack = argsL.reverse ++ .ref b :: rest) (hW : 2 * g.monitorRoom + (rest.map fun v => v.category).sum ≤ W9) (hdg : decode c.code g.pc = .ok (.invokevirtual index, 3))
    (hpre : ∀ vm₁, s.WarmedH vm₁ → Pre ⟨T.setVm vm₁, locs, cells, slots⟩ (Value.ref b :: argsL).toArray) :
    (∃ (v : Option Value) (vm₁ : Vm) (B : Pt), s.WarmedH vm₁ ∧ Stand p l e R s m args below meth c B.U B.locs B.cells B.slots ∧ Post ⟨T.setVm vm₁, locs, cells, slots⟩ (Value.ref b :: argsL).toArray v B ∧
      ∀ target, Steps p.tables e below (B.U.setTop { g with pc := g.pc + 3, stack := v.toList ++ rest }) target → Steps p.tables e below (T.setTop g) target) ∨
    (∃ (q : Addr) (vm₁ : Vm) (B : Pt), s.WarmedH vm₁ ∧ Stand p l e R s m args below meth c B.U B.locs B.cells B.slots ∧ PostX ⟨T.setVm vm₁, locs, cells, slots⟩ (Value.ref b :: argsL).toArray q B ∧
      Steps p.tables e below (T.setTop g) ((B.U.setTop { g with stack := rest }).pushFrame (.throwing q))) := by
  obtain ⟨mk, methM, hnamed, hmethM, hstM, habM⟩ := Cond.instanceMethod_spec hinst
  obtain ⟨m8, methM', cM, hn8, hmethM', -, -, -, -, -, -, hsigM⟩ := Cond.codeWith_spec hcode
  cases Option.some.inj (hn8.symm.trans hnamed)
  cases hmethM.symm.trans hmethM'
  obtain ⟨c2, r2, m2, q1, q2, q3, q4, kP, hkP, hkPi⟩ := Cond.selects_spec hsel
  cases hcls.symm.trans q1
  cases (State.methodFound?_of_named hnamed hy).symm.trans q2
  cases hnamed.symm.trans q3
  have hselP : selectMethod e.platform s.vm cellB.cls mk = .method mk := by rw [Launch.admits_selectMethod X.admits]; exact q4
  obtain ⟨vm₁, X₁, hstep₁⟩ := X.invokevirtual hexec hown hlink hnamed hmethM hstM hkP hkPi hy (a := b) (cell := cellB) hcell
    (fun z h => by rw [h] at hobj; cases hobj) hselP hmethM habM hkP hkPi (g := g) hg (argsL := argsL) (rest := rest) (hlen _ hsigM) hstack hdg
  rcases hK m meth c ⟨T.setVm vm₁, locs, cells, slots⟩ { g with stack := rest } (.invokevirtual index) mk (Value.ref b :: argsL).toArray X₁ hg hsize hdg hW (X₁.named hnamed) (hpre vm₁ X₁.warmed) with ⟨v, B, X', hpost, hsteps⟩ | ⟨q, B, X', hpost, hsteps⟩
  · exact Or.inl ⟨v, vm₁, B, X₁.warmed, X', hpost, fun target h => hstep₁ _ fun acts => by rw [doInvoke_state]; exact hsteps.trans h⟩
  · exact Or.inr ⟨q, vm₁, B, X₁.warmed, X', hpost, hstep₁ _ fun acts => by rw [doInvoke_state]; exact hsteps⟩
theorem vx_callSX (X : Stand p l e R s m args below meth c T locs cells slots) (hexec : p.tables.exec = Jvm.exec) {own : String} {index : Nat} {y : MethodName} {bytes : ByteArray} {maxL : Nat} {ret : Option FieldType} {hh : List (Nat × Nat × Nat × Nat)}
    (hown : s.vm.findClass own = some m.cls) (hlink : (Cond.methodLink own index y).before args s = true) (hstat : (Cond.static y).before args s = true) (hinit : (Cond.initialized y.cls).before args s = true)
    (hcode : (Cond.codeWith y bytes maxL ret hh).before args s = true) (hy : y.cls ≠ "java/lang/invoke/MethodHandle" ∧ y.cls ≠ "java/lang/invoke/VarHandle")
    {W9 : Nat} {Pre : Pt → Array Value → Prop} {Post : Pt → Array Value → Option Value → Pt → Prop} {PostX : Pt → Array Value → Addr → Pt → Prop} (hK : vx_Back l R p e below s args y 3 W9 Pre Post PostX)
    {g : JFrame} (hg : g.method = m) (hsize : g.locals.size = c.maxLocals) {argsL rest : List Value} (hlen : ∀ sig, parseMethodDescriptor y.desc = some sig → argsL.length = sig.parameters.length)
    (hstack : g.stack = argsL.reverse ++ rest) (hW : 2 * g.monitorRoom + (rest.map fun v => v.category).sum ≤ W9) (hdg : decode c.code g.pc = .ok (.invokestatic index, 3))
    (hpre : ∀ vm₁, s.WarmedH vm₁ → Pre ⟨T.setVm vm₁, locs, cells, slots⟩ argsL.toArray) :
    (∃ (v : Option Value) (vm₁ : Vm) (B : Pt), s.WarmedH vm₁ ∧ Stand p l e R s m args below meth c B.U B.locs B.cells B.slots ∧ Post ⟨T.setVm vm₁, locs, cells, slots⟩ argsL.toArray v B ∧
      ∀ target, Steps p.tables e below (B.U.setTop { g with pc := g.pc + 3, stack := v.toList ++ rest }) target → Steps p.tables e below (T.setTop g) target) ∨
    (∃ (q : Addr) (vm₁ : Vm) (B : Pt), s.WarmedH vm₁ ∧ Stand p l e R s m args below meth c B.U B.locs B.cells B.slots ∧ PostX ⟨T.setVm vm₁, locs, cells, slots⟩ argsL.toArray q B ∧
      Steps p.tables e below (T.setTop g) ((B.U.setTop { g with stack := rest }).pushFrame (.throwing q))) := by
  obtain ⟨mk, methM, cM, hnamed, hmethM, -, -, -, -, -, -, hsigM⟩ := Cond.codeWith_spec hcode
  have hstatic : methM.isStatic = true := Cond.static_spec hnamed hmethM hstat
  obtain ⟨kP, hkP, -⟩ := className_of_methodNamed hnamed
  have hinitP : kP.init = .initialized := Cond.initialized_spec (findClass_of_methodNamed hnamed) hkP hinit
  obtain ⟨vm₁, X₁, hstep₁⟩ := X.invokestatic hexec hown hlink hnamed hmethM hstatic hkP hinitP hy (g := g) hg (argsL := argsL) (rest := rest) (hlen _ hsigM) hstack hdg
  rcases hK m meth c ⟨T.setVm vm₁, locs, cells, slots⟩ { g with stack := rest } (.invokestatic index) mk argsL.toArray X₁ hg hsize hdg hW (X₁.named hnamed) (hpre vm₁ X₁.warmed) with ⟨v, B, X', hpost, hsteps⟩ | ⟨q, B, X', hpost, hsteps⟩
  · exact Or.inl ⟨v, vm₁, B, X₁.warmed, X', hpost, fun target h => hstep₁ _ fun acts => by rw [doInvoke_state]; exact hsteps.trans h⟩
  · exact Or.inr ⟨q, vm₁, B, X₁.warmed, X', hpost, hstep₁ _ fun acts => by rw [doInvoke_state]; exact hsteps⟩
theorem vx_callVW (X : Stand p l e R s m args below meth c T locs cells slots) (hexec : p.tables.exec = Jvm.exec) {own C : String} {index : Nat} {y : MethodName} {bytes : ByteArray} {maxL : Nat} {ret : Option FieldType} {hh : List (Nat × Nat × Nat × Nat)}
    (hown : s.vm.findClass own = some m.cls) (hlink : (Cond.methodLink own index y).before args s = true) (hinst : (Cond.instanceMethod y).before args s = true) (hsel : (Cond.selects C y y).before args s = true)
    (hcode : (Cond.codeWith y bytes maxL ret hh).before args s = true) (hy : y.cls ≠ "java/lang/invoke/MethodHandle" ∧ y.cls ≠ "java/lang/invoke/VarHandle")
    {W9 : Nat} {Pre : Pt → Array Value → Prop} {Post : Pt → Array Value → Option Value → Pt → Prop} (hK : Back l R p e below s args y 3 W9 Pre Post)
    {b : Addr} {cellB : Cell} (hcell : T.heap[b]? = some cellB) (hobj : cellB.vm.isStatics = false) (hcls : s.vm.findClass C = some cellB.cls)
    {g : JFrame} (hg : g.method = m) (hsize : g.locals.size = c.maxLocals) {argsL rest : List Value} (hlen : ∀ sig, parseMethodDescriptor y.desc = some sig → argsL.length = sig.parameters.length)
    (hstack : g.stack = argsL.reverse ++ .ref b :: rest) (hW : 2 * g.monitorRoom + (rest.map fun v => v.category).sum ≤ W9) (hdg : decode c.code g.pc = .ok (.invokevirtual index, 3))
    (hpre : ∀ vm₁, s.WarmedH vm₁ → Pre ⟨T.setVm vm₁, locs, cells, slots⟩ (Value.ref b :: argsL).toArray) :
    ∃ (v : Option Value) (vm₁ : Vm) (B : Pt), s.WarmedH vm₁ ∧ Stand p l e R s m args below meth c B.U B.locs B.cells B.slots ∧ Post ⟨T.setVm vm₁, locs, cells, slots⟩ (Value.ref b :: argsL).toArray v B ∧
      ∀ target, Steps p.tables e below (B.U.setTop { g with pc := g.pc + 3, stack := v.toList ++ rest }) target → Steps p.tables e below (T.setTop g) target := by
  obtain ⟨mk, methM, hnamed, hmethM, hstM, habM⟩ := Cond.instanceMethod_spec hinst
  obtain ⟨m8, methM', cM, hn8, hmethM', -, -, -, -, -, -, hsigM⟩ := Cond.codeWith_spec hcode
  cases Option.some.inj (hn8.symm.trans hnamed)
  cases hmethM.symm.trans hmethM'
  obtain ⟨c2, r2, m2, q1, q2, q3, q4, kP, hkP, hkPi⟩ := Cond.selects_spec hsel
  cases hcls.symm.trans q1
  cases (State.methodFound?_of_named hnamed hy).symm.trans q2
  cases hnamed.symm.trans q3
  have hselP : selectMethod e.platform s.vm cellB.cls mk = .method mk := by rw [Launch.admits_selectMethod X.admits]; exact q4
  obtain ⟨vm₁, X₁, hstep₁⟩ := X.invokevirtual hexec hown hlink hnamed hmethM hstM hkP hkPi hy (a := b) (cell := cellB) hcell
    (fun z h => by rw [h] at hobj; cases hobj) hselP hmethM habM hkP hkPi (g := g) hg (argsL := argsL) (rest := rest) (hlen _ hsigM) hstack hdg
  obtain ⟨v, B, X', hpost, hsteps⟩ := hK m meth c ⟨T.setVm vm₁, locs, cells, slots⟩ { g with stack := rest } (.invokevirtual index) mk (Value.ref b :: argsL).toArray X₁ hg hsize hdg hW (X₁.named hnamed) (hpre vm₁ X₁.warmed)
  exact ⟨v, vm₁, B, X₁.warmed, X', hpost, fun target h => hstep₁ _ fun acts => by rw [doInvoke_state]; exact hsteps.trans h⟩
abbrev vx_CVW (R : Room) (s : State) (args : Array Value) (own C : String) (index : Nat) (y : MethodName) (bytes : ByteArray) (maxL : Nat) (ret : Option FieldType) (hh : List (Nat × Nat × Nat × Nat)) (ws : List Cond) (rm : Room) (mc ms n : Nat) : Prop :=
  (rm.cells = mc ∧ rm.slots = ms ∧ rm.frames + 1 ≤ R.frames ∧ 8 + (maxL + 11) + rm.locals ≤ R.locals ∧ (∀ w ∈ ws, ∀ (a' : Array Value) (U : State), s.WarmedH U.vm → w.before a' U = true) ∧ Cond.codeWith y bytes maxL ret hh ∈ ws) ∧
  (Cond.codeWith y bytes maxL ret hh).before args s = true ∧ (Cond.initialized y.cls).before args s = true ∧ (y.cls ≠ "java/lang/invoke/MethodHandle" ∧ y.cls ≠ "java/lang/invoke/VarHandle") ∧
  (∀ sig, parseMethodDescriptor y.desc = some sig → n = sig.parameters.length) ∧ (Cond.methodLink own index y).before args s = true ∧ (Cond.instanceMethod y).before args s = true ∧ (Cond.selects C y y).before args s = true
theorem vx_cwVW {own C : String} {index maxL mc ms : Nat} {y : MethodName} {bytes : ByteArray} {ret : Option FieldType} {hh : List (Nat × Nat × Nat × Nat)} {Ts ws ws' : List Cond} {rm : Room} (n : Nat) (ht : ∀ w ∈ Ts, w.before args s = true) (hT : GoodIn Ts (wsV own index C y ws)) (hw : ws = Cond.codeWith y bytes maxL ret hh :: ws') (hrc : rm.cells = mc) (hrs : rm.slots = ms)
    (hd : y.cls = C ∧ y.cls ≠ "java/lang/invoke/MethodHandle" ∧ y.cls ≠ "java/lang/invoke/VarHandle" ∧ (parseMethodDescriptor y.desc).map (fun d => d.parameters.length) = some n) (hR : rm.frames + 1 ≤ R.frames ∧ 8 + (maxL + 11) + rm.locals ≤ R.locals) :
    vx_CVW R s args own C index y bytes maxL ret hh ws rm mc ms n := by
  obtain ⟨hC, hd⟩ := hd
  subst hC
  have ok : ∀ w ∈ wsV own index y.cls y ws, w.before args s = true := fun w h => ht w (hT w h).1
  have hG : GoodIn Ts ws := fun w h => hT w (by unfold wsV; exact List.mem_append_right _ h)
  have hc : Cond.codeWith y bytes maxL ret hh ∈ ws := by rw [hw]; exact List.mem_cons_self
  refine ⟨⟨hrc, hrs, hR.1, hR.2, pay_in ht hG, hc⟩, ht _ (hG _ hc).1, ok _ (by simp [wsV]), ⟨hd.1, hd.2.1⟩, fun sig h => ?_, ok _ (by simp [wsV]), ok _ (by simp [wsV]), ok _ (by simp [wsV])⟩
  have h2 := hd.2.2
  rw [h] at h2
  exact (Option.some.inj h2).symm
theorem vx_runVW {y : MethodName} {bytes cc : ByteArray} {maxL nL mc ms n index : Nat} {ret : Option FieldType} {hh : List (Nat × Nat × Nat × Nat)} {ws : List Cond} {rm : Room} {Pc : Array Value → State → Prop} {Qc : Array Value → State → Outcome → State → Prop} {free : Addr → Prop} {Ts : List Cond} {own C : String} {b : Addr} {As rest : List Value} {g : JFrame}
    (S : CallFix p m c cc nL s args Ts own) (hM : Met l y ws rm Pc Qc mc ms free) (cw : vx_CVW R s args own C index y bytes maxL ret hh ws rm mc ms n) (hp : PreV s H C b Pc As)
    (hg : g.method = m) (hn : As.length = n) (hsize : g.locals.size = nL) (hstack : g.stack = As.reverse ++ .ref b :: rest) (hW : 2 * g.monitorRoom + (rest.map fun v => v.category).sum ≤ 8) (hdg : decode cc g.pc = .ok (.invokevirtual index, 3)) (hf : cells + mc ≤ R.cells ∧ slots + ms ≤ R.slots) :
    va_Run p l e R s m args below meth c H locs cells slots mc ms g rest (Qc (Value.ref b :: As).toArray) free := by
  obtain ⟨⟨hrc, hrs, hfr, hlo, hws, hcw⟩, hcode, hini, hy, hlen, hl, hin, hse⟩ := cw
  have hK : Back l R p e below s args y 3 8 (PreOf R mc ms Pc) (PostOf Qc mc ms free) := va_backW (hh := hh) (bytes := bytes) (maxL := maxL) (ret := ret) hM hp.1 hrc hrs hfr hlo hws hcw (fun a' U hW => word_at hW (Or.inl (by first | rfl | simp [Cond.onTables, Cond.keeps, Cond.steady])) hini)
  obtain ⟨hx, hb, hml, ho, -⟩ := S
  obtain ⟨-, ⟨cellB, hcB, hoB, hclB⟩, hPc⟩ := hp
  intro T hT X
  obtain ⟨v, vm₁, ⟨U', l2, c2, s2⟩, hW₁, X', ⟨g', mk, t, L, e1, e2, hq, h1, hL, h2, h3⟩, st⟩ := vx_callVW X hx (C := C) (hh := hh) (bytes := bytes) (maxL := maxL) (ret := ret) ho hl hin hse hcode hy hK (by rw [hT]; exact hcB) hoB hclB hg (hsize.trans hml.symm) (argsL := As) (rest := rest) (fun sig h => hn.trans (hlen sig h)) hstack hW (by rw [hb]; exact hdg)
    (fun vm₁ hW₁ => ⟨hf.1, hf.2, hPc (T.setVm vm₁) hT hW₁⟩)
  dsimp only [Pt.U, Pt.locs, Pt.cells, Pt.slots] at X' e1 e2 h1 h2 h3 st
  subst h1; subst h2; subst h3
  exact ⟨v, (T.setVm vm₁).calling g' mk (Value.ref b :: As).toArray, t, U', L, hT, X', hL, e1, e2, hq, st⟩
section
variable {y : MethodName} {bytes cc : ByteArray} {maxL nL mc ms n index : Nat} {ret : Option FieldType} {ws : List Cond} {rm : Room} {Pc : Array Value → State → Prop} {Qc : Array Value → State → Outcome → State → Prop} {XC : String → State → State → Prop} {free : Addr → Prop} {Ts : List Cond} {own C : String} {b : Addr} {As rest : List Value} {g : JFrame}
theorem vx_runVX {hh : List (Nat × Nat × Nat × Nat)} (S : CallFix p m c cc nL s args Ts own) (hM : vx_Met l y ws rm Pc Qc XC mc ms free) (cw : vx_CVW R s args own C index y bytes maxL ret hh ws rm mc ms n) (hp : PreV s H C b Pc As)
    (hg : g.method = m) (hn : As.length = n) (hsize : g.locals.size = nL) (hstack : g.stack = As.reverse ++ .ref b :: rest) (hW : 2 * g.monitorRoom + (rest.map fun v => v.category).sum ≤ 8) (hdg : decode cc g.pc = .ok (.invokevirtual index, 3)) (hf : cells + mc ≤ R.cells ∧ slots + ms ≤ R.slots) :
    vx_Run p l e R s m args below meth c H locs cells slots mc ms g rest (Qc (Value.ref b :: As).toArray) XC free := by
  obtain ⟨⟨hrc, hrs, hfr, hlo, hws, hcw⟩, hcode, hini, hy, hlen, hl, hin, hse⟩ := cw
  have hK : vx_Back l R p e below s args y 3 8 (PreOf R mc ms Pc) (PostOf Qc mc ms free) (vx_Post XC mc ms free) := vx_backW (hh := hh) (bytes := bytes) (maxL := maxL) (ret := ret) hM hp.1 hrc hrs hfr hlo hws hcw (fun a' U hW => word_at hW (Or.inl (by first | rfl | simp [Cond.onTables, Cond.keeps, Cond.steady])) hini)
  obtain ⟨hx, hb, hml, ho, -⟩ := S
  obtain ⟨-, ⟨cellB, hcB, hoB, hclB⟩, hPc⟩ := hp
  intro T hT X
  rcases vx_callVX X hx (C := C) (hh := hh) (bytes := bytes) (maxL := maxL) (ret := ret) ho hl hin hse hcode hy hK (by rw [hT]; exact hcB) hoB hclB hg (hsize.trans hml.symm) (argsL := As) (rest := rest) (fun sig h => hn.trans (hlen sig h)) hstack hW (by rw [hb]; exact hdg)
    (fun vm₁ hW₁ => ⟨hf.1, hf.2, hPc (T.setVm vm₁) hT hW₁⟩) with ⟨v, vm₁, ⟨U', l2, c2, s2⟩, hW₁, X', ⟨g', mk, t, L, e1, e2, hq, h1, hL, h2, h3⟩, st⟩ | ⟨q, vm₁, ⟨U', l2, c2, s2⟩, hW₁, X', ⟨g', mk, t, L, E, ce, e1, e2, hq, hce, hcv, hcl, h1, hL, h2, h3⟩, st⟩
  · dsimp only [Pt.U, Pt.locs, Pt.cells, Pt.slots] at X' e1 e2 h1 h2 h3 st
    subst h1; subst h2; subst h3
    exact Or.inl ⟨v, (T.setVm vm₁).calling g' mk (Value.ref b :: As).toArray, t, U', L, hT, X', hL, e1, e2, hq, st⟩
  · dsimp only [Pt.U, Pt.locs, Pt.cells, Pt.slots] at X' e1 e2 h1 h2 h3 st hcl
    subst h1; subst h2; subst h3
    exact Or.inr ⟨q, (T.setVm vm₁).calling g' mk (Value.ref b :: As).toArray, t, U', L, E, ce, hT, X', hL, e1, e2, hq, hce, hcv, vx_cls hW₁ hcl, st⟩
theorem vx_runSX {hh : List (Nat × Nat × Nat × Nat)} (S : CallFix p m c cc nL s args Ts own) (hM : vx_Met l y ws rm Pc Qc XC mc ms free) (cw : vx_CSW R s args own index y bytes maxL ret hh ws rm mc ms n) (hp : PreS s H Pc As)
    (hg : g.method = m) (hn : As.length = n) (hsize : g.locals.size = nL) (hstack : g.stack = As.reverse ++ rest) (hW : 2 * g.monitorRoom + (rest.map fun v => v.category).sum ≤ 8) (hdg : decode cc g.pc = .ok (.invokestatic index, 3)) (hf : cells + mc ≤ R.cells ∧ slots + ms ≤ R.slots) :
    vx_Run p l e R s m args below meth c H locs cells slots mc ms g rest (Qc As.toArray) XC free := by
  obtain ⟨⟨hrc, hrs, hfr, hlo, hws, hcw⟩, hcode, hini, hy, hlen, hl, hstt⟩ := cw
  have hK : vx_Back l R p e below s args y 3 8 (PreOf R mc ms Pc) (PostOf Qc mc ms free) (vx_Post XC mc ms free) := vx_backW (hh := hh) (bytes := bytes) (maxL := maxL) (ret := ret) hM hp.1 hrc hrs hfr hlo hws hcw (fun a' U hW => word_at hW (Or.inl (by first | rfl | simp [Cond.onTables, Cond.keeps, Cond.steady])) hini)
  obtain ⟨hx, hb, hml, ho, -⟩ := S
  intro T hT X
  rcases vx_callSX X hx (hh := hh) (bytes := bytes) (maxL := maxL) (ret := ret) ho hl hstt hini hcode hy hK hg (hsize.trans hml.symm) (argsL := As) (rest := rest) (fun sig h => hn.trans (hlen sig h)) hstack hW (by rw [hb]; exact hdg)
    (fun vm₁ hW₁ => ⟨hf.1, hf.2, hp.2 (T.setVm vm₁) hT hW₁⟩) with ⟨v, vm₁, ⟨U', l2, c2, s2⟩, hW₁, X', ⟨g', mk, t, L, e1, e2, hq, h1, hL, h2, h3⟩, st⟩ | ⟨q, vm₁, ⟨U', l2, c2, s2⟩, hW₁, X', ⟨g', mk, t, L, E, ce, e1, e2, hq, hce, hcv, hcl, h1, hL, h2, h3⟩, st⟩
  · dsimp only [Pt.U, Pt.locs, Pt.cells, Pt.slots] at X' e1 e2 h1 h2 h3 st
    subst h1; subst h2; subst h3
    exact Or.inl ⟨v, (T.setVm vm₁).calling g' mk As.toArray, t, U', L, hT, X', hL, e1, e2, hq, st⟩
  · dsimp only [Pt.U, Pt.locs, Pt.cells, Pt.slots] at X' e1 e2 h1 h2 h3 st hcl
    subst h1; subst h2; subst h3
    exact Or.inr ⟨q, (T.setVm vm₁).calling g' mk As.toArray, t, U', L, E, ce, hT, X', hL, e1, e2, hq, hce, hcv, vx_cls hW₁ hcl, st⟩
end
end VXH
theorem vx_ofWH {l : Launch} {y : MethodName} {ws ws' : List Cond} {rm : Room} {Pc : Array Value → State → Prop} {Qc : Array Value → State → Outcome → State → Prop} {XC : String → State → State → Prop} {mc ms : Nat} {free : Addr → Prop} {cc : ByteArray} {maxL : Nat} {ret : Option FieldType} {hh : List (Nat × Nat × Nat × Nat)}
    (hy : plainName y.cls = true) (hw : ws = Cond.codeWith y cc maxL ret hh :: ws')
    (body : ∀ p e s m args below meth c s₁, BodyLoose p l y (headSpec ws rm) cc maxL ret e s m args below meth c s₁ → c.maxLocals = maxL → Pc args s →
      W p l e (headSpec ws rm).room s m args below meth c s.heap [] 0 0 (vx_MQ below Qc XC args s mc ms free) (entryFrame m args maxL)) : vx_Met l y ws rm Pc Qc XC mc ms free := by
  refine MetFree.of_bodyS (code := cc) (maxLocals := maxL) (ret := ret) hy ?_ ?_
  · intro args s m h hn
    obtain ⟨m9, meth, c, hn9, h1, h2, h3, h4, -, h5, h6, -⟩ := Cond.codeWith_spec (atoms_spec (ws := ws) h _ (by rw [hw]; exact List.mem_cons_self))
    cases hn.symm.trans hn9
    exact ⟨meth, c, h1, h2, h3, h4, h5, h6⟩
  · intro p e s m args below meth c s₁ B hml hP _
    have hh0 : s₁.heap = s.heap := by rw [B.state]; rfl
    obtain ⟨t, a1, o, b1, b2, b3⟩ := body p e s m args below meth c s₁ B hml hP s₁ hh0 (Stand.of_body B)
    exact ⟨t, o, a1, b1, b2, b3⟩
/-! ===== END ===== -/
end
section
/-! ===== BEGIN printed: names, fields, word lists, decode rows ===== -/
def RX0 : String := "WaxCopies$Orders"
def TX0 : u_T := fun k => match k with
  | 0 => ("WaxCopies$Orders", "text", "[C", true)
  | _ => ("WaxCopies$Orders", "length", "I", false)
def tyX0 : Nat → FieldType := fun k => match k with
  | 0 => .array .char
  | _ => .int
abbrev wsX00 : List Cond := u_ws RX0 TX0 2
theorem nmX0 : ∀ a, a < 2 → ∀ b, b < 2 → a ≠ b → (TX0 a).2.1 ≠ (TX0 b).2.1 := by decide +kernel
theorem tyX0_ok : ∀ k, k < 2 → parseFieldDescriptor (TX0 k).2.2.1 = some (tyX0 k) := by decide +kernel
abbrev cX0_init : ByteArray := prog_2_method_1_code
def yX0_init : MethodName := ⟨RX0, "<init>", "()V"⟩
def RX1 : String := "WaxCopies$Steps"
def TX1 : u_T := fun k => match k with
  | 0 => ("WaxCopies$Steps", "best", "[[I", false)
  | _ => ("WaxCopies$Steps", "next", "[[I", false)
def tyX1 : Nat → FieldType := fun k => match k with
  | 0 => .array (.array .int)
  | _ => .array (.array .int)
abbrev wsX10 : List Cond := u_ws RX1 TX1 2
theorem nmX1 : ∀ a, a < 2 → ∀ b, b < 2 → a ≠ b → (TX1 a).2.1 ≠ (TX1 b).2.1 := by decide +kernel
theorem tyX1_ok : ∀ k, k < 2 → parseFieldDescriptor (TX1 k).2.2.1 = some (tyX1 k) := by decide +kernel
abbrev cX1_init : ByteArray := prog_3_method_1_code
def yX1_init : MethodName := ⟨RX1, "<init>", "()V"⟩
abbrev cX1_clearestAfter : ByteArray := prog_3_method_2_code
def yX1_clearestAfter : MethodName := ⟨RX1, "clearestAfter", "(IIII)I"⟩
abbrev cX1_stepOn : ByteArray := prog_3_method_3_code
def yX1_stepOn : MethodName := ⟨RX1, "stepOn", "(II)V"⟩
abbrev cX1_clearestOf : ByteArray := prog_3_method_4_code
def yX1_clearestOf : MethodName := ⟨RX1, "clearestOf", "(II)I"⟩
abbrev cX1_forget : ByteArray := prog_3_method_5_code
def yX1_forget : MethodName := ⟨RX1, "forget", "([[III)V"⟩
def RX2 : String := "WaxCopies$Wax"
def TX2 : u_T := fun k => match k with
  | 0 => ("WaxCopies$Wax", "depth", "[I", true)
  | 1 => ("WaxCopies$Wax", "clearness", "[I", true)
  | 2 => ("WaxCopies$Wax", "flutter", "[I", true)
  | 3 => ("WaxCopies$Wax", "generation", "[I", true)
  | 4 => ("WaxCopies$Wax", "mother", "[I", true)
  | 5 => ("WaxCopies$Wax", "clearnessAsCut", "[I", true)
  | 6 => ("WaxCopies$Wax", "plays", "[I", true)
  | 7 => ("WaxCopies$Wax", "layers", "[I", true)
  | 8 => ("WaxCopies$Wax", "shavings", "[I", true)
  | 9 => ("WaxCopies$Wax", "sharpness", "I", false)
  | 10 => ("WaxCopies$Wax", "spring", "I", false)
  | 11 => ("WaxCopies$Wax", "wear", "I", false)
  | 12 => ("WaxCopies$Wax", "spoken", "I", false)
  | 13 => ("WaxCopies$Wax", "copied", "I", false)
  | 14 => ("WaxCopies$Wax", "played", "I", false)
  | 15 => ("WaxCopies$Wax", "layersShaved", "I", false)
  | 16 => ("WaxCopies$Wax", "layersCome", "I", false)
  | 17 => ("WaxCopies$Wax", "layersGone", "I", false)
  | _ => ("WaxCopies$Wax", "refused", "I", false)
def tyX2 : Nat → FieldType := fun k => match k with
  | 0 => .array .int
  | 1 => .array .int
  | 2 => .array .int
  | 3 => .array .int
  | 4 => .array .int
  | 5 => .array .int
  | 6 => .array .int
  | 7 => .array .int
  | 8 => .array .int
  | 9 => .int
  | 10 => .int
  | 11 => .int
  | 12 => .int
  | 13 => .int
  | 14 => .int
  | 15 => .int
  | 16 => .int
  | 17 => .int
  | _ => .int
abbrev wsX20 : List Cond := u_ws RX2 TX2 19
theorem nmX2 : ∀ a, a < 19 → ∀ b, b < 19 → a ≠ b → (TX2 a).2.1 ≠ (TX2 b).2.1 := by decide +kernel
theorem tyX2_ok : ∀ k, k < 19 → parseFieldDescriptor (TX2 k).2.2.1 = some (tyX2 k) := by decide +kernel
abbrev cX2_init : ByteArray := prog_4_method_1_code
def yX2_init : MethodName := ⟨RX2, "<init>", "()V"⟩
abbrev cX2_takeOver : ByteArray := prog_4_method_2_code
def yX2_takeOver : MethodName := ⟨RX2, "takeOver", "(LWaxCopies$Wax;)V"⟩
abbrev cX2_isCut : ByteArray := prog_4_method_3_code
def yX2_isCut : MethodName := ⟨RX2, "isCut", "(I)Z"⟩
abbrev cX2_machineFlutter : ByteArray := prog_4_method_4_code
def yX2_machineFlutter : MethodName := ⟨RX2, "machineFlutter", "()I"⟩
abbrev cX2_reasonNotToSpeak : ByteArray := prog_4_method_5_code
def yX2_reasonNotToSpeak : MethodName := ⟨RX2, "reasonNotToSpeak", "(II)I"⟩
abbrev cX2_speakOnto : ByteArray := prog_4_method_6_code
def yX2_speakOnto : MethodName := ⟨RX2, "speakOnto", "(II)I"⟩
abbrev cX2_reasonNotToCopy : ByteArray := prog_4_method_7_code
def yX2_reasonNotToCopy : MethodName := ⟨RX2, "reasonNotToCopy", "(III)I"⟩
abbrev cX2_clearnessIfCopied : ByteArray := prog_4_method_8_code
def yX2_clearnessIfCopied : MethodName := ⟨RX2, "clearnessIfCopied", "(II)I"⟩
abbrev cX2_copyOnto : ByteArray := prog_4_method_9_code
def yX2_copyOnto : MethodName := ⟨RX2, "copyOnto", "(III)I"⟩
abbrev cX2_cut : ByteArray := prog_4_method_10_code
def yX2_cut : MethodName := ⟨RX2, "cut", "(IIII)V"⟩
abbrev cX2_playTrack : ByteArray := prog_4_method_11_code
def yX2_playTrack : MethodName := ⟨RX2, "playTrack", "(I)I"⟩
abbrev cX2_shaveCylinder : ByteArray := prog_4_method_12_code
def yX2_shaveCylinder : MethodName := ⟨RX2, "shaveCylinder", "(I)I"⟩
abbrev cX2_renewCylinder : ByteArray := prog_4_method_13_code
def yX2_renewCylinder : MethodName := ⟨RX2, "renewCylinder", "(II)I"⟩
abbrev cX2_smoothTracks : ByteArray := prog_4_method_14_code
def yX2_smoothTracks : MethodName := ⟨RX2, "smoothTracks", "(I)V"⟩
abbrev cX2_windUp : ByteArray := prog_4_method_15_code
def yX2_windUp : MethodName := ⟨RX2, "windUp", "()I"⟩
abbrev cX2_sharpenPoint : ByteArray := prog_4_method_16_code
def yX2_sharpenPoint : MethodName := ⟨RX2, "sharpenPoint", "()I"⟩
abbrev cX2_trackProperty : ByteArray := prog_4_method_17_code
def yX2_trackProperty : MethodName := ⟨RX2, "trackProperty", "(II)I"⟩
abbrev cX2_cylinderProperty : ByteArray := prog_4_method_18_code
def yX2_cylinderProperty : MethodName := ⟨RX2, "cylinderProperty", "(II)I"⟩
abbrev cX2_number : ByteArray := prog_4_method_19_code
def yX2_number : MethodName := ⟨RX2, "number", "(I)I"⟩
abbrev cX2_cutTracksOn : ByteArray := prog_4_method_20_code
def yX2_cutTracksOn : MethodName := ⟨RX2, "cutTracksOn", "(I)I"⟩
abbrev cX2_cutTracks : ByteArray := prog_4_method_21_code
def yX2_cutTracks : MethodName := ⟨RX2, "cutTracks", "()I"⟩
abbrev cX2_greatestDepth : ByteArray := prog_4_method_22_code
def yX2_greatestDepth : MethodName := ⟨RX2, "greatestDepth", "(I)I"⟩
abbrev cX2_clearestTrackOn : ByteArray := prog_4_method_23_code
def yX2_clearestTrackOn : MethodName := ⟨RX2, "clearestTrackOn", "(I)I"⟩
abbrev cX2_clearestTrack : ByteArray := prog_4_method_24_code
def yX2_clearestTrack : MethodName := ⟨RX2, "clearestTrack", "()I"⟩
abbrev cX2_soundsBetter : ByteArray := prog_4_method_25_code
def yX2_soundsBetter : MethodName := ⟨RX2, "soundsBetter", "(II)Z"⟩
abbrev cX2_layersTogether : ByteArray := prog_4_method_26_code
def yX2_layersTogether : MethodName := ⟨RX2, "layersTogether", "()I"⟩
abbrev cX2_depthTogether : ByteArray := prog_4_method_27_code
def yX2_depthTogether : MethodName := ⟨RX2, "depthTogether", "()I"⟩
abbrev cX2_clearnessTogether : ByteArray := prog_4_method_28_code
def yX2_clearnessTogether : MethodName := ⟨RX2, "clearnessTogether", "()I"⟩
abbrev cX2_descendants : ByteArray := prog_4_method_29_code
def yX2_descendants : MethodName := ⟨RX2, "descendants", "(I)I"⟩
abbrev cX2_comesFrom : ByteArray := prog_4_method_30_code
def yX2_comesFrom : MethodName := ⟨RX2, "comesFrom", "(II)Z"⟩
def RX3 : String := "WaxCopies"
def TX3 : u_T := fun k => match k with
  | 0 => ("WaxCopies", "now", "LWaxCopies$Wax;", true)
  | 1 => ("WaxCopies", "slots", "[LWaxCopies$Wax;", true)
  | 2 => ("WaxCopies", "slotTaken", "[Z", true)
  | 3 => ("WaxCopies", "saved", "[LWaxCopies$Wax;", true)
  | 4 => ("WaxCopies", "savedStates", "I", false)
  | 5 => ("WaxCopies", "orders", "LWaxCopies$Orders;", true)
  | _ => ("WaxCopies", "steps", "LWaxCopies$Steps;", true)
def tyX3 : Nat → FieldType := fun k => match k with
  | 0 => .object "WaxCopies$Wax"
  | 1 => .array (.object "WaxCopies$Wax")
  | 2 => .array .boolean
  | 3 => .array (.object "WaxCopies$Wax")
  | 4 => .int
  | 5 => .object "WaxCopies$Orders"
  | _ => .object "WaxCopies$Steps"
abbrev wsX30 : List Cond := u_ws RX3 TX3 7
theorem nmX3 : ∀ a, a < 7 → ∀ b, b < 7 → a ≠ b → (TX3 a).2.1 ≠ (TX3 b).2.1 := by decide +kernel
theorem tyX3_ok : ∀ k, k < 7 → parseFieldDescriptor (TX3 k).2.2.1 = some (tyX3 k) := by decide +kernel
abbrev cX3_init : ByteArray := prog_1_method_1_code
def yX3_init : MethodName := ⟨RX3, "<init>", "()V"⟩
abbrev cX3_speak : ByteArray := prog_1_method_2_code
def yX3_speak : MethodName := ⟨RX3, "speak", "(II)I"⟩
abbrev cX3_copy : ByteArray := prog_1_method_3_code
def yX3_copy : MethodName := ⟨RX3, "copy", "(III)I"⟩
abbrev cX3_play : ByteArray := prog_1_method_4_code
def yX3_play : MethodName := ⟨RX3, "play", "(I)I"⟩
abbrev cX3_shave : ByteArray := prog_1_method_5_code
def yX3_shave : MethodName := ⟨RX3, "shave", "(I)I"⟩
abbrev cX3_wind : ByteArray := prog_1_method_6_code
def yX3_wind : MethodName := ⟨RX3, "wind", "()I"⟩
abbrev cX3_sharpen : ByteArray := prog_1_method_7_code
def yX3_sharpen : MethodName := ⟨RX3, "sharpen", "()I"⟩
abbrev cX3_renew : ByteArray := prog_1_method_8_code
def yX3_renew : MethodName := ⟨RX3, "renew", "(II)I"⟩
abbrev cX3_set : ByteArray := prog_1_method_9_code
def yX3_set : MethodName := ⟨RX3, "set", "(I)I"⟩
abbrev cX3_undo : ByteArray := prog_1_method_16_code
def yX3_undo : MethodName := ⟨RX3, "undo", "()I"⟩
abbrev cX3_trackOf : ByteArray := prog_1_method_17_code
def yX3_trackOf : MethodName := ⟨RX3, "trackOf", "(II)I"⟩
abbrev cX3_cylinderOf : ByteArray := prog_1_method_18_code
def yX3_cylinderOf : MethodName := ⟨RX3, "cylinderOf", "(II)I"⟩
abbrev cX3_count : ByteArray := prog_1_method_19_code
def yX3_count : MethodName := ⟨RX3, "count", "(I)I"⟩
abbrev cX3_setting : ByteArray := prog_1_method_20_code
def yX3_setting : MethodName := ⟨RX3, "setting", "()I"⟩
abbrev cX3_whyNot : ByteArray := prog_1_method_21_code
def yX3_whyNot : MethodName := ⟨RX3, "whyNot", "(II)I"⟩
abbrev cX3_ifCopied : ByteArray := prog_1_method_22_code
def yX3_ifCopied : MethodName := ⟨RX3, "ifCopied", "(III)I"⟩
abbrev cX3_chain : ByteArray := prog_1_method_23_code
def yX3_chain : MethodName := ⟨RX3, "chain", "(III)I"⟩
abbrev cX3_clearest : ByteArray := prog_1_method_24_code
def yX3_clearest : MethodName := ⟨RX3, "clearest", "()I"⟩
abbrev cX3_daughters : ByteArray := prog_1_method_25_code
def yX3_daughters : MethodName := ⟨RX3, "daughters", "(I)I"⟩
abbrev cX3_meanDepth : ByteArray := prog_1_method_26_code
def yX3_meanDepth : MethodName := ⟨RX3, "meanDepth", "()F"⟩
abbrev cX3_clearShare : ByteArray := prog_1_method_27_code
def yX3_clearShare : MethodName := ⟨RX3, "clearShare", "()D"⟩
abbrev cX3_checkTrack : ByteArray := prog_1_method_32_code
def yX3_checkTrack : MethodName := ⟨RX3, "checkTrack", "(I)V"⟩
abbrev cX3_checkCylinder : ByteArray := prog_1_method_33_code
def yX3_checkCylinder : MethodName := ⟨RX3, "checkCylinder", "(I)V"⟩
abbrev cX3_checkLoudness : ByteArray := prog_1_method_34_code
def yX3_checkLoudness : MethodName := ⟨RX3, "checkLoudness", "(I)V"⟩
abbrev cX3_checkLever : ByteArray := prog_1_method_35_code
def yX3_checkLever : MethodName := ⟨RX3, "checkLever", "(I)V"⟩
abbrev cX3_checkWhat : ByteArray := prog_1_method_37_code
def yX3_checkWhat : MethodName := ⟨RX3, "checkWhat", "(II)V"⟩
abbrev cX3_saveState : ByteArray := prog_1_method_38_code
def yX3_saveState : MethodName := ⟨RX3, "saveState", "()V"⟩
abbrev cX3_dropOldestState : ByteArray := prog_1_method_39_code
def yX3_dropOldestState : MethodName := ⟨RX3, "dropOldestState", "()V"⟩
abbrev cX3_bluntness : ByteArray := prog_1_method_42_code
def yX3_bluntness : MethodName := ⟨RX3, "bluntness", "(I)I"⟩
abbrev cX3_sharpnessAfter : ByteArray := prog_1_method_43_code
def yX3_sharpnessAfter : MethodName := ⟨RX3, "sharpnessAfter", "(II)I"⟩
abbrev cX3_copiedDepth : ByteArray := prog_1_method_44_code
def yX3_copiedDepth : MethodName := ⟨RX3, "copiedDepth", "(II)I"⟩
abbrev cX3_copiedClearness : ByteArray := prog_1_method_45_code
def yX3_copiedClearness : MethodName := ⟨RX3, "copiedClearness", "(IIII)I"⟩
abbrev cX3_clearestOfAllLevers : ByteArray := prog_1_method_46_code
def yX3_clearestOfAllLevers : MethodName := ⟨RX3, "clearestOfAllLevers", "(IIII)I"⟩
def RX4 : String := "WaxCopiesModel"
def TX4 : u_T := fun k => match k with
  | _ => ("", "", "", false)
def tyX4 : Nat → FieldType := fun k => match k with
  | _ => .int
abbrev wsX40 : List Cond := u_ws RX4 TX4 0
theorem nmX4 : ∀ a, a < 0 → ∀ b, b < 0 → a ≠ b → (TX4 a).2.1 ≠ (TX4 b).2.1 := by decide +kernel
theorem tyX4_ok : ∀ k, k < 0 → parseFieldDescriptor (TX4 k).2.2.1 = some (tyX4 k) := by decide +kernel
def RJ9 : String := "java/lang/Math"
def TJ9 : u_T := fun k => match k with
  | _ => ("", "", "", false)
def tyJ9 : Nat → FieldType := fun k => match k with
  | _ => .int
abbrev wsJ90 : List Cond := u_ws RJ9 TJ9 0
theorem nmJ9 : ∀ a, a < 0 → ∀ b, b < 0 → a ≠ b → (TJ9 a).2.1 ≠ (TJ9 b).2.1 := by decide +kernel
theorem tyJ9_ok : ∀ k, k < 0 → parseFieldDescriptor (TJ9 k).2.2.1 = some (tyJ9 k) := by decide +kernel
abbrev cJ9_max_7cf53 : ByteArray := prog_11_method_65_code
def yJ9_max_7cf53 : MethodName := ⟨RJ9, "max", "(II)I"⟩
abbrev cJ9_min_7cf53 : ByteArray := prog_11_method_69_code
def yJ9_min_7cf53 : MethodName := ⟨RJ9, "min", "(II)I"⟩
def RJ0 : String := "java/lang/String"
def TJ0 : u_T := fun k => match k with
  | _ => ("", "", "", false)
def tyJ0 : Nat → FieldType := fun k => match k with
  | _ => .int
abbrev wsJ00 : List Cond := u_ws RJ0 TJ0 0
theorem nmJ0 : ∀ a, a < 0 → ∀ b, b < 0 → a ≠ b → (TJ0 a).2.1 ≠ (TJ0 b).2.1 := by decide +kernel
theorem tyJ0_ok : ∀ k, k < 0 → parseFieldDescriptor (TJ0 k).2.2.1 = some (tyJ0 k) := by decide +kernel
def RJ10 : String := "java/lang/System"
def TJ10 : u_T := fun k => match k with
  | _ => ("", "", "", false)
def tyJ10 : Nat → FieldType := fun k => match k with
  | _ => .int
abbrev wsJ100 : List Cond := u_ws RJ10 TJ10 0
theorem nmJ10 : ∀ a, a < 0 → ∀ b, b < 0 → a ≠ b → (TJ10 a).2.1 ≠ (TJ10 b).2.1 := by decide +kernel
theorem tyJ10_ok : ∀ k, k < 0 → parseFieldDescriptor (TJ10 k).2.2.1 = some (tyJ10 k) := by decide +kernel
def RL : String := "WaxCopiesLaw"
abbrev cL_at : ByteArray := method_2_code
def yL_at : MethodName := ⟨RL, "at", "([II)I"⟩
abbrev cL_low : ByteArray := method_3_code
def yL_low : MethodName := ⟨RL, "low", "(II)I"⟩
abbrev cL_speak : ByteArray := method_4_code
def yL_speak : MethodName := ⟨RL, "speak", "(LWaxCopies;II)I"⟩
abbrev cL_copy : ByteArray := method_5_code
def yL_copy : MethodName := ⟨RL, "copy", "(LWaxCopies;III)I"⟩
abbrev cL_play : ByteArray := method_6_code
def yL_play : MethodName := ⟨RL, "play", "(LWaxCopies;I)I"⟩
abbrev cL_shave : ByteArray := method_7_code
def yL_shave : MethodName := ⟨RL, "shave", "(LWaxCopies;I)I"⟩
abbrev cL_renew : ByteArray := method_8_code
def yL_renew : MethodName := ⟨RL, "renew", "(LWaxCopies;II)I"⟩
abbrev cL_set : ByteArray := method_9_code
def yL_set : MethodName := ⟨RL, "set", "(LWaxCopies;I)I"⟩
abbrev cL_undo : ByteArray := method_10_code
def yL_undo : MethodName := ⟨RL, "undo", "(LWaxCopies;)I"⟩
abbrev cL_trackOf : ByteArray := method_11_code
def yL_trackOf : MethodName := ⟨RL, "trackOf", "(LWaxCopies;II)I"⟩
abbrev cL_cylinderOf : ByteArray := method_12_code
def yL_cylinderOf : MethodName := ⟨RL, "cylinderOf", "(LWaxCopies;II)I"⟩
abbrev cL_count : ByteArray := method_13_code
def yL_count : MethodName := ⟨RL, "count", "(LWaxCopies;I)I"⟩
abbrev cL_whyNot : ByteArray := method_14_code
def yL_whyNot : MethodName := ⟨RL, "whyNot", "(LWaxCopies;II)I"⟩
abbrev cL_ifCopied : ByteArray := method_15_code
def yL_ifCopied : MethodName := ⟨RL, "ifCopied", "(LWaxCopies;III)I"⟩
abbrev cL_chain : ByteArray := method_16_code
def yL_chain : MethodName := ⟨RL, "chain", "(LWaxCopies;III)I"⟩
abbrev cL_daughters : ByteArray := method_17_code
def yL_daughters : MethodName := ⟨RL, "daughters", "(LWaxCopies;I)I"⟩
abbrev cL_act : ByteArray := method_18_code
def yL_act : MethodName := ⟨RL, "act", "(LWaxCopies;II)I"⟩
abbrev cL_track : ByteArray := method_19_code
def yL_track : MethodName := ⟨RL, "track", "(LWaxCopies;I)Z"⟩
abbrev cL_hangs : ByteArray := method_20_code
def yL_hangs : MethodName := ⟨RL, "hangs", "(LWaxCopies;)Z"⟩
abbrev cL_print : ByteArray := method_21_code
def yL_print : MethodName := ⟨RL, "print", "(LWaxCopies;)J"⟩
abbrev cL_copies : ByteArray := method_22_code
def yL_copies : MethodName := ⟨RL, "copies", "(LWaxCopies;III)Z"⟩
abbrev cL_speaks : ByteArray := method_23_code
def yL_speaks : MethodName := ⟨RL, "speaks", "(LWaxCopies;II)Z"⟩
abbrev cL_steps : ByteArray := method_24_code
def yL_steps : MethodName := ⟨RL, "steps", "(LWaxCopies;I)Z"⟩
abbrev cL_shaves : ByteArray := method_25_code
def yL_shaves : MethodName := ⟨RL, "shaves", "(LWaxCopies;I)Z"⟩
abbrev cL_law : ByteArray := code
def yL_law : MethodName := ⟨RL, "law", "([I)Z"⟩
def wsX0_init : List Cond := .code yX0_init cX0_init 1 none :: ([.methodLink RX0 3 objectInit, .instanceMethod objectInit, .code objectInit ⟨#[0xb1]⟩ 1 none, .arrayClass .char, .fieldLink RX0 11 "WaxCopies$Orders" "text" "[C", .fieldLink RX0 15 "WaxCopies$Orders" "length" "I"] ++ wsX00)
def wsX1_init : List Cond := .code yX1_init cX1_init 1 none :: ([.methodLink RX1 3 objectInit, .instanceMethod objectInit, .code objectInit ⟨#[0xb1]⟩ 1 none, .classLink RX1 9 "[[I", .arrayClass .int, .fieldLink RX1 11 "WaxCopies$Steps" "best" "[[I", .fieldLink RX1 16 "WaxCopies$Steps" "next" "[[I"] ++ wsX10)
def wsX1_forget : List Cond := .code yX1_forget cX1_forget 5 none :: ([])
def wsX3_sharpnessAfter : List Cond := .code yX3_sharpnessAfter cX3_sharpnessAfter 2 (some .int) :: ([.methodLink RX3 290 Lib.Math.max.name, .static Lib.Math.max.name, .initialized "java/lang/Math", .code Lib.Math.max.name Lib.Math.max.code 2 (some .int)])
def wsX3_copiedDepth : List Cond := .code yX3_copiedDepth cX3_copiedDepth 2 (some .int) :: ([.methodLink RX3 290 Lib.Math.max.name, .static Lib.Math.max.name, .initialized "java/lang/Math", .code Lib.Math.max.name Lib.Math.max.code 2 (some .int), .methodLink RX3 295 Lib.Math.min.name, .static Lib.Math.min.name, .code Lib.Math.min.name Lib.Math.min.code 2 (some .int)])
def wsX3_bluntness : List Cond := .code yX3_bluntness cX3_bluntness 1 (some .int) :: ([])
def wsX3_copiedClearness : List Cond := .code yX3_copiedClearness cX3_copiedClearness 4 (some .int) :: ([.methodLink RX3 290 Lib.Math.max.name, .static Lib.Math.max.name, .initialized "java/lang/Math", .code Lib.Math.max.name Lib.Math.max.code 2 (some .int), .methodLink RX3 298 yX3_bluntness, .static yX3_bluntness, .initialized RX3, .code yX3_bluntness cX3_bluntness 1 (some .int)])
def wsX1_stepOn : List Cond := .code yX1_stepOn cX1_stepOn 10 none :: ([.fieldLink RX1 11 "WaxCopies$Steps" "best" "[[I", .fieldLink RX1 16 "WaxCopies$Steps" "next" "[[I", .methodLink RX1 41 Lib.Math.max.name, .static Lib.Math.max.name, .initialized "java/lang/Math", .code Lib.Math.max.name Lib.Math.max.code 2 (some .int), .static yX3_copiedDepth, .initialized RX3, .code yX3_copiedDepth cX3_copiedDepth 2 (some .int), .methodLink RX3 290 Lib.Math.max.name, .methodLink RX3 295 Lib.Math.min.name, .static Lib.Math.min.name, .code Lib.Math.min.name Lib.Math.min.code 2 (some .int), .static yX3_sharpnessAfter, .code yX3_sharpnessAfter cX3_sharpnessAfter 2 (some .int), .static yX3_copiedClearness, .code yX3_copiedClearness cX3_copiedClearness 4 (some .int), .methodLink RX3 298 yX3_bluntness, .static yX3_bluntness, .code yX3_bluntness cX3_bluntness 1 (some .int)] ++ wsX10)
def wsX1_clearestOf : List Cond := .code yX1_clearestOf cX1_clearestOf 6 (some .int) :: ([.fieldLink RX1 11 "WaxCopies$Steps" "best" "[[I", .methodLink RX1 41 Lib.Math.max.name, .static Lib.Math.max.name, .initialized "java/lang/Math", .code Lib.Math.max.name Lib.Math.max.code 2 (some .int)] ++ wsX10)
def wsX1_clearestAfter_r1 : List Cond := [Cond.fieldLink RX1 11 "WaxCopies$Steps" "best" "[[I", Cond.fieldLink RX1 16 "WaxCopies$Steps" "next" "[[I", Cond.methodLink RX1 19 yX1_forget, Cond.static yX1_forget, Cond.initialized RX1, Cond.code yX1_forget cX1_forget 5 none, Cond.static yX3_sharpnessAfter, Cond.initialized RX3, Cond.code yX3_sharpnessAfter cX3_sharpnessAfter 2 (some .int), Cond.methodLink RX3 290 Lib.Math.max.name, Cond.static Lib.Math.max.name, Cond.initialized "java/lang/Math", Cond.code Lib.Math.max.name Lib.Math.max.code 2 (some .int), Cond.methodLink RX1 27 yX1_stepOn, Cond.instanceMethod yX1_stepOn, Cond.selects RX1 yX1_stepOn yX1_stepOn, Cond.code yX1_stepOn cX1_stepOn 10 none, Cond.methodLink RX1 41 Lib.Math.max.name, Cond.static yX3_copiedDepth, Cond.code yX3_copiedDepth cX3_copiedDepth 2 (some .int), Cond.methodLink RX3 295 Lib.Math.min.name, Cond.static Lib.Math.min.name, Cond.code Lib.Math.min.name Lib.Math.min.code 2 (some .int), Cond.static yX3_copiedClearness]
def wsX1_clearestAfter_r2 : List Cond := [Cond.code yX3_copiedClearness cX3_copiedClearness 4 (some .int), Cond.methodLink RX3 298 yX3_bluntness, Cond.static yX3_bluntness, Cond.code yX3_bluntness cX3_bluntness 1 (some .int), Cond.methodLink RX1 31 yX1_clearestOf, Cond.instanceMethod yX1_clearestOf, Cond.selects RX1 yX1_clearestOf yX1_clearestOf, Cond.code yX1_clearestOf cX1_clearestOf 6 (some .int)]
def wsX1_clearestAfter : List Cond := .code yX1_clearestAfter cX1_clearestAfter 9 (some .int) :: ((wsX1_clearestAfter_r1 ++ wsX1_clearestAfter_r2) ++ wsX10)
def wsX2_init : List Cond := .code yX2_init cX2_init 2 none :: ([.methodLink RX2 3 objectInit, .instanceMethod objectInit, .code objectInit ⟨#[0xb1]⟩ 1 none, .arrayClass .int, .fieldLink RX2 9 "WaxCopies$Wax" "depth" "[I", .fieldLink RX2 15 "WaxCopies$Wax" "clearness" "[I", .fieldLink RX2 18 "WaxCopies$Wax" "flutter" "[I", .fieldLink RX2 21 "WaxCopies$Wax" "generation" "[I", .fieldLink RX2 24 "WaxCopies$Wax" "mother" "[I", .fieldLink RX2 27 "WaxCopies$Wax" "clearnessAsCut" "[I", .fieldLink RX2 30 "WaxCopies$Wax" "plays" "[I", .fieldLink RX2 33 "WaxCopies$Wax" "layers" "[I", .fieldLink RX2 36 "WaxCopies$Wax" "shavings" "[I", .fieldLink RX2 39 "WaxCopies$Wax" "sharpness" "I", .fieldLink RX2 43 "WaxCopies$Wax" "spring" "I", .fieldLink RX2 46 "WaxCopies$Wax" "wear" "I", .fieldLink RX2 49 "WaxCopies$Wax" "spoken" "I", .fieldLink RX2 52 "WaxCopies$Wax" "copied" "I", .fieldLink RX2 55 "WaxCopies$Wax" "played" "I", .fieldLink RX2 58 "WaxCopies$Wax" "layersShaved" "I", .fieldLink RX2 61 "WaxCopies$Wax" "layersCome" "I", .fieldLink RX2 64 "WaxCopies$Wax" "layersGone" "I", .fieldLink RX2 67 "WaxCopies$Wax" "refused" "I"] ++ wsX20)
def wsX2_takeOver : List Cond := .code yX2_takeOver cX2_takeOver 2 none :: ([.fieldLink RX2 9 "WaxCopies$Wax" "depth" "[I", .methodLink RX2 70 arraycopyName, .native arraycopyName, .static arraycopyName, .initialized "java/lang/System", .fieldLink RX2 15 "WaxCopies$Wax" "clearness" "[I", .fieldLink RX2 18 "WaxCopies$Wax" "flutter" "[I", .fieldLink RX2 21 "WaxCopies$Wax" "generation" "[I", .fieldLink RX2 24 "WaxCopies$Wax" "mother" "[I", .fieldLink RX2 27 "WaxCopies$Wax" "clearnessAsCut" "[I", .fieldLink RX2 30 "WaxCopies$Wax" "plays" "[I", .fieldLink RX2 33 "WaxCopies$Wax" "layers" "[I", .fieldLink RX2 36 "WaxCopies$Wax" "shavings" "[I", .fieldLink RX2 39 "WaxCopies$Wax" "sharpness" "I", .fieldLink RX2 43 "WaxCopies$Wax" "spring" "I", .fieldLink RX2 46 "WaxCopies$Wax" "wear" "I", .fieldLink RX2 49 "WaxCopies$Wax" "spoken" "I", .fieldLink RX2 52 "WaxCopies$Wax" "copied" "I", .fieldLink RX2 55 "WaxCopies$Wax" "played" "I", .fieldLink RX2 58 "WaxCopies$Wax" "layersShaved" "I", .fieldLink RX2 61 "WaxCopies$Wax" "layersCome" "I", .fieldLink RX2 64 "WaxCopies$Wax" "layersGone" "I", .fieldLink RX2 67 "WaxCopies$Wax" "refused" "I"] ++ wsX20)
def wsX2_isCut : List Cond := .code yX2_isCut cX2_isCut 2 (some .boolean) :: ([.fieldLink RX2 9 "WaxCopies$Wax" "depth" "[I"] ++ wsX20)
def wsX2_machineFlutter : List Cond := .code yX2_machineFlutter cX2_machineFlutter 1 (some .int) :: ([.fieldLink RX2 43 "WaxCopies$Wax" "spring" "I"] ++ wsX20)
def wsX2_reasonNotToSpeak : List Cond := .code yX2_reasonNotToSpeak cX2_reasonNotToSpeak 3 (some .int) :: ([.fieldLink RX2 33 "WaxCopies$Wax" "layers" "[I", .fieldLink RX2 43 "WaxCopies$Wax" "spring" "I", .methodLink RX2 76 yX2_isCut, .instanceMethod yX2_isCut, .selects RX2 yX2_isCut yX2_isCut, .initialized RX2, .code yX2_isCut cX2_isCut 2 (some .boolean), .fieldLink RX2 9 "WaxCopies$Wax" "depth" "[I"] ++ wsX20)
def wsX2_cut : List Cond := .code yX2_cut cX2_cut 5 none :: ([.fieldLink RX2 9 "WaxCopies$Wax" "depth" "[I", .fieldLink RX2 15 "WaxCopies$Wax" "clearness" "[I", .fieldLink RX2 27 "WaxCopies$Wax" "clearnessAsCut" "[I", .fieldLink RX2 18 "WaxCopies$Wax" "flutter" "[I", .fieldLink RX2 30 "WaxCopies$Wax" "plays" "[I", .fieldLink RX2 39 "WaxCopies$Wax" "sharpness" "I", .static yX3_sharpnessAfter, .initialized RX3, .code yX3_sharpnessAfter cX3_sharpnessAfter 2 (some .int), .methodLink RX3 290 Lib.Math.max.name, .static Lib.Math.max.name, .initialized "java/lang/Math", .code Lib.Math.max.name Lib.Math.max.code 2 (some .int)] ++ wsX20)
def wsX2_speakOnto_r1 : List Cond := [Cond.fieldLink RX2 67 "WaxCopies$Wax" "refused" "I", Cond.fieldLink RX2 21 "WaxCopies$Wax" "generation" "[I", Cond.fieldLink RX2 24 "WaxCopies$Wax" "mother" "[I", Cond.fieldLink RX2 39 "WaxCopies$Wax" "sharpness" "I", Cond.fieldLink RX2 43 "WaxCopies$Wax" "spring" "I", Cond.fieldLink RX2 49 "WaxCopies$Wax" "spoken" "I", Cond.methodLink RX2 80 yX2_reasonNotToSpeak, Cond.instanceMethod yX2_reasonNotToSpeak, Cond.selects RX2 yX2_reasonNotToSpeak yX2_reasonNotToSpeak, Cond.initialized RX2, Cond.code yX2_reasonNotToSpeak cX2_reasonNotToSpeak 3 (some .int), Cond.fieldLink RX2 33 "WaxCopies$Wax" "layers" "[I", Cond.methodLink RX2 76 yX2_isCut, Cond.instanceMethod yX2_isCut, Cond.selects RX2 yX2_isCut yX2_isCut, Cond.code yX2_isCut cX2_isCut 2 (some .boolean), Cond.fieldLink RX2 9 "WaxCopies$Wax" "depth" "[I", Cond.static yX3_bluntness, Cond.initialized RX3, Cond.code yX3_bluntness cX3_bluntness 1 (some .int), Cond.methodLink RX2 88 yX2_machineFlutter, Cond.instanceMethod yX2_machineFlutter, Cond.selects RX2 yX2_machineFlutter yX2_machineFlutter, Cond.code yX2_machineFlutter cX2_machineFlutter 1 (some .int)]
def wsX2_speakOnto_r2 : List Cond := [Cond.methodLink RX2 92 yX2_cut, Cond.instanceMethod yX2_cut, Cond.selects RX2 yX2_cut yX2_cut, Cond.code yX2_cut cX2_cut 5 none, Cond.fieldLink RX2 15 "WaxCopies$Wax" "clearness" "[I", Cond.fieldLink RX2 27 "WaxCopies$Wax" "clearnessAsCut" "[I", Cond.fieldLink RX2 18 "WaxCopies$Wax" "flutter" "[I", Cond.fieldLink RX2 30 "WaxCopies$Wax" "plays" "[I", Cond.static yX3_sharpnessAfter, Cond.code yX3_sharpnessAfter cX3_sharpnessAfter 2 (some .int), Cond.methodLink RX3 290 Lib.Math.max.name, Cond.static Lib.Math.max.name, Cond.initialized "java/lang/Math", Cond.code Lib.Math.max.name Lib.Math.max.code 2 (some .int)]
def wsX2_speakOnto : List Cond := .code yX2_speakOnto cX2_speakOnto 4 (some .int) :: ((wsX2_speakOnto_r1 ++ wsX2_speakOnto_r2) ++ wsX20)
def wsX2_reasonNotToCopy : List Cond := .code yX2_reasonNotToCopy cX2_reasonNotToCopy 4 (some .int) :: ([.fieldLink RX2 33 "WaxCopies$Wax" "layers" "[I", .fieldLink RX2 9 "WaxCopies$Wax" "depth" "[I", .fieldLink RX2 43 "WaxCopies$Wax" "spring" "I", .methodLink RX2 76 yX2_isCut, .instanceMethod yX2_isCut, .selects RX2 yX2_isCut yX2_isCut, .initialized RX2, .code yX2_isCut cX2_isCut 2 (some .boolean), .static yX3_copiedDepth, .initialized RX3, .code yX3_copiedDepth cX3_copiedDepth 2 (some .int), .methodLink RX3 290 Lib.Math.max.name, .static Lib.Math.max.name, .initialized "java/lang/Math", .code Lib.Math.max.name Lib.Math.max.code 2 (some .int), .methodLink RX3 295 Lib.Math.min.name, .static Lib.Math.min.name, .code Lib.Math.min.name Lib.Math.min.code 2 (some .int)] ++ wsX20)
def wsX2_clearnessIfCopied : List Cond := .code yX2_clearnessIfCopied cX2_clearnessIfCopied 3 (some .int) :: ([.fieldLink RX2 15 "WaxCopies$Wax" "clearness" "[I", .fieldLink RX2 39 "WaxCopies$Wax" "sharpness" "I", .methodLink RX2 88 yX2_machineFlutter, .instanceMethod yX2_machineFlutter, .selects RX2 yX2_machineFlutter yX2_machineFlutter, .initialized RX2, .code yX2_machineFlutter cX2_machineFlutter 1 (some .int), .fieldLink RX2 43 "WaxCopies$Wax" "spring" "I", .static yX3_copiedClearness, .initialized RX3, .code yX3_copiedClearness cX3_copiedClearness 4 (some .int), .methodLink RX3 290 Lib.Math.max.name, .static Lib.Math.max.name, .initialized "java/lang/Math", .code Lib.Math.max.name Lib.Math.max.code 2 (some .int), .methodLink RX3 298 yX3_bluntness, .static yX3_bluntness, .code yX3_bluntness cX3_bluntness 1 (some .int)] ++ wsX20)
def wsX2_copyOnto_r1 : List Cond := [Cond.fieldLink RX2 67 "WaxCopies$Wax" "refused" "I", Cond.fieldLink RX2 21 "WaxCopies$Wax" "generation" "[I", Cond.fieldLink RX2 24 "WaxCopies$Wax" "mother" "[I", Cond.fieldLink RX2 18 "WaxCopies$Wax" "flutter" "[I", Cond.methodLink RX2 107 Lib.Math.min.name, Cond.static Lib.Math.min.name, Cond.initialized "java/lang/Math", Cond.code Lib.Math.min.name Lib.Math.min.code 2 (some .int), Cond.fieldLink RX2 9 "WaxCopies$Wax" "depth" "[I", Cond.fieldLink RX2 43 "WaxCopies$Wax" "spring" "I", Cond.fieldLink RX2 52 "WaxCopies$Wax" "copied" "I", Cond.methodLink RX2 103 yX2_reasonNotToCopy, Cond.instanceMethod yX2_reasonNotToCopy, Cond.selects RX2 yX2_reasonNotToCopy yX2_reasonNotToCopy, Cond.initialized RX2, Cond.code yX2_reasonNotToCopy cX2_reasonNotToCopy 4 (some .int), Cond.fieldLink RX2 33 "WaxCopies$Wax" "layers" "[I", Cond.methodLink RX2 76 yX2_isCut, Cond.instanceMethod yX2_isCut, Cond.selects RX2 yX2_isCut yX2_isCut, Cond.code yX2_isCut cX2_isCut 2 (some .boolean), Cond.static yX3_copiedDepth, Cond.initialized RX3, Cond.code yX3_copiedDepth cX3_copiedDepth 2 (some .int)]
def wsX2_copyOnto_r2 : List Cond := [Cond.methodLink RX3 290 Lib.Math.max.name, Cond.static Lib.Math.max.name, Cond.code Lib.Math.max.name Lib.Math.max.code 2 (some .int), Cond.methodLink RX3 295 Lib.Math.min.name, Cond.methodLink RX2 88 yX2_machineFlutter, Cond.instanceMethod yX2_machineFlutter, Cond.selects RX2 yX2_machineFlutter yX2_machineFlutter, Cond.code yX2_machineFlutter cX2_machineFlutter 1 (some .int), Cond.methodLink RX2 112 yX2_clearnessIfCopied, Cond.instanceMethod yX2_clearnessIfCopied, Cond.selects RX2 yX2_clearnessIfCopied yX2_clearnessIfCopied, Cond.code yX2_clearnessIfCopied cX2_clearnessIfCopied 3 (some .int), Cond.fieldLink RX2 15 "WaxCopies$Wax" "clearness" "[I", Cond.fieldLink RX2 39 "WaxCopies$Wax" "sharpness" "I", Cond.static yX3_copiedClearness, Cond.code yX3_copiedClearness cX3_copiedClearness 4 (some .int), Cond.methodLink RX3 298 yX3_bluntness, Cond.static yX3_bluntness, Cond.code yX3_bluntness cX3_bluntness 1 (some .int), Cond.methodLink RX2 92 yX2_cut, Cond.instanceMethod yX2_cut, Cond.selects RX2 yX2_cut yX2_cut, Cond.code yX2_cut cX2_cut 5 none, Cond.fieldLink RX2 27 "WaxCopies$Wax" "clearnessAsCut" "[I"]
def wsX2_copyOnto_r3 : List Cond := [Cond.fieldLink RX2 30 "WaxCopies$Wax" "plays" "[I", Cond.static yX3_sharpnessAfter, Cond.code yX3_sharpnessAfter cX3_sharpnessAfter 2 (some .int)]
def wsX2_copyOnto : List Cond := .code yX2_copyOnto cX2_copyOnto 6 (some .int) :: ((wsX2_copyOnto_r1 ++ (wsX2_copyOnto_r2 ++ wsX2_copyOnto_r3)) ++ wsX20)
def wsX2_playTrack : List Cond := .code yX2_playTrack cX2_playTrack 3 (some .int) :: ([.fieldLink RX2 43 "WaxCopies$Wax" "spring" "I", .fieldLink RX2 67 "WaxCopies$Wax" "refused" "I", .fieldLink RX2 15 "WaxCopies$Wax" "clearness" "[I", .fieldLink RX2 46 "WaxCopies$Wax" "wear" "I", .methodLink RX2 118 Lib.Math.max.name, .static Lib.Math.max.name, .initialized "java/lang/Math", .code Lib.Math.max.name Lib.Math.max.code 2 (some .int), .fieldLink RX2 30 "WaxCopies$Wax" "plays" "[I", .fieldLink RX2 55 "WaxCopies$Wax" "played" "I", .methodLink RX2 76 yX2_isCut, .instanceMethod yX2_isCut, .selects RX2 yX2_isCut yX2_isCut, .initialized RX2, .code yX2_isCut cX2_isCut 2 (some .boolean), .fieldLink RX2 9 "WaxCopies$Wax" "depth" "[I"] ++ wsX20)
def wsX2_greatestDepth : List Cond := .code yX2_greatestDepth cX2_greatestDepth 5 (some .int) :: ([.fieldLink RX2 9 "WaxCopies$Wax" "depth" "[I", .methodLink RX2 118 Lib.Math.max.name, .static Lib.Math.max.name, .initialized "java/lang/Math", .code Lib.Math.max.name Lib.Math.max.code 2 (some .int)] ++ wsX20)
def wsX2_smoothTracks : List Cond := .code yX2_smoothTracks cX2_smoothTracks 4 none :: ([.fieldLink RX2 9 "WaxCopies$Wax" "depth" "[I", .fieldLink RX2 24 "WaxCopies$Wax" "mother" "[I"] ++ wsX20)
def wsX2_shaveCylinder : List Cond := .code yX2_shaveCylinder cX2_shaveCylinder 3 (some .int) :: ([.fieldLink RX2 67 "WaxCopies$Wax" "refused" "I", .fieldLink RX2 33 "WaxCopies$Wax" "layers" "[I", .fieldLink RX2 58 "WaxCopies$Wax" "layersShaved" "I", .fieldLink RX2 36 "WaxCopies$Wax" "shavings" "[I", .methodLink RX2 121 yX2_greatestDepth, .instanceMethod yX2_greatestDepth, .selects RX2 yX2_greatestDepth yX2_greatestDepth, .initialized RX2, .code yX2_greatestDepth cX2_greatestDepth 5 (some .int), .fieldLink RX2 9 "WaxCopies$Wax" "depth" "[I", .methodLink RX2 118 Lib.Math.max.name, .static Lib.Math.max.name, .initialized "java/lang/Math", .code Lib.Math.max.name Lib.Math.max.code 2 (some .int), .methodLink RX2 124 yX2_smoothTracks, .instanceMethod yX2_smoothTracks, .selects RX2 yX2_smoothTracks yX2_smoothTracks, .code yX2_smoothTracks cX2_smoothTracks 4 none, .fieldLink RX2 24 "WaxCopies$Wax" "mother" "[I"] ++ wsX20)
def wsX2_renewCylinder : List Cond := .code yX2_renewCylinder cX2_renewCylinder 4 (some .int) :: ([.fieldLink RX2 33 "WaxCopies$Wax" "layers" "[I", .fieldLink RX2 64 "WaxCopies$Wax" "layersGone" "I", .fieldLink RX2 61 "WaxCopies$Wax" "layersCome" "I", .fieldLink RX2 36 "WaxCopies$Wax" "shavings" "[I", .methodLink RX2 124 yX2_smoothTracks, .instanceMethod yX2_smoothTracks, .selects RX2 yX2_smoothTracks yX2_smoothTracks, .initialized RX2, .code yX2_smoothTracks cX2_smoothTracks 4 none, .fieldLink RX2 9 "WaxCopies$Wax" "depth" "[I", .fieldLink RX2 24 "WaxCopies$Wax" "mother" "[I"] ++ wsX20)
def wsX2_windUp : List Cond := .code yX2_windUp cX2_windUp 2 (some .int) :: ([.fieldLink RX2 43 "WaxCopies$Wax" "spring" "I"] ++ wsX20)
def wsX2_sharpenPoint : List Cond := .code yX2_sharpenPoint cX2_sharpenPoint 2 (some .int) :: ([.fieldLink RX2 39 "WaxCopies$Wax" "sharpness" "I"] ++ wsX20)
def wsX2_trackProperty : List Cond := .code yX2_trackProperty cX2_trackProperty 3 (some .int) :: ([.fieldLink RX2 9 "WaxCopies$Wax" "depth" "[I", .fieldLink RX2 15 "WaxCopies$Wax" "clearness" "[I", .fieldLink RX2 18 "WaxCopies$Wax" "flutter" "[I", .fieldLink RX2 21 "WaxCopies$Wax" "generation" "[I", .fieldLink RX2 24 "WaxCopies$Wax" "mother" "[I", .fieldLink RX2 27 "WaxCopies$Wax" "clearnessAsCut" "[I", .fieldLink RX2 30 "WaxCopies$Wax" "plays" "[I", .methodLink RX2 76 yX2_isCut, .instanceMethod yX2_isCut, .selects RX2 yX2_isCut yX2_isCut, .initialized RX2, .code yX2_isCut cX2_isCut 2 (some .boolean)] ++ wsX20)
def wsX2_cutTracksOn : List Cond := .code yX2_cutTracksOn cX2_cutTracksOn 5 (some .int) :: ([.methodLink RX2 76 yX2_isCut, .instanceMethod yX2_isCut, .selects RX2 yX2_isCut yX2_isCut, .initialized RX2, .code yX2_isCut cX2_isCut 2 (some .boolean), .fieldLink RX2 9 "WaxCopies$Wax" "depth" "[I"] ++ wsX20)
def wsX2_clearestTrackOn : List Cond := .code yX2_clearestTrackOn cX2_clearestTrackOn 5 (some .int) :: ([.fieldLink RX2 15 "WaxCopies$Wax" "clearness" "[I", .methodLink RX2 76 yX2_isCut, .instanceMethod yX2_isCut, .selects RX2 yX2_isCut yX2_isCut, .initialized RX2, .code yX2_isCut cX2_isCut 2 (some .boolean), .fieldLink RX2 9 "WaxCopies$Wax" "depth" "[I"] ++ wsX20)
def wsX2_cylinderProperty_r1 : List Cond := [Cond.fieldLink RX2 33 "WaxCopies$Wax" "layers" "[I", Cond.fieldLink RX2 36 "WaxCopies$Wax" "shavings" "[I", Cond.methodLink RX2 128 yX2_cutTracksOn, Cond.instanceMethod yX2_cutTracksOn, Cond.selects RX2 yX2_cutTracksOn yX2_cutTracksOn, Cond.initialized RX2, Cond.code yX2_cutTracksOn cX2_cutTracksOn 5 (some .int), Cond.methodLink RX2 76 yX2_isCut, Cond.instanceMethod yX2_isCut, Cond.selects RX2 yX2_isCut yX2_isCut, Cond.code yX2_isCut cX2_isCut 2 (some .boolean), Cond.fieldLink RX2 9 "WaxCopies$Wax" "depth" "[I", Cond.methodLink RX2 121 yX2_greatestDepth, Cond.instanceMethod yX2_greatestDepth, Cond.selects RX2 yX2_greatestDepth yX2_greatestDepth, Cond.code yX2_greatestDepth cX2_greatestDepth 5 (some .int), Cond.methodLink RX2 118 Lib.Math.max.name, Cond.static Lib.Math.max.name, Cond.initialized "java/lang/Math", Cond.code Lib.Math.max.name Lib.Math.max.code 2 (some .int), Cond.methodLink RX2 131 yX2_clearestTrackOn, Cond.instanceMethod yX2_clearestTrackOn, Cond.selects RX2 yX2_clearestTrackOn yX2_clearestTrackOn, Cond.code yX2_clearestTrackOn cX2_clearestTrackOn 5 (some .int)]
def wsX2_cylinderProperty_r2 : List Cond := [Cond.fieldLink RX2 15 "WaxCopies$Wax" "clearness" "[I"]
def wsX2_cylinderProperty : List Cond := .code yX2_cylinderProperty cX2_cylinderProperty 3 (some .int) :: ((wsX2_cylinderProperty_r1 ++ wsX2_cylinderProperty_r2) ++ wsX20)
def wsX2_cutTracks : List Cond := .code yX2_cutTracks cX2_cutTracks 3 (some .int) :: ([.methodLink RX2 128 yX2_cutTracksOn, .instanceMethod yX2_cutTracksOn, .selects RX2 yX2_cutTracksOn yX2_cutTracksOn, .initialized RX2, .code yX2_cutTracksOn cX2_cutTracksOn 5 (some .int), .methodLink RX2 76 yX2_isCut, .instanceMethod yX2_isCut, .selects RX2 yX2_isCut yX2_isCut, .code yX2_isCut cX2_isCut 2 (some .boolean), .fieldLink RX2 9 "WaxCopies$Wax" "depth" "[I"] ++ wsX20)
def wsX2_layersTogether : List Cond := .code yX2_layersTogether cX2_layersTogether 3 (some .int) :: ([.fieldLink RX2 33 "WaxCopies$Wax" "layers" "[I"] ++ wsX20)
def wsX2_number_r1 : List Cond := [Cond.fieldLink RX2 39 "WaxCopies$Wax" "sharpness" "I", Cond.fieldLink RX2 43 "WaxCopies$Wax" "spring" "I", Cond.fieldLink RX2 49 "WaxCopies$Wax" "spoken" "I", Cond.fieldLink RX2 52 "WaxCopies$Wax" "copied" "I", Cond.fieldLink RX2 55 "WaxCopies$Wax" "played" "I", Cond.fieldLink RX2 58 "WaxCopies$Wax" "layersShaved" "I", Cond.fieldLink RX2 61 "WaxCopies$Wax" "layersCome" "I", Cond.fieldLink RX2 64 "WaxCopies$Wax" "layersGone" "I", Cond.fieldLink RX2 67 "WaxCopies$Wax" "refused" "I", Cond.methodLink RX2 88 yX2_machineFlutter, Cond.instanceMethod yX2_machineFlutter, Cond.selects RX2 yX2_machineFlutter yX2_machineFlutter, Cond.initialized RX2, Cond.code yX2_machineFlutter cX2_machineFlutter 1 (some .int), Cond.methodLink RX2 134 yX2_cutTracks, Cond.instanceMethod yX2_cutTracks, Cond.selects RX2 yX2_cutTracks yX2_cutTracks, Cond.code yX2_cutTracks cX2_cutTracks 3 (some .int), Cond.methodLink RX2 128 yX2_cutTracksOn, Cond.instanceMethod yX2_cutTracksOn, Cond.selects RX2 yX2_cutTracksOn yX2_cutTracksOn, Cond.code yX2_cutTracksOn cX2_cutTracksOn 5 (some .int), Cond.methodLink RX2 76 yX2_isCut, Cond.instanceMethod yX2_isCut]
def wsX2_number_r2 : List Cond := [Cond.selects RX2 yX2_isCut yX2_isCut, Cond.code yX2_isCut cX2_isCut 2 (some .boolean), Cond.fieldLink RX2 9 "WaxCopies$Wax" "depth" "[I", Cond.methodLink RX2 137 yX2_layersTogether, Cond.instanceMethod yX2_layersTogether, Cond.selects RX2 yX2_layersTogether yX2_layersTogether, Cond.code yX2_layersTogether cX2_layersTogether 3 (some .int), Cond.fieldLink RX2 33 "WaxCopies$Wax" "layers" "[I"]
def wsX2_number : List Cond := .code yX2_number cX2_number 2 (some .int) :: ((wsX2_number_r1 ++ wsX2_number_r2) ++ wsX20)
def wsX2_soundsBetter : List Cond := .code yX2_soundsBetter cX2_soundsBetter 3 (some .boolean) :: ([.fieldLink RX2 15 "WaxCopies$Wax" "clearness" "[I", .fieldLink RX2 18 "WaxCopies$Wax" "flutter" "[I"] ++ wsX20)
def wsX2_clearestTrack : List Cond := .code yX2_clearestTrack cX2_clearestTrack 3 (some .int) :: ([.methodLink RX2 76 yX2_isCut, .instanceMethod yX2_isCut, .selects RX2 yX2_isCut yX2_isCut, .initialized RX2, .code yX2_isCut cX2_isCut 2 (some .boolean), .fieldLink RX2 9 "WaxCopies$Wax" "depth" "[I", .methodLink RX2 140 yX2_soundsBetter, .instanceMethod yX2_soundsBetter, .selects RX2 yX2_soundsBetter yX2_soundsBetter, .code yX2_soundsBetter cX2_soundsBetter 3 (some .boolean), .fieldLink RX2 15 "WaxCopies$Wax" "clearness" "[I", .fieldLink RX2 18 "WaxCopies$Wax" "flutter" "[I"] ++ wsX20)
def wsX2_depthTogether : List Cond := .code yX2_depthTogether cX2_depthTogether 3 (some .int) :: ([.fieldLink RX2 9 "WaxCopies$Wax" "depth" "[I"] ++ wsX20)
def wsX2_clearnessTogether : List Cond := .code yX2_clearnessTogether cX2_clearnessTogether 3 (some .int) :: ([.fieldLink RX2 15 "WaxCopies$Wax" "clearness" "[I", .methodLink RX2 76 yX2_isCut, .instanceMethod yX2_isCut, .selects RX2 yX2_isCut yX2_isCut, .initialized RX2, .code yX2_isCut cX2_isCut 2 (some .boolean), .fieldLink RX2 9 "WaxCopies$Wax" "depth" "[I"] ++ wsX20)
def wsX2_comesFrom : List Cond := .code yX2_comesFrom cX2_comesFrom 5 (some .boolean) :: ([.fieldLink RX2 24 "WaxCopies$Wax" "mother" "[I"] ++ wsX20)
def wsX2_descendants : List Cond := .code yX2_descendants cX2_descendants 4 (some .int) :: ([.methodLink RX2 144 yX2_comesFrom, .instanceMethod yX2_comesFrom, .selects RX2 yX2_comesFrom yX2_comesFrom, .initialized RX2, .code yX2_comesFrom cX2_comesFrom 5 (some .boolean), .fieldLink RX2 24 "WaxCopies$Wax" "mother" "[I"] ++ wsX20)
def wsX3_init_r1 : List Cond := [Cond.methodLink RX3 3 objectInit, Cond.instanceMethod objectInit, Cond.code objectInit ⟨#[0xb1]⟩ 1 none, Cond.classLink RX3 9 RX2, Cond.instantiable RX2 19, Cond.initialized RX2, Cond.fieldLink RX3 12 "WaxCopies" "now" "LWaxCopies$Wax;", Cond.fieldLink RX3 16 "WaxCopies" "slots" "[LWaxCopies$Wax;", Cond.arrayClass .boolean, Cond.fieldLink RX3 20 "WaxCopies" "slotTaken" "[Z", Cond.fieldLink RX3 24 "WaxCopies" "saved" "[LWaxCopies$Wax;", Cond.fieldLink RX3 27 "WaxCopies" "savedStates" "I", Cond.classLink RX3 31 RX0, Cond.instantiable RX0 2, Cond.initialized RX0, Cond.fieldLink RX3 34 "WaxCopies" "orders" "LWaxCopies$Orders;", Cond.classLink RX3 38 RX1, Cond.instantiable RX1 2, Cond.initialized RX1, Cond.fieldLink RX3 41 "WaxCopies" "steps" "LWaxCopies$Steps;", Cond.methodLink RX3 11 yX2_init, Cond.instanceMethod yX2_init, Cond.code yX2_init cX2_init 2 none, Cond.methodLink RX2 3 objectInit]
def wsX3_init_r2 : List Cond := [Cond.arrayClass .int, Cond.fieldLink RX2 9 "WaxCopies$Wax" "depth" "[I", Cond.fieldLink RX2 15 "WaxCopies$Wax" "clearness" "[I", Cond.fieldLink RX2 18 "WaxCopies$Wax" "flutter" "[I", Cond.fieldLink RX2 21 "WaxCopies$Wax" "generation" "[I", Cond.fieldLink RX2 24 "WaxCopies$Wax" "mother" "[I", Cond.fieldLink RX2 27 "WaxCopies$Wax" "clearnessAsCut" "[I", Cond.fieldLink RX2 30 "WaxCopies$Wax" "plays" "[I", Cond.fieldLink RX2 33 "WaxCopies$Wax" "layers" "[I", Cond.fieldLink RX2 36 "WaxCopies$Wax" "shavings" "[I", Cond.fieldLink RX2 39 "WaxCopies$Wax" "sharpness" "I", Cond.fieldLink RX2 43 "WaxCopies$Wax" "spring" "I", Cond.fieldLink RX2 46 "WaxCopies$Wax" "wear" "I", Cond.fieldLink RX2 49 "WaxCopies$Wax" "spoken" "I", Cond.fieldLink RX2 52 "WaxCopies$Wax" "copied" "I", Cond.fieldLink RX2 55 "WaxCopies$Wax" "played" "I", Cond.fieldLink RX2 58 "WaxCopies$Wax" "layersShaved" "I", Cond.fieldLink RX2 61 "WaxCopies$Wax" "layersCome" "I", Cond.fieldLink RX2 64 "WaxCopies$Wax" "layersGone" "I", Cond.fieldLink RX2 67 "WaxCopies$Wax" "refused" "I", Cond.instanceMethod yX0_init, Cond.code yX0_init cX0_init 1 none, Cond.methodLink RX0 3 objectInit, Cond.arrayClass .char]
def wsX3_init_r3 : List Cond := [Cond.fieldLink RX0 11 "WaxCopies$Orders" "text" "[C", Cond.fieldLink RX0 15 "WaxCopies$Orders" "length" "I", Cond.instanceMethod yX1_init, Cond.code yX1_init cX1_init 1 none, Cond.methodLink RX1 3 objectInit, Cond.classLink RX1 9 "[[I", Cond.fieldLink RX1 11 "WaxCopies$Steps" "best" "[[I", Cond.fieldLink RX1 16 "WaxCopies$Steps" "next" "[[I"]
def wsX3_init : List Cond := .code yX3_init cX3_init 2 none :: ((wsX3_init_r1 ++ (wsX3_init_r2 ++ wsX3_init_r3)) ++ wsX20 ++ wsX30 ++ wsX00 ++ wsX10)
def wsX3_checkTrack : List Cond := .code yX3_checkTrack cX3_checkTrack 2 none :: ([.classLink RX3 257 "java/lang/IndexOutOfBoundsException", .initialized "java/lang/IndexOutOfBoundsException"] ++ (vx_atS RX3 261 "java/lang/IndexOutOfBoundsException" ["java/lang/RuntimeException", "java/lang/Exception"]).filter goodWord)
def wsX3_checkLoudness : List Cond := .code yX3_checkLoudness cX3_checkLoudness 2 none :: ([.classLink RX3 83 "java/lang/IllegalArgumentException", .initialized "java/lang/IllegalArgumentException"] ++ (vx_atS RX3 87 "java/lang/IllegalArgumentException" ["java/lang/RuntimeException", "java/lang/Exception"]).filter goodWord)
def wsX3_dropOldestState : List Cond := .code yX3_dropOldestState cX3_dropOldestState 3 none :: ([.fieldLink RX3 24 "WaxCopies" "saved" "[LWaxCopies$Wax;", .fieldLink RX3 27 "WaxCopies" "savedStates" "I"] ++ wsX30)
def wsX3_saveState_r1 : List Cond := [Cond.fieldLink RX3 27 "WaxCopies" "savedStates" "I", Cond.fieldLink RX3 24 "WaxCopies" "saved" "[LWaxCopies$Wax;", Cond.fieldLink RX3 12 "WaxCopies" "now" "LWaxCopies$Wax;", Cond.methodLink RX3 272 yX3_dropOldestState, Cond.instanceMethod yX3_dropOldestState, Cond.selects RX3 yX3_dropOldestState yX3_dropOldestState, Cond.initialized RX3, Cond.code yX3_dropOldestState cX3_dropOldestState 3 none, Cond.methodLink RX3 130 yX2_takeOver, Cond.instanceMethod yX2_takeOver, Cond.selects RX2 yX2_takeOver yX2_takeOver, Cond.initialized RX2, Cond.code yX2_takeOver cX2_takeOver 2 none, Cond.fieldLink RX2 9 "WaxCopies$Wax" "depth" "[I", Cond.methodLink RX2 70 arraycopyName, Cond.native arraycopyName, Cond.static arraycopyName, Cond.initialized "java/lang/System", Cond.fieldLink RX2 15 "WaxCopies$Wax" "clearness" "[I", Cond.fieldLink RX2 18 "WaxCopies$Wax" "flutter" "[I", Cond.fieldLink RX2 21 "WaxCopies$Wax" "generation" "[I", Cond.fieldLink RX2 24 "WaxCopies$Wax" "mother" "[I", Cond.fieldLink RX2 27 "WaxCopies$Wax" "clearnessAsCut" "[I", Cond.fieldLink RX2 30 "WaxCopies$Wax" "plays" "[I"]
def wsX3_saveState_r2 : List Cond := [Cond.fieldLink RX2 33 "WaxCopies$Wax" "layers" "[I", Cond.fieldLink RX2 36 "WaxCopies$Wax" "shavings" "[I", Cond.fieldLink RX2 39 "WaxCopies$Wax" "sharpness" "I", Cond.fieldLink RX2 43 "WaxCopies$Wax" "spring" "I", Cond.fieldLink RX2 46 "WaxCopies$Wax" "wear" "I", Cond.fieldLink RX2 49 "WaxCopies$Wax" "spoken" "I", Cond.fieldLink RX2 52 "WaxCopies$Wax" "copied" "I", Cond.fieldLink RX2 55 "WaxCopies$Wax" "played" "I", Cond.fieldLink RX2 58 "WaxCopies$Wax" "layersShaved" "I", Cond.fieldLink RX2 61 "WaxCopies$Wax" "layersCome" "I", Cond.fieldLink RX2 64 "WaxCopies$Wax" "layersGone" "I", Cond.fieldLink RX2 67 "WaxCopies$Wax" "refused" "I"]
def wsX3_saveState : List Cond := .code yX3_saveState cX3_saveState 1 none :: ((wsX3_saveState_r1 ++ wsX3_saveState_r2) ++ wsX30 ++ wsX20)
def wsX3_speak_r1 : List Cond := [Cond.fieldLink RX3 12 "WaxCopies" "now" "LWaxCopies$Wax;", Cond.methodLink RX3 45 yX3_checkTrack, Cond.instanceMethod yX3_checkTrack, Cond.selects RX3 yX3_checkTrack yX3_checkTrack, Cond.initialized RX3, Cond.code yX3_checkTrack cX3_checkTrack 2 none, Cond.classLink RX3 257 "java/lang/IndexOutOfBoundsException", Cond.initialized "java/lang/IndexOutOfBoundsException", Cond.methodLink RX3 49 yX3_checkLoudness, Cond.instanceMethod yX3_checkLoudness, Cond.selects RX3 yX3_checkLoudness yX3_checkLoudness, Cond.code yX3_checkLoudness cX3_checkLoudness 2 none, Cond.classLink RX3 83 "java/lang/IllegalArgumentException", Cond.initialized "java/lang/IllegalArgumentException", Cond.methodLink RX3 52 yX3_saveState, Cond.instanceMethod yX3_saveState, Cond.selects RX3 yX3_saveState yX3_saveState, Cond.code yX3_saveState cX3_saveState 1 none, Cond.fieldLink RX3 27 "WaxCopies" "savedStates" "I", Cond.fieldLink RX3 24 "WaxCopies" "saved" "[LWaxCopies$Wax;", Cond.methodLink RX3 272 yX3_dropOldestState, Cond.instanceMethod yX3_dropOldestState, Cond.selects RX3 yX3_dropOldestState yX3_dropOldestState, Cond.code yX3_dropOldestState cX3_dropOldestState 3 none]
def wsX3_speak_r2 : List Cond := [Cond.methodLink RX3 130 yX2_takeOver, Cond.instanceMethod yX2_takeOver, Cond.selects RX2 yX2_takeOver yX2_takeOver, Cond.initialized RX2, Cond.code yX2_takeOver cX2_takeOver 2 none, Cond.fieldLink RX2 9 "WaxCopies$Wax" "depth" "[I", Cond.methodLink RX2 70 arraycopyName, Cond.native arraycopyName, Cond.static arraycopyName, Cond.initialized "java/lang/System", Cond.fieldLink RX2 15 "WaxCopies$Wax" "clearness" "[I", Cond.fieldLink RX2 18 "WaxCopies$Wax" "flutter" "[I", Cond.fieldLink RX2 21 "WaxCopies$Wax" "generation" "[I", Cond.fieldLink RX2 24 "WaxCopies$Wax" "mother" "[I", Cond.fieldLink RX2 27 "WaxCopies$Wax" "clearnessAsCut" "[I", Cond.fieldLink RX2 30 "WaxCopies$Wax" "plays" "[I", Cond.fieldLink RX2 33 "WaxCopies$Wax" "layers" "[I", Cond.fieldLink RX2 36 "WaxCopies$Wax" "shavings" "[I", Cond.fieldLink RX2 39 "WaxCopies$Wax" "sharpness" "I", Cond.fieldLink RX2 43 "WaxCopies$Wax" "spring" "I", Cond.fieldLink RX2 46 "WaxCopies$Wax" "wear" "I", Cond.fieldLink RX2 49 "WaxCopies$Wax" "spoken" "I", Cond.fieldLink RX2 52 "WaxCopies$Wax" "copied" "I", Cond.fieldLink RX2 55 "WaxCopies$Wax" "played" "I"]
def wsX3_speak_r3 : List Cond := [Cond.fieldLink RX2 58 "WaxCopies$Wax" "layersShaved" "I", Cond.fieldLink RX2 61 "WaxCopies$Wax" "layersCome" "I", Cond.fieldLink RX2 64 "WaxCopies$Wax" "layersGone" "I", Cond.fieldLink RX2 67 "WaxCopies$Wax" "refused" "I", Cond.methodLink RX3 55 yX2_speakOnto, Cond.instanceMethod yX2_speakOnto, Cond.selects RX2 yX2_speakOnto yX2_speakOnto, Cond.code yX2_speakOnto cX2_speakOnto 4 (some .int), Cond.methodLink RX2 80 yX2_reasonNotToSpeak, Cond.instanceMethod yX2_reasonNotToSpeak, Cond.selects RX2 yX2_reasonNotToSpeak yX2_reasonNotToSpeak, Cond.code yX2_reasonNotToSpeak cX2_reasonNotToSpeak 3 (some .int), Cond.methodLink RX2 76 yX2_isCut, Cond.instanceMethod yX2_isCut, Cond.selects RX2 yX2_isCut yX2_isCut, Cond.code yX2_isCut cX2_isCut 2 (some .boolean), Cond.static yX3_bluntness, Cond.code yX3_bluntness cX3_bluntness 1 (some .int), Cond.methodLink RX2 88 yX2_machineFlutter, Cond.instanceMethod yX2_machineFlutter, Cond.selects RX2 yX2_machineFlutter yX2_machineFlutter, Cond.code yX2_machineFlutter cX2_machineFlutter 1 (some .int), Cond.methodLink RX2 92 yX2_cut, Cond.instanceMethod yX2_cut]
def wsX3_speak_r4 : List Cond := [Cond.selects RX2 yX2_cut yX2_cut, Cond.code yX2_cut cX2_cut 5 none, Cond.static yX3_sharpnessAfter, Cond.code yX3_sharpnessAfter cX3_sharpnessAfter 2 (some .int), Cond.methodLink RX3 290 Lib.Math.max.name, Cond.static Lib.Math.max.name, Cond.initialized "java/lang/Math", Cond.code Lib.Math.max.name Lib.Math.max.code 2 (some .int)]
def wsX3_speak : List Cond := .code yX3_speak cX3_speak 3 (some .int) :: ((wsX3_speak_r1 ++ (wsX3_speak_r2 ++ (wsX3_speak_r3 ++ wsX3_speak_r4))) ++ wsX30 ++ wsX20 ++ (vx_atS RX3 261 "java/lang/IndexOutOfBoundsException" ["java/lang/RuntimeException", "java/lang/Exception"]).filter goodWord ++ (vx_atS RX3 87 "java/lang/IllegalArgumentException" ["java/lang/RuntimeException", "java/lang/Exception"]).filter goodWord)
def wsX3_checkLever : List Cond := .code yX3_checkLever cX3_checkLever 2 none :: ([.classLink RX3 83 "java/lang/IllegalArgumentException", .initialized "java/lang/IllegalArgumentException"] ++ (vx_atS RX3 87 "java/lang/IllegalArgumentException" ["java/lang/RuntimeException", "java/lang/Exception"]).filter goodWord)
def wsX3_copy_r1 : List Cond := [Cond.fieldLink RX3 12 "WaxCopies" "now" "LWaxCopies$Wax;", Cond.methodLink RX3 45 yX3_checkTrack, Cond.instanceMethod yX3_checkTrack, Cond.selects RX3 yX3_checkTrack yX3_checkTrack, Cond.initialized RX3, Cond.code yX3_checkTrack cX3_checkTrack 2 none, Cond.classLink RX3 257 "java/lang/IndexOutOfBoundsException", Cond.initialized "java/lang/IndexOutOfBoundsException", Cond.methodLink RX3 59 yX3_checkLever, Cond.instanceMethod yX3_checkLever, Cond.selects RX3 yX3_checkLever yX3_checkLever, Cond.code yX3_checkLever cX3_checkLever 2 none, Cond.classLink RX3 83 "java/lang/IllegalArgumentException", Cond.initialized "java/lang/IllegalArgumentException", Cond.methodLink RX3 52 yX3_saveState, Cond.instanceMethod yX3_saveState, Cond.selects RX3 yX3_saveState yX3_saveState, Cond.code yX3_saveState cX3_saveState 1 none, Cond.fieldLink RX3 27 "WaxCopies" "savedStates" "I", Cond.fieldLink RX3 24 "WaxCopies" "saved" "[LWaxCopies$Wax;", Cond.methodLink RX3 272 yX3_dropOldestState, Cond.instanceMethod yX3_dropOldestState, Cond.selects RX3 yX3_dropOldestState yX3_dropOldestState, Cond.code yX3_dropOldestState cX3_dropOldestState 3 none]
def wsX3_copy_r2 : List Cond := [Cond.methodLink RX3 130 yX2_takeOver, Cond.instanceMethod yX2_takeOver, Cond.selects RX2 yX2_takeOver yX2_takeOver, Cond.initialized RX2, Cond.code yX2_takeOver cX2_takeOver 2 none, Cond.fieldLink RX2 9 "WaxCopies$Wax" "depth" "[I", Cond.methodLink RX2 70 arraycopyName, Cond.native arraycopyName, Cond.static arraycopyName, Cond.initialized "java/lang/System", Cond.fieldLink RX2 15 "WaxCopies$Wax" "clearness" "[I", Cond.fieldLink RX2 18 "WaxCopies$Wax" "flutter" "[I", Cond.fieldLink RX2 21 "WaxCopies$Wax" "generation" "[I", Cond.fieldLink RX2 24 "WaxCopies$Wax" "mother" "[I", Cond.fieldLink RX2 27 "WaxCopies$Wax" "clearnessAsCut" "[I", Cond.fieldLink RX2 30 "WaxCopies$Wax" "plays" "[I", Cond.fieldLink RX2 33 "WaxCopies$Wax" "layers" "[I", Cond.fieldLink RX2 36 "WaxCopies$Wax" "shavings" "[I", Cond.fieldLink RX2 39 "WaxCopies$Wax" "sharpness" "I", Cond.fieldLink RX2 43 "WaxCopies$Wax" "spring" "I", Cond.fieldLink RX2 46 "WaxCopies$Wax" "wear" "I", Cond.fieldLink RX2 49 "WaxCopies$Wax" "spoken" "I", Cond.fieldLink RX2 52 "WaxCopies$Wax" "copied" "I", Cond.fieldLink RX2 55 "WaxCopies$Wax" "played" "I"]
def wsX3_copy_r3 : List Cond := [Cond.fieldLink RX2 58 "WaxCopies$Wax" "layersShaved" "I", Cond.fieldLink RX2 61 "WaxCopies$Wax" "layersCome" "I", Cond.fieldLink RX2 64 "WaxCopies$Wax" "layersGone" "I", Cond.fieldLink RX2 67 "WaxCopies$Wax" "refused" "I", Cond.methodLink RX3 62 yX2_copyOnto, Cond.instanceMethod yX2_copyOnto, Cond.selects RX2 yX2_copyOnto yX2_copyOnto, Cond.code yX2_copyOnto cX2_copyOnto 6 (some .int), Cond.methodLink RX2 107 Lib.Math.min.name, Cond.static Lib.Math.min.name, Cond.initialized "java/lang/Math", Cond.code Lib.Math.min.name Lib.Math.min.code 2 (some .int), Cond.methodLink RX2 103 yX2_reasonNotToCopy, Cond.instanceMethod yX2_reasonNotToCopy, Cond.selects RX2 yX2_reasonNotToCopy yX2_reasonNotToCopy, Cond.code yX2_reasonNotToCopy cX2_reasonNotToCopy 4 (some .int), Cond.methodLink RX2 76 yX2_isCut, Cond.instanceMethod yX2_isCut, Cond.selects RX2 yX2_isCut yX2_isCut, Cond.code yX2_isCut cX2_isCut 2 (some .boolean), Cond.static yX3_copiedDepth, Cond.code yX3_copiedDepth cX3_copiedDepth 2 (some .int), Cond.methodLink RX3 290 Lib.Math.max.name, Cond.static Lib.Math.max.name]
def wsX3_copy_r4 : List Cond := [Cond.code Lib.Math.max.name Lib.Math.max.code 2 (some .int), Cond.methodLink RX3 295 Lib.Math.min.name, Cond.methodLink RX2 88 yX2_machineFlutter, Cond.instanceMethod yX2_machineFlutter, Cond.selects RX2 yX2_machineFlutter yX2_machineFlutter, Cond.code yX2_machineFlutter cX2_machineFlutter 1 (some .int), Cond.methodLink RX2 112 yX2_clearnessIfCopied, Cond.instanceMethod yX2_clearnessIfCopied, Cond.selects RX2 yX2_clearnessIfCopied yX2_clearnessIfCopied, Cond.code yX2_clearnessIfCopied cX2_clearnessIfCopied 3 (some .int), Cond.static yX3_copiedClearness, Cond.code yX3_copiedClearness cX3_copiedClearness 4 (some .int), Cond.methodLink RX3 298 yX3_bluntness, Cond.static yX3_bluntness, Cond.code yX3_bluntness cX3_bluntness 1 (some .int), Cond.methodLink RX2 92 yX2_cut, Cond.instanceMethod yX2_cut, Cond.selects RX2 yX2_cut yX2_cut, Cond.code yX2_cut cX2_cut 5 none, Cond.static yX3_sharpnessAfter, Cond.code yX3_sharpnessAfter cX3_sharpnessAfter 2 (some .int)]
def wsX3_copy : List Cond := .code yX3_copy cX3_copy 4 (some .int) :: ((wsX3_copy_r1 ++ (wsX3_copy_r2 ++ (wsX3_copy_r3 ++ wsX3_copy_r4))) ++ wsX30 ++ wsX20 ++ (vx_atS RX3 261 "java/lang/IndexOutOfBoundsException" ["java/lang/RuntimeException", "java/lang/Exception"]).filter goodWord ++ (vx_atS RX3 87 "java/lang/IllegalArgumentException" ["java/lang/RuntimeException", "java/lang/Exception"]).filter goodWord)
def wsX3_play_r1 : List Cond := [Cond.fieldLink RX3 12 "WaxCopies" "now" "LWaxCopies$Wax;", Cond.methodLink RX3 45 yX3_checkTrack, Cond.instanceMethod yX3_checkTrack, Cond.selects RX3 yX3_checkTrack yX3_checkTrack, Cond.initialized RX3, Cond.code yX3_checkTrack cX3_checkTrack 2 none, Cond.classLink RX3 257 "java/lang/IndexOutOfBoundsException", Cond.initialized "java/lang/IndexOutOfBoundsException", Cond.methodLink RX3 52 yX3_saveState, Cond.instanceMethod yX3_saveState, Cond.selects RX3 yX3_saveState yX3_saveState, Cond.code yX3_saveState cX3_saveState 1 none, Cond.fieldLink RX3 27 "WaxCopies" "savedStates" "I", Cond.fieldLink RX3 24 "WaxCopies" "saved" "[LWaxCopies$Wax;", Cond.methodLink RX3 272 yX3_dropOldestState, Cond.instanceMethod yX3_dropOldestState, Cond.selects RX3 yX3_dropOldestState yX3_dropOldestState, Cond.code yX3_dropOldestState cX3_dropOldestState 3 none, Cond.methodLink RX3 130 yX2_takeOver, Cond.instanceMethod yX2_takeOver, Cond.selects RX2 yX2_takeOver yX2_takeOver, Cond.initialized RX2, Cond.code yX2_takeOver cX2_takeOver 2 none, Cond.fieldLink RX2 9 "WaxCopies$Wax" "depth" "[I"]
def wsX3_play_r2 : List Cond := [Cond.methodLink RX2 70 arraycopyName, Cond.native arraycopyName, Cond.static arraycopyName, Cond.initialized "java/lang/System", Cond.fieldLink RX2 15 "WaxCopies$Wax" "clearness" "[I", Cond.fieldLink RX2 18 "WaxCopies$Wax" "flutter" "[I", Cond.fieldLink RX2 21 "WaxCopies$Wax" "generation" "[I", Cond.fieldLink RX2 24 "WaxCopies$Wax" "mother" "[I", Cond.fieldLink RX2 27 "WaxCopies$Wax" "clearnessAsCut" "[I", Cond.fieldLink RX2 30 "WaxCopies$Wax" "plays" "[I", Cond.fieldLink RX2 33 "WaxCopies$Wax" "layers" "[I", Cond.fieldLink RX2 36 "WaxCopies$Wax" "shavings" "[I", Cond.fieldLink RX2 39 "WaxCopies$Wax" "sharpness" "I", Cond.fieldLink RX2 43 "WaxCopies$Wax" "spring" "I", Cond.fieldLink RX2 46 "WaxCopies$Wax" "wear" "I", Cond.fieldLink RX2 49 "WaxCopies$Wax" "spoken" "I", Cond.fieldLink RX2 52 "WaxCopies$Wax" "copied" "I", Cond.fieldLink RX2 55 "WaxCopies$Wax" "played" "I", Cond.fieldLink RX2 58 "WaxCopies$Wax" "layersShaved" "I", Cond.fieldLink RX2 61 "WaxCopies$Wax" "layersCome" "I", Cond.fieldLink RX2 64 "WaxCopies$Wax" "layersGone" "I", Cond.fieldLink RX2 67 "WaxCopies$Wax" "refused" "I", Cond.methodLink RX3 66 yX2_playTrack, Cond.instanceMethod yX2_playTrack]
def wsX3_play_r3 : List Cond := [Cond.selects RX2 yX2_playTrack yX2_playTrack, Cond.code yX2_playTrack cX2_playTrack 3 (some .int), Cond.methodLink RX2 118 Lib.Math.max.name, Cond.static Lib.Math.max.name, Cond.initialized "java/lang/Math", Cond.code Lib.Math.max.name Lib.Math.max.code 2 (some .int), Cond.methodLink RX2 76 yX2_isCut, Cond.instanceMethod yX2_isCut, Cond.selects RX2 yX2_isCut yX2_isCut, Cond.code yX2_isCut cX2_isCut 2 (some .boolean)]
def wsX3_play : List Cond := .code yX3_play cX3_play 2 (some .int) :: ((wsX3_play_r1 ++ (wsX3_play_r2 ++ wsX3_play_r3)) ++ wsX30 ++ wsX20 ++ (vx_atS RX3 261 "java/lang/IndexOutOfBoundsException" ["java/lang/RuntimeException", "java/lang/Exception"]).filter goodWord)
def wsX3_checkCylinder : List Cond := .code yX3_checkCylinder cX3_checkCylinder 2 none :: ([.classLink RX3 257 "java/lang/IndexOutOfBoundsException", .initialized "java/lang/IndexOutOfBoundsException"] ++ (vx_atS RX3 261 "java/lang/IndexOutOfBoundsException" ["java/lang/RuntimeException", "java/lang/Exception"]).filter goodWord)
def wsX3_shave_r1 : List Cond := [Cond.fieldLink RX3 12 "WaxCopies" "now" "LWaxCopies$Wax;", Cond.methodLink RX3 70 yX3_checkCylinder, Cond.instanceMethod yX3_checkCylinder, Cond.selects RX3 yX3_checkCylinder yX3_checkCylinder, Cond.initialized RX3, Cond.code yX3_checkCylinder cX3_checkCylinder 2 none, Cond.classLink RX3 257 "java/lang/IndexOutOfBoundsException", Cond.initialized "java/lang/IndexOutOfBoundsException", Cond.methodLink RX3 52 yX3_saveState, Cond.instanceMethod yX3_saveState, Cond.selects RX3 yX3_saveState yX3_saveState, Cond.code yX3_saveState cX3_saveState 1 none, Cond.fieldLink RX3 27 "WaxCopies" "savedStates" "I", Cond.fieldLink RX3 24 "WaxCopies" "saved" "[LWaxCopies$Wax;", Cond.methodLink RX3 272 yX3_dropOldestState, Cond.instanceMethod yX3_dropOldestState, Cond.selects RX3 yX3_dropOldestState yX3_dropOldestState, Cond.code yX3_dropOldestState cX3_dropOldestState 3 none, Cond.methodLink RX3 130 yX2_takeOver, Cond.instanceMethod yX2_takeOver, Cond.selects RX2 yX2_takeOver yX2_takeOver, Cond.initialized RX2, Cond.code yX2_takeOver cX2_takeOver 2 none, Cond.fieldLink RX2 9 "WaxCopies$Wax" "depth" "[I"]
def wsX3_shave_r2 : List Cond := [Cond.methodLink RX2 70 arraycopyName, Cond.native arraycopyName, Cond.static arraycopyName, Cond.initialized "java/lang/System", Cond.fieldLink RX2 15 "WaxCopies$Wax" "clearness" "[I", Cond.fieldLink RX2 18 "WaxCopies$Wax" "flutter" "[I", Cond.fieldLink RX2 21 "WaxCopies$Wax" "generation" "[I", Cond.fieldLink RX2 24 "WaxCopies$Wax" "mother" "[I", Cond.fieldLink RX2 27 "WaxCopies$Wax" "clearnessAsCut" "[I", Cond.fieldLink RX2 30 "WaxCopies$Wax" "plays" "[I", Cond.fieldLink RX2 33 "WaxCopies$Wax" "layers" "[I", Cond.fieldLink RX2 36 "WaxCopies$Wax" "shavings" "[I", Cond.fieldLink RX2 39 "WaxCopies$Wax" "sharpness" "I", Cond.fieldLink RX2 43 "WaxCopies$Wax" "spring" "I", Cond.fieldLink RX2 46 "WaxCopies$Wax" "wear" "I", Cond.fieldLink RX2 49 "WaxCopies$Wax" "spoken" "I", Cond.fieldLink RX2 52 "WaxCopies$Wax" "copied" "I", Cond.fieldLink RX2 55 "WaxCopies$Wax" "played" "I", Cond.fieldLink RX2 58 "WaxCopies$Wax" "layersShaved" "I", Cond.fieldLink RX2 61 "WaxCopies$Wax" "layersCome" "I", Cond.fieldLink RX2 64 "WaxCopies$Wax" "layersGone" "I", Cond.fieldLink RX2 67 "WaxCopies$Wax" "refused" "I", Cond.methodLink RX3 73 yX2_shaveCylinder, Cond.instanceMethod yX2_shaveCylinder]
def wsX3_shave_r3 : List Cond := [Cond.selects RX2 yX2_shaveCylinder yX2_shaveCylinder, Cond.code yX2_shaveCylinder cX2_shaveCylinder 3 (some .int), Cond.methodLink RX2 121 yX2_greatestDepth, Cond.instanceMethod yX2_greatestDepth, Cond.selects RX2 yX2_greatestDepth yX2_greatestDepth, Cond.code yX2_greatestDepth cX2_greatestDepth 5 (some .int), Cond.methodLink RX2 118 Lib.Math.max.name, Cond.static Lib.Math.max.name, Cond.initialized "java/lang/Math", Cond.code Lib.Math.max.name Lib.Math.max.code 2 (some .int), Cond.methodLink RX2 124 yX2_smoothTracks, Cond.instanceMethod yX2_smoothTracks, Cond.selects RX2 yX2_smoothTracks yX2_smoothTracks, Cond.code yX2_smoothTracks cX2_smoothTracks 4 none]
def wsX3_shave : List Cond := .code yX3_shave cX3_shave 2 (some .int) :: ((wsX3_shave_r1 ++ (wsX3_shave_r2 ++ wsX3_shave_r3)) ++ wsX30 ++ wsX20 ++ (vx_atS RX3 261 "java/lang/IndexOutOfBoundsException" ["java/lang/RuntimeException", "java/lang/Exception"]).filter goodWord)
def wsX3_wind_r1 : List Cond := [Cond.fieldLink RX3 12 "WaxCopies" "now" "LWaxCopies$Wax;", Cond.methodLink RX3 52 yX3_saveState, Cond.instanceMethod yX3_saveState, Cond.selects RX3 yX3_saveState yX3_saveState, Cond.initialized RX3, Cond.code yX3_saveState cX3_saveState 1 none, Cond.fieldLink RX3 27 "WaxCopies" "savedStates" "I", Cond.fieldLink RX3 24 "WaxCopies" "saved" "[LWaxCopies$Wax;", Cond.methodLink RX3 272 yX3_dropOldestState, Cond.instanceMethod yX3_dropOldestState, Cond.selects RX3 yX3_dropOldestState yX3_dropOldestState, Cond.code yX3_dropOldestState cX3_dropOldestState 3 none, Cond.methodLink RX3 130 yX2_takeOver, Cond.instanceMethod yX2_takeOver, Cond.selects RX2 yX2_takeOver yX2_takeOver, Cond.initialized RX2, Cond.code yX2_takeOver cX2_takeOver 2 none, Cond.fieldLink RX2 9 "WaxCopies$Wax" "depth" "[I", Cond.methodLink RX2 70 arraycopyName, Cond.native arraycopyName, Cond.static arraycopyName, Cond.initialized "java/lang/System", Cond.fieldLink RX2 15 "WaxCopies$Wax" "clearness" "[I", Cond.fieldLink RX2 18 "WaxCopies$Wax" "flutter" "[I"]
def wsX3_wind_r2 : List Cond := [Cond.fieldLink RX2 21 "WaxCopies$Wax" "generation" "[I", Cond.fieldLink RX2 24 "WaxCopies$Wax" "mother" "[I", Cond.fieldLink RX2 27 "WaxCopies$Wax" "clearnessAsCut" "[I", Cond.fieldLink RX2 30 "WaxCopies$Wax" "plays" "[I", Cond.fieldLink RX2 33 "WaxCopies$Wax" "layers" "[I", Cond.fieldLink RX2 36 "WaxCopies$Wax" "shavings" "[I", Cond.fieldLink RX2 39 "WaxCopies$Wax" "sharpness" "I", Cond.fieldLink RX2 43 "WaxCopies$Wax" "spring" "I", Cond.fieldLink RX2 46 "WaxCopies$Wax" "wear" "I", Cond.fieldLink RX2 49 "WaxCopies$Wax" "spoken" "I", Cond.fieldLink RX2 52 "WaxCopies$Wax" "copied" "I", Cond.fieldLink RX2 55 "WaxCopies$Wax" "played" "I", Cond.fieldLink RX2 58 "WaxCopies$Wax" "layersShaved" "I", Cond.fieldLink RX2 61 "WaxCopies$Wax" "layersCome" "I", Cond.fieldLink RX2 64 "WaxCopies$Wax" "layersGone" "I", Cond.fieldLink RX2 67 "WaxCopies$Wax" "refused" "I", Cond.methodLink RX3 76 yX2_windUp, Cond.instanceMethod yX2_windUp, Cond.selects RX2 yX2_windUp yX2_windUp, Cond.code yX2_windUp cX2_windUp 2 (some .int)]
def wsX3_wind : List Cond := .code yX3_wind cX3_wind 1 (some .int) :: ((wsX3_wind_r1 ++ wsX3_wind_r2) ++ wsX30 ++ wsX20)
def wsX3_sharpen_r1 : List Cond := [Cond.fieldLink RX3 12 "WaxCopies" "now" "LWaxCopies$Wax;", Cond.methodLink RX3 52 yX3_saveState, Cond.instanceMethod yX3_saveState, Cond.selects RX3 yX3_saveState yX3_saveState, Cond.initialized RX3, Cond.code yX3_saveState cX3_saveState 1 none, Cond.fieldLink RX3 27 "WaxCopies" "savedStates" "I", Cond.fieldLink RX3 24 "WaxCopies" "saved" "[LWaxCopies$Wax;", Cond.methodLink RX3 272 yX3_dropOldestState, Cond.instanceMethod yX3_dropOldestState, Cond.selects RX3 yX3_dropOldestState yX3_dropOldestState, Cond.code yX3_dropOldestState cX3_dropOldestState 3 none, Cond.methodLink RX3 130 yX2_takeOver, Cond.instanceMethod yX2_takeOver, Cond.selects RX2 yX2_takeOver yX2_takeOver, Cond.initialized RX2, Cond.code yX2_takeOver cX2_takeOver 2 none, Cond.fieldLink RX2 9 "WaxCopies$Wax" "depth" "[I", Cond.methodLink RX2 70 arraycopyName, Cond.native arraycopyName, Cond.static arraycopyName, Cond.initialized "java/lang/System", Cond.fieldLink RX2 15 "WaxCopies$Wax" "clearness" "[I", Cond.fieldLink RX2 18 "WaxCopies$Wax" "flutter" "[I"]
def wsX3_sharpen_r2 : List Cond := [Cond.fieldLink RX2 21 "WaxCopies$Wax" "generation" "[I", Cond.fieldLink RX2 24 "WaxCopies$Wax" "mother" "[I", Cond.fieldLink RX2 27 "WaxCopies$Wax" "clearnessAsCut" "[I", Cond.fieldLink RX2 30 "WaxCopies$Wax" "plays" "[I", Cond.fieldLink RX2 33 "WaxCopies$Wax" "layers" "[I", Cond.fieldLink RX2 36 "WaxCopies$Wax" "shavings" "[I", Cond.fieldLink RX2 39 "WaxCopies$Wax" "sharpness" "I", Cond.fieldLink RX2 43 "WaxCopies$Wax" "spring" "I", Cond.fieldLink RX2 46 "WaxCopies$Wax" "wear" "I", Cond.fieldLink RX2 49 "WaxCopies$Wax" "spoken" "I", Cond.fieldLink RX2 52 "WaxCopies$Wax" "copied" "I", Cond.fieldLink RX2 55 "WaxCopies$Wax" "played" "I", Cond.fieldLink RX2 58 "WaxCopies$Wax" "layersShaved" "I", Cond.fieldLink RX2 61 "WaxCopies$Wax" "layersCome" "I", Cond.fieldLink RX2 64 "WaxCopies$Wax" "layersGone" "I", Cond.fieldLink RX2 67 "WaxCopies$Wax" "refused" "I", Cond.methodLink RX3 80 yX2_sharpenPoint, Cond.instanceMethod yX2_sharpenPoint, Cond.selects RX2 yX2_sharpenPoint yX2_sharpenPoint, Cond.code yX2_sharpenPoint cX2_sharpenPoint 2 (some .int)]
def wsX3_sharpen : List Cond := .code yX3_sharpen cX3_sharpen 1 (some .int) :: ((wsX3_sharpen_r1 ++ wsX3_sharpen_r2) ++ wsX30 ++ wsX20)
def wsX3_renew_r1 : List Cond := [Cond.classLink RX3 83 "java/lang/IllegalArgumentException", Cond.initialized "java/lang/IllegalArgumentException", Cond.fieldLink RX3 12 "WaxCopies" "now" "LWaxCopies$Wax;", Cond.methodLink RX3 70 yX3_checkCylinder, Cond.instanceMethod yX3_checkCylinder, Cond.selects RX3 yX3_checkCylinder yX3_checkCylinder, Cond.initialized RX3, Cond.code yX3_checkCylinder cX3_checkCylinder 2 none, Cond.classLink RX3 257 "java/lang/IndexOutOfBoundsException", Cond.initialized "java/lang/IndexOutOfBoundsException", Cond.methodLink RX3 52 yX3_saveState, Cond.instanceMethod yX3_saveState, Cond.selects RX3 yX3_saveState yX3_saveState, Cond.code yX3_saveState cX3_saveState 1 none, Cond.fieldLink RX3 27 "WaxCopies" "savedStates" "I", Cond.fieldLink RX3 24 "WaxCopies" "saved" "[LWaxCopies$Wax;", Cond.methodLink RX3 272 yX3_dropOldestState, Cond.instanceMethod yX3_dropOldestState, Cond.selects RX3 yX3_dropOldestState yX3_dropOldestState, Cond.code yX3_dropOldestState cX3_dropOldestState 3 none, Cond.methodLink RX3 130 yX2_takeOver, Cond.instanceMethod yX2_takeOver, Cond.selects RX2 yX2_takeOver yX2_takeOver, Cond.initialized RX2]
def wsX3_renew_r2 : List Cond := [Cond.code yX2_takeOver cX2_takeOver 2 none, Cond.fieldLink RX2 9 "WaxCopies$Wax" "depth" "[I", Cond.methodLink RX2 70 arraycopyName, Cond.native arraycopyName, Cond.static arraycopyName, Cond.initialized "java/lang/System", Cond.fieldLink RX2 15 "WaxCopies$Wax" "clearness" "[I", Cond.fieldLink RX2 18 "WaxCopies$Wax" "flutter" "[I", Cond.fieldLink RX2 21 "WaxCopies$Wax" "generation" "[I", Cond.fieldLink RX2 24 "WaxCopies$Wax" "mother" "[I", Cond.fieldLink RX2 27 "WaxCopies$Wax" "clearnessAsCut" "[I", Cond.fieldLink RX2 30 "WaxCopies$Wax" "plays" "[I", Cond.fieldLink RX2 33 "WaxCopies$Wax" "layers" "[I", Cond.fieldLink RX2 36 "WaxCopies$Wax" "shavings" "[I", Cond.fieldLink RX2 39 "WaxCopies$Wax" "sharpness" "I", Cond.fieldLink RX2 43 "WaxCopies$Wax" "spring" "I", Cond.fieldLink RX2 46 "WaxCopies$Wax" "wear" "I", Cond.fieldLink RX2 49 "WaxCopies$Wax" "spoken" "I", Cond.fieldLink RX2 52 "WaxCopies$Wax" "copied" "I", Cond.fieldLink RX2 55 "WaxCopies$Wax" "played" "I", Cond.fieldLink RX2 58 "WaxCopies$Wax" "layersShaved" "I", Cond.fieldLink RX2 61 "WaxCopies$Wax" "layersCome" "I", Cond.fieldLink RX2 64 "WaxCopies$Wax" "layersGone" "I", Cond.fieldLink RX2 67 "WaxCopies$Wax" "refused" "I"]
def wsX3_renew_r3 : List Cond := [Cond.methodLink RX3 90 yX2_renewCylinder, Cond.instanceMethod yX2_renewCylinder, Cond.selects RX2 yX2_renewCylinder yX2_renewCylinder, Cond.code yX2_renewCylinder cX2_renewCylinder 4 (some .int), Cond.methodLink RX2 124 yX2_smoothTracks, Cond.instanceMethod yX2_smoothTracks, Cond.selects RX2 yX2_smoothTracks yX2_smoothTracks, Cond.code yX2_smoothTracks cX2_smoothTracks 4 none]
def wsX3_renew : List Cond := .code yX3_renew cX3_renew 3 (some .int) :: ((wsX3_renew_r1 ++ (wsX3_renew_r2 ++ wsX3_renew_r3)) ++ wsX30 ++ wsX20 ++ (vx_atS RX3 87 "java/lang/IllegalArgumentException" ["java/lang/RuntimeException", "java/lang/Exception"]).filter goodWord ++ (vx_atS RX3 261 "java/lang/IndexOutOfBoundsException" ["java/lang/RuntimeException", "java/lang/Exception"]).filter goodWord)
def wsX3_set_r1 : List Cond := [Cond.classLink RX3 83 "java/lang/IllegalArgumentException", Cond.initialized "java/lang/IllegalArgumentException", Cond.fieldLink RX3 12 "WaxCopies" "now" "LWaxCopies$Wax;", Cond.fieldLink RX3 95 "WaxCopies$Wax" "wear" "I", Cond.methodLink RX3 52 yX3_saveState, Cond.instanceMethod yX3_saveState, Cond.selects RX3 yX3_saveState yX3_saveState, Cond.initialized RX3, Cond.code yX3_saveState cX3_saveState 1 none, Cond.fieldLink RX3 27 "WaxCopies" "savedStates" "I", Cond.fieldLink RX3 24 "WaxCopies" "saved" "[LWaxCopies$Wax;", Cond.methodLink RX3 272 yX3_dropOldestState, Cond.instanceMethod yX3_dropOldestState, Cond.selects RX3 yX3_dropOldestState yX3_dropOldestState, Cond.code yX3_dropOldestState cX3_dropOldestState 3 none, Cond.methodLink RX3 130 yX2_takeOver, Cond.instanceMethod yX2_takeOver, Cond.selects RX2 yX2_takeOver yX2_takeOver, Cond.initialized RX2, Cond.code yX2_takeOver cX2_takeOver 2 none, Cond.fieldLink RX2 9 "WaxCopies$Wax" "depth" "[I", Cond.methodLink RX2 70 arraycopyName, Cond.native arraycopyName, Cond.static arraycopyName]
def wsX3_set_r2 : List Cond := [Cond.initialized "java/lang/System", Cond.fieldLink RX2 15 "WaxCopies$Wax" "clearness" "[I", Cond.fieldLink RX2 18 "WaxCopies$Wax" "flutter" "[I", Cond.fieldLink RX2 21 "WaxCopies$Wax" "generation" "[I", Cond.fieldLink RX2 24 "WaxCopies$Wax" "mother" "[I", Cond.fieldLink RX2 27 "WaxCopies$Wax" "clearnessAsCut" "[I", Cond.fieldLink RX2 30 "WaxCopies$Wax" "plays" "[I", Cond.fieldLink RX2 33 "WaxCopies$Wax" "layers" "[I", Cond.fieldLink RX2 36 "WaxCopies$Wax" "shavings" "[I", Cond.fieldLink RX2 39 "WaxCopies$Wax" "sharpness" "I", Cond.fieldLink RX2 43 "WaxCopies$Wax" "spring" "I", Cond.fieldLink RX2 46 "WaxCopies$Wax" "wear" "I", Cond.fieldLink RX2 49 "WaxCopies$Wax" "spoken" "I", Cond.fieldLink RX2 52 "WaxCopies$Wax" "copied" "I", Cond.fieldLink RX2 55 "WaxCopies$Wax" "played" "I", Cond.fieldLink RX2 58 "WaxCopies$Wax" "layersShaved" "I", Cond.fieldLink RX2 61 "WaxCopies$Wax" "layersCome" "I", Cond.fieldLink RX2 64 "WaxCopies$Wax" "layersGone" "I", Cond.fieldLink RX2 67 "WaxCopies$Wax" "refused" "I"]
def wsX3_set : List Cond := .code yX3_set cX3_set 3 (some .int) :: ((wsX3_set_r1 ++ wsX3_set_r2) ++ wsX30 ++ wsX20 ++ (vx_atS RX3 87 "java/lang/IllegalArgumentException" ["java/lang/RuntimeException", "java/lang/Exception"]).filter goodWord)
def wsX3_undo_r1 : List Cond := [Cond.classLink RX3 104 "java/lang/IllegalStateException", Cond.initialized "java/lang/IllegalStateException", Cond.fieldLink RX3 27 "WaxCopies" "savedStates" "I", Cond.fieldLink RX3 12 "WaxCopies" "now" "LWaxCopies$Wax;", Cond.fieldLink RX3 24 "WaxCopies" "saved" "[LWaxCopies$Wax;", Cond.methodLink RX3 130 yX2_takeOver, Cond.instanceMethod yX2_takeOver, Cond.selects RX2 yX2_takeOver yX2_takeOver, Cond.initialized RX2, Cond.code yX2_takeOver cX2_takeOver 2 none, Cond.fieldLink RX2 9 "WaxCopies$Wax" "depth" "[I", Cond.methodLink RX2 70 arraycopyName, Cond.native arraycopyName, Cond.static arraycopyName, Cond.initialized "java/lang/System", Cond.fieldLink RX2 15 "WaxCopies$Wax" "clearness" "[I", Cond.fieldLink RX2 18 "WaxCopies$Wax" "flutter" "[I", Cond.fieldLink RX2 21 "WaxCopies$Wax" "generation" "[I", Cond.fieldLink RX2 24 "WaxCopies$Wax" "mother" "[I", Cond.fieldLink RX2 27 "WaxCopies$Wax" "clearnessAsCut" "[I", Cond.fieldLink RX2 30 "WaxCopies$Wax" "plays" "[I", Cond.fieldLink RX2 33 "WaxCopies$Wax" "layers" "[I", Cond.fieldLink RX2 36 "WaxCopies$Wax" "shavings" "[I", Cond.fieldLink RX2 39 "WaxCopies$Wax" "sharpness" "I"]
def wsX3_undo_r2 : List Cond := [Cond.fieldLink RX2 43 "WaxCopies$Wax" "spring" "I", Cond.fieldLink RX2 46 "WaxCopies$Wax" "wear" "I", Cond.fieldLink RX2 49 "WaxCopies$Wax" "spoken" "I", Cond.fieldLink RX2 52 "WaxCopies$Wax" "copied" "I", Cond.fieldLink RX2 55 "WaxCopies$Wax" "played" "I", Cond.fieldLink RX2 58 "WaxCopies$Wax" "layersShaved" "I", Cond.fieldLink RX2 61 "WaxCopies$Wax" "layersCome" "I", Cond.fieldLink RX2 64 "WaxCopies$Wax" "layersGone" "I", Cond.fieldLink RX2 67 "WaxCopies$Wax" "refused" "I"]
def wsX3_undo : List Cond := .code yX3_undo cX3_undo 1 (some .int) :: ((wsX3_undo_r1 ++ wsX3_undo_r2) ++ wsX30 ++ wsX20 ++ (vx_atS RX3 108 "java/lang/IllegalStateException" ["java/lang/RuntimeException", "java/lang/Exception"]).filter goodWord)
def wsX3_checkWhat : List Cond := .code yX3_checkWhat cX3_checkWhat 3 none :: ([.classLink RX3 83 "java/lang/IllegalArgumentException", .initialized "java/lang/IllegalArgumentException"] ++ (vx_atS RX3 87 "java/lang/IllegalArgumentException" ["java/lang/RuntimeException", "java/lang/Exception"]).filter goodWord)
def wsX3_trackOf_r1 : List Cond := [Cond.fieldLink RX3 12 "WaxCopies" "now" "LWaxCopies$Wax;", Cond.methodLink RX3 45 yX3_checkTrack, Cond.instanceMethod yX3_checkTrack, Cond.selects RX3 yX3_checkTrack yX3_checkTrack, Cond.initialized RX3, Cond.code yX3_checkTrack cX3_checkTrack 2 none, Cond.classLink RX3 257 "java/lang/IndexOutOfBoundsException", Cond.initialized "java/lang/IndexOutOfBoundsException", Cond.methodLink RX3 141 yX3_checkWhat, Cond.instanceMethod yX3_checkWhat, Cond.selects RX3 yX3_checkWhat yX3_checkWhat, Cond.code yX3_checkWhat cX3_checkWhat 3 none, Cond.classLink RX3 83 "java/lang/IllegalArgumentException", Cond.initialized "java/lang/IllegalArgumentException", Cond.methodLink RX3 145 yX2_trackProperty, Cond.instanceMethod yX2_trackProperty, Cond.selects RX2 yX2_trackProperty yX2_trackProperty, Cond.initialized RX2, Cond.code yX2_trackProperty cX2_trackProperty 3 (some .int), Cond.fieldLink RX2 9 "WaxCopies$Wax" "depth" "[I", Cond.fieldLink RX2 15 "WaxCopies$Wax" "clearness" "[I", Cond.fieldLink RX2 18 "WaxCopies$Wax" "flutter" "[I", Cond.fieldLink RX2 21 "WaxCopies$Wax" "generation" "[I", Cond.fieldLink RX2 24 "WaxCopies$Wax" "mother" "[I"]
def wsX3_trackOf_r2 : List Cond := [Cond.fieldLink RX2 27 "WaxCopies$Wax" "clearnessAsCut" "[I", Cond.fieldLink RX2 30 "WaxCopies$Wax" "plays" "[I", Cond.methodLink RX2 76 yX2_isCut, Cond.instanceMethod yX2_isCut, Cond.selects RX2 yX2_isCut yX2_isCut, Cond.code yX2_isCut cX2_isCut 2 (some .boolean)]
def wsX3_trackOf : List Cond := .code yX3_trackOf cX3_trackOf 3 (some .int) :: ((wsX3_trackOf_r1 ++ wsX3_trackOf_r2) ++ wsX30 ++ wsX20 ++ (vx_atS RX3 261 "java/lang/IndexOutOfBoundsException" ["java/lang/RuntimeException", "java/lang/Exception"]).filter goodWord ++ (vx_atS RX3 87 "java/lang/IllegalArgumentException" ["java/lang/RuntimeException", "java/lang/Exception"]).filter goodWord)
def wsX3_cylinderOf_r1 : List Cond := [Cond.fieldLink RX3 12 "WaxCopies" "now" "LWaxCopies$Wax;", Cond.methodLink RX3 70 yX3_checkCylinder, Cond.instanceMethod yX3_checkCylinder, Cond.selects RX3 yX3_checkCylinder yX3_checkCylinder, Cond.initialized RX3, Cond.code yX3_checkCylinder cX3_checkCylinder 2 none, Cond.classLink RX3 257 "java/lang/IndexOutOfBoundsException", Cond.initialized "java/lang/IndexOutOfBoundsException", Cond.methodLink RX3 141 yX3_checkWhat, Cond.instanceMethod yX3_checkWhat, Cond.selects RX3 yX3_checkWhat yX3_checkWhat, Cond.code yX3_checkWhat cX3_checkWhat 3 none, Cond.classLink RX3 83 "java/lang/IllegalArgumentException", Cond.initialized "java/lang/IllegalArgumentException", Cond.methodLink RX3 148 yX2_cylinderProperty, Cond.instanceMethod yX2_cylinderProperty, Cond.selects RX2 yX2_cylinderProperty yX2_cylinderProperty, Cond.initialized RX2, Cond.code yX2_cylinderProperty cX2_cylinderProperty 3 (some .int), Cond.fieldLink RX2 33 "WaxCopies$Wax" "layers" "[I", Cond.fieldLink RX2 36 "WaxCopies$Wax" "shavings" "[I", Cond.methodLink RX2 128 yX2_cutTracksOn, Cond.instanceMethod yX2_cutTracksOn, Cond.selects RX2 yX2_cutTracksOn yX2_cutTracksOn]
def wsX3_cylinderOf_r2 : List Cond := [Cond.code yX2_cutTracksOn cX2_cutTracksOn 5 (some .int), Cond.methodLink RX2 76 yX2_isCut, Cond.instanceMethod yX2_isCut, Cond.selects RX2 yX2_isCut yX2_isCut, Cond.code yX2_isCut cX2_isCut 2 (some .boolean), Cond.fieldLink RX2 9 "WaxCopies$Wax" "depth" "[I", Cond.methodLink RX2 121 yX2_greatestDepth, Cond.instanceMethod yX2_greatestDepth, Cond.selects RX2 yX2_greatestDepth yX2_greatestDepth, Cond.code yX2_greatestDepth cX2_greatestDepth 5 (some .int), Cond.methodLink RX2 118 Lib.Math.max.name, Cond.static Lib.Math.max.name, Cond.initialized "java/lang/Math", Cond.code Lib.Math.max.name Lib.Math.max.code 2 (some .int), Cond.methodLink RX2 131 yX2_clearestTrackOn, Cond.instanceMethod yX2_clearestTrackOn, Cond.selects RX2 yX2_clearestTrackOn yX2_clearestTrackOn, Cond.code yX2_clearestTrackOn cX2_clearestTrackOn 5 (some .int), Cond.fieldLink RX2 15 "WaxCopies$Wax" "clearness" "[I"]
def wsX3_cylinderOf : List Cond := .code yX3_cylinderOf cX3_cylinderOf 3 (some .int) :: ((wsX3_cylinderOf_r1 ++ wsX3_cylinderOf_r2) ++ wsX30 ++ wsX20 ++ (vx_atS RX3 261 "java/lang/IndexOutOfBoundsException" ["java/lang/RuntimeException", "java/lang/Exception"]).filter goodWord ++ (vx_atS RX3 87 "java/lang/IllegalArgumentException" ["java/lang/RuntimeException", "java/lang/Exception"]).filter goodWord)
def wsX3_count_r1 : List Cond := [Cond.fieldLink RX3 27 "WaxCopies" "savedStates" "I", Cond.fieldLink RX3 12 "WaxCopies" "now" "LWaxCopies$Wax;", Cond.methodLink RX3 141 yX3_checkWhat, Cond.instanceMethod yX3_checkWhat, Cond.selects RX3 yX3_checkWhat yX3_checkWhat, Cond.initialized RX3, Cond.code yX3_checkWhat cX3_checkWhat 3 none, Cond.classLink RX3 83 "java/lang/IllegalArgumentException", Cond.initialized "java/lang/IllegalArgumentException", Cond.methodLink RX3 151 yX2_number, Cond.instanceMethod yX2_number, Cond.selects RX2 yX2_number yX2_number, Cond.initialized RX2, Cond.code yX2_number cX2_number 2 (some .int), Cond.fieldLink RX2 39 "WaxCopies$Wax" "sharpness" "I", Cond.fieldLink RX2 43 "WaxCopies$Wax" "spring" "I", Cond.fieldLink RX2 49 "WaxCopies$Wax" "spoken" "I", Cond.fieldLink RX2 52 "WaxCopies$Wax" "copied" "I", Cond.fieldLink RX2 55 "WaxCopies$Wax" "played" "I", Cond.fieldLink RX2 58 "WaxCopies$Wax" "layersShaved" "I", Cond.fieldLink RX2 61 "WaxCopies$Wax" "layersCome" "I", Cond.fieldLink RX2 64 "WaxCopies$Wax" "layersGone" "I", Cond.fieldLink RX2 67 "WaxCopies$Wax" "refused" "I", Cond.methodLink RX2 88 yX2_machineFlutter]
def wsX3_count_r2 : List Cond := [Cond.instanceMethod yX2_machineFlutter, Cond.selects RX2 yX2_machineFlutter yX2_machineFlutter, Cond.code yX2_machineFlutter cX2_machineFlutter 1 (some .int), Cond.methodLink RX2 134 yX2_cutTracks, Cond.instanceMethod yX2_cutTracks, Cond.selects RX2 yX2_cutTracks yX2_cutTracks, Cond.code yX2_cutTracks cX2_cutTracks 3 (some .int), Cond.methodLink RX2 128 yX2_cutTracksOn, Cond.instanceMethod yX2_cutTracksOn, Cond.selects RX2 yX2_cutTracksOn yX2_cutTracksOn, Cond.code yX2_cutTracksOn cX2_cutTracksOn 5 (some .int), Cond.methodLink RX2 76 yX2_isCut, Cond.instanceMethod yX2_isCut, Cond.selects RX2 yX2_isCut yX2_isCut, Cond.code yX2_isCut cX2_isCut 2 (some .boolean), Cond.fieldLink RX2 9 "WaxCopies$Wax" "depth" "[I", Cond.methodLink RX2 137 yX2_layersTogether, Cond.instanceMethod yX2_layersTogether, Cond.selects RX2 yX2_layersTogether yX2_layersTogether, Cond.code yX2_layersTogether cX2_layersTogether 3 (some .int), Cond.fieldLink RX2 33 "WaxCopies$Wax" "layers" "[I"]
def wsX3_count : List Cond := .code yX3_count cX3_count 2 (some .int) :: ((wsX3_count_r1 ++ wsX3_count_r2) ++ wsX30 ++ wsX20 ++ (vx_atS RX3 87 "java/lang/IllegalArgumentException" ["java/lang/RuntimeException", "java/lang/Exception"]).filter goodWord)
def wsX3_setting : List Cond := .code yX3_setting cX3_setting 1 (some .int) :: ([.fieldLink RX3 12 "WaxCopies" "now" "LWaxCopies$Wax;", .fieldLink RX3 95 "WaxCopies$Wax" "wear" "I"] ++ wsX30 ++ wsX20)
def wsX3_whyNot_r1 : List Cond := [Cond.fieldLink RX3 12 "WaxCopies" "now" "LWaxCopies$Wax;", Cond.methodLink RX3 45 yX3_checkTrack, Cond.instanceMethod yX3_checkTrack, Cond.selects RX3 yX3_checkTrack yX3_checkTrack, Cond.initialized RX3, Cond.code yX3_checkTrack cX3_checkTrack 2 none, Cond.classLink RX3 257 "java/lang/IndexOutOfBoundsException", Cond.initialized "java/lang/IndexOutOfBoundsException", Cond.methodLink RX3 49 yX3_checkLoudness, Cond.instanceMethod yX3_checkLoudness, Cond.selects RX3 yX3_checkLoudness yX3_checkLoudness, Cond.code yX3_checkLoudness cX3_checkLoudness 2 none, Cond.classLink RX3 83 "java/lang/IllegalArgumentException", Cond.initialized "java/lang/IllegalArgumentException", Cond.methodLink RX3 154 yX2_reasonNotToSpeak, Cond.instanceMethod yX2_reasonNotToSpeak, Cond.selects RX2 yX2_reasonNotToSpeak yX2_reasonNotToSpeak, Cond.initialized RX2, Cond.code yX2_reasonNotToSpeak cX2_reasonNotToSpeak 3 (some .int), Cond.fieldLink RX2 33 "WaxCopies$Wax" "layers" "[I", Cond.fieldLink RX2 43 "WaxCopies$Wax" "spring" "I", Cond.methodLink RX2 76 yX2_isCut, Cond.instanceMethod yX2_isCut, Cond.selects RX2 yX2_isCut yX2_isCut]
def wsX3_whyNot_r2 : List Cond := [Cond.code yX2_isCut cX2_isCut 2 (some .boolean), Cond.fieldLink RX2 9 "WaxCopies$Wax" "depth" "[I"]
def wsX3_whyNot : List Cond := .code yX3_whyNot cX3_whyNot 3 (some .int) :: ((wsX3_whyNot_r1 ++ wsX3_whyNot_r2) ++ wsX30 ++ wsX20 ++ (vx_atS RX3 261 "java/lang/IndexOutOfBoundsException" ["java/lang/RuntimeException", "java/lang/Exception"]).filter goodWord ++ (vx_atS RX3 87 "java/lang/IllegalArgumentException" ["java/lang/RuntimeException", "java/lang/Exception"]).filter goodWord)
def wsX3_ifCopied_r1 : List Cond := [Cond.fieldLink RX3 12 "WaxCopies" "now" "LWaxCopies$Wax;", Cond.methodLink RX3 45 yX3_checkTrack, Cond.instanceMethod yX3_checkTrack, Cond.selects RX3 yX3_checkTrack yX3_checkTrack, Cond.initialized RX3, Cond.code yX3_checkTrack cX3_checkTrack 2 none, Cond.classLink RX3 257 "java/lang/IndexOutOfBoundsException", Cond.initialized "java/lang/IndexOutOfBoundsException", Cond.methodLink RX3 59 yX3_checkLever, Cond.instanceMethod yX3_checkLever, Cond.selects RX3 yX3_checkLever yX3_checkLever, Cond.code yX3_checkLever cX3_checkLever 2 none, Cond.classLink RX3 83 "java/lang/IllegalArgumentException", Cond.initialized "java/lang/IllegalArgumentException", Cond.methodLink RX3 157 yX2_reasonNotToCopy, Cond.instanceMethod yX2_reasonNotToCopy, Cond.selects RX2 yX2_reasonNotToCopy yX2_reasonNotToCopy, Cond.initialized RX2, Cond.code yX2_reasonNotToCopy cX2_reasonNotToCopy 4 (some .int), Cond.fieldLink RX2 33 "WaxCopies$Wax" "layers" "[I", Cond.fieldLink RX2 9 "WaxCopies$Wax" "depth" "[I", Cond.fieldLink RX2 43 "WaxCopies$Wax" "spring" "I", Cond.methodLink RX2 76 yX2_isCut, Cond.instanceMethod yX2_isCut]
def wsX3_ifCopied_r2 : List Cond := [Cond.selects RX2 yX2_isCut yX2_isCut, Cond.code yX2_isCut cX2_isCut 2 (some .boolean), Cond.static yX3_copiedDepth, Cond.code yX3_copiedDepth cX3_copiedDepth 2 (some .int), Cond.methodLink RX3 290 Lib.Math.max.name, Cond.static Lib.Math.max.name, Cond.initialized "java/lang/Math", Cond.code Lib.Math.max.name Lib.Math.max.code 2 (some .int), Cond.methodLink RX3 295 Lib.Math.min.name, Cond.static Lib.Math.min.name, Cond.code Lib.Math.min.name Lib.Math.min.code 2 (some .int), Cond.methodLink RX3 160 yX2_clearnessIfCopied, Cond.instanceMethod yX2_clearnessIfCopied, Cond.selects RX2 yX2_clearnessIfCopied yX2_clearnessIfCopied, Cond.code yX2_clearnessIfCopied cX2_clearnessIfCopied 3 (some .int), Cond.fieldLink RX2 15 "WaxCopies$Wax" "clearness" "[I", Cond.fieldLink RX2 39 "WaxCopies$Wax" "sharpness" "I", Cond.methodLink RX2 88 yX2_machineFlutter, Cond.instanceMethod yX2_machineFlutter, Cond.selects RX2 yX2_machineFlutter yX2_machineFlutter, Cond.code yX2_machineFlutter cX2_machineFlutter 1 (some .int), Cond.static yX3_copiedClearness, Cond.code yX3_copiedClearness cX3_copiedClearness 4 (some .int), Cond.methodLink RX3 298 yX3_bluntness]
def wsX3_ifCopied_r3 : List Cond := [Cond.static yX3_bluntness, Cond.code yX3_bluntness cX3_bluntness 1 (some .int)]
def wsX3_ifCopied : List Cond := .code yX3_ifCopied cX3_ifCopied 5 (some .int) :: ((wsX3_ifCopied_r1 ++ (wsX3_ifCopied_r2 ++ wsX3_ifCopied_r3)) ++ wsX30 ++ wsX20 ++ (vx_atS RX3 261 "java/lang/IndexOutOfBoundsException" ["java/lang/RuntimeException", "java/lang/Exception"]).filter goodWord ++ (vx_atS RX3 87 "java/lang/IllegalArgumentException" ["java/lang/RuntimeException", "java/lang/Exception"]).filter goodWord)
def wsX3_clearestOfAllLevers : List Cond := .code yX3_clearestOfAllLevers cX3_clearestOfAllLevers 8 (some .int) :: ([.methodLink RX3 290 Lib.Math.max.name, .static Lib.Math.max.name, .initialized "java/lang/Math", .code Lib.Math.max.name Lib.Math.max.code 2 (some .int), .methodLink RX3 301 yX3_copiedDepth, .static yX3_copiedDepth, .initialized RX3, .code yX3_copiedDepth cX3_copiedDepth 2 (some .int), .methodLink RX3 295 Lib.Math.min.name, .static Lib.Math.min.name, .code Lib.Math.min.name Lib.Math.min.code 2 (some .int), .methodLink RX3 304 yX3_copiedClearness, .static yX3_copiedClearness, .code yX3_copiedClearness cX3_copiedClearness 4 (some .int), .methodLink RX3 298 yX3_bluntness, .static yX3_bluntness, .code yX3_bluntness cX3_bluntness 1 (some .int), .methodLink RX3 307 yX3_sharpnessAfter, .static yX3_sharpnessAfter, .code yX3_sharpnessAfter cX3_sharpnessAfter 2 (some .int), .methodLink RX3 183 yX3_clearestOfAllLevers, .static yX3_clearestOfAllLevers])
def wsX3_chain_r1 : List Cond := [Cond.classLink RX3 83 "java/lang/IllegalArgumentException", Cond.initialized "java/lang/IllegalArgumentException", Cond.fieldLink RX3 12 "WaxCopies" "now" "LWaxCopies$Wax;", Cond.fieldLink RX3 169 "WaxCopies$Wax" "depth" "[I", Cond.fieldLink RX3 173 "WaxCopies$Wax" "clearness" "[I", Cond.fieldLink RX3 41 "WaxCopies" "steps" "LWaxCopies$Steps;", Cond.fieldLink RX3 176 "WaxCopies$Wax" "sharpness" "I", Cond.methodLink RX3 45 yX3_checkTrack, Cond.instanceMethod yX3_checkTrack, Cond.selects RX3 yX3_checkTrack yX3_checkTrack, Cond.initialized RX3, Cond.code yX3_checkTrack cX3_checkTrack 2 none, Cond.classLink RX3 257 "java/lang/IndexOutOfBoundsException", Cond.initialized "java/lang/IndexOutOfBoundsException", Cond.methodLink RX3 141 yX3_checkWhat, Cond.instanceMethod yX3_checkWhat, Cond.selects RX3 yX3_checkWhat yX3_checkWhat, Cond.code yX3_checkWhat cX3_checkWhat 3 none, Cond.methodLink RX3 165 yX2_isCut, Cond.instanceMethod yX2_isCut, Cond.selects RX2 yX2_isCut yX2_isCut, Cond.initialized RX2, Cond.code yX2_isCut cX2_isCut 2 (some .boolean), Cond.fieldLink RX2 9 "WaxCopies$Wax" "depth" "[I"]
def wsX3_chain_r2 : List Cond := [Cond.methodLink RX3 179 yX1_clearestAfter, Cond.instanceMethod yX1_clearestAfter, Cond.selects RX1 yX1_clearestAfter yX1_clearestAfter, Cond.initialized RX1, Cond.code yX1_clearestAfter cX1_clearestAfter 9 (some .int), Cond.fieldLink RX1 11 "WaxCopies$Steps" "best" "[[I", Cond.fieldLink RX1 16 "WaxCopies$Steps" "next" "[[I", Cond.methodLink RX1 19 yX1_forget, Cond.static yX1_forget, Cond.code yX1_forget cX1_forget 5 none, Cond.static yX3_sharpnessAfter, Cond.code yX3_sharpnessAfter cX3_sharpnessAfter 2 (some .int), Cond.methodLink RX3 290 Lib.Math.max.name, Cond.static Lib.Math.max.name, Cond.initialized "java/lang/Math", Cond.code Lib.Math.max.name Lib.Math.max.code 2 (some .int), Cond.methodLink RX1 27 yX1_stepOn, Cond.instanceMethod yX1_stepOn, Cond.selects RX1 yX1_stepOn yX1_stepOn, Cond.code yX1_stepOn cX1_stepOn 10 none, Cond.methodLink RX1 41 Lib.Math.max.name, Cond.static yX3_copiedDepth, Cond.code yX3_copiedDepth cX3_copiedDepth 2 (some .int), Cond.methodLink RX3 295 Lib.Math.min.name]
def wsX3_chain_r3 : List Cond := [Cond.static Lib.Math.min.name, Cond.code Lib.Math.min.name Lib.Math.min.code 2 (some .int), Cond.static yX3_copiedClearness, Cond.code yX3_copiedClearness cX3_copiedClearness 4 (some .int), Cond.methodLink RX3 298 yX3_bluntness, Cond.static yX3_bluntness, Cond.code yX3_bluntness cX3_bluntness 1 (some .int), Cond.methodLink RX1 31 yX1_clearestOf, Cond.instanceMethod yX1_clearestOf, Cond.selects RX1 yX1_clearestOf yX1_clearestOf, Cond.code yX1_clearestOf cX1_clearestOf 6 (some .int), Cond.methodLink RX3 183 yX3_clearestOfAllLevers, Cond.static yX3_clearestOfAllLevers, Cond.code yX3_clearestOfAllLevers cX3_clearestOfAllLevers 8 (some .int), Cond.methodLink RX3 301 yX3_copiedDepth, Cond.methodLink RX3 304 yX3_copiedClearness, Cond.methodLink RX3 307 yX3_sharpnessAfter]
def wsX3_chain : List Cond := .code yX3_chain cX3_chain 6 (some .int) :: ((wsX3_chain_r1 ++ (wsX3_chain_r2 ++ wsX3_chain_r3)) ++ wsX30 ++ wsX20 ++ wsX10 ++ (vx_atS RX3 87 "java/lang/IllegalArgumentException" ["java/lang/RuntimeException", "java/lang/Exception"]).filter goodWord ++ (vx_atS RX3 261 "java/lang/IndexOutOfBoundsException" ["java/lang/RuntimeException", "java/lang/Exception"]).filter goodWord)
def wsX3_clearest : List Cond := .code yX3_clearest cX3_clearest 1 (some .int) :: ([.fieldLink RX3 12 "WaxCopies" "now" "LWaxCopies$Wax;", .methodLink RX3 186 yX2_clearestTrack, .instanceMethod yX2_clearestTrack, .selects RX2 yX2_clearestTrack yX2_clearestTrack, .initialized RX2, .code yX2_clearestTrack cX2_clearestTrack 3 (some .int), .methodLink RX2 76 yX2_isCut, .instanceMethod yX2_isCut, .selects RX2 yX2_isCut yX2_isCut, .code yX2_isCut cX2_isCut 2 (some .boolean), .fieldLink RX2 9 "WaxCopies$Wax" "depth" "[I", .methodLink RX2 140 yX2_soundsBetter, .instanceMethod yX2_soundsBetter, .selects RX2 yX2_soundsBetter yX2_soundsBetter, .code yX2_soundsBetter cX2_soundsBetter 3 (some .boolean), .fieldLink RX2 15 "WaxCopies$Wax" "clearness" "[I", .fieldLink RX2 18 "WaxCopies$Wax" "flutter" "[I"] ++ wsX30 ++ wsX20)
def wsX3_daughters : List Cond := .code yX3_daughters cX3_daughters 2 (some .int) :: ([.fieldLink RX3 12 "WaxCopies" "now" "LWaxCopies$Wax;", .methodLink RX3 45 yX3_checkTrack, .instanceMethod yX3_checkTrack, .selects RX3 yX3_checkTrack yX3_checkTrack, .initialized RX3, .code yX3_checkTrack cX3_checkTrack 2 none, .classLink RX3 257 "java/lang/IndexOutOfBoundsException", .initialized "java/lang/IndexOutOfBoundsException", .methodLink RX3 189 yX2_descendants, .instanceMethod yX2_descendants, .selects RX2 yX2_descendants yX2_descendants, .initialized RX2, .code yX2_descendants cX2_descendants 4 (some .int), .methodLink RX2 144 yX2_comesFrom, .instanceMethod yX2_comesFrom, .selects RX2 yX2_comesFrom yX2_comesFrom, .code yX2_comesFrom cX2_comesFrom 5 (some .boolean), .fieldLink RX2 24 "WaxCopies$Wax" "mother" "[I"] ++ wsX30 ++ wsX20 ++ (vx_atS RX3 261 "java/lang/IndexOutOfBoundsException" ["java/lang/RuntimeException", "java/lang/Exception"]).filter goodWord)
def wsX3_meanDepth : List Cond := .code yX3_meanDepth cX3_meanDepth 2 (some .float) :: ([.fieldLink RX3 12 "WaxCopies" "now" "LWaxCopies$Wax;", .methodLink RX3 134 yX2_cutTracks, .instanceMethod yX2_cutTracks, .selects RX2 yX2_cutTracks yX2_cutTracks, .initialized RX2, .code yX2_cutTracks cX2_cutTracks 3 (some .int), .methodLink RX2 128 yX2_cutTracksOn, .instanceMethod yX2_cutTracksOn, .selects RX2 yX2_cutTracksOn yX2_cutTracksOn, .code yX2_cutTracksOn cX2_cutTracksOn 5 (some .int), .methodLink RX2 76 yX2_isCut, .instanceMethod yX2_isCut, .selects RX2 yX2_isCut yX2_isCut, .code yX2_isCut cX2_isCut 2 (some .boolean), .fieldLink RX2 9 "WaxCopies$Wax" "depth" "[I", .methodLink RX3 192 yX2_depthTogether, .instanceMethod yX2_depthTogether, .selects RX2 yX2_depthTogether yX2_depthTogether, .code yX2_depthTogether cX2_depthTogether 3 (some .int)] ++ wsX30 ++ wsX20)
def wsX3_clearShare : List Cond := .code yX3_clearShare cX3_clearShare 2 (some .double) :: ([.fieldLink RX3 12 "WaxCopies" "now" "LWaxCopies$Wax;", .methodLink RX3 134 yX2_cutTracks, .instanceMethod yX2_cutTracks, .selects RX2 yX2_cutTracks yX2_cutTracks, .initialized RX2, .code yX2_cutTracks cX2_cutTracks 3 (some .int), .methodLink RX2 128 yX2_cutTracksOn, .instanceMethod yX2_cutTracksOn, .selects RX2 yX2_cutTracksOn yX2_cutTracksOn, .code yX2_cutTracksOn cX2_cutTracksOn 5 (some .int), .methodLink RX2 76 yX2_isCut, .instanceMethod yX2_isCut, .selects RX2 yX2_isCut yX2_isCut, .code yX2_isCut cX2_isCut 2 (some .boolean), .fieldLink RX2 9 "WaxCopies$Wax" "depth" "[I", .methodLink RX3 195 yX2_clearnessTogether, .instanceMethod yX2_clearnessTogether, .selects RX2 yX2_clearnessTogether yX2_clearnessTogether, .code yX2_clearnessTogether cX2_clearnessTogether 3 (some .int), .fieldLink RX2 15 "WaxCopies$Wax" "clearness" "[I"] ++ wsX30 ++ wsX20)
def wsJ9_max_7cf53 : List Cond := .code yJ9_max_7cf53 cJ9_max_7cf53 2 (some .int) :: ([])
def wsJ9_min_7cf53 : List Cond := .code yJ9_min_7cf53 cJ9_min_7cf53 2 (some .int) :: ([])
def wsL_at : List Cond := .code yL_at cL_at 2 (some .int) :: ([.constant RL 7 (1030720407), .constant RL 8 (457006961)])
def wsL_low : List Cond := .code yL_low cL_low 2 (some .int) :: ([.constant RL 9 (2147483647)])
def wsL_speak_r1 : List Cond := [Cond.classLink RL 16 "java/lang/IndexOutOfBoundsException", Cond.classLink RL 19 "java/lang/IllegalArgumentException", Cond.constant RL 18 (-1000001), Cond.constant RL 21 (-1000002), Cond.methodLink RL 10 yX3_speak, Cond.instanceMethod yX3_speak, Cond.selects RX3 yX3_speak yX3_speak, Cond.initialized RX3, Cond.code yX3_speak cX3_speak 3 (some .int), Cond.fieldLink RX3 12 "WaxCopies" "now" "LWaxCopies$Wax;", Cond.methodLink RX3 45 yX3_checkTrack, Cond.instanceMethod yX3_checkTrack, Cond.selects RX3 yX3_checkTrack yX3_checkTrack, Cond.code yX3_checkTrack cX3_checkTrack 2 none, Cond.classLink RX3 257 "java/lang/IndexOutOfBoundsException", Cond.initialized "java/lang/IndexOutOfBoundsException", Cond.methodLink RX3 49 yX3_checkLoudness, Cond.instanceMethod yX3_checkLoudness, Cond.selects RX3 yX3_checkLoudness yX3_checkLoudness, Cond.code yX3_checkLoudness cX3_checkLoudness 2 none, Cond.classLink RX3 83 "java/lang/IllegalArgumentException", Cond.initialized "java/lang/IllegalArgumentException", Cond.methodLink RX3 52 yX3_saveState, Cond.instanceMethod yX3_saveState]
def wsL_speak_r2 : List Cond := [Cond.selects RX3 yX3_saveState yX3_saveState, Cond.code yX3_saveState cX3_saveState 1 none, Cond.fieldLink RX3 27 "WaxCopies" "savedStates" "I", Cond.fieldLink RX3 24 "WaxCopies" "saved" "[LWaxCopies$Wax;", Cond.methodLink RX3 272 yX3_dropOldestState, Cond.instanceMethod yX3_dropOldestState, Cond.selects RX3 yX3_dropOldestState yX3_dropOldestState, Cond.code yX3_dropOldestState cX3_dropOldestState 3 none, Cond.methodLink RX3 130 yX2_takeOver, Cond.instanceMethod yX2_takeOver, Cond.selects RX2 yX2_takeOver yX2_takeOver, Cond.initialized RX2, Cond.code yX2_takeOver cX2_takeOver 2 none, Cond.fieldLink RX2 9 "WaxCopies$Wax" "depth" "[I", Cond.methodLink RX2 70 arraycopyName, Cond.native arraycopyName, Cond.static arraycopyName, Cond.initialized "java/lang/System", Cond.fieldLink RX2 15 "WaxCopies$Wax" "clearness" "[I", Cond.fieldLink RX2 18 "WaxCopies$Wax" "flutter" "[I", Cond.fieldLink RX2 21 "WaxCopies$Wax" "generation" "[I", Cond.fieldLink RX2 24 "WaxCopies$Wax" "mother" "[I", Cond.fieldLink RX2 27 "WaxCopies$Wax" "clearnessAsCut" "[I", Cond.fieldLink RX2 30 "WaxCopies$Wax" "plays" "[I"]
def wsL_speak_r3 : List Cond := [Cond.fieldLink RX2 33 "WaxCopies$Wax" "layers" "[I", Cond.fieldLink RX2 36 "WaxCopies$Wax" "shavings" "[I", Cond.fieldLink RX2 39 "WaxCopies$Wax" "sharpness" "I", Cond.fieldLink RX2 43 "WaxCopies$Wax" "spring" "I", Cond.fieldLink RX2 46 "WaxCopies$Wax" "wear" "I", Cond.fieldLink RX2 49 "WaxCopies$Wax" "spoken" "I", Cond.fieldLink RX2 52 "WaxCopies$Wax" "copied" "I", Cond.fieldLink RX2 55 "WaxCopies$Wax" "played" "I", Cond.fieldLink RX2 58 "WaxCopies$Wax" "layersShaved" "I", Cond.fieldLink RX2 61 "WaxCopies$Wax" "layersCome" "I", Cond.fieldLink RX2 64 "WaxCopies$Wax" "layersGone" "I", Cond.fieldLink RX2 67 "WaxCopies$Wax" "refused" "I", Cond.methodLink RX3 55 yX2_speakOnto, Cond.instanceMethod yX2_speakOnto, Cond.selects RX2 yX2_speakOnto yX2_speakOnto, Cond.code yX2_speakOnto cX2_speakOnto 4 (some .int), Cond.methodLink RX2 80 yX2_reasonNotToSpeak, Cond.instanceMethod yX2_reasonNotToSpeak, Cond.selects RX2 yX2_reasonNotToSpeak yX2_reasonNotToSpeak, Cond.code yX2_reasonNotToSpeak cX2_reasonNotToSpeak 3 (some .int), Cond.methodLink RX2 76 yX2_isCut, Cond.instanceMethod yX2_isCut, Cond.selects RX2 yX2_isCut yX2_isCut, Cond.code yX2_isCut cX2_isCut 2 (some .boolean)]
def wsL_speak_r4 : List Cond := [Cond.static yX3_bluntness, Cond.code yX3_bluntness cX3_bluntness 1 (some .int), Cond.methodLink RX2 88 yX2_machineFlutter, Cond.instanceMethod yX2_machineFlutter, Cond.selects RX2 yX2_machineFlutter yX2_machineFlutter, Cond.code yX2_machineFlutter cX2_machineFlutter 1 (some .int), Cond.methodLink RX2 92 yX2_cut, Cond.instanceMethod yX2_cut, Cond.selects RX2 yX2_cut yX2_cut, Cond.code yX2_cut cX2_cut 5 none, Cond.static yX3_sharpnessAfter, Cond.code yX3_sharpnessAfter cX3_sharpnessAfter 2 (some .int), Cond.methodLink RX3 290 Lib.Math.max.name, Cond.static Lib.Math.max.name, Cond.initialized "java/lang/Math", Cond.code Lib.Math.max.name Lib.Math.max.code 2 (some .int)]
def wsL_speak : List Cond := .codeWith yL_speak cL_speak 4 (some .int) [(0, 6, 7, 16), (0, 6, 11, 19)] :: ((wsL_speak_r1 ++ (wsL_speak_r2 ++ (wsL_speak_r3 ++ wsL_speak_r4))) ++ wsX30 ++ wsX20 ++ (vx_atS RX3 261 "java/lang/IndexOutOfBoundsException" ["java/lang/RuntimeException", "java/lang/Exception"]).filter goodWord ++ (vx_atS RX3 87 "java/lang/IllegalArgumentException" ["java/lang/RuntimeException", "java/lang/Exception"]).filter goodWord)
def wsL_copy_r1 : List Cond := [Cond.classLink RL 16 "java/lang/IndexOutOfBoundsException", Cond.classLink RL 19 "java/lang/IllegalArgumentException", Cond.constant RL 18 (-1000001), Cond.constant RL 21 (-1000002), Cond.methodLink RL 22 yX3_copy, Cond.instanceMethod yX3_copy, Cond.selects RX3 yX3_copy yX3_copy, Cond.initialized RX3, Cond.code yX3_copy cX3_copy 4 (some .int), Cond.fieldLink RX3 12 "WaxCopies" "now" "LWaxCopies$Wax;", Cond.methodLink RX3 45 yX3_checkTrack, Cond.instanceMethod yX3_checkTrack, Cond.selects RX3 yX3_checkTrack yX3_checkTrack, Cond.code yX3_checkTrack cX3_checkTrack 2 none, Cond.classLink RX3 257 "java/lang/IndexOutOfBoundsException", Cond.initialized "java/lang/IndexOutOfBoundsException", Cond.methodLink RX3 59 yX3_checkLever, Cond.instanceMethod yX3_checkLever, Cond.selects RX3 yX3_checkLever yX3_checkLever, Cond.code yX3_checkLever cX3_checkLever 2 none, Cond.classLink RX3 83 "java/lang/IllegalArgumentException", Cond.initialized "java/lang/IllegalArgumentException", Cond.methodLink RX3 52 yX3_saveState, Cond.instanceMethod yX3_saveState]
def wsL_copy_r2 : List Cond := [Cond.selects RX3 yX3_saveState yX3_saveState, Cond.code yX3_saveState cX3_saveState 1 none, Cond.fieldLink RX3 27 "WaxCopies" "savedStates" "I", Cond.fieldLink RX3 24 "WaxCopies" "saved" "[LWaxCopies$Wax;", Cond.methodLink RX3 272 yX3_dropOldestState, Cond.instanceMethod yX3_dropOldestState, Cond.selects RX3 yX3_dropOldestState yX3_dropOldestState, Cond.code yX3_dropOldestState cX3_dropOldestState 3 none, Cond.methodLink RX3 130 yX2_takeOver, Cond.instanceMethod yX2_takeOver, Cond.selects RX2 yX2_takeOver yX2_takeOver, Cond.initialized RX2, Cond.code yX2_takeOver cX2_takeOver 2 none, Cond.fieldLink RX2 9 "WaxCopies$Wax" "depth" "[I", Cond.methodLink RX2 70 arraycopyName, Cond.native arraycopyName, Cond.static arraycopyName, Cond.initialized "java/lang/System", Cond.fieldLink RX2 15 "WaxCopies$Wax" "clearness" "[I", Cond.fieldLink RX2 18 "WaxCopies$Wax" "flutter" "[I", Cond.fieldLink RX2 21 "WaxCopies$Wax" "generation" "[I", Cond.fieldLink RX2 24 "WaxCopies$Wax" "mother" "[I", Cond.fieldLink RX2 27 "WaxCopies$Wax" "clearnessAsCut" "[I", Cond.fieldLink RX2 30 "WaxCopies$Wax" "plays" "[I"]
def wsL_copy_r3 : List Cond := [Cond.fieldLink RX2 33 "WaxCopies$Wax" "layers" "[I", Cond.fieldLink RX2 36 "WaxCopies$Wax" "shavings" "[I", Cond.fieldLink RX2 39 "WaxCopies$Wax" "sharpness" "I", Cond.fieldLink RX2 43 "WaxCopies$Wax" "spring" "I", Cond.fieldLink RX2 46 "WaxCopies$Wax" "wear" "I", Cond.fieldLink RX2 49 "WaxCopies$Wax" "spoken" "I", Cond.fieldLink RX2 52 "WaxCopies$Wax" "copied" "I", Cond.fieldLink RX2 55 "WaxCopies$Wax" "played" "I", Cond.fieldLink RX2 58 "WaxCopies$Wax" "layersShaved" "I", Cond.fieldLink RX2 61 "WaxCopies$Wax" "layersCome" "I", Cond.fieldLink RX2 64 "WaxCopies$Wax" "layersGone" "I", Cond.fieldLink RX2 67 "WaxCopies$Wax" "refused" "I", Cond.methodLink RX3 62 yX2_copyOnto, Cond.instanceMethod yX2_copyOnto, Cond.selects RX2 yX2_copyOnto yX2_copyOnto, Cond.code yX2_copyOnto cX2_copyOnto 6 (some .int), Cond.methodLink RX2 107 Lib.Math.min.name, Cond.static Lib.Math.min.name, Cond.initialized "java/lang/Math", Cond.code Lib.Math.min.name Lib.Math.min.code 2 (some .int), Cond.methodLink RX2 103 yX2_reasonNotToCopy, Cond.instanceMethod yX2_reasonNotToCopy, Cond.selects RX2 yX2_reasonNotToCopy yX2_reasonNotToCopy, Cond.code yX2_reasonNotToCopy cX2_reasonNotToCopy 4 (some .int)]
def wsL_copy_r4 : List Cond := [Cond.methodLink RX2 76 yX2_isCut, Cond.instanceMethod yX2_isCut, Cond.selects RX2 yX2_isCut yX2_isCut, Cond.code yX2_isCut cX2_isCut 2 (some .boolean), Cond.static yX3_copiedDepth, Cond.code yX3_copiedDepth cX3_copiedDepth 2 (some .int), Cond.methodLink RX3 290 Lib.Math.max.name, Cond.static Lib.Math.max.name, Cond.code Lib.Math.max.name Lib.Math.max.code 2 (some .int), Cond.methodLink RX3 295 Lib.Math.min.name, Cond.methodLink RX2 88 yX2_machineFlutter, Cond.instanceMethod yX2_machineFlutter, Cond.selects RX2 yX2_machineFlutter yX2_machineFlutter, Cond.code yX2_machineFlutter cX2_machineFlutter 1 (some .int), Cond.methodLink RX2 112 yX2_clearnessIfCopied, Cond.instanceMethod yX2_clearnessIfCopied, Cond.selects RX2 yX2_clearnessIfCopied yX2_clearnessIfCopied, Cond.code yX2_clearnessIfCopied cX2_clearnessIfCopied 3 (some .int), Cond.static yX3_copiedClearness, Cond.code yX3_copiedClearness cX3_copiedClearness 4 (some .int), Cond.methodLink RX3 298 yX3_bluntness, Cond.static yX3_bluntness, Cond.code yX3_bluntness cX3_bluntness 1 (some .int), Cond.methodLink RX2 92 yX2_cut]
def wsL_copy_r5 : List Cond := [Cond.instanceMethod yX2_cut, Cond.selects RX2 yX2_cut yX2_cut, Cond.code yX2_cut cX2_cut 5 none, Cond.static yX3_sharpnessAfter, Cond.code yX3_sharpnessAfter cX3_sharpnessAfter 2 (some .int)]
def wsL_copy : List Cond := .codeWith yL_copy cL_copy 5 (some .int) [(0, 7, 8, 16), (0, 7, 13, 19)] :: ((wsL_copy_r1 ++ (wsL_copy_r2 ++ (wsL_copy_r3 ++ (wsL_copy_r4 ++ wsL_copy_r5)))) ++ wsX30 ++ wsX20 ++ (vx_atS RX3 261 "java/lang/IndexOutOfBoundsException" ["java/lang/RuntimeException", "java/lang/Exception"]).filter goodWord ++ (vx_atS RX3 87 "java/lang/IllegalArgumentException" ["java/lang/RuntimeException", "java/lang/Exception"]).filter goodWord)
def wsL_play_r1 : List Cond := [Cond.classLink RL 16 "java/lang/IndexOutOfBoundsException", Cond.constant RL 18 (-1000001), Cond.methodLink RL 26 yX3_play, Cond.instanceMethod yX3_play, Cond.selects RX3 yX3_play yX3_play, Cond.initialized RX3, Cond.code yX3_play cX3_play 2 (some .int), Cond.fieldLink RX3 12 "WaxCopies" "now" "LWaxCopies$Wax;", Cond.methodLink RX3 45 yX3_checkTrack, Cond.instanceMethod yX3_checkTrack, Cond.selects RX3 yX3_checkTrack yX3_checkTrack, Cond.code yX3_checkTrack cX3_checkTrack 2 none, Cond.classLink RX3 257 "java/lang/IndexOutOfBoundsException", Cond.initialized "java/lang/IndexOutOfBoundsException", Cond.methodLink RX3 52 yX3_saveState, Cond.instanceMethod yX3_saveState, Cond.selects RX3 yX3_saveState yX3_saveState, Cond.code yX3_saveState cX3_saveState 1 none, Cond.fieldLink RX3 27 "WaxCopies" "savedStates" "I", Cond.fieldLink RX3 24 "WaxCopies" "saved" "[LWaxCopies$Wax;", Cond.methodLink RX3 272 yX3_dropOldestState, Cond.instanceMethod yX3_dropOldestState, Cond.selects RX3 yX3_dropOldestState yX3_dropOldestState, Cond.code yX3_dropOldestState cX3_dropOldestState 3 none]
def wsL_play_r2 : List Cond := [Cond.methodLink RX3 130 yX2_takeOver, Cond.instanceMethod yX2_takeOver, Cond.selects RX2 yX2_takeOver yX2_takeOver, Cond.initialized RX2, Cond.code yX2_takeOver cX2_takeOver 2 none, Cond.fieldLink RX2 9 "WaxCopies$Wax" "depth" "[I", Cond.methodLink RX2 70 arraycopyName, Cond.native arraycopyName, Cond.static arraycopyName, Cond.initialized "java/lang/System", Cond.fieldLink RX2 15 "WaxCopies$Wax" "clearness" "[I", Cond.fieldLink RX2 18 "WaxCopies$Wax" "flutter" "[I", Cond.fieldLink RX2 21 "WaxCopies$Wax" "generation" "[I", Cond.fieldLink RX2 24 "WaxCopies$Wax" "mother" "[I", Cond.fieldLink RX2 27 "WaxCopies$Wax" "clearnessAsCut" "[I", Cond.fieldLink RX2 30 "WaxCopies$Wax" "plays" "[I", Cond.fieldLink RX2 33 "WaxCopies$Wax" "layers" "[I", Cond.fieldLink RX2 36 "WaxCopies$Wax" "shavings" "[I", Cond.fieldLink RX2 39 "WaxCopies$Wax" "sharpness" "I", Cond.fieldLink RX2 43 "WaxCopies$Wax" "spring" "I", Cond.fieldLink RX2 46 "WaxCopies$Wax" "wear" "I", Cond.fieldLink RX2 49 "WaxCopies$Wax" "spoken" "I", Cond.fieldLink RX2 52 "WaxCopies$Wax" "copied" "I", Cond.fieldLink RX2 55 "WaxCopies$Wax" "played" "I"]
def wsL_play_r3 : List Cond := [Cond.fieldLink RX2 58 "WaxCopies$Wax" "layersShaved" "I", Cond.fieldLink RX2 61 "WaxCopies$Wax" "layersCome" "I", Cond.fieldLink RX2 64 "WaxCopies$Wax" "layersGone" "I", Cond.fieldLink RX2 67 "WaxCopies$Wax" "refused" "I", Cond.methodLink RX3 66 yX2_playTrack, Cond.instanceMethod yX2_playTrack, Cond.selects RX2 yX2_playTrack yX2_playTrack, Cond.code yX2_playTrack cX2_playTrack 3 (some .int), Cond.methodLink RX2 118 Lib.Math.max.name, Cond.static Lib.Math.max.name, Cond.initialized "java/lang/Math", Cond.code Lib.Math.max.name Lib.Math.max.code 2 (some .int), Cond.methodLink RX2 76 yX2_isCut, Cond.instanceMethod yX2_isCut, Cond.selects RX2 yX2_isCut yX2_isCut, Cond.code yX2_isCut cX2_isCut 2 (some .boolean)]
def wsL_play : List Cond := .codeWith yL_play cL_play 3 (some .int) [(0, 5, 6, 16)] :: ((wsL_play_r1 ++ (wsL_play_r2 ++ wsL_play_r3)) ++ wsX30 ++ wsX20 ++ (vx_atS RX3 261 "java/lang/IndexOutOfBoundsException" ["java/lang/RuntimeException", "java/lang/Exception"]).filter goodWord)
def wsL_shave_r1 : List Cond := [Cond.classLink RL 16 "java/lang/IndexOutOfBoundsException", Cond.constant RL 18 (-1000001), Cond.methodLink RL 30 yX3_shave, Cond.instanceMethod yX3_shave, Cond.selects RX3 yX3_shave yX3_shave, Cond.initialized RX3, Cond.code yX3_shave cX3_shave 2 (some .int), Cond.fieldLink RX3 12 "WaxCopies" "now" "LWaxCopies$Wax;", Cond.methodLink RX3 70 yX3_checkCylinder, Cond.instanceMethod yX3_checkCylinder, Cond.selects RX3 yX3_checkCylinder yX3_checkCylinder, Cond.code yX3_checkCylinder cX3_checkCylinder 2 none, Cond.classLink RX3 257 "java/lang/IndexOutOfBoundsException", Cond.initialized "java/lang/IndexOutOfBoundsException", Cond.methodLink RX3 52 yX3_saveState, Cond.instanceMethod yX3_saveState, Cond.selects RX3 yX3_saveState yX3_saveState, Cond.code yX3_saveState cX3_saveState 1 none, Cond.fieldLink RX3 27 "WaxCopies" "savedStates" "I", Cond.fieldLink RX3 24 "WaxCopies" "saved" "[LWaxCopies$Wax;", Cond.methodLink RX3 272 yX3_dropOldestState, Cond.instanceMethod yX3_dropOldestState, Cond.selects RX3 yX3_dropOldestState yX3_dropOldestState, Cond.code yX3_dropOldestState cX3_dropOldestState 3 none]
def wsL_shave_r2 : List Cond := [Cond.methodLink RX3 130 yX2_takeOver, Cond.instanceMethod yX2_takeOver, Cond.selects RX2 yX2_takeOver yX2_takeOver, Cond.initialized RX2, Cond.code yX2_takeOver cX2_takeOver 2 none, Cond.fieldLink RX2 9 "WaxCopies$Wax" "depth" "[I", Cond.methodLink RX2 70 arraycopyName, Cond.native arraycopyName, Cond.static arraycopyName, Cond.initialized "java/lang/System", Cond.fieldLink RX2 15 "WaxCopies$Wax" "clearness" "[I", Cond.fieldLink RX2 18 "WaxCopies$Wax" "flutter" "[I", Cond.fieldLink RX2 21 "WaxCopies$Wax" "generation" "[I", Cond.fieldLink RX2 24 "WaxCopies$Wax" "mother" "[I", Cond.fieldLink RX2 27 "WaxCopies$Wax" "clearnessAsCut" "[I", Cond.fieldLink RX2 30 "WaxCopies$Wax" "plays" "[I", Cond.fieldLink RX2 33 "WaxCopies$Wax" "layers" "[I", Cond.fieldLink RX2 36 "WaxCopies$Wax" "shavings" "[I", Cond.fieldLink RX2 39 "WaxCopies$Wax" "sharpness" "I", Cond.fieldLink RX2 43 "WaxCopies$Wax" "spring" "I", Cond.fieldLink RX2 46 "WaxCopies$Wax" "wear" "I", Cond.fieldLink RX2 49 "WaxCopies$Wax" "spoken" "I", Cond.fieldLink RX2 52 "WaxCopies$Wax" "copied" "I", Cond.fieldLink RX2 55 "WaxCopies$Wax" "played" "I"]
def wsL_shave_r3 : List Cond := [Cond.fieldLink RX2 58 "WaxCopies$Wax" "layersShaved" "I", Cond.fieldLink RX2 61 "WaxCopies$Wax" "layersCome" "I", Cond.fieldLink RX2 64 "WaxCopies$Wax" "layersGone" "I", Cond.fieldLink RX2 67 "WaxCopies$Wax" "refused" "I", Cond.methodLink RX3 73 yX2_shaveCylinder, Cond.instanceMethod yX2_shaveCylinder, Cond.selects RX2 yX2_shaveCylinder yX2_shaveCylinder, Cond.code yX2_shaveCylinder cX2_shaveCylinder 3 (some .int), Cond.methodLink RX2 121 yX2_greatestDepth, Cond.instanceMethod yX2_greatestDepth, Cond.selects RX2 yX2_greatestDepth yX2_greatestDepth, Cond.code yX2_greatestDepth cX2_greatestDepth 5 (some .int), Cond.methodLink RX2 118 Lib.Math.max.name, Cond.static Lib.Math.max.name, Cond.initialized "java/lang/Math", Cond.code Lib.Math.max.name Lib.Math.max.code 2 (some .int), Cond.methodLink RX2 124 yX2_smoothTracks, Cond.instanceMethod yX2_smoothTracks, Cond.selects RX2 yX2_smoothTracks yX2_smoothTracks, Cond.code yX2_smoothTracks cX2_smoothTracks 4 none]
def wsL_shave : List Cond := .codeWith yL_shave cL_shave 3 (some .int) [(0, 5, 6, 16)] :: ((wsL_shave_r1 ++ (wsL_shave_r2 ++ wsL_shave_r3)) ++ wsX30 ++ wsX20 ++ (vx_atS RX3 261 "java/lang/IndexOutOfBoundsException" ["java/lang/RuntimeException", "java/lang/Exception"]).filter goodWord)
def wsL_renew_r1 : List Cond := [Cond.classLink RL 16 "java/lang/IndexOutOfBoundsException", Cond.classLink RL 19 "java/lang/IllegalArgumentException", Cond.constant RL 18 (-1000001), Cond.constant RL 21 (-1000002), Cond.methodLink RL 33 yX3_renew, Cond.instanceMethod yX3_renew, Cond.selects RX3 yX3_renew yX3_renew, Cond.initialized RX3, Cond.code yX3_renew cX3_renew 3 (some .int), Cond.classLink RX3 83 "java/lang/IllegalArgumentException", Cond.initialized "java/lang/IllegalArgumentException", Cond.fieldLink RX3 12 "WaxCopies" "now" "LWaxCopies$Wax;", Cond.methodLink RX3 70 yX3_checkCylinder, Cond.instanceMethod yX3_checkCylinder, Cond.selects RX3 yX3_checkCylinder yX3_checkCylinder, Cond.code yX3_checkCylinder cX3_checkCylinder 2 none, Cond.classLink RX3 257 "java/lang/IndexOutOfBoundsException", Cond.initialized "java/lang/IndexOutOfBoundsException", Cond.methodLink RX3 52 yX3_saveState, Cond.instanceMethod yX3_saveState, Cond.selects RX3 yX3_saveState yX3_saveState, Cond.code yX3_saveState cX3_saveState 1 none, Cond.fieldLink RX3 27 "WaxCopies" "savedStates" "I", Cond.fieldLink RX3 24 "WaxCopies" "saved" "[LWaxCopies$Wax;"]
def wsL_renew_r2 : List Cond := [Cond.methodLink RX3 272 yX3_dropOldestState, Cond.instanceMethod yX3_dropOldestState, Cond.selects RX3 yX3_dropOldestState yX3_dropOldestState, Cond.code yX3_dropOldestState cX3_dropOldestState 3 none, Cond.methodLink RX3 130 yX2_takeOver, Cond.instanceMethod yX2_takeOver, Cond.selects RX2 yX2_takeOver yX2_takeOver, Cond.initialized RX2, Cond.code yX2_takeOver cX2_takeOver 2 none, Cond.fieldLink RX2 9 "WaxCopies$Wax" "depth" "[I", Cond.methodLink RX2 70 arraycopyName, Cond.native arraycopyName, Cond.static arraycopyName, Cond.initialized "java/lang/System", Cond.fieldLink RX2 15 "WaxCopies$Wax" "clearness" "[I", Cond.fieldLink RX2 18 "WaxCopies$Wax" "flutter" "[I", Cond.fieldLink RX2 21 "WaxCopies$Wax" "generation" "[I", Cond.fieldLink RX2 24 "WaxCopies$Wax" "mother" "[I", Cond.fieldLink RX2 27 "WaxCopies$Wax" "clearnessAsCut" "[I", Cond.fieldLink RX2 30 "WaxCopies$Wax" "plays" "[I", Cond.fieldLink RX2 33 "WaxCopies$Wax" "layers" "[I", Cond.fieldLink RX2 36 "WaxCopies$Wax" "shavings" "[I", Cond.fieldLink RX2 39 "WaxCopies$Wax" "sharpness" "I", Cond.fieldLink RX2 43 "WaxCopies$Wax" "spring" "I"]
def wsL_renew_r3 : List Cond := [Cond.fieldLink RX2 46 "WaxCopies$Wax" "wear" "I", Cond.fieldLink RX2 49 "WaxCopies$Wax" "spoken" "I", Cond.fieldLink RX2 52 "WaxCopies$Wax" "copied" "I", Cond.fieldLink RX2 55 "WaxCopies$Wax" "played" "I", Cond.fieldLink RX2 58 "WaxCopies$Wax" "layersShaved" "I", Cond.fieldLink RX2 61 "WaxCopies$Wax" "layersCome" "I", Cond.fieldLink RX2 64 "WaxCopies$Wax" "layersGone" "I", Cond.fieldLink RX2 67 "WaxCopies$Wax" "refused" "I", Cond.methodLink RX3 90 yX2_renewCylinder, Cond.instanceMethod yX2_renewCylinder, Cond.selects RX2 yX2_renewCylinder yX2_renewCylinder, Cond.code yX2_renewCylinder cX2_renewCylinder 4 (some .int), Cond.methodLink RX2 124 yX2_smoothTracks, Cond.instanceMethod yX2_smoothTracks, Cond.selects RX2 yX2_smoothTracks yX2_smoothTracks, Cond.code yX2_smoothTracks cX2_smoothTracks 4 none]
def wsL_renew : List Cond := .codeWith yL_renew cL_renew 4 (some .int) [(0, 6, 7, 16), (0, 6, 11, 19)] :: ((wsL_renew_r1 ++ (wsL_renew_r2 ++ wsL_renew_r3)) ++ wsX30 ++ wsX20 ++ (vx_atS RX3 87 "java/lang/IllegalArgumentException" ["java/lang/RuntimeException", "java/lang/Exception"]).filter goodWord ++ (vx_atS RX3 261 "java/lang/IndexOutOfBoundsException" ["java/lang/RuntimeException", "java/lang/Exception"]).filter goodWord)
def wsL_set_r1 : List Cond := [Cond.classLink RL 19 "java/lang/IllegalArgumentException", Cond.constant RL 18 (-1000001), Cond.methodLink RL 36 yX3_set, Cond.instanceMethod yX3_set, Cond.selects RX3 yX3_set yX3_set, Cond.initialized RX3, Cond.code yX3_set cX3_set 3 (some .int), Cond.classLink RX3 83 "java/lang/IllegalArgumentException", Cond.initialized "java/lang/IllegalArgumentException", Cond.fieldLink RX3 12 "WaxCopies" "now" "LWaxCopies$Wax;", Cond.fieldLink RX3 95 "WaxCopies$Wax" "wear" "I", Cond.methodLink RX3 52 yX3_saveState, Cond.instanceMethod yX3_saveState, Cond.selects RX3 yX3_saveState yX3_saveState, Cond.code yX3_saveState cX3_saveState 1 none, Cond.fieldLink RX3 27 "WaxCopies" "savedStates" "I", Cond.fieldLink RX3 24 "WaxCopies" "saved" "[LWaxCopies$Wax;", Cond.methodLink RX3 272 yX3_dropOldestState, Cond.instanceMethod yX3_dropOldestState, Cond.selects RX3 yX3_dropOldestState yX3_dropOldestState, Cond.code yX3_dropOldestState cX3_dropOldestState 3 none, Cond.methodLink RX3 130 yX2_takeOver, Cond.instanceMethod yX2_takeOver, Cond.selects RX2 yX2_takeOver yX2_takeOver]
def wsL_set_r2 : List Cond := [Cond.initialized RX2, Cond.code yX2_takeOver cX2_takeOver 2 none, Cond.fieldLink RX2 9 "WaxCopies$Wax" "depth" "[I", Cond.methodLink RX2 70 arraycopyName, Cond.native arraycopyName, Cond.static arraycopyName, Cond.initialized "java/lang/System", Cond.fieldLink RX2 15 "WaxCopies$Wax" "clearness" "[I", Cond.fieldLink RX2 18 "WaxCopies$Wax" "flutter" "[I", Cond.fieldLink RX2 21 "WaxCopies$Wax" "generation" "[I", Cond.fieldLink RX2 24 "WaxCopies$Wax" "mother" "[I", Cond.fieldLink RX2 27 "WaxCopies$Wax" "clearnessAsCut" "[I", Cond.fieldLink RX2 30 "WaxCopies$Wax" "plays" "[I", Cond.fieldLink RX2 33 "WaxCopies$Wax" "layers" "[I", Cond.fieldLink RX2 36 "WaxCopies$Wax" "shavings" "[I", Cond.fieldLink RX2 39 "WaxCopies$Wax" "sharpness" "I", Cond.fieldLink RX2 43 "WaxCopies$Wax" "spring" "I", Cond.fieldLink RX2 46 "WaxCopies$Wax" "wear" "I", Cond.fieldLink RX2 49 "WaxCopies$Wax" "spoken" "I", Cond.fieldLink RX2 52 "WaxCopies$Wax" "copied" "I", Cond.fieldLink RX2 55 "WaxCopies$Wax" "played" "I", Cond.fieldLink RX2 58 "WaxCopies$Wax" "layersShaved" "I", Cond.fieldLink RX2 61 "WaxCopies$Wax" "layersCome" "I", Cond.fieldLink RX2 64 "WaxCopies$Wax" "layersGone" "I"]
def wsL_set_r3 : List Cond := [Cond.fieldLink RX2 67 "WaxCopies$Wax" "refused" "I"]
def wsL_set : List Cond := .codeWith yL_set cL_set 3 (some .int) [(0, 5, 6, 19)] :: ((wsL_set_r1 ++ (wsL_set_r2 ++ wsL_set_r3)) ++ wsX30 ++ wsX20 ++ (vx_atS RX3 87 "java/lang/IllegalArgumentException" ["java/lang/RuntimeException", "java/lang/Exception"]).filter goodWord)
def wsL_undo_r1 : List Cond := [Cond.classLink RL 43 "java/lang/IllegalStateException", Cond.constant RL 18 (-1000001), Cond.methodLink RL 39 yX3_undo, Cond.instanceMethod yX3_undo, Cond.selects RX3 yX3_undo yX3_undo, Cond.initialized RX3, Cond.code yX3_undo cX3_undo 1 (some .int), Cond.classLink RX3 104 "java/lang/IllegalStateException", Cond.initialized "java/lang/IllegalStateException", Cond.fieldLink RX3 27 "WaxCopies" "savedStates" "I", Cond.fieldLink RX3 12 "WaxCopies" "now" "LWaxCopies$Wax;", Cond.fieldLink RX3 24 "WaxCopies" "saved" "[LWaxCopies$Wax;", Cond.methodLink RX3 130 yX2_takeOver, Cond.instanceMethod yX2_takeOver, Cond.selects RX2 yX2_takeOver yX2_takeOver, Cond.initialized RX2, Cond.code yX2_takeOver cX2_takeOver 2 none, Cond.fieldLink RX2 9 "WaxCopies$Wax" "depth" "[I", Cond.methodLink RX2 70 arraycopyName, Cond.native arraycopyName, Cond.static arraycopyName, Cond.initialized "java/lang/System", Cond.fieldLink RX2 15 "WaxCopies$Wax" "clearness" "[I", Cond.fieldLink RX2 18 "WaxCopies$Wax" "flutter" "[I"]
def wsL_undo_r2 : List Cond := [Cond.fieldLink RX2 21 "WaxCopies$Wax" "generation" "[I", Cond.fieldLink RX2 24 "WaxCopies$Wax" "mother" "[I", Cond.fieldLink RX2 27 "WaxCopies$Wax" "clearnessAsCut" "[I", Cond.fieldLink RX2 30 "WaxCopies$Wax" "plays" "[I", Cond.fieldLink RX2 33 "WaxCopies$Wax" "layers" "[I", Cond.fieldLink RX2 36 "WaxCopies$Wax" "shavings" "[I", Cond.fieldLink RX2 39 "WaxCopies$Wax" "sharpness" "I", Cond.fieldLink RX2 43 "WaxCopies$Wax" "spring" "I", Cond.fieldLink RX2 46 "WaxCopies$Wax" "wear" "I", Cond.fieldLink RX2 49 "WaxCopies$Wax" "spoken" "I", Cond.fieldLink RX2 52 "WaxCopies$Wax" "copied" "I", Cond.fieldLink RX2 55 "WaxCopies$Wax" "played" "I", Cond.fieldLink RX2 58 "WaxCopies$Wax" "layersShaved" "I", Cond.fieldLink RX2 61 "WaxCopies$Wax" "layersCome" "I", Cond.fieldLink RX2 64 "WaxCopies$Wax" "layersGone" "I", Cond.fieldLink RX2 67 "WaxCopies$Wax" "refused" "I"]
def wsL_undo : List Cond := .codeWith yL_undo cL_undo 2 (some .int) [(0, 4, 5, 43)] :: ((wsL_undo_r1 ++ wsL_undo_r2) ++ wsX30 ++ wsX20 ++ (vx_atS RX3 108 "java/lang/IllegalStateException" ["java/lang/RuntimeException", "java/lang/Exception"]).filter goodWord)
def wsL_trackOf_r1 : List Cond := [Cond.classLink RL 16 "java/lang/IndexOutOfBoundsException", Cond.classLink RL 19 "java/lang/IllegalArgumentException", Cond.constant RL 18 (-1000001), Cond.constant RL 21 (-1000002), Cond.methodLink RL 45 yX3_trackOf, Cond.instanceMethod yX3_trackOf, Cond.selects RX3 yX3_trackOf yX3_trackOf, Cond.initialized RX3, Cond.code yX3_trackOf cX3_trackOf 3 (some .int), Cond.fieldLink RX3 12 "WaxCopies" "now" "LWaxCopies$Wax;", Cond.methodLink RX3 45 yX3_checkTrack, Cond.instanceMethod yX3_checkTrack, Cond.selects RX3 yX3_checkTrack yX3_checkTrack, Cond.code yX3_checkTrack cX3_checkTrack 2 none, Cond.classLink RX3 257 "java/lang/IndexOutOfBoundsException", Cond.initialized "java/lang/IndexOutOfBoundsException", Cond.methodLink RX3 141 yX3_checkWhat, Cond.instanceMethod yX3_checkWhat, Cond.selects RX3 yX3_checkWhat yX3_checkWhat, Cond.code yX3_checkWhat cX3_checkWhat 3 none, Cond.classLink RX3 83 "java/lang/IllegalArgumentException", Cond.initialized "java/lang/IllegalArgumentException", Cond.methodLink RX3 145 yX2_trackProperty, Cond.instanceMethod yX2_trackProperty]
def wsL_trackOf_r2 : List Cond := [Cond.selects RX2 yX2_trackProperty yX2_trackProperty, Cond.initialized RX2, Cond.code yX2_trackProperty cX2_trackProperty 3 (some .int), Cond.fieldLink RX2 9 "WaxCopies$Wax" "depth" "[I", Cond.fieldLink RX2 15 "WaxCopies$Wax" "clearness" "[I", Cond.fieldLink RX2 18 "WaxCopies$Wax" "flutter" "[I", Cond.fieldLink RX2 21 "WaxCopies$Wax" "generation" "[I", Cond.fieldLink RX2 24 "WaxCopies$Wax" "mother" "[I", Cond.fieldLink RX2 27 "WaxCopies$Wax" "clearnessAsCut" "[I", Cond.fieldLink RX2 30 "WaxCopies$Wax" "plays" "[I", Cond.methodLink RX2 76 yX2_isCut, Cond.instanceMethod yX2_isCut, Cond.selects RX2 yX2_isCut yX2_isCut, Cond.code yX2_isCut cX2_isCut 2 (some .boolean)]
def wsL_trackOf : List Cond := .codeWith yL_trackOf cL_trackOf 4 (some .int) [(0, 6, 7, 16), (0, 6, 11, 19)] :: ((wsL_trackOf_r1 ++ wsL_trackOf_r2) ++ wsX30 ++ wsX20 ++ (vx_atS RX3 261 "java/lang/IndexOutOfBoundsException" ["java/lang/RuntimeException", "java/lang/Exception"]).filter goodWord ++ (vx_atS RX3 87 "java/lang/IllegalArgumentException" ["java/lang/RuntimeException", "java/lang/Exception"]).filter goodWord)
def wsL_cylinderOf_r1 : List Cond := [Cond.classLink RL 16 "java/lang/IndexOutOfBoundsException", Cond.classLink RL 19 "java/lang/IllegalArgumentException", Cond.constant RL 18 (-1000001), Cond.constant RL 21 (-1000002), Cond.methodLink RL 48 yX3_cylinderOf, Cond.instanceMethod yX3_cylinderOf, Cond.selects RX3 yX3_cylinderOf yX3_cylinderOf, Cond.initialized RX3, Cond.code yX3_cylinderOf cX3_cylinderOf 3 (some .int), Cond.fieldLink RX3 12 "WaxCopies" "now" "LWaxCopies$Wax;", Cond.methodLink RX3 70 yX3_checkCylinder, Cond.instanceMethod yX3_checkCylinder, Cond.selects RX3 yX3_checkCylinder yX3_checkCylinder, Cond.code yX3_checkCylinder cX3_checkCylinder 2 none, Cond.classLink RX3 257 "java/lang/IndexOutOfBoundsException", Cond.initialized "java/lang/IndexOutOfBoundsException", Cond.methodLink RX3 141 yX3_checkWhat, Cond.instanceMethod yX3_checkWhat, Cond.selects RX3 yX3_checkWhat yX3_checkWhat, Cond.code yX3_checkWhat cX3_checkWhat 3 none, Cond.classLink RX3 83 "java/lang/IllegalArgumentException", Cond.initialized "java/lang/IllegalArgumentException", Cond.methodLink RX3 148 yX2_cylinderProperty, Cond.instanceMethod yX2_cylinderProperty]
def wsL_cylinderOf_r2 : List Cond := [Cond.selects RX2 yX2_cylinderProperty yX2_cylinderProperty, Cond.initialized RX2, Cond.code yX2_cylinderProperty cX2_cylinderProperty 3 (some .int), Cond.fieldLink RX2 33 "WaxCopies$Wax" "layers" "[I", Cond.fieldLink RX2 36 "WaxCopies$Wax" "shavings" "[I", Cond.methodLink RX2 128 yX2_cutTracksOn, Cond.instanceMethod yX2_cutTracksOn, Cond.selects RX2 yX2_cutTracksOn yX2_cutTracksOn, Cond.code yX2_cutTracksOn cX2_cutTracksOn 5 (some .int), Cond.methodLink RX2 76 yX2_isCut, Cond.instanceMethod yX2_isCut, Cond.selects RX2 yX2_isCut yX2_isCut, Cond.code yX2_isCut cX2_isCut 2 (some .boolean), Cond.fieldLink RX2 9 "WaxCopies$Wax" "depth" "[I", Cond.methodLink RX2 121 yX2_greatestDepth, Cond.instanceMethod yX2_greatestDepth, Cond.selects RX2 yX2_greatestDepth yX2_greatestDepth, Cond.code yX2_greatestDepth cX2_greatestDepth 5 (some .int), Cond.methodLink RX2 118 Lib.Math.max.name, Cond.static Lib.Math.max.name, Cond.initialized "java/lang/Math", Cond.code Lib.Math.max.name Lib.Math.max.code 2 (some .int), Cond.methodLink RX2 131 yX2_clearestTrackOn, Cond.instanceMethod yX2_clearestTrackOn]
def wsL_cylinderOf_r3 : List Cond := [Cond.selects RX2 yX2_clearestTrackOn yX2_clearestTrackOn, Cond.code yX2_clearestTrackOn cX2_clearestTrackOn 5 (some .int), Cond.fieldLink RX2 15 "WaxCopies$Wax" "clearness" "[I"]
def wsL_cylinderOf : List Cond := .codeWith yL_cylinderOf cL_cylinderOf 4 (some .int) [(0, 6, 7, 16), (0, 6, 11, 19)] :: ((wsL_cylinderOf_r1 ++ (wsL_cylinderOf_r2 ++ wsL_cylinderOf_r3)) ++ wsX30 ++ wsX20 ++ (vx_atS RX3 261 "java/lang/IndexOutOfBoundsException" ["java/lang/RuntimeException", "java/lang/Exception"]).filter goodWord ++ (vx_atS RX3 87 "java/lang/IllegalArgumentException" ["java/lang/RuntimeException", "java/lang/Exception"]).filter goodWord)
def wsL_count_r1 : List Cond := [Cond.classLink RL 19 "java/lang/IllegalArgumentException", Cond.constant RL 18 (-1000001), Cond.methodLink RL 51 yX3_count, Cond.instanceMethod yX3_count, Cond.selects RX3 yX3_count yX3_count, Cond.initialized RX3, Cond.code yX3_count cX3_count 2 (some .int), Cond.fieldLink RX3 27 "WaxCopies" "savedStates" "I", Cond.fieldLink RX3 12 "WaxCopies" "now" "LWaxCopies$Wax;", Cond.methodLink RX3 141 yX3_checkWhat, Cond.instanceMethod yX3_checkWhat, Cond.selects RX3 yX3_checkWhat yX3_checkWhat, Cond.code yX3_checkWhat cX3_checkWhat 3 none, Cond.classLink RX3 83 "java/lang/IllegalArgumentException", Cond.initialized "java/lang/IllegalArgumentException", Cond.methodLink RX3 151 yX2_number, Cond.instanceMethod yX2_number, Cond.selects RX2 yX2_number yX2_number, Cond.initialized RX2, Cond.code yX2_number cX2_number 2 (some .int), Cond.fieldLink RX2 39 "WaxCopies$Wax" "sharpness" "I", Cond.fieldLink RX2 43 "WaxCopies$Wax" "spring" "I", Cond.fieldLink RX2 49 "WaxCopies$Wax" "spoken" "I", Cond.fieldLink RX2 52 "WaxCopies$Wax" "copied" "I"]
def wsL_count_r2 : List Cond := [Cond.fieldLink RX2 55 "WaxCopies$Wax" "played" "I", Cond.fieldLink RX2 58 "WaxCopies$Wax" "layersShaved" "I", Cond.fieldLink RX2 61 "WaxCopies$Wax" "layersCome" "I", Cond.fieldLink RX2 64 "WaxCopies$Wax" "layersGone" "I", Cond.fieldLink RX2 67 "WaxCopies$Wax" "refused" "I", Cond.methodLink RX2 88 yX2_machineFlutter, Cond.instanceMethod yX2_machineFlutter, Cond.selects RX2 yX2_machineFlutter yX2_machineFlutter, Cond.code yX2_machineFlutter cX2_machineFlutter 1 (some .int), Cond.methodLink RX2 134 yX2_cutTracks, Cond.instanceMethod yX2_cutTracks, Cond.selects RX2 yX2_cutTracks yX2_cutTracks, Cond.code yX2_cutTracks cX2_cutTracks 3 (some .int), Cond.methodLink RX2 128 yX2_cutTracksOn, Cond.instanceMethod yX2_cutTracksOn, Cond.selects RX2 yX2_cutTracksOn yX2_cutTracksOn, Cond.code yX2_cutTracksOn cX2_cutTracksOn 5 (some .int), Cond.methodLink RX2 76 yX2_isCut, Cond.instanceMethod yX2_isCut, Cond.selects RX2 yX2_isCut yX2_isCut, Cond.code yX2_isCut cX2_isCut 2 (some .boolean), Cond.fieldLink RX2 9 "WaxCopies$Wax" "depth" "[I", Cond.methodLink RX2 137 yX2_layersTogether, Cond.instanceMethod yX2_layersTogether]
def wsL_count_r3 : List Cond := [Cond.selects RX2 yX2_layersTogether yX2_layersTogether, Cond.code yX2_layersTogether cX2_layersTogether 3 (some .int), Cond.fieldLink RX2 33 "WaxCopies$Wax" "layers" "[I"]
def wsL_count : List Cond := .codeWith yL_count cL_count 3 (some .int) [(0, 5, 6, 19)] :: ((wsL_count_r1 ++ (wsL_count_r2 ++ wsL_count_r3)) ++ wsX30 ++ wsX20 ++ (vx_atS RX3 87 "java/lang/IllegalArgumentException" ["java/lang/RuntimeException", "java/lang/Exception"]).filter goodWord)
def wsL_whyNot_r1 : List Cond := [Cond.classLink RL 16 "java/lang/IndexOutOfBoundsException", Cond.classLink RL 19 "java/lang/IllegalArgumentException", Cond.constant RL 18 (-1000001), Cond.constant RL 21 (-1000002), Cond.methodLink RL 54 yX3_whyNot, Cond.instanceMethod yX3_whyNot, Cond.selects RX3 yX3_whyNot yX3_whyNot, Cond.initialized RX3, Cond.code yX3_whyNot cX3_whyNot 3 (some .int), Cond.fieldLink RX3 12 "WaxCopies" "now" "LWaxCopies$Wax;", Cond.methodLink RX3 45 yX3_checkTrack, Cond.instanceMethod yX3_checkTrack, Cond.selects RX3 yX3_checkTrack yX3_checkTrack, Cond.code yX3_checkTrack cX3_checkTrack 2 none, Cond.classLink RX3 257 "java/lang/IndexOutOfBoundsException", Cond.initialized "java/lang/IndexOutOfBoundsException", Cond.methodLink RX3 49 yX3_checkLoudness, Cond.instanceMethod yX3_checkLoudness, Cond.selects RX3 yX3_checkLoudness yX3_checkLoudness, Cond.code yX3_checkLoudness cX3_checkLoudness 2 none, Cond.classLink RX3 83 "java/lang/IllegalArgumentException", Cond.initialized "java/lang/IllegalArgumentException", Cond.methodLink RX3 154 yX2_reasonNotToSpeak, Cond.instanceMethod yX2_reasonNotToSpeak]
def wsL_whyNot_r2 : List Cond := [Cond.selects RX2 yX2_reasonNotToSpeak yX2_reasonNotToSpeak, Cond.initialized RX2, Cond.code yX2_reasonNotToSpeak cX2_reasonNotToSpeak 3 (some .int), Cond.fieldLink RX2 33 "WaxCopies$Wax" "layers" "[I", Cond.fieldLink RX2 43 "WaxCopies$Wax" "spring" "I", Cond.methodLink RX2 76 yX2_isCut, Cond.instanceMethod yX2_isCut, Cond.selects RX2 yX2_isCut yX2_isCut, Cond.code yX2_isCut cX2_isCut 2 (some .boolean), Cond.fieldLink RX2 9 "WaxCopies$Wax" "depth" "[I"]
def wsL_whyNot : List Cond := .codeWith yL_whyNot cL_whyNot 4 (some .int) [(0, 6, 7, 16), (0, 6, 11, 19)] :: ((wsL_whyNot_r1 ++ wsL_whyNot_r2) ++ wsX30 ++ wsX20 ++ (vx_atS RX3 261 "java/lang/IndexOutOfBoundsException" ["java/lang/RuntimeException", "java/lang/Exception"]).filter goodWord ++ (vx_atS RX3 87 "java/lang/IllegalArgumentException" ["java/lang/RuntimeException", "java/lang/Exception"]).filter goodWord)
def wsL_ifCopied_r1 : List Cond := [Cond.classLink RL 16 "java/lang/IndexOutOfBoundsException", Cond.classLink RL 19 "java/lang/IllegalArgumentException", Cond.constant RL 18 (-1000001), Cond.constant RL 21 (-1000002), Cond.methodLink RL 57 yX3_ifCopied, Cond.instanceMethod yX3_ifCopied, Cond.selects RX3 yX3_ifCopied yX3_ifCopied, Cond.initialized RX3, Cond.code yX3_ifCopied cX3_ifCopied 5 (some .int), Cond.fieldLink RX3 12 "WaxCopies" "now" "LWaxCopies$Wax;", Cond.methodLink RX3 45 yX3_checkTrack, Cond.instanceMethod yX3_checkTrack, Cond.selects RX3 yX3_checkTrack yX3_checkTrack, Cond.code yX3_checkTrack cX3_checkTrack 2 none, Cond.classLink RX3 257 "java/lang/IndexOutOfBoundsException", Cond.initialized "java/lang/IndexOutOfBoundsException", Cond.methodLink RX3 59 yX3_checkLever, Cond.instanceMethod yX3_checkLever, Cond.selects RX3 yX3_checkLever yX3_checkLever, Cond.code yX3_checkLever cX3_checkLever 2 none, Cond.classLink RX3 83 "java/lang/IllegalArgumentException", Cond.initialized "java/lang/IllegalArgumentException", Cond.methodLink RX3 157 yX2_reasonNotToCopy, Cond.instanceMethod yX2_reasonNotToCopy]
def wsL_ifCopied_r2 : List Cond := [Cond.selects RX2 yX2_reasonNotToCopy yX2_reasonNotToCopy, Cond.initialized RX2, Cond.code yX2_reasonNotToCopy cX2_reasonNotToCopy 4 (some .int), Cond.fieldLink RX2 33 "WaxCopies$Wax" "layers" "[I", Cond.fieldLink RX2 9 "WaxCopies$Wax" "depth" "[I", Cond.fieldLink RX2 43 "WaxCopies$Wax" "spring" "I", Cond.methodLink RX2 76 yX2_isCut, Cond.instanceMethod yX2_isCut, Cond.selects RX2 yX2_isCut yX2_isCut, Cond.code yX2_isCut cX2_isCut 2 (some .boolean), Cond.static yX3_copiedDepth, Cond.code yX3_copiedDepth cX3_copiedDepth 2 (some .int), Cond.methodLink RX3 290 Lib.Math.max.name, Cond.static Lib.Math.max.name, Cond.initialized "java/lang/Math", Cond.code Lib.Math.max.name Lib.Math.max.code 2 (some .int), Cond.methodLink RX3 295 Lib.Math.min.name, Cond.static Lib.Math.min.name, Cond.code Lib.Math.min.name Lib.Math.min.code 2 (some .int), Cond.methodLink RX3 160 yX2_clearnessIfCopied, Cond.instanceMethod yX2_clearnessIfCopied, Cond.selects RX2 yX2_clearnessIfCopied yX2_clearnessIfCopied, Cond.code yX2_clearnessIfCopied cX2_clearnessIfCopied 3 (some .int), Cond.fieldLink RX2 15 "WaxCopies$Wax" "clearness" "[I"]
def wsL_ifCopied_r3 : List Cond := [Cond.fieldLink RX2 39 "WaxCopies$Wax" "sharpness" "I", Cond.methodLink RX2 88 yX2_machineFlutter, Cond.instanceMethod yX2_machineFlutter, Cond.selects RX2 yX2_machineFlutter yX2_machineFlutter, Cond.code yX2_machineFlutter cX2_machineFlutter 1 (some .int), Cond.static yX3_copiedClearness, Cond.code yX3_copiedClearness cX3_copiedClearness 4 (some .int), Cond.methodLink RX3 298 yX3_bluntness, Cond.static yX3_bluntness, Cond.code yX3_bluntness cX3_bluntness 1 (some .int)]
def wsL_ifCopied : List Cond := .codeWith yL_ifCopied cL_ifCopied 5 (some .int) [(0, 7, 8, 16), (0, 7, 13, 19)] :: ((wsL_ifCopied_r1 ++ (wsL_ifCopied_r2 ++ wsL_ifCopied_r3)) ++ wsX30 ++ wsX20 ++ (vx_atS RX3 261 "java/lang/IndexOutOfBoundsException" ["java/lang/RuntimeException", "java/lang/Exception"]).filter goodWord ++ (vx_atS RX3 87 "java/lang/IllegalArgumentException" ["java/lang/RuntimeException", "java/lang/Exception"]).filter goodWord)
def wsL_chain_r1 : List Cond := [Cond.classLink RL 16 "java/lang/IndexOutOfBoundsException", Cond.classLink RL 19 "java/lang/IllegalArgumentException", Cond.constant RL 18 (-1000001), Cond.constant RL 21 (-1000002), Cond.methodLink RL 60 yX3_chain, Cond.instanceMethod yX3_chain, Cond.selects RX3 yX3_chain yX3_chain, Cond.initialized RX3, Cond.code yX3_chain cX3_chain 6 (some .int), Cond.classLink RX3 83 "java/lang/IllegalArgumentException", Cond.initialized "java/lang/IllegalArgumentException", Cond.fieldLink RX3 12 "WaxCopies" "now" "LWaxCopies$Wax;", Cond.fieldLink RX3 169 "WaxCopies$Wax" "depth" "[I", Cond.fieldLink RX3 173 "WaxCopies$Wax" "clearness" "[I", Cond.fieldLink RX3 41 "WaxCopies" "steps" "LWaxCopies$Steps;", Cond.fieldLink RX3 176 "WaxCopies$Wax" "sharpness" "I", Cond.methodLink RX3 45 yX3_checkTrack, Cond.instanceMethod yX3_checkTrack, Cond.selects RX3 yX3_checkTrack yX3_checkTrack, Cond.code yX3_checkTrack cX3_checkTrack 2 none, Cond.classLink RX3 257 "java/lang/IndexOutOfBoundsException", Cond.initialized "java/lang/IndexOutOfBoundsException", Cond.methodLink RX3 141 yX3_checkWhat, Cond.instanceMethod yX3_checkWhat]
def wsL_chain_r2 : List Cond := [Cond.selects RX3 yX3_checkWhat yX3_checkWhat, Cond.code yX3_checkWhat cX3_checkWhat 3 none, Cond.methodLink RX3 165 yX2_isCut, Cond.instanceMethod yX2_isCut, Cond.selects RX2 yX2_isCut yX2_isCut, Cond.initialized RX2, Cond.code yX2_isCut cX2_isCut 2 (some .boolean), Cond.fieldLink RX2 9 "WaxCopies$Wax" "depth" "[I", Cond.methodLink RX3 179 yX1_clearestAfter, Cond.instanceMethod yX1_clearestAfter, Cond.selects RX1 yX1_clearestAfter yX1_clearestAfter, Cond.initialized RX1, Cond.code yX1_clearestAfter cX1_clearestAfter 9 (some .int), Cond.fieldLink RX1 11 "WaxCopies$Steps" "best" "[[I", Cond.fieldLink RX1 16 "WaxCopies$Steps" "next" "[[I", Cond.methodLink RX1 19 yX1_forget, Cond.static yX1_forget, Cond.code yX1_forget cX1_forget 5 none, Cond.static yX3_sharpnessAfter, Cond.code yX3_sharpnessAfter cX3_sharpnessAfter 2 (some .int), Cond.methodLink RX3 290 Lib.Math.max.name, Cond.static Lib.Math.max.name, Cond.initialized "java/lang/Math", Cond.code Lib.Math.max.name Lib.Math.max.code 2 (some .int)]
def wsL_chain_r3 : List Cond := [Cond.methodLink RX1 27 yX1_stepOn, Cond.instanceMethod yX1_stepOn, Cond.selects RX1 yX1_stepOn yX1_stepOn, Cond.code yX1_stepOn cX1_stepOn 10 none, Cond.methodLink RX1 41 Lib.Math.max.name, Cond.static yX3_copiedDepth, Cond.code yX3_copiedDepth cX3_copiedDepth 2 (some .int), Cond.methodLink RX3 295 Lib.Math.min.name, Cond.static Lib.Math.min.name, Cond.code Lib.Math.min.name Lib.Math.min.code 2 (some .int), Cond.static yX3_copiedClearness, Cond.code yX3_copiedClearness cX3_copiedClearness 4 (some .int), Cond.methodLink RX3 298 yX3_bluntness, Cond.static yX3_bluntness, Cond.code yX3_bluntness cX3_bluntness 1 (some .int), Cond.methodLink RX1 31 yX1_clearestOf, Cond.instanceMethod yX1_clearestOf, Cond.selects RX1 yX1_clearestOf yX1_clearestOf, Cond.code yX1_clearestOf cX1_clearestOf 6 (some .int), Cond.methodLink RX3 183 yX3_clearestOfAllLevers, Cond.static yX3_clearestOfAllLevers, Cond.code yX3_clearestOfAllLevers cX3_clearestOfAllLevers 8 (some .int), Cond.methodLink RX3 301 yX3_copiedDepth, Cond.methodLink RX3 304 yX3_copiedClearness]
def wsL_chain_r4 : List Cond := [Cond.methodLink RX3 307 yX3_sharpnessAfter]
def wsL_chain : List Cond := .codeWith yL_chain cL_chain 5 (some .int) [(0, 7, 8, 16), (0, 7, 13, 19)] :: ((wsL_chain_r1 ++ (wsL_chain_r2 ++ (wsL_chain_r3 ++ wsL_chain_r4))) ++ wsX30 ++ wsX20 ++ wsX10 ++ (vx_atS RX3 87 "java/lang/IllegalArgumentException" ["java/lang/RuntimeException", "java/lang/Exception"]).filter goodWord ++ (vx_atS RX3 261 "java/lang/IndexOutOfBoundsException" ["java/lang/RuntimeException", "java/lang/Exception"]).filter goodWord)
def wsL_daughters : List Cond := .codeWith yL_daughters cL_daughters 3 (some .int) [(0, 5, 6, 16)] :: ([.classLink RL 16 "java/lang/IndexOutOfBoundsException", .constant RL 18 (-1000001), .methodLink RL 63 yX3_daughters, .instanceMethod yX3_daughters, .selects RX3 yX3_daughters yX3_daughters, .initialized RX3, .code yX3_daughters cX3_daughters 2 (some .int), .fieldLink RX3 12 "WaxCopies" "now" "LWaxCopies$Wax;", .methodLink RX3 45 yX3_checkTrack, .instanceMethod yX3_checkTrack, .selects RX3 yX3_checkTrack yX3_checkTrack, .code yX3_checkTrack cX3_checkTrack 2 none, .classLink RX3 257 "java/lang/IndexOutOfBoundsException", .initialized "java/lang/IndexOutOfBoundsException", .methodLink RX3 189 yX2_descendants, .instanceMethod yX2_descendants, .selects RX2 yX2_descendants yX2_descendants, .initialized RX2, .code yX2_descendants cX2_descendants 4 (some .int), .methodLink RX2 144 yX2_comesFrom, .instanceMethod yX2_comesFrom, .selects RX2 yX2_comesFrom yX2_comesFrom, .code yX2_comesFrom cX2_comesFrom 5 (some .boolean), .fieldLink RX2 24 "WaxCopies$Wax" "mother" "[I"] ++ wsX30 ++ wsX20 ++ (vx_atS RX3 261 "java/lang/IndexOutOfBoundsException" ["java/lang/RuntimeException", "java/lang/Exception"]).filter goodWord)
def wsL_act_r1 : List Cond := [Cond.methodLink RL 66 yL_low, Cond.static yL_low, Cond.initialized RL, Cond.code yL_low cL_low 2 (some .int), Cond.constant RL 9 (2147483647), Cond.methodLink RL 71 yL_speak, Cond.static yL_speak, Cond.codeWith yL_speak cL_speak 4 (some .int) [(0, 6, 7, 16), (0, 6, 11, 19)], Cond.classLink RL 16 "java/lang/IndexOutOfBoundsException", Cond.classLink RL 19 "java/lang/IllegalArgumentException", Cond.constant RL 18 (-1000001), Cond.constant RL 21 (-1000002), Cond.methodLink RL 10 yX3_speak, Cond.instanceMethod yX3_speak, Cond.selects RX3 yX3_speak yX3_speak, Cond.initialized RX3, Cond.code yX3_speak cX3_speak 3 (some .int), Cond.fieldLink RX3 12 "WaxCopies" "now" "LWaxCopies$Wax;", Cond.methodLink RX3 45 yX3_checkTrack, Cond.instanceMethod yX3_checkTrack, Cond.selects RX3 yX3_checkTrack yX3_checkTrack, Cond.code yX3_checkTrack cX3_checkTrack 2 none, Cond.classLink RX3 257 "java/lang/IndexOutOfBoundsException", Cond.initialized "java/lang/IndexOutOfBoundsException"]
def wsL_act_r2 : List Cond := [Cond.methodLink RX3 49 yX3_checkLoudness, Cond.instanceMethod yX3_checkLoudness, Cond.selects RX3 yX3_checkLoudness yX3_checkLoudness, Cond.code yX3_checkLoudness cX3_checkLoudness 2 none, Cond.classLink RX3 83 "java/lang/IllegalArgumentException", Cond.initialized "java/lang/IllegalArgumentException", Cond.methodLink RX3 52 yX3_saveState, Cond.instanceMethod yX3_saveState, Cond.selects RX3 yX3_saveState yX3_saveState, Cond.code yX3_saveState cX3_saveState 1 none, Cond.fieldLink RX3 27 "WaxCopies" "savedStates" "I", Cond.fieldLink RX3 24 "WaxCopies" "saved" "[LWaxCopies$Wax;", Cond.methodLink RX3 272 yX3_dropOldestState, Cond.instanceMethod yX3_dropOldestState, Cond.selects RX3 yX3_dropOldestState yX3_dropOldestState, Cond.code yX3_dropOldestState cX3_dropOldestState 3 none, Cond.methodLink RX3 130 yX2_takeOver, Cond.instanceMethod yX2_takeOver, Cond.selects RX2 yX2_takeOver yX2_takeOver, Cond.initialized RX2, Cond.code yX2_takeOver cX2_takeOver 2 none, Cond.fieldLink RX2 9 "WaxCopies$Wax" "depth" "[I", Cond.methodLink RX2 70 arraycopyName, Cond.native arraycopyName]
def wsL_act_r3 : List Cond := [Cond.static arraycopyName, Cond.initialized "java/lang/System", Cond.fieldLink RX2 15 "WaxCopies$Wax" "clearness" "[I", Cond.fieldLink RX2 18 "WaxCopies$Wax" "flutter" "[I", Cond.fieldLink RX2 21 "WaxCopies$Wax" "generation" "[I", Cond.fieldLink RX2 24 "WaxCopies$Wax" "mother" "[I", Cond.fieldLink RX2 27 "WaxCopies$Wax" "clearnessAsCut" "[I", Cond.fieldLink RX2 30 "WaxCopies$Wax" "plays" "[I", Cond.fieldLink RX2 33 "WaxCopies$Wax" "layers" "[I", Cond.fieldLink RX2 36 "WaxCopies$Wax" "shavings" "[I", Cond.fieldLink RX2 39 "WaxCopies$Wax" "sharpness" "I", Cond.fieldLink RX2 43 "WaxCopies$Wax" "spring" "I", Cond.fieldLink RX2 46 "WaxCopies$Wax" "wear" "I", Cond.fieldLink RX2 49 "WaxCopies$Wax" "spoken" "I", Cond.fieldLink RX2 52 "WaxCopies$Wax" "copied" "I", Cond.fieldLink RX2 55 "WaxCopies$Wax" "played" "I", Cond.fieldLink RX2 58 "WaxCopies$Wax" "layersShaved" "I", Cond.fieldLink RX2 61 "WaxCopies$Wax" "layersCome" "I", Cond.fieldLink RX2 64 "WaxCopies$Wax" "layersGone" "I", Cond.fieldLink RX2 67 "WaxCopies$Wax" "refused" "I", Cond.methodLink RX3 55 yX2_speakOnto, Cond.instanceMethod yX2_speakOnto, Cond.selects RX2 yX2_speakOnto yX2_speakOnto, Cond.code yX2_speakOnto cX2_speakOnto 4 (some .int)]
def wsL_act_r4 : List Cond := [Cond.methodLink RX2 80 yX2_reasonNotToSpeak, Cond.instanceMethod yX2_reasonNotToSpeak, Cond.selects RX2 yX2_reasonNotToSpeak yX2_reasonNotToSpeak, Cond.code yX2_reasonNotToSpeak cX2_reasonNotToSpeak 3 (some .int), Cond.methodLink RX2 76 yX2_isCut, Cond.instanceMethod yX2_isCut, Cond.selects RX2 yX2_isCut yX2_isCut, Cond.code yX2_isCut cX2_isCut 2 (some .boolean), Cond.static yX3_bluntness, Cond.code yX3_bluntness cX3_bluntness 1 (some .int), Cond.methodLink RX2 88 yX2_machineFlutter, Cond.instanceMethod yX2_machineFlutter, Cond.selects RX2 yX2_machineFlutter yX2_machineFlutter, Cond.code yX2_machineFlutter cX2_machineFlutter 1 (some .int), Cond.methodLink RX2 92 yX2_cut, Cond.instanceMethod yX2_cut, Cond.selects RX2 yX2_cut yX2_cut, Cond.code yX2_cut cX2_cut 5 none, Cond.static yX3_sharpnessAfter, Cond.code yX3_sharpnessAfter cX3_sharpnessAfter 2 (some .int), Cond.methodLink RX3 290 Lib.Math.max.name, Cond.static Lib.Math.max.name, Cond.initialized "java/lang/Math", Cond.code Lib.Math.max.name Lib.Math.max.code 2 (some .int)]
def wsL_act_r5 : List Cond := [Cond.methodLink RL 74 yL_copy, Cond.static yL_copy, Cond.codeWith yL_copy cL_copy 5 (some .int) [(0, 7, 8, 16), (0, 7, 13, 19)], Cond.methodLink RL 22 yX3_copy, Cond.instanceMethod yX3_copy, Cond.selects RX3 yX3_copy yX3_copy, Cond.code yX3_copy cX3_copy 4 (some .int), Cond.methodLink RX3 59 yX3_checkLever, Cond.instanceMethod yX3_checkLever, Cond.selects RX3 yX3_checkLever yX3_checkLever, Cond.code yX3_checkLever cX3_checkLever 2 none, Cond.methodLink RX3 62 yX2_copyOnto, Cond.instanceMethod yX2_copyOnto, Cond.selects RX2 yX2_copyOnto yX2_copyOnto, Cond.code yX2_copyOnto cX2_copyOnto 6 (some .int), Cond.methodLink RX2 107 Lib.Math.min.name, Cond.static Lib.Math.min.name, Cond.code Lib.Math.min.name Lib.Math.min.code 2 (some .int), Cond.methodLink RX2 103 yX2_reasonNotToCopy, Cond.instanceMethod yX2_reasonNotToCopy, Cond.selects RX2 yX2_reasonNotToCopy yX2_reasonNotToCopy, Cond.code yX2_reasonNotToCopy cX2_reasonNotToCopy 4 (some .int), Cond.static yX3_copiedDepth, Cond.code yX3_copiedDepth cX3_copiedDepth 2 (some .int)]
def wsL_act_r6 : List Cond := [Cond.methodLink RX3 295 Lib.Math.min.name, Cond.methodLink RX2 112 yX2_clearnessIfCopied, Cond.instanceMethod yX2_clearnessIfCopied, Cond.selects RX2 yX2_clearnessIfCopied yX2_clearnessIfCopied, Cond.code yX2_clearnessIfCopied cX2_clearnessIfCopied 3 (some .int), Cond.static yX3_copiedClearness, Cond.code yX3_copiedClearness cX3_copiedClearness 4 (some .int), Cond.methodLink RX3 298 yX3_bluntness, Cond.methodLink RL 77 yL_play, Cond.static yL_play, Cond.codeWith yL_play cL_play 3 (some .int) [(0, 5, 6, 16)], Cond.methodLink RL 26 yX3_play, Cond.instanceMethod yX3_play, Cond.selects RX3 yX3_play yX3_play, Cond.code yX3_play cX3_play 2 (some .int), Cond.methodLink RX3 66 yX2_playTrack, Cond.instanceMethod yX2_playTrack, Cond.selects RX2 yX2_playTrack yX2_playTrack, Cond.code yX2_playTrack cX2_playTrack 3 (some .int), Cond.methodLink RX2 118 Lib.Math.max.name, Cond.methodLink RL 80 yL_shave, Cond.static yL_shave, Cond.codeWith yL_shave cL_shave 3 (some .int) [(0, 5, 6, 16)], Cond.methodLink RL 30 yX3_shave]
def wsL_act_r7 : List Cond := [Cond.instanceMethod yX3_shave, Cond.selects RX3 yX3_shave yX3_shave, Cond.code yX3_shave cX3_shave 2 (some .int), Cond.methodLink RX3 70 yX3_checkCylinder, Cond.instanceMethod yX3_checkCylinder, Cond.selects RX3 yX3_checkCylinder yX3_checkCylinder, Cond.code yX3_checkCylinder cX3_checkCylinder 2 none, Cond.methodLink RX3 73 yX2_shaveCylinder, Cond.instanceMethod yX2_shaveCylinder, Cond.selects RX2 yX2_shaveCylinder yX2_shaveCylinder, Cond.code yX2_shaveCylinder cX2_shaveCylinder 3 (some .int), Cond.methodLink RX2 121 yX2_greatestDepth, Cond.instanceMethod yX2_greatestDepth, Cond.selects RX2 yX2_greatestDepth yX2_greatestDepth, Cond.code yX2_greatestDepth cX2_greatestDepth 5 (some .int), Cond.methodLink RX2 124 yX2_smoothTracks, Cond.instanceMethod yX2_smoothTracks, Cond.selects RX2 yX2_smoothTracks yX2_smoothTracks, Cond.code yX2_smoothTracks cX2_smoothTracks 4 none, Cond.methodLink RL 82 yL_set, Cond.static yL_set, Cond.codeWith yL_set cL_set 3 (some .int) [(0, 5, 6, 19)], Cond.methodLink RL 36 yX3_set, Cond.instanceMethod yX3_set]
def wsL_act_r8 : List Cond := [Cond.selects RX3 yX3_set yX3_set, Cond.code yX3_set cX3_set 3 (some .int), Cond.fieldLink RX3 95 "WaxCopies$Wax" "wear" "I", Cond.methodLink RL 84 yL_renew, Cond.static yL_renew, Cond.codeWith yL_renew cL_renew 4 (some .int) [(0, 6, 7, 16), (0, 6, 11, 19)], Cond.methodLink RL 33 yX3_renew, Cond.instanceMethod yX3_renew, Cond.selects RX3 yX3_renew yX3_renew, Cond.code yX3_renew cX3_renew 3 (some .int), Cond.methodLink RX3 90 yX2_renewCylinder, Cond.instanceMethod yX2_renewCylinder, Cond.selects RX2 yX2_renewCylinder yX2_renewCylinder, Cond.code yX2_renewCylinder cX2_renewCylinder 4 (some .int), Cond.methodLink RL 86 yX3_sharpen, Cond.instanceMethod yX3_sharpen, Cond.selects RX3 yX3_sharpen yX3_sharpen, Cond.code yX3_sharpen cX3_sharpen 1 (some .int), Cond.methodLink RX3 80 yX2_sharpenPoint, Cond.instanceMethod yX2_sharpenPoint, Cond.selects RX2 yX2_sharpenPoint yX2_sharpenPoint, Cond.code yX2_sharpenPoint cX2_sharpenPoint 2 (some .int), Cond.methodLink RL 89 yX3_wind, Cond.instanceMethod yX3_wind]
def wsL_act_r9 : List Cond := [Cond.selects RX3 yX3_wind yX3_wind, Cond.code yX3_wind cX3_wind 1 (some .int), Cond.methodLink RX3 76 yX2_windUp, Cond.instanceMethod yX2_windUp, Cond.selects RX2 yX2_windUp yX2_windUp, Cond.code yX2_windUp cX2_windUp 2 (some .int)]
def wsL_act : List Cond := .code yL_act cL_act 5 (some .int) :: ((wsL_act_r1 ++ (wsL_act_r2 ++ (wsL_act_r3 ++ (wsL_act_r4 ++ (wsL_act_r5 ++ (wsL_act_r6 ++ (wsL_act_r7 ++ (wsL_act_r8 ++ wsL_act_r9)))))))) ++ wsX30 ++ wsX20 ++ (vx_atS RX3 261 "java/lang/IndexOutOfBoundsException" ["java/lang/RuntimeException", "java/lang/Exception"]).filter goodWord ++ (vx_atS RX3 87 "java/lang/IllegalArgumentException" ["java/lang/RuntimeException", "java/lang/Exception"]).filter goodWord)
def wsL_track_r1 : List Cond := [Cond.methodLink RL 92 yL_trackOf, Cond.static yL_trackOf, Cond.initialized RL, Cond.codeWith yL_trackOf cL_trackOf 4 (some .int) [(0, 6, 7, 16), (0, 6, 11, 19)], Cond.classLink RL 16 "java/lang/IndexOutOfBoundsException", Cond.classLink RL 19 "java/lang/IllegalArgumentException", Cond.constant RL 18 (-1000001), Cond.constant RL 21 (-1000002), Cond.methodLink RL 45 yX3_trackOf, Cond.instanceMethod yX3_trackOf, Cond.selects RX3 yX3_trackOf yX3_trackOf, Cond.initialized RX3, Cond.code yX3_trackOf cX3_trackOf 3 (some .int), Cond.fieldLink RX3 12 "WaxCopies" "now" "LWaxCopies$Wax;", Cond.methodLink RX3 45 yX3_checkTrack, Cond.instanceMethod yX3_checkTrack, Cond.selects RX3 yX3_checkTrack yX3_checkTrack, Cond.code yX3_checkTrack cX3_checkTrack 2 none, Cond.classLink RX3 257 "java/lang/IndexOutOfBoundsException", Cond.initialized "java/lang/IndexOutOfBoundsException", Cond.methodLink RX3 141 yX3_checkWhat, Cond.instanceMethod yX3_checkWhat, Cond.selects RX3 yX3_checkWhat yX3_checkWhat, Cond.code yX3_checkWhat cX3_checkWhat 3 none]
def wsL_track_r2 : List Cond := [Cond.classLink RX3 83 "java/lang/IllegalArgumentException", Cond.initialized "java/lang/IllegalArgumentException", Cond.methodLink RX3 145 yX2_trackProperty, Cond.instanceMethod yX2_trackProperty, Cond.selects RX2 yX2_trackProperty yX2_trackProperty, Cond.initialized RX2, Cond.code yX2_trackProperty cX2_trackProperty 3 (some .int), Cond.fieldLink RX2 9 "WaxCopies$Wax" "depth" "[I", Cond.fieldLink RX2 15 "WaxCopies$Wax" "clearness" "[I", Cond.fieldLink RX2 18 "WaxCopies$Wax" "flutter" "[I", Cond.fieldLink RX2 21 "WaxCopies$Wax" "generation" "[I", Cond.fieldLink RX2 24 "WaxCopies$Wax" "mother" "[I", Cond.fieldLink RX2 27 "WaxCopies$Wax" "clearnessAsCut" "[I", Cond.fieldLink RX2 30 "WaxCopies$Wax" "plays" "[I", Cond.methodLink RX2 76 yX2_isCut, Cond.instanceMethod yX2_isCut, Cond.selects RX2 yX2_isCut yX2_isCut, Cond.code yX2_isCut cX2_isCut 2 (some .boolean), Cond.methodLink RL 94 yL_chain, Cond.static yL_chain, Cond.codeWith yL_chain cL_chain 5 (some .int) [(0, 7, 8, 16), (0, 7, 13, 19)], Cond.methodLink RL 60 yX3_chain, Cond.instanceMethod yX3_chain, Cond.selects RX3 yX3_chain yX3_chain]
def wsL_track_r3 : List Cond := [Cond.code yX3_chain cX3_chain 6 (some .int), Cond.fieldLink RX3 169 "WaxCopies$Wax" "depth" "[I", Cond.fieldLink RX3 173 "WaxCopies$Wax" "clearness" "[I", Cond.fieldLink RX3 41 "WaxCopies" "steps" "LWaxCopies$Steps;", Cond.fieldLink RX3 176 "WaxCopies$Wax" "sharpness" "I", Cond.methodLink RX3 165 yX2_isCut, Cond.methodLink RX3 179 yX1_clearestAfter, Cond.instanceMethod yX1_clearestAfter, Cond.selects RX1 yX1_clearestAfter yX1_clearestAfter, Cond.initialized RX1, Cond.code yX1_clearestAfter cX1_clearestAfter 9 (some .int), Cond.fieldLink RX1 11 "WaxCopies$Steps" "best" "[[I", Cond.fieldLink RX1 16 "WaxCopies$Steps" "next" "[[I", Cond.methodLink RX1 19 yX1_forget, Cond.static yX1_forget, Cond.code yX1_forget cX1_forget 5 none, Cond.static yX3_sharpnessAfter, Cond.code yX3_sharpnessAfter cX3_sharpnessAfter 2 (some .int), Cond.methodLink RX3 290 Lib.Math.max.name, Cond.static Lib.Math.max.name, Cond.initialized "java/lang/Math", Cond.code Lib.Math.max.name Lib.Math.max.code 2 (some .int), Cond.methodLink RX1 27 yX1_stepOn, Cond.instanceMethod yX1_stepOn]
def wsL_track_r4 : List Cond := [Cond.selects RX1 yX1_stepOn yX1_stepOn, Cond.code yX1_stepOn cX1_stepOn 10 none, Cond.methodLink RX1 41 Lib.Math.max.name, Cond.static yX3_copiedDepth, Cond.code yX3_copiedDepth cX3_copiedDepth 2 (some .int), Cond.methodLink RX3 295 Lib.Math.min.name, Cond.static Lib.Math.min.name, Cond.code Lib.Math.min.name Lib.Math.min.code 2 (some .int), Cond.static yX3_copiedClearness, Cond.code yX3_copiedClearness cX3_copiedClearness 4 (some .int), Cond.methodLink RX3 298 yX3_bluntness, Cond.static yX3_bluntness, Cond.code yX3_bluntness cX3_bluntness 1 (some .int), Cond.methodLink RX1 31 yX1_clearestOf, Cond.instanceMethod yX1_clearestOf, Cond.selects RX1 yX1_clearestOf yX1_clearestOf, Cond.code yX1_clearestOf cX1_clearestOf 6 (some .int), Cond.methodLink RX3 183 yX3_clearestOfAllLevers, Cond.static yX3_clearestOfAllLevers, Cond.code yX3_clearestOfAllLevers cX3_clearestOfAllLevers 8 (some .int), Cond.methodLink RX3 301 yX3_copiedDepth, Cond.methodLink RX3 304 yX3_copiedClearness, Cond.methodLink RX3 307 yX3_sharpnessAfter, Cond.methodLink RL 96 yL_whyNot]
def wsL_track_r5 : List Cond := [Cond.static yL_whyNot, Cond.codeWith yL_whyNot cL_whyNot 4 (some .int) [(0, 6, 7, 16), (0, 6, 11, 19)], Cond.methodLink RL 54 yX3_whyNot, Cond.instanceMethod yX3_whyNot, Cond.selects RX3 yX3_whyNot yX3_whyNot, Cond.code yX3_whyNot cX3_whyNot 3 (some .int), Cond.methodLink RX3 49 yX3_checkLoudness, Cond.instanceMethod yX3_checkLoudness, Cond.selects RX3 yX3_checkLoudness yX3_checkLoudness, Cond.code yX3_checkLoudness cX3_checkLoudness 2 none, Cond.methodLink RX3 154 yX2_reasonNotToSpeak, Cond.instanceMethod yX2_reasonNotToSpeak, Cond.selects RX2 yX2_reasonNotToSpeak yX2_reasonNotToSpeak, Cond.code yX2_reasonNotToSpeak cX2_reasonNotToSpeak 3 (some .int), Cond.fieldLink RX2 33 "WaxCopies$Wax" "layers" "[I", Cond.fieldLink RX2 43 "WaxCopies$Wax" "spring" "I", Cond.methodLink RL 98 yL_cylinderOf, Cond.static yL_cylinderOf, Cond.codeWith yL_cylinderOf cL_cylinderOf 4 (some .int) [(0, 6, 7, 16), (0, 6, 11, 19)], Cond.methodLink RL 48 yX3_cylinderOf, Cond.instanceMethod yX3_cylinderOf, Cond.selects RX3 yX3_cylinderOf yX3_cylinderOf, Cond.code yX3_cylinderOf cX3_cylinderOf 3 (some .int), Cond.methodLink RX3 70 yX3_checkCylinder]
def wsL_track_r6 : List Cond := [Cond.instanceMethod yX3_checkCylinder, Cond.selects RX3 yX3_checkCylinder yX3_checkCylinder, Cond.code yX3_checkCylinder cX3_checkCylinder 2 none, Cond.methodLink RX3 148 yX2_cylinderProperty, Cond.instanceMethod yX2_cylinderProperty, Cond.selects RX2 yX2_cylinderProperty yX2_cylinderProperty, Cond.code yX2_cylinderProperty cX2_cylinderProperty 3 (some .int), Cond.fieldLink RX2 36 "WaxCopies$Wax" "shavings" "[I", Cond.methodLink RX2 128 yX2_cutTracksOn, Cond.instanceMethod yX2_cutTracksOn, Cond.selects RX2 yX2_cutTracksOn yX2_cutTracksOn, Cond.code yX2_cutTracksOn cX2_cutTracksOn 5 (some .int), Cond.methodLink RX2 121 yX2_greatestDepth, Cond.instanceMethod yX2_greatestDepth, Cond.selects RX2 yX2_greatestDepth yX2_greatestDepth, Cond.code yX2_greatestDepth cX2_greatestDepth 5 (some .int), Cond.methodLink RX2 118 Lib.Math.max.name, Cond.methodLink RX2 131 yX2_clearestTrackOn, Cond.instanceMethod yX2_clearestTrackOn, Cond.selects RX2 yX2_clearestTrackOn yX2_clearestTrackOn, Cond.code yX2_clearestTrackOn cX2_clearestTrackOn 5 (some .int)]
def wsL_track : List Cond := .code yL_track cL_track 10 (some .boolean) :: ((wsL_track_r1 ++ (wsL_track_r2 ++ (wsL_track_r3 ++ (wsL_track_r4 ++ (wsL_track_r5 ++ wsL_track_r6))))) ++ wsX30 ++ wsX20 ++ wsX10 ++ (vx_atS RX3 261 "java/lang/IndexOutOfBoundsException" ["java/lang/RuntimeException", "java/lang/Exception"]).filter goodWord ++ (vx_atS RX3 87 "java/lang/IllegalArgumentException" ["java/lang/RuntimeException", "java/lang/Exception"]).filter goodWord)
def wsL_hangs_r1 : List Cond := [Cond.methodLink RL 100 yL_track, Cond.static yL_track, Cond.initialized RL, Cond.code yL_track cL_track 10 (some .boolean), Cond.methodLink RL 92 yL_trackOf, Cond.static yL_trackOf, Cond.codeWith yL_trackOf cL_trackOf 4 (some .int) [(0, 6, 7, 16), (0, 6, 11, 19)], Cond.classLink RL 16 "java/lang/IndexOutOfBoundsException", Cond.classLink RL 19 "java/lang/IllegalArgumentException", Cond.constant RL 18 (-1000001), Cond.constant RL 21 (-1000002), Cond.methodLink RL 45 yX3_trackOf, Cond.instanceMethod yX3_trackOf, Cond.selects RX3 yX3_trackOf yX3_trackOf, Cond.initialized RX3, Cond.code yX3_trackOf cX3_trackOf 3 (some .int), Cond.fieldLink RX3 12 "WaxCopies" "now" "LWaxCopies$Wax;", Cond.methodLink RX3 45 yX3_checkTrack, Cond.instanceMethod yX3_checkTrack, Cond.selects RX3 yX3_checkTrack yX3_checkTrack, Cond.code yX3_checkTrack cX3_checkTrack 2 none, Cond.classLink RX3 257 "java/lang/IndexOutOfBoundsException", Cond.initialized "java/lang/IndexOutOfBoundsException", Cond.methodLink RX3 141 yX3_checkWhat]
def wsL_hangs_r2 : List Cond := [Cond.instanceMethod yX3_checkWhat, Cond.selects RX3 yX3_checkWhat yX3_checkWhat, Cond.code yX3_checkWhat cX3_checkWhat 3 none, Cond.classLink RX3 83 "java/lang/IllegalArgumentException", Cond.initialized "java/lang/IllegalArgumentException", Cond.methodLink RX3 145 yX2_trackProperty, Cond.instanceMethod yX2_trackProperty, Cond.selects RX2 yX2_trackProperty yX2_trackProperty, Cond.initialized RX2, Cond.code yX2_trackProperty cX2_trackProperty 3 (some .int), Cond.fieldLink RX2 9 "WaxCopies$Wax" "depth" "[I", Cond.fieldLink RX2 15 "WaxCopies$Wax" "clearness" "[I", Cond.fieldLink RX2 18 "WaxCopies$Wax" "flutter" "[I", Cond.fieldLink RX2 21 "WaxCopies$Wax" "generation" "[I", Cond.fieldLink RX2 24 "WaxCopies$Wax" "mother" "[I", Cond.fieldLink RX2 27 "WaxCopies$Wax" "clearnessAsCut" "[I", Cond.fieldLink RX2 30 "WaxCopies$Wax" "plays" "[I", Cond.methodLink RX2 76 yX2_isCut, Cond.instanceMethod yX2_isCut, Cond.selects RX2 yX2_isCut yX2_isCut, Cond.code yX2_isCut cX2_isCut 2 (some .boolean), Cond.methodLink RL 94 yL_chain, Cond.static yL_chain, Cond.codeWith yL_chain cL_chain 5 (some .int) [(0, 7, 8, 16), (0, 7, 13, 19)]]
def wsL_hangs_r3 : List Cond := [Cond.methodLink RL 60 yX3_chain, Cond.instanceMethod yX3_chain, Cond.selects RX3 yX3_chain yX3_chain, Cond.code yX3_chain cX3_chain 6 (some .int), Cond.fieldLink RX3 169 "WaxCopies$Wax" "depth" "[I", Cond.fieldLink RX3 173 "WaxCopies$Wax" "clearness" "[I", Cond.fieldLink RX3 41 "WaxCopies" "steps" "LWaxCopies$Steps;", Cond.fieldLink RX3 176 "WaxCopies$Wax" "sharpness" "I", Cond.methodLink RX3 165 yX2_isCut, Cond.methodLink RX3 179 yX1_clearestAfter, Cond.instanceMethod yX1_clearestAfter, Cond.selects RX1 yX1_clearestAfter yX1_clearestAfter, Cond.initialized RX1, Cond.code yX1_clearestAfter cX1_clearestAfter 9 (some .int), Cond.fieldLink RX1 11 "WaxCopies$Steps" "best" "[[I", Cond.fieldLink RX1 16 "WaxCopies$Steps" "next" "[[I", Cond.methodLink RX1 19 yX1_forget, Cond.static yX1_forget, Cond.code yX1_forget cX1_forget 5 none, Cond.static yX3_sharpnessAfter, Cond.code yX3_sharpnessAfter cX3_sharpnessAfter 2 (some .int), Cond.methodLink RX3 290 Lib.Math.max.name, Cond.static Lib.Math.max.name, Cond.initialized "java/lang/Math"]
def wsL_hangs_r4 : List Cond := [Cond.code Lib.Math.max.name Lib.Math.max.code 2 (some .int), Cond.methodLink RX1 27 yX1_stepOn, Cond.instanceMethod yX1_stepOn, Cond.selects RX1 yX1_stepOn yX1_stepOn, Cond.code yX1_stepOn cX1_stepOn 10 none, Cond.methodLink RX1 41 Lib.Math.max.name, Cond.static yX3_copiedDepth, Cond.code yX3_copiedDepth cX3_copiedDepth 2 (some .int), Cond.methodLink RX3 295 Lib.Math.min.name, Cond.static Lib.Math.min.name, Cond.code Lib.Math.min.name Lib.Math.min.code 2 (some .int), Cond.static yX3_copiedClearness, Cond.code yX3_copiedClearness cX3_copiedClearness 4 (some .int), Cond.methodLink RX3 298 yX3_bluntness, Cond.static yX3_bluntness, Cond.code yX3_bluntness cX3_bluntness 1 (some .int), Cond.methodLink RX1 31 yX1_clearestOf, Cond.instanceMethod yX1_clearestOf, Cond.selects RX1 yX1_clearestOf yX1_clearestOf, Cond.code yX1_clearestOf cX1_clearestOf 6 (some .int), Cond.methodLink RX3 183 yX3_clearestOfAllLevers, Cond.static yX3_clearestOfAllLevers, Cond.code yX3_clearestOfAllLevers cX3_clearestOfAllLevers 8 (some .int), Cond.methodLink RX3 301 yX3_copiedDepth]
def wsL_hangs_r5 : List Cond := [Cond.methodLink RX3 304 yX3_copiedClearness, Cond.methodLink RX3 307 yX3_sharpnessAfter, Cond.methodLink RL 96 yL_whyNot, Cond.static yL_whyNot, Cond.codeWith yL_whyNot cL_whyNot 4 (some .int) [(0, 6, 7, 16), (0, 6, 11, 19)], Cond.methodLink RL 54 yX3_whyNot, Cond.instanceMethod yX3_whyNot, Cond.selects RX3 yX3_whyNot yX3_whyNot, Cond.code yX3_whyNot cX3_whyNot 3 (some .int), Cond.methodLink RX3 49 yX3_checkLoudness, Cond.instanceMethod yX3_checkLoudness, Cond.selects RX3 yX3_checkLoudness yX3_checkLoudness, Cond.code yX3_checkLoudness cX3_checkLoudness 2 none, Cond.methodLink RX3 154 yX2_reasonNotToSpeak, Cond.instanceMethod yX2_reasonNotToSpeak, Cond.selects RX2 yX2_reasonNotToSpeak yX2_reasonNotToSpeak, Cond.code yX2_reasonNotToSpeak cX2_reasonNotToSpeak 3 (some .int), Cond.fieldLink RX2 33 "WaxCopies$Wax" "layers" "[I", Cond.fieldLink RX2 43 "WaxCopies$Wax" "spring" "I", Cond.methodLink RL 98 yL_cylinderOf, Cond.static yL_cylinderOf, Cond.codeWith yL_cylinderOf cL_cylinderOf 4 (some .int) [(0, 6, 7, 16), (0, 6, 11, 19)], Cond.methodLink RL 48 yX3_cylinderOf, Cond.instanceMethod yX3_cylinderOf]
def wsL_hangs_r6 : List Cond := [Cond.selects RX3 yX3_cylinderOf yX3_cylinderOf, Cond.code yX3_cylinderOf cX3_cylinderOf 3 (some .int), Cond.methodLink RX3 70 yX3_checkCylinder, Cond.instanceMethod yX3_checkCylinder, Cond.selects RX3 yX3_checkCylinder yX3_checkCylinder, Cond.code yX3_checkCylinder cX3_checkCylinder 2 none, Cond.methodLink RX3 148 yX2_cylinderProperty, Cond.instanceMethod yX2_cylinderProperty, Cond.selects RX2 yX2_cylinderProperty yX2_cylinderProperty, Cond.code yX2_cylinderProperty cX2_cylinderProperty 3 (some .int), Cond.fieldLink RX2 36 "WaxCopies$Wax" "shavings" "[I", Cond.methodLink RX2 128 yX2_cutTracksOn, Cond.instanceMethod yX2_cutTracksOn, Cond.selects RX2 yX2_cutTracksOn yX2_cutTracksOn, Cond.code yX2_cutTracksOn cX2_cutTracksOn 5 (some .int), Cond.methodLink RX2 121 yX2_greatestDepth, Cond.instanceMethod yX2_greatestDepth, Cond.selects RX2 yX2_greatestDepth yX2_greatestDepth, Cond.code yX2_greatestDepth cX2_greatestDepth 5 (some .int), Cond.methodLink RX2 118 Lib.Math.max.name, Cond.methodLink RX2 131 yX2_clearestTrackOn, Cond.instanceMethod yX2_clearestTrackOn, Cond.selects RX2 yX2_clearestTrackOn yX2_clearestTrackOn, Cond.code yX2_clearestTrackOn cX2_clearestTrackOn 5 (some .int)]
def wsL_hangs_r7 : List Cond := [Cond.methodLink RL 104 yL_daughters, Cond.static yL_daughters, Cond.codeWith yL_daughters cL_daughters 3 (some .int) [(0, 5, 6, 16)], Cond.methodLink RL 63 yX3_daughters, Cond.instanceMethod yX3_daughters, Cond.selects RX3 yX3_daughters yX3_daughters, Cond.code yX3_daughters cX3_daughters 2 (some .int), Cond.methodLink RX3 189 yX2_descendants, Cond.instanceMethod yX2_descendants, Cond.selects RX2 yX2_descendants yX2_descendants, Cond.code yX2_descendants cX2_descendants 4 (some .int), Cond.methodLink RX2 144 yX2_comesFrom, Cond.instanceMethod yX2_comesFrom, Cond.selects RX2 yX2_comesFrom yX2_comesFrom, Cond.code yX2_comesFrom cX2_comesFrom 5 (some .boolean), Cond.methodLink RL 106 yX3_clearest, Cond.instanceMethod yX3_clearest, Cond.selects RX3 yX3_clearest yX3_clearest, Cond.code yX3_clearest cX3_clearest 1 (some .int), Cond.methodLink RX3 186 yX2_clearestTrack, Cond.instanceMethod yX2_clearestTrack, Cond.selects RX2 yX2_clearestTrack yX2_clearestTrack, Cond.code yX2_clearestTrack cX2_clearestTrack 3 (some .int), Cond.methodLink RX2 140 yX2_soundsBetter]
def wsL_hangs_r8 : List Cond := [Cond.instanceMethod yX2_soundsBetter, Cond.selects RX2 yX2_soundsBetter yX2_soundsBetter, Cond.code yX2_soundsBetter cX2_soundsBetter 3 (some .boolean), Cond.methodLink RL 109 yL_count, Cond.static yL_count, Cond.codeWith yL_count cL_count 3 (some .int) [(0, 5, 6, 19)], Cond.methodLink RL 51 yX3_count, Cond.instanceMethod yX3_count, Cond.selects RX3 yX3_count yX3_count, Cond.code yX3_count cX3_count 2 (some .int), Cond.fieldLink RX3 27 "WaxCopies" "savedStates" "I", Cond.methodLink RX3 151 yX2_number, Cond.instanceMethod yX2_number, Cond.selects RX2 yX2_number yX2_number, Cond.code yX2_number cX2_number 2 (some .int), Cond.fieldLink RX2 39 "WaxCopies$Wax" "sharpness" "I", Cond.fieldLink RX2 49 "WaxCopies$Wax" "spoken" "I", Cond.fieldLink RX2 52 "WaxCopies$Wax" "copied" "I", Cond.fieldLink RX2 55 "WaxCopies$Wax" "played" "I", Cond.fieldLink RX2 58 "WaxCopies$Wax" "layersShaved" "I", Cond.fieldLink RX2 61 "WaxCopies$Wax" "layersCome" "I", Cond.fieldLink RX2 64 "WaxCopies$Wax" "layersGone" "I", Cond.fieldLink RX2 67 "WaxCopies$Wax" "refused" "I", Cond.methodLink RX2 88 yX2_machineFlutter]
def wsL_hangs_r9 : List Cond := [Cond.instanceMethod yX2_machineFlutter, Cond.selects RX2 yX2_machineFlutter yX2_machineFlutter, Cond.code yX2_machineFlutter cX2_machineFlutter 1 (some .int), Cond.methodLink RX2 134 yX2_cutTracks, Cond.instanceMethod yX2_cutTracks, Cond.selects RX2 yX2_cutTracks yX2_cutTracks, Cond.code yX2_cutTracks cX2_cutTracks 3 (some .int), Cond.methodLink RX2 137 yX2_layersTogether, Cond.instanceMethod yX2_layersTogether, Cond.selects RX2 yX2_layersTogether yX2_layersTogether, Cond.code yX2_layersTogether cX2_layersTogether 3 (some .int), Cond.methodLink RL 111 yX3_meanDepth, Cond.instanceMethod yX3_meanDepth, Cond.selects RX3 yX3_meanDepth yX3_meanDepth, Cond.code yX3_meanDepth cX3_meanDepth 2 (some .float), Cond.methodLink RX3 134 yX2_cutTracks, Cond.methodLink RX3 192 yX2_depthTogether, Cond.instanceMethod yX2_depthTogether, Cond.selects RX2 yX2_depthTogether yX2_depthTogether, Cond.code yX2_depthTogether cX2_depthTogether 3 (some .int), Cond.methodLink RL 115 yX3_clearShare, Cond.instanceMethod yX3_clearShare, Cond.selects RX3 yX3_clearShare yX3_clearShare, Cond.code yX3_clearShare cX3_clearShare 2 (some .double)]
def wsL_hangs_r10 : List Cond := [Cond.methodLink RX3 195 yX2_clearnessTogether, Cond.instanceMethod yX2_clearnessTogether, Cond.selects RX2 yX2_clearnessTogether yX2_clearnessTogether, Cond.code yX2_clearnessTogether cX2_clearnessTogether 3 (some .int)]
def wsL_hangs : List Cond := .code yL_hangs cL_hangs 11 (some .boolean) :: ((wsL_hangs_r1 ++ (wsL_hangs_r2 ++ (wsL_hangs_r3 ++ (wsL_hangs_r4 ++ (wsL_hangs_r5 ++ (wsL_hangs_r6 ++ (wsL_hangs_r7 ++ (wsL_hangs_r8 ++ (wsL_hangs_r9 ++ wsL_hangs_r10))))))))) ++ wsX30 ++ wsX20 ++ wsX10 ++ (vx_atS RX3 261 "java/lang/IndexOutOfBoundsException" ["java/lang/RuntimeException", "java/lang/Exception"]).filter goodWord ++ (vx_atS RX3 87 "java/lang/IllegalArgumentException" ["java/lang/RuntimeException", "java/lang/Exception"]).filter goodWord)
def wsL_print_r1 : List Cond := [Cond.constantLong RL 122 (31), Cond.constantLong RL 124 (100), Cond.methodLink RL 119 yX3_setting, Cond.instanceMethod yX3_setting, Cond.selects RX3 yX3_setting yX3_setting, Cond.initialized RX3, Cond.code yX3_setting cX3_setting 1 (some .int), Cond.fieldLink RX3 12 "WaxCopies" "now" "LWaxCopies$Wax;", Cond.fieldLink RX3 95 "WaxCopies$Wax" "wear" "I", Cond.methodLink RL 109 yL_count, Cond.static yL_count, Cond.initialized RL, Cond.codeWith yL_count cL_count 3 (some .int) [(0, 5, 6, 19)], Cond.classLink RL 19 "java/lang/IllegalArgumentException", Cond.constant RL 18 (-1000001), Cond.methodLink RL 51 yX3_count, Cond.instanceMethod yX3_count, Cond.selects RX3 yX3_count yX3_count, Cond.code yX3_count cX3_count 2 (some .int), Cond.fieldLink RX3 27 "WaxCopies" "savedStates" "I", Cond.methodLink RX3 141 yX3_checkWhat, Cond.instanceMethod yX3_checkWhat, Cond.selects RX3 yX3_checkWhat yX3_checkWhat, Cond.code yX3_checkWhat cX3_checkWhat 3 none]
def wsL_print_r2 : List Cond := [Cond.classLink RX3 83 "java/lang/IllegalArgumentException", Cond.initialized "java/lang/IllegalArgumentException", Cond.methodLink RX3 151 yX2_number, Cond.instanceMethod yX2_number, Cond.selects RX2 yX2_number yX2_number, Cond.initialized RX2, Cond.code yX2_number cX2_number 2 (some .int), Cond.fieldLink RX2 39 "WaxCopies$Wax" "sharpness" "I", Cond.fieldLink RX2 43 "WaxCopies$Wax" "spring" "I", Cond.fieldLink RX2 49 "WaxCopies$Wax" "spoken" "I", Cond.fieldLink RX2 52 "WaxCopies$Wax" "copied" "I", Cond.fieldLink RX2 55 "WaxCopies$Wax" "played" "I", Cond.fieldLink RX2 58 "WaxCopies$Wax" "layersShaved" "I", Cond.fieldLink RX2 61 "WaxCopies$Wax" "layersCome" "I", Cond.fieldLink RX2 64 "WaxCopies$Wax" "layersGone" "I", Cond.fieldLink RX2 67 "WaxCopies$Wax" "refused" "I", Cond.methodLink RX2 88 yX2_machineFlutter, Cond.instanceMethod yX2_machineFlutter, Cond.selects RX2 yX2_machineFlutter yX2_machineFlutter, Cond.code yX2_machineFlutter cX2_machineFlutter 1 (some .int), Cond.methodLink RX2 134 yX2_cutTracks, Cond.instanceMethod yX2_cutTracks, Cond.selects RX2 yX2_cutTracks yX2_cutTracks, Cond.code yX2_cutTracks cX2_cutTracks 3 (some .int)]
def wsL_print_r3 : List Cond := [Cond.methodLink RX2 128 yX2_cutTracksOn, Cond.instanceMethod yX2_cutTracksOn, Cond.selects RX2 yX2_cutTracksOn yX2_cutTracksOn, Cond.code yX2_cutTracksOn cX2_cutTracksOn 5 (some .int), Cond.methodLink RX2 76 yX2_isCut, Cond.instanceMethod yX2_isCut, Cond.selects RX2 yX2_isCut yX2_isCut, Cond.code yX2_isCut cX2_isCut 2 (some .boolean), Cond.fieldLink RX2 9 "WaxCopies$Wax" "depth" "[I", Cond.methodLink RX2 137 yX2_layersTogether, Cond.instanceMethod yX2_layersTogether, Cond.selects RX2 yX2_layersTogether yX2_layersTogether, Cond.code yX2_layersTogether cX2_layersTogether 3 (some .int), Cond.fieldLink RX2 33 "WaxCopies$Wax" "layers" "[I", Cond.methodLink RL 92 yL_trackOf, Cond.static yL_trackOf, Cond.codeWith yL_trackOf cL_trackOf 4 (some .int) [(0, 6, 7, 16), (0, 6, 11, 19)], Cond.classLink RL 16 "java/lang/IndexOutOfBoundsException", Cond.constant RL 21 (-1000002), Cond.methodLink RL 45 yX3_trackOf, Cond.instanceMethod yX3_trackOf, Cond.selects RX3 yX3_trackOf yX3_trackOf, Cond.code yX3_trackOf cX3_trackOf 3 (some .int), Cond.methodLink RX3 45 yX3_checkTrack]
def wsL_print_r4 : List Cond := [Cond.instanceMethod yX3_checkTrack, Cond.selects RX3 yX3_checkTrack yX3_checkTrack, Cond.code yX3_checkTrack cX3_checkTrack 2 none, Cond.classLink RX3 257 "java/lang/IndexOutOfBoundsException", Cond.initialized "java/lang/IndexOutOfBoundsException", Cond.methodLink RX3 145 yX2_trackProperty, Cond.instanceMethod yX2_trackProperty, Cond.selects RX2 yX2_trackProperty yX2_trackProperty, Cond.code yX2_trackProperty cX2_trackProperty 3 (some .int), Cond.fieldLink RX2 15 "WaxCopies$Wax" "clearness" "[I", Cond.fieldLink RX2 18 "WaxCopies$Wax" "flutter" "[I", Cond.fieldLink RX2 21 "WaxCopies$Wax" "generation" "[I", Cond.fieldLink RX2 24 "WaxCopies$Wax" "mother" "[I", Cond.fieldLink RX2 27 "WaxCopies$Wax" "clearnessAsCut" "[I", Cond.fieldLink RX2 30 "WaxCopies$Wax" "plays" "[I", Cond.methodLink RL 98 yL_cylinderOf, Cond.static yL_cylinderOf, Cond.codeWith yL_cylinderOf cL_cylinderOf 4 (some .int) [(0, 6, 7, 16), (0, 6, 11, 19)], Cond.methodLink RL 48 yX3_cylinderOf, Cond.instanceMethod yX3_cylinderOf, Cond.selects RX3 yX3_cylinderOf yX3_cylinderOf, Cond.code yX3_cylinderOf cX3_cylinderOf 3 (some .int), Cond.methodLink RX3 70 yX3_checkCylinder, Cond.instanceMethod yX3_checkCylinder]
def wsL_print_r5 : List Cond := [Cond.selects RX3 yX3_checkCylinder yX3_checkCylinder, Cond.code yX3_checkCylinder cX3_checkCylinder 2 none, Cond.methodLink RX3 148 yX2_cylinderProperty, Cond.instanceMethod yX2_cylinderProperty, Cond.selects RX2 yX2_cylinderProperty yX2_cylinderProperty, Cond.code yX2_cylinderProperty cX2_cylinderProperty 3 (some .int), Cond.fieldLink RX2 36 "WaxCopies$Wax" "shavings" "[I", Cond.methodLink RX2 121 yX2_greatestDepth, Cond.instanceMethod yX2_greatestDepth, Cond.selects RX2 yX2_greatestDepth yX2_greatestDepth, Cond.code yX2_greatestDepth cX2_greatestDepth 5 (some .int), Cond.methodLink RX2 118 Lib.Math.max.name, Cond.static Lib.Math.max.name, Cond.initialized "java/lang/Math", Cond.code Lib.Math.max.name Lib.Math.max.code 2 (some .int), Cond.methodLink RX2 131 yX2_clearestTrackOn, Cond.instanceMethod yX2_clearestTrackOn, Cond.selects RX2 yX2_clearestTrackOn yX2_clearestTrackOn, Cond.code yX2_clearestTrackOn cX2_clearestTrackOn 5 (some .int)]
def wsL_print : List Cond := .code yL_print cL_print 4 (some .long) :: ((wsL_print_r1 ++ (wsL_print_r2 ++ (wsL_print_r3 ++ (wsL_print_r4 ++ wsL_print_r5)))) ++ wsX30 ++ wsX20 ++ (vx_atS RX3 87 "java/lang/IllegalArgumentException" ["java/lang/RuntimeException", "java/lang/Exception"]).filter goodWord ++ (vx_atS RX3 261 "java/lang/IndexOutOfBoundsException" ["java/lang/RuntimeException", "java/lang/Exception"]).filter goodWord)
def wsL_copies_r1 : List Cond := [Cond.methodLink RL 126 yL_ifCopied, Cond.static yL_ifCopied, Cond.initialized RL, Cond.codeWith yL_ifCopied cL_ifCopied 5 (some .int) [(0, 7, 8, 16), (0, 7, 13, 19)], Cond.classLink RL 16 "java/lang/IndexOutOfBoundsException", Cond.classLink RL 19 "java/lang/IllegalArgumentException", Cond.constant RL 18 (-1000001), Cond.constant RL 21 (-1000002), Cond.methodLink RL 57 yX3_ifCopied, Cond.instanceMethod yX3_ifCopied, Cond.selects RX3 yX3_ifCopied yX3_ifCopied, Cond.initialized RX3, Cond.code yX3_ifCopied cX3_ifCopied 5 (some .int), Cond.fieldLink RX3 12 "WaxCopies" "now" "LWaxCopies$Wax;", Cond.methodLink RX3 45 yX3_checkTrack, Cond.instanceMethod yX3_checkTrack, Cond.selects RX3 yX3_checkTrack yX3_checkTrack, Cond.code yX3_checkTrack cX3_checkTrack 2 none, Cond.classLink RX3 257 "java/lang/IndexOutOfBoundsException", Cond.initialized "java/lang/IndexOutOfBoundsException", Cond.methodLink RX3 59 yX3_checkLever, Cond.instanceMethod yX3_checkLever, Cond.selects RX3 yX3_checkLever yX3_checkLever, Cond.code yX3_checkLever cX3_checkLever 2 none]
def wsL_copies_r2 : List Cond := [Cond.classLink RX3 83 "java/lang/IllegalArgumentException", Cond.initialized "java/lang/IllegalArgumentException", Cond.methodLink RX3 157 yX2_reasonNotToCopy, Cond.instanceMethod yX2_reasonNotToCopy, Cond.selects RX2 yX2_reasonNotToCopy yX2_reasonNotToCopy, Cond.initialized RX2, Cond.code yX2_reasonNotToCopy cX2_reasonNotToCopy 4 (some .int), Cond.fieldLink RX2 33 "WaxCopies$Wax" "layers" "[I", Cond.fieldLink RX2 9 "WaxCopies$Wax" "depth" "[I", Cond.fieldLink RX2 43 "WaxCopies$Wax" "spring" "I", Cond.methodLink RX2 76 yX2_isCut, Cond.instanceMethod yX2_isCut, Cond.selects RX2 yX2_isCut yX2_isCut, Cond.code yX2_isCut cX2_isCut 2 (some .boolean), Cond.static yX3_copiedDepth, Cond.code yX3_copiedDepth cX3_copiedDepth 2 (some .int), Cond.methodLink RX3 290 Lib.Math.max.name, Cond.static Lib.Math.max.name, Cond.initialized "java/lang/Math", Cond.code Lib.Math.max.name Lib.Math.max.code 2 (some .int), Cond.methodLink RX3 295 Lib.Math.min.name, Cond.static Lib.Math.min.name, Cond.code Lib.Math.min.name Lib.Math.min.code 2 (some .int), Cond.methodLink RX3 160 yX2_clearnessIfCopied]
def wsL_copies_r3 : List Cond := [Cond.instanceMethod yX2_clearnessIfCopied, Cond.selects RX2 yX2_clearnessIfCopied yX2_clearnessIfCopied, Cond.code yX2_clearnessIfCopied cX2_clearnessIfCopied 3 (some .int), Cond.fieldLink RX2 15 "WaxCopies$Wax" "clearness" "[I", Cond.fieldLink RX2 39 "WaxCopies$Wax" "sharpness" "I", Cond.methodLink RX2 88 yX2_machineFlutter, Cond.instanceMethod yX2_machineFlutter, Cond.selects RX2 yX2_machineFlutter yX2_machineFlutter, Cond.code yX2_machineFlutter cX2_machineFlutter 1 (some .int), Cond.static yX3_copiedClearness, Cond.code yX3_copiedClearness cX3_copiedClearness 4 (some .int), Cond.methodLink RX3 298 yX3_bluntness, Cond.static yX3_bluntness, Cond.code yX3_bluntness cX3_bluntness 1 (some .int), Cond.methodLink RL 104 yL_daughters, Cond.static yL_daughters, Cond.codeWith yL_daughters cL_daughters 3 (some .int) [(0, 5, 6, 16)], Cond.methodLink RL 63 yX3_daughters, Cond.instanceMethod yX3_daughters, Cond.selects RX3 yX3_daughters yX3_daughters, Cond.code yX3_daughters cX3_daughters 2 (some .int), Cond.methodLink RX3 189 yX2_descendants, Cond.instanceMethod yX2_descendants, Cond.selects RX2 yX2_descendants yX2_descendants]
def wsL_copies_r4 : List Cond := [Cond.code yX2_descendants cX2_descendants 4 (some .int), Cond.methodLink RX2 144 yX2_comesFrom, Cond.instanceMethod yX2_comesFrom, Cond.selects RX2 yX2_comesFrom yX2_comesFrom, Cond.code yX2_comesFrom cX2_comesFrom 5 (some .boolean), Cond.fieldLink RX2 24 "WaxCopies$Wax" "mother" "[I", Cond.methodLink RL 109 yL_count, Cond.static yL_count, Cond.codeWith yL_count cL_count 3 (some .int) [(0, 5, 6, 19)], Cond.methodLink RL 51 yX3_count, Cond.instanceMethod yX3_count, Cond.selects RX3 yX3_count yX3_count, Cond.code yX3_count cX3_count 2 (some .int), Cond.fieldLink RX3 27 "WaxCopies" "savedStates" "I", Cond.methodLink RX3 141 yX3_checkWhat, Cond.instanceMethod yX3_checkWhat, Cond.selects RX3 yX3_checkWhat yX3_checkWhat, Cond.code yX3_checkWhat cX3_checkWhat 3 none, Cond.methodLink RX3 151 yX2_number, Cond.instanceMethod yX2_number, Cond.selects RX2 yX2_number yX2_number, Cond.code yX2_number cX2_number 2 (some .int), Cond.fieldLink RX2 49 "WaxCopies$Wax" "spoken" "I", Cond.fieldLink RX2 52 "WaxCopies$Wax" "copied" "I"]
def wsL_copies_r5 : List Cond := [Cond.fieldLink RX2 55 "WaxCopies$Wax" "played" "I", Cond.fieldLink RX2 58 "WaxCopies$Wax" "layersShaved" "I", Cond.fieldLink RX2 61 "WaxCopies$Wax" "layersCome" "I", Cond.fieldLink RX2 64 "WaxCopies$Wax" "layersGone" "I", Cond.fieldLink RX2 67 "WaxCopies$Wax" "refused" "I", Cond.methodLink RX2 134 yX2_cutTracks, Cond.instanceMethod yX2_cutTracks, Cond.selects RX2 yX2_cutTracks yX2_cutTracks, Cond.code yX2_cutTracks cX2_cutTracks 3 (some .int), Cond.methodLink RX2 128 yX2_cutTracksOn, Cond.instanceMethod yX2_cutTracksOn, Cond.selects RX2 yX2_cutTracksOn yX2_cutTracksOn, Cond.code yX2_cutTracksOn cX2_cutTracksOn 5 (some .int), Cond.methodLink RX2 137 yX2_layersTogether, Cond.instanceMethod yX2_layersTogether, Cond.selects RX2 yX2_layersTogether yX2_layersTogether, Cond.code yX2_layersTogether cX2_layersTogether 3 (some .int), Cond.methodLink RL 128 yL_print, Cond.static yL_print, Cond.code yL_print cL_print 4 (some .long), Cond.constantLong RL 122 (31), Cond.constantLong RL 124 (100), Cond.methodLink RL 119 yX3_setting, Cond.instanceMethod yX3_setting]
def wsL_copies_r6 : List Cond := [Cond.selects RX3 yX3_setting yX3_setting, Cond.code yX3_setting cX3_setting 1 (some .int), Cond.fieldLink RX3 95 "WaxCopies$Wax" "wear" "I", Cond.methodLink RL 92 yL_trackOf, Cond.static yL_trackOf, Cond.codeWith yL_trackOf cL_trackOf 4 (some .int) [(0, 6, 7, 16), (0, 6, 11, 19)], Cond.methodLink RL 45 yX3_trackOf, Cond.instanceMethod yX3_trackOf, Cond.selects RX3 yX3_trackOf yX3_trackOf, Cond.code yX3_trackOf cX3_trackOf 3 (some .int), Cond.methodLink RX3 145 yX2_trackProperty, Cond.instanceMethod yX2_trackProperty, Cond.selects RX2 yX2_trackProperty yX2_trackProperty, Cond.code yX2_trackProperty cX2_trackProperty 3 (some .int), Cond.fieldLink RX2 18 "WaxCopies$Wax" "flutter" "[I", Cond.fieldLink RX2 21 "WaxCopies$Wax" "generation" "[I", Cond.fieldLink RX2 27 "WaxCopies$Wax" "clearnessAsCut" "[I", Cond.fieldLink RX2 30 "WaxCopies$Wax" "plays" "[I", Cond.methodLink RL 98 yL_cylinderOf, Cond.static yL_cylinderOf, Cond.codeWith yL_cylinderOf cL_cylinderOf 4 (some .int) [(0, 6, 7, 16), (0, 6, 11, 19)], Cond.methodLink RL 48 yX3_cylinderOf, Cond.instanceMethod yX3_cylinderOf, Cond.selects RX3 yX3_cylinderOf yX3_cylinderOf]
def wsL_copies_r7 : List Cond := [Cond.code yX3_cylinderOf cX3_cylinderOf 3 (some .int), Cond.methodLink RX3 70 yX3_checkCylinder, Cond.instanceMethod yX3_checkCylinder, Cond.selects RX3 yX3_checkCylinder yX3_checkCylinder, Cond.code yX3_checkCylinder cX3_checkCylinder 2 none, Cond.methodLink RX3 148 yX2_cylinderProperty, Cond.instanceMethod yX2_cylinderProperty, Cond.selects RX2 yX2_cylinderProperty yX2_cylinderProperty, Cond.code yX2_cylinderProperty cX2_cylinderProperty 3 (some .int), Cond.fieldLink RX2 36 "WaxCopies$Wax" "shavings" "[I", Cond.methodLink RX2 121 yX2_greatestDepth, Cond.instanceMethod yX2_greatestDepth, Cond.selects RX2 yX2_greatestDepth yX2_greatestDepth, Cond.code yX2_greatestDepth cX2_greatestDepth 5 (some .int), Cond.methodLink RX2 118 Lib.Math.max.name, Cond.methodLink RX2 131 yX2_clearestTrackOn, Cond.instanceMethod yX2_clearestTrackOn, Cond.selects RX2 yX2_clearestTrackOn yX2_clearestTrackOn, Cond.code yX2_clearestTrackOn cX2_clearestTrackOn 5 (some .int), Cond.methodLink RL 74 yL_copy, Cond.static yL_copy, Cond.codeWith yL_copy cL_copy 5 (some .int) [(0, 7, 8, 16), (0, 7, 13, 19)], Cond.methodLink RL 22 yX3_copy, Cond.instanceMethod yX3_copy]
def wsL_copies_r8 : List Cond := [Cond.selects RX3 yX3_copy yX3_copy, Cond.code yX3_copy cX3_copy 4 (some .int), Cond.methodLink RX3 52 yX3_saveState, Cond.instanceMethod yX3_saveState, Cond.selects RX3 yX3_saveState yX3_saveState, Cond.code yX3_saveState cX3_saveState 1 none, Cond.fieldLink RX3 24 "WaxCopies" "saved" "[LWaxCopies$Wax;", Cond.methodLink RX3 272 yX3_dropOldestState, Cond.instanceMethod yX3_dropOldestState, Cond.selects RX3 yX3_dropOldestState yX3_dropOldestState, Cond.code yX3_dropOldestState cX3_dropOldestState 3 none, Cond.methodLink RX3 130 yX2_takeOver, Cond.instanceMethod yX2_takeOver, Cond.selects RX2 yX2_takeOver yX2_takeOver, Cond.code yX2_takeOver cX2_takeOver 2 none, Cond.methodLink RX2 70 arraycopyName, Cond.native arraycopyName, Cond.static arraycopyName, Cond.initialized "java/lang/System", Cond.fieldLink RX2 46 "WaxCopies$Wax" "wear" "I", Cond.methodLink RX3 62 yX2_copyOnto, Cond.instanceMethod yX2_copyOnto, Cond.selects RX2 yX2_copyOnto yX2_copyOnto, Cond.code yX2_copyOnto cX2_copyOnto 6 (some .int)]
def wsL_copies_r9 : List Cond := [Cond.methodLink RX2 107 Lib.Math.min.name, Cond.methodLink RX2 103 yX2_reasonNotToCopy, Cond.methodLink RX2 112 yX2_clearnessIfCopied, Cond.methodLink RX2 92 yX2_cut, Cond.instanceMethod yX2_cut, Cond.selects RX2 yX2_cut yX2_cut, Cond.code yX2_cut cX2_cut 5 none, Cond.static yX3_sharpnessAfter, Cond.code yX3_sharpnessAfter cX3_sharpnessAfter 2 (some .int), Cond.methodLink RL 132 yL_undo, Cond.static yL_undo, Cond.codeWith yL_undo cL_undo 2 (some .int) [(0, 4, 5, 43)], Cond.classLink RL 43 "java/lang/IllegalStateException", Cond.methodLink RL 39 yX3_undo, Cond.instanceMethod yX3_undo, Cond.selects RX3 yX3_undo yX3_undo, Cond.code yX3_undo cX3_undo 1 (some .int), Cond.classLink RX3 104 "java/lang/IllegalStateException", Cond.initialized "java/lang/IllegalStateException"]
def wsL_copies : List Cond := .code yL_copies cL_copies 12 (some .boolean) :: ((wsL_copies_r1 ++ (wsL_copies_r2 ++ (wsL_copies_r3 ++ (wsL_copies_r4 ++ (wsL_copies_r5 ++ (wsL_copies_r6 ++ (wsL_copies_r7 ++ (wsL_copies_r8 ++ wsL_copies_r9)))))))) ++ wsX30 ++ wsX20 ++ (vx_atS RX3 261 "java/lang/IndexOutOfBoundsException" ["java/lang/RuntimeException", "java/lang/Exception"]).filter goodWord ++ (vx_atS RX3 87 "java/lang/IllegalArgumentException" ["java/lang/RuntimeException", "java/lang/Exception"]).filter goodWord ++ (vx_atS RX3 108 "java/lang/IllegalStateException" ["java/lang/RuntimeException", "java/lang/Exception"]).filter goodWord)
def wsL_speaks_r1 : List Cond := [Cond.methodLink RL 96 yL_whyNot, Cond.static yL_whyNot, Cond.initialized RL, Cond.codeWith yL_whyNot cL_whyNot 4 (some .int) [(0, 6, 7, 16), (0, 6, 11, 19)], Cond.classLink RL 16 "java/lang/IndexOutOfBoundsException", Cond.classLink RL 19 "java/lang/IllegalArgumentException", Cond.constant RL 18 (-1000001), Cond.constant RL 21 (-1000002), Cond.methodLink RL 54 yX3_whyNot, Cond.instanceMethod yX3_whyNot, Cond.selects RX3 yX3_whyNot yX3_whyNot, Cond.initialized RX3, Cond.code yX3_whyNot cX3_whyNot 3 (some .int), Cond.fieldLink RX3 12 "WaxCopies" "now" "LWaxCopies$Wax;", Cond.methodLink RX3 45 yX3_checkTrack, Cond.instanceMethod yX3_checkTrack, Cond.selects RX3 yX3_checkTrack yX3_checkTrack, Cond.code yX3_checkTrack cX3_checkTrack 2 none, Cond.classLink RX3 257 "java/lang/IndexOutOfBoundsException", Cond.initialized "java/lang/IndexOutOfBoundsException", Cond.methodLink RX3 49 yX3_checkLoudness, Cond.instanceMethod yX3_checkLoudness, Cond.selects RX3 yX3_checkLoudness yX3_checkLoudness, Cond.code yX3_checkLoudness cX3_checkLoudness 2 none]
def wsL_speaks_r2 : List Cond := [Cond.classLink RX3 83 "java/lang/IllegalArgumentException", Cond.initialized "java/lang/IllegalArgumentException", Cond.methodLink RX3 154 yX2_reasonNotToSpeak, Cond.instanceMethod yX2_reasonNotToSpeak, Cond.selects RX2 yX2_reasonNotToSpeak yX2_reasonNotToSpeak, Cond.initialized RX2, Cond.code yX2_reasonNotToSpeak cX2_reasonNotToSpeak 3 (some .int), Cond.fieldLink RX2 33 "WaxCopies$Wax" "layers" "[I", Cond.fieldLink RX2 43 "WaxCopies$Wax" "spring" "I", Cond.methodLink RX2 76 yX2_isCut, Cond.instanceMethod yX2_isCut, Cond.selects RX2 yX2_isCut yX2_isCut, Cond.code yX2_isCut cX2_isCut 2 (some .boolean), Cond.fieldLink RX2 9 "WaxCopies$Wax" "depth" "[I", Cond.methodLink RL 128 yL_print, Cond.static yL_print, Cond.code yL_print cL_print 4 (some .long), Cond.constantLong RL 122 (31), Cond.constantLong RL 124 (100), Cond.methodLink RL 119 yX3_setting, Cond.instanceMethod yX3_setting, Cond.selects RX3 yX3_setting yX3_setting, Cond.code yX3_setting cX3_setting 1 (some .int), Cond.fieldLink RX3 95 "WaxCopies$Wax" "wear" "I"]
def wsL_speaks_r3 : List Cond := [Cond.methodLink RL 109 yL_count, Cond.static yL_count, Cond.codeWith yL_count cL_count 3 (some .int) [(0, 5, 6, 19)], Cond.methodLink RL 51 yX3_count, Cond.instanceMethod yX3_count, Cond.selects RX3 yX3_count yX3_count, Cond.code yX3_count cX3_count 2 (some .int), Cond.fieldLink RX3 27 "WaxCopies" "savedStates" "I", Cond.methodLink RX3 141 yX3_checkWhat, Cond.instanceMethod yX3_checkWhat, Cond.selects RX3 yX3_checkWhat yX3_checkWhat, Cond.code yX3_checkWhat cX3_checkWhat 3 none, Cond.methodLink RX3 151 yX2_number, Cond.instanceMethod yX2_number, Cond.selects RX2 yX2_number yX2_number, Cond.code yX2_number cX2_number 2 (some .int), Cond.fieldLink RX2 39 "WaxCopies$Wax" "sharpness" "I", Cond.fieldLink RX2 49 "WaxCopies$Wax" "spoken" "I", Cond.fieldLink RX2 52 "WaxCopies$Wax" "copied" "I", Cond.fieldLink RX2 55 "WaxCopies$Wax" "played" "I", Cond.fieldLink RX2 58 "WaxCopies$Wax" "layersShaved" "I", Cond.fieldLink RX2 61 "WaxCopies$Wax" "layersCome" "I", Cond.fieldLink RX2 64 "WaxCopies$Wax" "layersGone" "I", Cond.fieldLink RX2 67 "WaxCopies$Wax" "refused" "I"]
def wsL_speaks_r4 : List Cond := [Cond.methodLink RX2 88 yX2_machineFlutter, Cond.instanceMethod yX2_machineFlutter, Cond.selects RX2 yX2_machineFlutter yX2_machineFlutter, Cond.code yX2_machineFlutter cX2_machineFlutter 1 (some .int), Cond.methodLink RX2 134 yX2_cutTracks, Cond.instanceMethod yX2_cutTracks, Cond.selects RX2 yX2_cutTracks yX2_cutTracks, Cond.code yX2_cutTracks cX2_cutTracks 3 (some .int), Cond.methodLink RX2 128 yX2_cutTracksOn, Cond.instanceMethod yX2_cutTracksOn, Cond.selects RX2 yX2_cutTracksOn yX2_cutTracksOn, Cond.code yX2_cutTracksOn cX2_cutTracksOn 5 (some .int), Cond.methodLink RX2 137 yX2_layersTogether, Cond.instanceMethod yX2_layersTogether, Cond.selects RX2 yX2_layersTogether yX2_layersTogether, Cond.code yX2_layersTogether cX2_layersTogether 3 (some .int), Cond.methodLink RL 92 yL_trackOf, Cond.static yL_trackOf, Cond.codeWith yL_trackOf cL_trackOf 4 (some .int) [(0, 6, 7, 16), (0, 6, 11, 19)], Cond.methodLink RL 45 yX3_trackOf, Cond.instanceMethod yX3_trackOf, Cond.selects RX3 yX3_trackOf yX3_trackOf, Cond.code yX3_trackOf cX3_trackOf 3 (some .int), Cond.methodLink RX3 145 yX2_trackProperty]
def wsL_speaks_r5 : List Cond := [Cond.instanceMethod yX2_trackProperty, Cond.selects RX2 yX2_trackProperty yX2_trackProperty, Cond.code yX2_trackProperty cX2_trackProperty 3 (some .int), Cond.fieldLink RX2 15 "WaxCopies$Wax" "clearness" "[I", Cond.fieldLink RX2 18 "WaxCopies$Wax" "flutter" "[I", Cond.fieldLink RX2 21 "WaxCopies$Wax" "generation" "[I", Cond.fieldLink RX2 24 "WaxCopies$Wax" "mother" "[I", Cond.fieldLink RX2 27 "WaxCopies$Wax" "clearnessAsCut" "[I", Cond.fieldLink RX2 30 "WaxCopies$Wax" "plays" "[I", Cond.methodLink RL 98 yL_cylinderOf, Cond.static yL_cylinderOf, Cond.codeWith yL_cylinderOf cL_cylinderOf 4 (some .int) [(0, 6, 7, 16), (0, 6, 11, 19)], Cond.methodLink RL 48 yX3_cylinderOf, Cond.instanceMethod yX3_cylinderOf, Cond.selects RX3 yX3_cylinderOf yX3_cylinderOf, Cond.code yX3_cylinderOf cX3_cylinderOf 3 (some .int), Cond.methodLink RX3 70 yX3_checkCylinder, Cond.instanceMethod yX3_checkCylinder, Cond.selects RX3 yX3_checkCylinder yX3_checkCylinder, Cond.code yX3_checkCylinder cX3_checkCylinder 2 none, Cond.methodLink RX3 148 yX2_cylinderProperty, Cond.instanceMethod yX2_cylinderProperty, Cond.selects RX2 yX2_cylinderProperty yX2_cylinderProperty, Cond.code yX2_cylinderProperty cX2_cylinderProperty 3 (some .int)]
def wsL_speaks_r6 : List Cond := [Cond.fieldLink RX2 36 "WaxCopies$Wax" "shavings" "[I", Cond.methodLink RX2 121 yX2_greatestDepth, Cond.instanceMethod yX2_greatestDepth, Cond.selects RX2 yX2_greatestDepth yX2_greatestDepth, Cond.code yX2_greatestDepth cX2_greatestDepth 5 (some .int), Cond.methodLink RX2 118 Lib.Math.max.name, Cond.static Lib.Math.max.name, Cond.initialized "java/lang/Math", Cond.code Lib.Math.max.name Lib.Math.max.code 2 (some .int), Cond.methodLink RX2 131 yX2_clearestTrackOn, Cond.instanceMethod yX2_clearestTrackOn, Cond.selects RX2 yX2_clearestTrackOn yX2_clearestTrackOn, Cond.code yX2_clearestTrackOn cX2_clearestTrackOn 5 (some .int), Cond.methodLink RL 71 yL_speak, Cond.static yL_speak, Cond.codeWith yL_speak cL_speak 4 (some .int) [(0, 6, 7, 16), (0, 6, 11, 19)], Cond.methodLink RL 10 yX3_speak, Cond.instanceMethod yX3_speak, Cond.selects RX3 yX3_speak yX3_speak, Cond.code yX3_speak cX3_speak 3 (some .int), Cond.methodLink RX3 52 yX3_saveState, Cond.instanceMethod yX3_saveState, Cond.selects RX3 yX3_saveState yX3_saveState, Cond.code yX3_saveState cX3_saveState 1 none]
def wsL_speaks_r7 : List Cond := [Cond.fieldLink RX3 24 "WaxCopies" "saved" "[LWaxCopies$Wax;", Cond.methodLink RX3 272 yX3_dropOldestState, Cond.instanceMethod yX3_dropOldestState, Cond.selects RX3 yX3_dropOldestState yX3_dropOldestState, Cond.code yX3_dropOldestState cX3_dropOldestState 3 none, Cond.methodLink RX3 130 yX2_takeOver, Cond.instanceMethod yX2_takeOver, Cond.selects RX2 yX2_takeOver yX2_takeOver, Cond.code yX2_takeOver cX2_takeOver 2 none, Cond.methodLink RX2 70 arraycopyName, Cond.native arraycopyName, Cond.static arraycopyName, Cond.initialized "java/lang/System", Cond.fieldLink RX2 46 "WaxCopies$Wax" "wear" "I", Cond.methodLink RX3 55 yX2_speakOnto, Cond.instanceMethod yX2_speakOnto, Cond.selects RX2 yX2_speakOnto yX2_speakOnto, Cond.code yX2_speakOnto cX2_speakOnto 4 (some .int), Cond.methodLink RX2 80 yX2_reasonNotToSpeak, Cond.static yX3_bluntness, Cond.code yX3_bluntness cX3_bluntness 1 (some .int), Cond.methodLink RX2 92 yX2_cut, Cond.instanceMethod yX2_cut, Cond.selects RX2 yX2_cut yX2_cut]
def wsL_speaks_r8 : List Cond := [Cond.code yX2_cut cX2_cut 5 none, Cond.static yX3_sharpnessAfter, Cond.code yX3_sharpnessAfter cX3_sharpnessAfter 2 (some .int), Cond.methodLink RX3 290 Lib.Math.max.name, Cond.methodLink RL 132 yL_undo, Cond.static yL_undo, Cond.codeWith yL_undo cL_undo 2 (some .int) [(0, 4, 5, 43)], Cond.classLink RL 43 "java/lang/IllegalStateException", Cond.methodLink RL 39 yX3_undo, Cond.instanceMethod yX3_undo, Cond.selects RX3 yX3_undo yX3_undo, Cond.code yX3_undo cX3_undo 1 (some .int), Cond.classLink RX3 104 "java/lang/IllegalStateException", Cond.initialized "java/lang/IllegalStateException"]
def wsL_speaks : List Cond := .code yL_speaks cL_speaks 8 (some .boolean) :: ((wsL_speaks_r1 ++ (wsL_speaks_r2 ++ (wsL_speaks_r3 ++ (wsL_speaks_r4 ++ (wsL_speaks_r5 ++ (wsL_speaks_r6 ++ (wsL_speaks_r7 ++ wsL_speaks_r8))))))) ++ wsX30 ++ wsX20 ++ (vx_atS RX3 261 "java/lang/IndexOutOfBoundsException" ["java/lang/RuntimeException", "java/lang/Exception"]).filter goodWord ++ (vx_atS RX3 87 "java/lang/IllegalArgumentException" ["java/lang/RuntimeException", "java/lang/Exception"]).filter goodWord ++ (vx_atS RX3 108 "java/lang/IllegalStateException" ["java/lang/RuntimeException", "java/lang/Exception"]).filter goodWord)
def wsL_steps_r1 : List Cond := [Cond.methodLink RL 94 yL_chain, Cond.static yL_chain, Cond.initialized RL, Cond.codeWith yL_chain cL_chain 5 (some .int) [(0, 7, 8, 16), (0, 7, 13, 19)], Cond.classLink RL 16 "java/lang/IndexOutOfBoundsException", Cond.classLink RL 19 "java/lang/IllegalArgumentException", Cond.constant RL 18 (-1000001), Cond.constant RL 21 (-1000002), Cond.methodLink RL 60 yX3_chain, Cond.instanceMethod yX3_chain, Cond.selects RX3 yX3_chain yX3_chain, Cond.initialized RX3, Cond.code yX3_chain cX3_chain 6 (some .int), Cond.classLink RX3 83 "java/lang/IllegalArgumentException", Cond.initialized "java/lang/IllegalArgumentException", Cond.fieldLink RX3 12 "WaxCopies" "now" "LWaxCopies$Wax;", Cond.fieldLink RX3 169 "WaxCopies$Wax" "depth" "[I", Cond.fieldLink RX3 173 "WaxCopies$Wax" "clearness" "[I", Cond.fieldLink RX3 41 "WaxCopies" "steps" "LWaxCopies$Steps;", Cond.fieldLink RX3 176 "WaxCopies$Wax" "sharpness" "I", Cond.methodLink RX3 45 yX3_checkTrack, Cond.instanceMethod yX3_checkTrack, Cond.selects RX3 yX3_checkTrack yX3_checkTrack, Cond.code yX3_checkTrack cX3_checkTrack 2 none]
def wsL_steps_r2 : List Cond := [Cond.classLink RX3 257 "java/lang/IndexOutOfBoundsException", Cond.initialized "java/lang/IndexOutOfBoundsException", Cond.methodLink RX3 141 yX3_checkWhat, Cond.instanceMethod yX3_checkWhat, Cond.selects RX3 yX3_checkWhat yX3_checkWhat, Cond.code yX3_checkWhat cX3_checkWhat 3 none, Cond.methodLink RX3 165 yX2_isCut, Cond.instanceMethod yX2_isCut, Cond.selects RX2 yX2_isCut yX2_isCut, Cond.initialized RX2, Cond.code yX2_isCut cX2_isCut 2 (some .boolean), Cond.fieldLink RX2 9 "WaxCopies$Wax" "depth" "[I", Cond.methodLink RX3 179 yX1_clearestAfter, Cond.instanceMethod yX1_clearestAfter, Cond.selects RX1 yX1_clearestAfter yX1_clearestAfter, Cond.initialized RX1, Cond.code yX1_clearestAfter cX1_clearestAfter 9 (some .int), Cond.fieldLink RX1 11 "WaxCopies$Steps" "best" "[[I", Cond.fieldLink RX1 16 "WaxCopies$Steps" "next" "[[I", Cond.methodLink RX1 19 yX1_forget, Cond.static yX1_forget, Cond.code yX1_forget cX1_forget 5 none, Cond.static yX3_sharpnessAfter, Cond.code yX3_sharpnessAfter cX3_sharpnessAfter 2 (some .int)]
def wsL_steps_r3 : List Cond := [Cond.methodLink RX3 290 Lib.Math.max.name, Cond.static Lib.Math.max.name, Cond.initialized "java/lang/Math", Cond.code Lib.Math.max.name Lib.Math.max.code 2 (some .int), Cond.methodLink RX1 27 yX1_stepOn, Cond.instanceMethod yX1_stepOn, Cond.selects RX1 yX1_stepOn yX1_stepOn, Cond.code yX1_stepOn cX1_stepOn 10 none, Cond.methodLink RX1 41 Lib.Math.max.name, Cond.static yX3_copiedDepth, Cond.code yX3_copiedDepth cX3_copiedDepth 2 (some .int), Cond.methodLink RX3 295 Lib.Math.min.name, Cond.static Lib.Math.min.name, Cond.code Lib.Math.min.name Lib.Math.min.code 2 (some .int), Cond.static yX3_copiedClearness, Cond.code yX3_copiedClearness cX3_copiedClearness 4 (some .int), Cond.methodLink RX3 298 yX3_bluntness, Cond.static yX3_bluntness, Cond.code yX3_bluntness cX3_bluntness 1 (some .int), Cond.methodLink RX1 31 yX1_clearestOf, Cond.instanceMethod yX1_clearestOf, Cond.selects RX1 yX1_clearestOf yX1_clearestOf, Cond.code yX1_clearestOf cX1_clearestOf 6 (some .int), Cond.methodLink RX3 183 yX3_clearestOfAllLevers]
def wsL_steps_r4 : List Cond := [Cond.static yX3_clearestOfAllLevers, Cond.code yX3_clearestOfAllLevers cX3_clearestOfAllLevers 8 (some .int), Cond.methodLink RX3 301 yX3_copiedDepth, Cond.methodLink RX3 304 yX3_copiedClearness, Cond.methodLink RX3 307 yX3_sharpnessAfter, Cond.methodLink RL 128 yL_print, Cond.static yL_print, Cond.code yL_print cL_print 4 (some .long), Cond.constantLong RL 122 (31), Cond.constantLong RL 124 (100), Cond.methodLink RL 119 yX3_setting, Cond.instanceMethod yX3_setting, Cond.selects RX3 yX3_setting yX3_setting, Cond.code yX3_setting cX3_setting 1 (some .int), Cond.fieldLink RX3 95 "WaxCopies$Wax" "wear" "I", Cond.methodLink RL 109 yL_count, Cond.static yL_count, Cond.codeWith yL_count cL_count 3 (some .int) [(0, 5, 6, 19)], Cond.methodLink RL 51 yX3_count, Cond.instanceMethod yX3_count, Cond.selects RX3 yX3_count yX3_count, Cond.code yX3_count cX3_count 2 (some .int), Cond.fieldLink RX3 27 "WaxCopies" "savedStates" "I", Cond.methodLink RX3 151 yX2_number]
def wsL_steps_r5 : List Cond := [Cond.instanceMethod yX2_number, Cond.selects RX2 yX2_number yX2_number, Cond.code yX2_number cX2_number 2 (some .int), Cond.fieldLink RX2 39 "WaxCopies$Wax" "sharpness" "I", Cond.fieldLink RX2 43 "WaxCopies$Wax" "spring" "I", Cond.fieldLink RX2 49 "WaxCopies$Wax" "spoken" "I", Cond.fieldLink RX2 52 "WaxCopies$Wax" "copied" "I", Cond.fieldLink RX2 55 "WaxCopies$Wax" "played" "I", Cond.fieldLink RX2 58 "WaxCopies$Wax" "layersShaved" "I", Cond.fieldLink RX2 61 "WaxCopies$Wax" "layersCome" "I", Cond.fieldLink RX2 64 "WaxCopies$Wax" "layersGone" "I", Cond.fieldLink RX2 67 "WaxCopies$Wax" "refused" "I", Cond.methodLink RX2 88 yX2_machineFlutter, Cond.instanceMethod yX2_machineFlutter, Cond.selects RX2 yX2_machineFlutter yX2_machineFlutter, Cond.code yX2_machineFlutter cX2_machineFlutter 1 (some .int), Cond.methodLink RX2 134 yX2_cutTracks, Cond.instanceMethod yX2_cutTracks, Cond.selects RX2 yX2_cutTracks yX2_cutTracks, Cond.code yX2_cutTracks cX2_cutTracks 3 (some .int), Cond.methodLink RX2 128 yX2_cutTracksOn, Cond.instanceMethod yX2_cutTracksOn, Cond.selects RX2 yX2_cutTracksOn yX2_cutTracksOn, Cond.code yX2_cutTracksOn cX2_cutTracksOn 5 (some .int)]
def wsL_steps_r6 : List Cond := [Cond.methodLink RX2 76 yX2_isCut, Cond.methodLink RX2 137 yX2_layersTogether, Cond.instanceMethod yX2_layersTogether, Cond.selects RX2 yX2_layersTogether yX2_layersTogether, Cond.code yX2_layersTogether cX2_layersTogether 3 (some .int), Cond.fieldLink RX2 33 "WaxCopies$Wax" "layers" "[I", Cond.methodLink RL 92 yL_trackOf, Cond.static yL_trackOf, Cond.codeWith yL_trackOf cL_trackOf 4 (some .int) [(0, 6, 7, 16), (0, 6, 11, 19)], Cond.methodLink RL 45 yX3_trackOf, Cond.instanceMethod yX3_trackOf, Cond.selects RX3 yX3_trackOf yX3_trackOf, Cond.code yX3_trackOf cX3_trackOf 3 (some .int), Cond.methodLink RX3 145 yX2_trackProperty, Cond.instanceMethod yX2_trackProperty, Cond.selects RX2 yX2_trackProperty yX2_trackProperty, Cond.code yX2_trackProperty cX2_trackProperty 3 (some .int), Cond.fieldLink RX2 15 "WaxCopies$Wax" "clearness" "[I", Cond.fieldLink RX2 18 "WaxCopies$Wax" "flutter" "[I", Cond.fieldLink RX2 21 "WaxCopies$Wax" "generation" "[I", Cond.fieldLink RX2 24 "WaxCopies$Wax" "mother" "[I", Cond.fieldLink RX2 27 "WaxCopies$Wax" "clearnessAsCut" "[I", Cond.fieldLink RX2 30 "WaxCopies$Wax" "plays" "[I", Cond.methodLink RL 98 yL_cylinderOf]
def wsL_steps_r7 : List Cond := [Cond.static yL_cylinderOf, Cond.codeWith yL_cylinderOf cL_cylinderOf 4 (some .int) [(0, 6, 7, 16), (0, 6, 11, 19)], Cond.methodLink RL 48 yX3_cylinderOf, Cond.instanceMethod yX3_cylinderOf, Cond.selects RX3 yX3_cylinderOf yX3_cylinderOf, Cond.code yX3_cylinderOf cX3_cylinderOf 3 (some .int), Cond.methodLink RX3 70 yX3_checkCylinder, Cond.instanceMethod yX3_checkCylinder, Cond.selects RX3 yX3_checkCylinder yX3_checkCylinder, Cond.code yX3_checkCylinder cX3_checkCylinder 2 none, Cond.methodLink RX3 148 yX2_cylinderProperty, Cond.instanceMethod yX2_cylinderProperty, Cond.selects RX2 yX2_cylinderProperty yX2_cylinderProperty, Cond.code yX2_cylinderProperty cX2_cylinderProperty 3 (some .int), Cond.fieldLink RX2 36 "WaxCopies$Wax" "shavings" "[I", Cond.methodLink RX2 121 yX2_greatestDepth, Cond.instanceMethod yX2_greatestDepth, Cond.selects RX2 yX2_greatestDepth yX2_greatestDepth, Cond.code yX2_greatestDepth cX2_greatestDepth 5 (some .int), Cond.methodLink RX2 118 Lib.Math.max.name, Cond.methodLink RX2 131 yX2_clearestTrackOn, Cond.instanceMethod yX2_clearestTrackOn, Cond.selects RX2 yX2_clearestTrackOn yX2_clearestTrackOn, Cond.code yX2_clearestTrackOn cX2_clearestTrackOn 5 (some .int)]
def wsL_steps_r8 : List Cond := [Cond.methodLink RL 84 yL_renew, Cond.static yL_renew, Cond.codeWith yL_renew cL_renew 4 (some .int) [(0, 6, 7, 16), (0, 6, 11, 19)], Cond.methodLink RL 33 yX3_renew, Cond.instanceMethod yX3_renew, Cond.selects RX3 yX3_renew yX3_renew, Cond.code yX3_renew cX3_renew 3 (some .int), Cond.methodLink RX3 52 yX3_saveState, Cond.instanceMethod yX3_saveState, Cond.selects RX3 yX3_saveState yX3_saveState, Cond.code yX3_saveState cX3_saveState 1 none, Cond.fieldLink RX3 24 "WaxCopies" "saved" "[LWaxCopies$Wax;", Cond.methodLink RX3 272 yX3_dropOldestState, Cond.instanceMethod yX3_dropOldestState, Cond.selects RX3 yX3_dropOldestState yX3_dropOldestState, Cond.code yX3_dropOldestState cX3_dropOldestState 3 none, Cond.methodLink RX3 130 yX2_takeOver, Cond.instanceMethod yX2_takeOver, Cond.selects RX2 yX2_takeOver yX2_takeOver, Cond.code yX2_takeOver cX2_takeOver 2 none, Cond.methodLink RX2 70 arraycopyName, Cond.native arraycopyName, Cond.static arraycopyName, Cond.initialized "java/lang/System"]
def wsL_steps_r9 : List Cond := [Cond.fieldLink RX2 46 "WaxCopies$Wax" "wear" "I", Cond.methodLink RX3 90 yX2_renewCylinder, Cond.instanceMethod yX2_renewCylinder, Cond.selects RX2 yX2_renewCylinder yX2_renewCylinder, Cond.code yX2_renewCylinder cX2_renewCylinder 4 (some .int), Cond.methodLink RX2 124 yX2_smoothTracks, Cond.instanceMethod yX2_smoothTracks, Cond.selects RX2 yX2_smoothTracks yX2_smoothTracks, Cond.code yX2_smoothTracks cX2_smoothTracks 4 none, Cond.methodLink RL 89 yX3_wind, Cond.instanceMethod yX3_wind, Cond.selects RX3 yX3_wind yX3_wind, Cond.code yX3_wind cX3_wind 1 (some .int), Cond.methodLink RX3 76 yX2_windUp, Cond.instanceMethod yX2_windUp, Cond.selects RX2 yX2_windUp yX2_windUp, Cond.code yX2_windUp cX2_windUp 2 (some .int), Cond.methodLink RL 126 yL_ifCopied, Cond.static yL_ifCopied, Cond.codeWith yL_ifCopied cL_ifCopied 5 (some .int) [(0, 7, 8, 16), (0, 7, 13, 19)], Cond.methodLink RL 57 yX3_ifCopied, Cond.instanceMethod yX3_ifCopied, Cond.selects RX3 yX3_ifCopied yX3_ifCopied, Cond.code yX3_ifCopied cX3_ifCopied 5 (some .int)]
def wsL_steps_r10 : List Cond := [Cond.methodLink RX3 59 yX3_checkLever, Cond.instanceMethod yX3_checkLever, Cond.selects RX3 yX3_checkLever yX3_checkLever, Cond.code yX3_checkLever cX3_checkLever 2 none, Cond.methodLink RX3 157 yX2_reasonNotToCopy, Cond.instanceMethod yX2_reasonNotToCopy, Cond.selects RX2 yX2_reasonNotToCopy yX2_reasonNotToCopy, Cond.code yX2_reasonNotToCopy cX2_reasonNotToCopy 4 (some .int), Cond.methodLink RX3 160 yX2_clearnessIfCopied, Cond.instanceMethod yX2_clearnessIfCopied, Cond.selects RX2 yX2_clearnessIfCopied yX2_clearnessIfCopied, Cond.code yX2_clearnessIfCopied cX2_clearnessIfCopied 3 (some .int), Cond.methodLink RL 132 yL_undo, Cond.static yL_undo, Cond.codeWith yL_undo cL_undo 2 (some .int) [(0, 4, 5, 43)], Cond.classLink RL 43 "java/lang/IllegalStateException", Cond.methodLink RL 39 yX3_undo, Cond.instanceMethod yX3_undo, Cond.selects RX3 yX3_undo yX3_undo, Cond.code yX3_undo cX3_undo 1 (some .int), Cond.classLink RX3 104 "java/lang/IllegalStateException", Cond.initialized "java/lang/IllegalStateException"]
def wsL_steps : List Cond := .code yL_steps cL_steps 11 (some .boolean) :: ((wsL_steps_r1 ++ (wsL_steps_r2 ++ (wsL_steps_r3 ++ (wsL_steps_r4 ++ (wsL_steps_r5 ++ (wsL_steps_r6 ++ (wsL_steps_r7 ++ (wsL_steps_r8 ++ (wsL_steps_r9 ++ wsL_steps_r10))))))))) ++ wsX30 ++ wsX20 ++ wsX10 ++ (vx_atS RX3 87 "java/lang/IllegalArgumentException" ["java/lang/RuntimeException", "java/lang/Exception"]).filter goodWord ++ (vx_atS RX3 261 "java/lang/IndexOutOfBoundsException" ["java/lang/RuntimeException", "java/lang/Exception"]).filter goodWord ++ (vx_atS RX3 108 "java/lang/IllegalStateException" ["java/lang/RuntimeException", "java/lang/Exception"]).filter goodWord)
def wsL_shaves_r1 : List Cond := [Cond.methodLink RL 98 yL_cylinderOf, Cond.static yL_cylinderOf, Cond.initialized RL, Cond.codeWith yL_cylinderOf cL_cylinderOf 4 (some .int) [(0, 6, 7, 16), (0, 6, 11, 19)], Cond.classLink RL 16 "java/lang/IndexOutOfBoundsException", Cond.classLink RL 19 "java/lang/IllegalArgumentException", Cond.constant RL 18 (-1000001), Cond.constant RL 21 (-1000002), Cond.methodLink RL 48 yX3_cylinderOf, Cond.instanceMethod yX3_cylinderOf, Cond.selects RX3 yX3_cylinderOf yX3_cylinderOf, Cond.initialized RX3, Cond.code yX3_cylinderOf cX3_cylinderOf 3 (some .int), Cond.fieldLink RX3 12 "WaxCopies" "now" "LWaxCopies$Wax;", Cond.methodLink RX3 70 yX3_checkCylinder, Cond.instanceMethod yX3_checkCylinder, Cond.selects RX3 yX3_checkCylinder yX3_checkCylinder, Cond.code yX3_checkCylinder cX3_checkCylinder 2 none, Cond.classLink RX3 257 "java/lang/IndexOutOfBoundsException", Cond.initialized "java/lang/IndexOutOfBoundsException", Cond.methodLink RX3 141 yX3_checkWhat, Cond.instanceMethod yX3_checkWhat, Cond.selects RX3 yX3_checkWhat yX3_checkWhat, Cond.code yX3_checkWhat cX3_checkWhat 3 none]
def wsL_shaves_r2 : List Cond := [Cond.classLink RX3 83 "java/lang/IllegalArgumentException", Cond.initialized "java/lang/IllegalArgumentException", Cond.methodLink RX3 148 yX2_cylinderProperty, Cond.instanceMethod yX2_cylinderProperty, Cond.selects RX2 yX2_cylinderProperty yX2_cylinderProperty, Cond.initialized RX2, Cond.code yX2_cylinderProperty cX2_cylinderProperty 3 (some .int), Cond.fieldLink RX2 33 "WaxCopies$Wax" "layers" "[I", Cond.fieldLink RX2 36 "WaxCopies$Wax" "shavings" "[I", Cond.methodLink RX2 128 yX2_cutTracksOn, Cond.instanceMethod yX2_cutTracksOn, Cond.selects RX2 yX2_cutTracksOn yX2_cutTracksOn, Cond.code yX2_cutTracksOn cX2_cutTracksOn 5 (some .int), Cond.methodLink RX2 76 yX2_isCut, Cond.instanceMethod yX2_isCut, Cond.selects RX2 yX2_isCut yX2_isCut, Cond.code yX2_isCut cX2_isCut 2 (some .boolean), Cond.fieldLink RX2 9 "WaxCopies$Wax" "depth" "[I", Cond.methodLink RX2 121 yX2_greatestDepth, Cond.instanceMethod yX2_greatestDepth, Cond.selects RX2 yX2_greatestDepth yX2_greatestDepth, Cond.code yX2_greatestDepth cX2_greatestDepth 5 (some .int), Cond.methodLink RX2 118 Lib.Math.max.name, Cond.static Lib.Math.max.name]
def wsL_shaves_r3 : List Cond := [Cond.initialized "java/lang/Math", Cond.code Lib.Math.max.name Lib.Math.max.code 2 (some .int), Cond.methodLink RX2 131 yX2_clearestTrackOn, Cond.instanceMethod yX2_clearestTrackOn, Cond.selects RX2 yX2_clearestTrackOn yX2_clearestTrackOn, Cond.code yX2_clearestTrackOn cX2_clearestTrackOn 5 (some .int), Cond.fieldLink RX2 15 "WaxCopies$Wax" "clearness" "[I", Cond.methodLink RL 109 yL_count, Cond.static yL_count, Cond.codeWith yL_count cL_count 3 (some .int) [(0, 5, 6, 19)], Cond.methodLink RL 51 yX3_count, Cond.instanceMethod yX3_count, Cond.selects RX3 yX3_count yX3_count, Cond.code yX3_count cX3_count 2 (some .int), Cond.fieldLink RX3 27 "WaxCopies" "savedStates" "I", Cond.methodLink RX3 151 yX2_number, Cond.instanceMethod yX2_number, Cond.selects RX2 yX2_number yX2_number, Cond.code yX2_number cX2_number 2 (some .int), Cond.fieldLink RX2 39 "WaxCopies$Wax" "sharpness" "I", Cond.fieldLink RX2 43 "WaxCopies$Wax" "spring" "I", Cond.fieldLink RX2 49 "WaxCopies$Wax" "spoken" "I", Cond.fieldLink RX2 52 "WaxCopies$Wax" "copied" "I", Cond.fieldLink RX2 55 "WaxCopies$Wax" "played" "I"]
def wsL_shaves_r4 : List Cond := [Cond.fieldLink RX2 58 "WaxCopies$Wax" "layersShaved" "I", Cond.fieldLink RX2 61 "WaxCopies$Wax" "layersCome" "I", Cond.fieldLink RX2 64 "WaxCopies$Wax" "layersGone" "I", Cond.fieldLink RX2 67 "WaxCopies$Wax" "refused" "I", Cond.methodLink RX2 88 yX2_machineFlutter, Cond.instanceMethod yX2_machineFlutter, Cond.selects RX2 yX2_machineFlutter yX2_machineFlutter, Cond.code yX2_machineFlutter cX2_machineFlutter 1 (some .int), Cond.methodLink RX2 134 yX2_cutTracks, Cond.instanceMethod yX2_cutTracks, Cond.selects RX2 yX2_cutTracks yX2_cutTracks, Cond.code yX2_cutTracks cX2_cutTracks 3 (some .int), Cond.methodLink RX2 137 yX2_layersTogether, Cond.instanceMethod yX2_layersTogether, Cond.selects RX2 yX2_layersTogether yX2_layersTogether, Cond.code yX2_layersTogether cX2_layersTogether 3 (some .int), Cond.methodLink RL 128 yL_print, Cond.static yL_print, Cond.code yL_print cL_print 4 (some .long), Cond.constantLong RL 122 (31), Cond.constantLong RL 124 (100), Cond.methodLink RL 119 yX3_setting, Cond.instanceMethod yX3_setting, Cond.selects RX3 yX3_setting yX3_setting]
def wsL_shaves_r5 : List Cond := [Cond.code yX3_setting cX3_setting 1 (some .int), Cond.fieldLink RX3 95 "WaxCopies$Wax" "wear" "I", Cond.methodLink RL 92 yL_trackOf, Cond.static yL_trackOf, Cond.codeWith yL_trackOf cL_trackOf 4 (some .int) [(0, 6, 7, 16), (0, 6, 11, 19)], Cond.methodLink RL 45 yX3_trackOf, Cond.instanceMethod yX3_trackOf, Cond.selects RX3 yX3_trackOf yX3_trackOf, Cond.code yX3_trackOf cX3_trackOf 3 (some .int), Cond.methodLink RX3 45 yX3_checkTrack, Cond.instanceMethod yX3_checkTrack, Cond.selects RX3 yX3_checkTrack yX3_checkTrack, Cond.code yX3_checkTrack cX3_checkTrack 2 none, Cond.methodLink RX3 145 yX2_trackProperty, Cond.instanceMethod yX2_trackProperty, Cond.selects RX2 yX2_trackProperty yX2_trackProperty, Cond.code yX2_trackProperty cX2_trackProperty 3 (some .int), Cond.fieldLink RX2 18 "WaxCopies$Wax" "flutter" "[I", Cond.fieldLink RX2 21 "WaxCopies$Wax" "generation" "[I", Cond.fieldLink RX2 24 "WaxCopies$Wax" "mother" "[I", Cond.fieldLink RX2 27 "WaxCopies$Wax" "clearnessAsCut" "[I", Cond.fieldLink RX2 30 "WaxCopies$Wax" "plays" "[I", Cond.methodLink RL 80 yL_shave, Cond.static yL_shave]
def wsL_shaves_r6 : List Cond := [Cond.codeWith yL_shave cL_shave 3 (some .int) [(0, 5, 6, 16)], Cond.methodLink RL 30 yX3_shave, Cond.instanceMethod yX3_shave, Cond.selects RX3 yX3_shave yX3_shave, Cond.code yX3_shave cX3_shave 2 (some .int), Cond.methodLink RX3 52 yX3_saveState, Cond.instanceMethod yX3_saveState, Cond.selects RX3 yX3_saveState yX3_saveState, Cond.code yX3_saveState cX3_saveState 1 none, Cond.fieldLink RX3 24 "WaxCopies" "saved" "[LWaxCopies$Wax;", Cond.methodLink RX3 272 yX3_dropOldestState, Cond.instanceMethod yX3_dropOldestState, Cond.selects RX3 yX3_dropOldestState yX3_dropOldestState, Cond.code yX3_dropOldestState cX3_dropOldestState 3 none, Cond.methodLink RX3 130 yX2_takeOver, Cond.instanceMethod yX2_takeOver, Cond.selects RX2 yX2_takeOver yX2_takeOver, Cond.code yX2_takeOver cX2_takeOver 2 none, Cond.methodLink RX2 70 arraycopyName, Cond.native arraycopyName, Cond.static arraycopyName, Cond.initialized "java/lang/System", Cond.fieldLink RX2 46 "WaxCopies$Wax" "wear" "I", Cond.methodLink RX3 73 yX2_shaveCylinder]
def wsL_shaves_r7 : List Cond := [Cond.instanceMethod yX2_shaveCylinder, Cond.selects RX2 yX2_shaveCylinder yX2_shaveCylinder, Cond.code yX2_shaveCylinder cX2_shaveCylinder 3 (some .int), Cond.methodLink RX2 124 yX2_smoothTracks, Cond.instanceMethod yX2_smoothTracks, Cond.selects RX2 yX2_smoothTracks yX2_smoothTracks, Cond.code yX2_smoothTracks cX2_smoothTracks 4 none, Cond.methodLink RL 132 yL_undo, Cond.static yL_undo, Cond.codeWith yL_undo cL_undo 2 (some .int) [(0, 4, 5, 43)], Cond.classLink RL 43 "java/lang/IllegalStateException", Cond.methodLink RL 39 yX3_undo, Cond.instanceMethod yX3_undo, Cond.selects RX3 yX3_undo yX3_undo, Cond.code yX3_undo cX3_undo 1 (some .int), Cond.classLink RX3 104 "java/lang/IllegalStateException", Cond.initialized "java/lang/IllegalStateException"]
def wsL_shaves : List Cond := .code yL_shaves cL_shaves 9 (some .boolean) :: ((wsL_shaves_r1 ++ (wsL_shaves_r2 ++ (wsL_shaves_r3 ++ (wsL_shaves_r4 ++ (wsL_shaves_r5 ++ (wsL_shaves_r6 ++ wsL_shaves_r7)))))) ++ wsX30 ++ wsX20 ++ (vx_atS RX3 261 "java/lang/IndexOutOfBoundsException" ["java/lang/RuntimeException", "java/lang/Exception"]).filter goodWord ++ (vx_atS RX3 87 "java/lang/IllegalArgumentException" ["java/lang/RuntimeException", "java/lang/Exception"]).filter goodWord ++ (vx_atS RX3 108 "java/lang/IllegalStateException" ["java/lang/RuntimeException", "java/lang/Exception"]).filter goodWord)
def wsL_law0_r1 : List Cond := [Cond.classLink RL 11 RX3, Cond.instantiable RX3 7, Cond.initialized RX3, Cond.methodLink RL 135 yX3_init, Cond.instanceMethod yX3_init, Cond.code yX3_init cX3_init 2 none, Cond.methodLink RX3 3 objectInit, Cond.instanceMethod objectInit, Cond.code objectInit ⟨#[0xb1]⟩ 1 none, Cond.classLink RX3 9 RX2, Cond.instantiable RX2 19, Cond.initialized RX2, Cond.fieldLink RX3 12 "WaxCopies" "now" "LWaxCopies$Wax;", Cond.fieldLink RX3 16 "WaxCopies" "slots" "[LWaxCopies$Wax;", Cond.arrayClass .boolean, Cond.fieldLink RX3 20 "WaxCopies" "slotTaken" "[Z", Cond.fieldLink RX3 24 "WaxCopies" "saved" "[LWaxCopies$Wax;", Cond.fieldLink RX3 27 "WaxCopies" "savedStates" "I", Cond.classLink RX3 31 RX0, Cond.instantiable RX0 2, Cond.initialized RX0, Cond.fieldLink RX3 34 "WaxCopies" "orders" "LWaxCopies$Orders;", Cond.classLink RX3 38 RX1, Cond.instantiable RX1 2]
def wsL_law0_r2 : List Cond := [Cond.initialized RX1, Cond.fieldLink RX3 41 "WaxCopies" "steps" "LWaxCopies$Steps;", Cond.methodLink RX3 11 yX2_init, Cond.instanceMethod yX2_init, Cond.code yX2_init cX2_init 2 none, Cond.methodLink RX2 3 objectInit, Cond.arrayClass .int, Cond.fieldLink RX2 9 "WaxCopies$Wax" "depth" "[I", Cond.fieldLink RX2 15 "WaxCopies$Wax" "clearness" "[I", Cond.fieldLink RX2 18 "WaxCopies$Wax" "flutter" "[I", Cond.fieldLink RX2 21 "WaxCopies$Wax" "generation" "[I", Cond.fieldLink RX2 24 "WaxCopies$Wax" "mother" "[I", Cond.fieldLink RX2 27 "WaxCopies$Wax" "clearnessAsCut" "[I", Cond.fieldLink RX2 30 "WaxCopies$Wax" "plays" "[I", Cond.fieldLink RX2 33 "WaxCopies$Wax" "layers" "[I", Cond.fieldLink RX2 36 "WaxCopies$Wax" "shavings" "[I", Cond.fieldLink RX2 39 "WaxCopies$Wax" "sharpness" "I", Cond.fieldLink RX2 43 "WaxCopies$Wax" "spring" "I", Cond.fieldLink RX2 46 "WaxCopies$Wax" "wear" "I", Cond.fieldLink RX2 49 "WaxCopies$Wax" "spoken" "I", Cond.fieldLink RX2 52 "WaxCopies$Wax" "copied" "I", Cond.fieldLink RX2 55 "WaxCopies$Wax" "played" "I", Cond.fieldLink RX2 58 "WaxCopies$Wax" "layersShaved" "I", Cond.fieldLink RX2 61 "WaxCopies$Wax" "layersCome" "I"]
def wsL_law0_r3 : List Cond := [Cond.fieldLink RX2 64 "WaxCopies$Wax" "layersGone" "I", Cond.fieldLink RX2 67 "WaxCopies$Wax" "refused" "I", Cond.instanceMethod yX0_init, Cond.code yX0_init cX0_init 1 none, Cond.methodLink RX0 3 objectInit, Cond.arrayClass .char, Cond.fieldLink RX0 11 "WaxCopies$Orders" "text" "[C", Cond.fieldLink RX0 15 "WaxCopies$Orders" "length" "I", Cond.instanceMethod yX1_init, Cond.code yX1_init cX1_init 1 none, Cond.methodLink RX1 3 objectInit, Cond.classLink RX1 9 "[[I", Cond.fieldLink RX1 11 "WaxCopies$Steps" "best" "[[I", Cond.fieldLink RX1 16 "WaxCopies$Steps" "next" "[[I", Cond.methodLink RL 136 yL_hangs, Cond.static yL_hangs, Cond.initialized RL, Cond.code yL_hangs cL_hangs 11 (some .boolean), Cond.methodLink RL 100 yL_track, Cond.static yL_track, Cond.code yL_track cL_track 10 (some .boolean), Cond.methodLink RL 92 yL_trackOf, Cond.static yL_trackOf, Cond.codeWith yL_trackOf cL_trackOf 4 (some .int) [(0, 6, 7, 16), (0, 6, 11, 19)]]
def wsL_law0_r4 : List Cond := [Cond.classLink RL 16 "java/lang/IndexOutOfBoundsException", Cond.classLink RL 19 "java/lang/IllegalArgumentException", Cond.constant RL 18 (-1000001), Cond.constant RL 21 (-1000002), Cond.methodLink RL 45 yX3_trackOf, Cond.instanceMethod yX3_trackOf, Cond.selects RX3 yX3_trackOf yX3_trackOf, Cond.code yX3_trackOf cX3_trackOf 3 (some .int), Cond.methodLink RX3 45 yX3_checkTrack, Cond.instanceMethod yX3_checkTrack, Cond.selects RX3 yX3_checkTrack yX3_checkTrack, Cond.code yX3_checkTrack cX3_checkTrack 2 none, Cond.classLink RX3 257 "java/lang/IndexOutOfBoundsException", Cond.initialized "java/lang/IndexOutOfBoundsException", Cond.methodLink RX3 141 yX3_checkWhat, Cond.instanceMethod yX3_checkWhat, Cond.selects RX3 yX3_checkWhat yX3_checkWhat, Cond.code yX3_checkWhat cX3_checkWhat 3 none, Cond.classLink RX3 83 "java/lang/IllegalArgumentException", Cond.initialized "java/lang/IllegalArgumentException", Cond.methodLink RX3 145 yX2_trackProperty, Cond.instanceMethod yX2_trackProperty, Cond.selects RX2 yX2_trackProperty yX2_trackProperty, Cond.code yX2_trackProperty cX2_trackProperty 3 (some .int)]
def wsL_law0_r5 : List Cond := [Cond.methodLink RX2 76 yX2_isCut, Cond.instanceMethod yX2_isCut, Cond.selects RX2 yX2_isCut yX2_isCut, Cond.code yX2_isCut cX2_isCut 2 (some .boolean), Cond.methodLink RL 94 yL_chain, Cond.static yL_chain, Cond.codeWith yL_chain cL_chain 5 (some .int) [(0, 7, 8, 16), (0, 7, 13, 19)], Cond.methodLink RL 60 yX3_chain, Cond.instanceMethod yX3_chain, Cond.selects RX3 yX3_chain yX3_chain, Cond.code yX3_chain cX3_chain 6 (some .int), Cond.fieldLink RX3 169 "WaxCopies$Wax" "depth" "[I", Cond.fieldLink RX3 173 "WaxCopies$Wax" "clearness" "[I", Cond.fieldLink RX3 176 "WaxCopies$Wax" "sharpness" "I", Cond.methodLink RX3 165 yX2_isCut, Cond.methodLink RX3 179 yX1_clearestAfter, Cond.instanceMethod yX1_clearestAfter, Cond.selects RX1 yX1_clearestAfter yX1_clearestAfter, Cond.code yX1_clearestAfter cX1_clearestAfter 9 (some .int), Cond.methodLink RX1 19 yX1_forget, Cond.static yX1_forget, Cond.code yX1_forget cX1_forget 5 none, Cond.static yX3_sharpnessAfter, Cond.code yX3_sharpnessAfter cX3_sharpnessAfter 2 (some .int)]
def wsL_law0_r6 : List Cond := [Cond.methodLink RX3 290 Lib.Math.max.name, Cond.static Lib.Math.max.name, Cond.initialized "java/lang/Math", Cond.code Lib.Math.max.name Lib.Math.max.code 2 (some .int), Cond.methodLink RX1 27 yX1_stepOn, Cond.instanceMethod yX1_stepOn, Cond.selects RX1 yX1_stepOn yX1_stepOn, Cond.code yX1_stepOn cX1_stepOn 10 none, Cond.methodLink RX1 41 Lib.Math.max.name, Cond.static yX3_copiedDepth, Cond.code yX3_copiedDepth cX3_copiedDepth 2 (some .int), Cond.methodLink RX3 295 Lib.Math.min.name, Cond.static Lib.Math.min.name, Cond.code Lib.Math.min.name Lib.Math.min.code 2 (some .int), Cond.static yX3_copiedClearness, Cond.code yX3_copiedClearness cX3_copiedClearness 4 (some .int), Cond.methodLink RX3 298 yX3_bluntness, Cond.static yX3_bluntness, Cond.code yX3_bluntness cX3_bluntness 1 (some .int), Cond.methodLink RX1 31 yX1_clearestOf, Cond.instanceMethod yX1_clearestOf, Cond.selects RX1 yX1_clearestOf yX1_clearestOf, Cond.code yX1_clearestOf cX1_clearestOf 6 (some .int), Cond.methodLink RX3 183 yX3_clearestOfAllLevers]
def wsL_law0_r7 : List Cond := [Cond.static yX3_clearestOfAllLevers, Cond.code yX3_clearestOfAllLevers cX3_clearestOfAllLevers 8 (some .int), Cond.methodLink RX3 301 yX3_copiedDepth, Cond.methodLink RX3 304 yX3_copiedClearness, Cond.methodLink RX3 307 yX3_sharpnessAfter, Cond.methodLink RL 96 yL_whyNot, Cond.static yL_whyNot, Cond.codeWith yL_whyNot cL_whyNot 4 (some .int) [(0, 6, 7, 16), (0, 6, 11, 19)], Cond.methodLink RL 54 yX3_whyNot, Cond.instanceMethod yX3_whyNot, Cond.selects RX3 yX3_whyNot yX3_whyNot, Cond.code yX3_whyNot cX3_whyNot 3 (some .int), Cond.methodLink RX3 49 yX3_checkLoudness, Cond.instanceMethod yX3_checkLoudness, Cond.selects RX3 yX3_checkLoudness yX3_checkLoudness, Cond.code yX3_checkLoudness cX3_checkLoudness 2 none, Cond.methodLink RX3 154 yX2_reasonNotToSpeak, Cond.instanceMethod yX2_reasonNotToSpeak, Cond.selects RX2 yX2_reasonNotToSpeak yX2_reasonNotToSpeak, Cond.code yX2_reasonNotToSpeak cX2_reasonNotToSpeak 3 (some .int), Cond.methodLink RL 98 yL_cylinderOf, Cond.static yL_cylinderOf, Cond.codeWith yL_cylinderOf cL_cylinderOf 4 (some .int) [(0, 6, 7, 16), (0, 6, 11, 19)], Cond.methodLink RL 48 yX3_cylinderOf]
def wsL_law0_r8 : List Cond := [Cond.instanceMethod yX3_cylinderOf, Cond.selects RX3 yX3_cylinderOf yX3_cylinderOf, Cond.code yX3_cylinderOf cX3_cylinderOf 3 (some .int), Cond.methodLink RX3 70 yX3_checkCylinder, Cond.instanceMethod yX3_checkCylinder, Cond.selects RX3 yX3_checkCylinder yX3_checkCylinder, Cond.code yX3_checkCylinder cX3_checkCylinder 2 none, Cond.methodLink RX3 148 yX2_cylinderProperty, Cond.instanceMethod yX2_cylinderProperty, Cond.selects RX2 yX2_cylinderProperty yX2_cylinderProperty, Cond.code yX2_cylinderProperty cX2_cylinderProperty 3 (some .int), Cond.methodLink RX2 128 yX2_cutTracksOn, Cond.instanceMethod yX2_cutTracksOn, Cond.selects RX2 yX2_cutTracksOn yX2_cutTracksOn, Cond.code yX2_cutTracksOn cX2_cutTracksOn 5 (some .int), Cond.methodLink RX2 121 yX2_greatestDepth, Cond.instanceMethod yX2_greatestDepth, Cond.selects RX2 yX2_greatestDepth yX2_greatestDepth, Cond.code yX2_greatestDepth cX2_greatestDepth 5 (some .int), Cond.methodLink RX2 118 Lib.Math.max.name, Cond.methodLink RX2 131 yX2_clearestTrackOn, Cond.instanceMethod yX2_clearestTrackOn, Cond.selects RX2 yX2_clearestTrackOn yX2_clearestTrackOn, Cond.code yX2_clearestTrackOn cX2_clearestTrackOn 5 (some .int)]
def wsL_law0_r9 : List Cond := [Cond.methodLink RL 104 yL_daughters, Cond.static yL_daughters, Cond.codeWith yL_daughters cL_daughters 3 (some .int) [(0, 5, 6, 16)], Cond.methodLink RL 63 yX3_daughters, Cond.instanceMethod yX3_daughters, Cond.selects RX3 yX3_daughters yX3_daughters, Cond.code yX3_daughters cX3_daughters 2 (some .int), Cond.methodLink RX3 189 yX2_descendants, Cond.instanceMethod yX2_descendants, Cond.selects RX2 yX2_descendants yX2_descendants, Cond.code yX2_descendants cX2_descendants 4 (some .int), Cond.methodLink RX2 144 yX2_comesFrom, Cond.instanceMethod yX2_comesFrom, Cond.selects RX2 yX2_comesFrom yX2_comesFrom, Cond.code yX2_comesFrom cX2_comesFrom 5 (some .boolean), Cond.methodLink RL 106 yX3_clearest, Cond.instanceMethod yX3_clearest, Cond.selects RX3 yX3_clearest yX3_clearest, Cond.code yX3_clearest cX3_clearest 1 (some .int), Cond.methodLink RX3 186 yX2_clearestTrack, Cond.instanceMethod yX2_clearestTrack, Cond.selects RX2 yX2_clearestTrack yX2_clearestTrack, Cond.code yX2_clearestTrack cX2_clearestTrack 3 (some .int), Cond.methodLink RX2 140 yX2_soundsBetter]
def wsL_law0_r10 : List Cond := [Cond.instanceMethod yX2_soundsBetter, Cond.selects RX2 yX2_soundsBetter yX2_soundsBetter, Cond.code yX2_soundsBetter cX2_soundsBetter 3 (some .boolean), Cond.methodLink RL 109 yL_count, Cond.static yL_count, Cond.codeWith yL_count cL_count 3 (some .int) [(0, 5, 6, 19)], Cond.methodLink RL 51 yX3_count, Cond.instanceMethod yX3_count, Cond.selects RX3 yX3_count yX3_count, Cond.code yX3_count cX3_count 2 (some .int), Cond.methodLink RX3 151 yX2_number, Cond.instanceMethod yX2_number, Cond.selects RX2 yX2_number yX2_number, Cond.code yX2_number cX2_number 2 (some .int), Cond.methodLink RX2 88 yX2_machineFlutter, Cond.instanceMethod yX2_machineFlutter, Cond.selects RX2 yX2_machineFlutter yX2_machineFlutter, Cond.code yX2_machineFlutter cX2_machineFlutter 1 (some .int), Cond.methodLink RX2 134 yX2_cutTracks, Cond.instanceMethod yX2_cutTracks, Cond.selects RX2 yX2_cutTracks yX2_cutTracks, Cond.code yX2_cutTracks cX2_cutTracks 3 (some .int), Cond.methodLink RX2 137 yX2_layersTogether, Cond.instanceMethod yX2_layersTogether]
def wsL_law0_r11 : List Cond := [Cond.selects RX2 yX2_layersTogether yX2_layersTogether, Cond.code yX2_layersTogether cX2_layersTogether 3 (some .int), Cond.methodLink RL 111 yX3_meanDepth, Cond.instanceMethod yX3_meanDepth, Cond.selects RX3 yX3_meanDepth yX3_meanDepth, Cond.code yX3_meanDepth cX3_meanDepth 2 (some .float), Cond.methodLink RX3 134 yX2_cutTracks, Cond.methodLink RX3 192 yX2_depthTogether, Cond.instanceMethod yX2_depthTogether, Cond.selects RX2 yX2_depthTogether yX2_depthTogether, Cond.code yX2_depthTogether cX2_depthTogether 3 (some .int), Cond.methodLink RL 115 yX3_clearShare, Cond.instanceMethod yX3_clearShare, Cond.selects RX3 yX3_clearShare yX3_clearShare, Cond.code yX3_clearShare cX3_clearShare 2 (some .double), Cond.methodLink RX3 195 yX2_clearnessTogether, Cond.instanceMethod yX2_clearnessTogether, Cond.selects RX2 yX2_clearnessTogether yX2_clearnessTogether, Cond.code yX2_clearnessTogether cX2_clearnessTogether 3 (some .int), Cond.methodLink RL 140 yL_at, Cond.static yL_at, Cond.code yL_at cL_at 2 (some .int), Cond.constant RL 7 (1030720407), Cond.constant RL 8 (457006961)]
def wsL_law0_r12 : List Cond := [Cond.methodLink RL 128 yL_print, Cond.static yL_print, Cond.code yL_print cL_print 4 (some .long), Cond.constantLong RL 122 (31), Cond.constantLong RL 124 (100), Cond.methodLink RL 119 yX3_setting, Cond.instanceMethod yX3_setting, Cond.selects RX3 yX3_setting yX3_setting, Cond.code yX3_setting cX3_setting 1 (some .int), Cond.fieldLink RX3 95 "WaxCopies$Wax" "wear" "I", Cond.methodLink RL 144 yL_act, Cond.static yL_act, Cond.code yL_act cL_act 5 (some .int), Cond.methodLink RL 66 yL_low, Cond.static yL_low, Cond.code yL_low cL_low 2 (some .int), Cond.constant RL 9 (2147483647), Cond.methodLink RL 71 yL_speak, Cond.static yL_speak, Cond.codeWith yL_speak cL_speak 4 (some .int) [(0, 6, 7, 16), (0, 6, 11, 19)], Cond.methodLink RL 10 yX3_speak, Cond.instanceMethod yX3_speak, Cond.selects RX3 yX3_speak yX3_speak, Cond.code yX3_speak cX3_speak 3 (some .int)]
def wsL_law0_r13 : List Cond := [Cond.methodLink RX3 52 yX3_saveState, Cond.instanceMethod yX3_saveState, Cond.selects RX3 yX3_saveState yX3_saveState, Cond.code yX3_saveState cX3_saveState 1 none, Cond.methodLink RX3 272 yX3_dropOldestState, Cond.instanceMethod yX3_dropOldestState, Cond.selects RX3 yX3_dropOldestState yX3_dropOldestState, Cond.code yX3_dropOldestState cX3_dropOldestState 3 none, Cond.methodLink RX3 130 yX2_takeOver, Cond.instanceMethod yX2_takeOver, Cond.selects RX2 yX2_takeOver yX2_takeOver, Cond.code yX2_takeOver cX2_takeOver 2 none, Cond.methodLink RX2 70 arraycopyName, Cond.native arraycopyName, Cond.static arraycopyName, Cond.initialized "java/lang/System", Cond.methodLink RX3 55 yX2_speakOnto, Cond.instanceMethod yX2_speakOnto, Cond.selects RX2 yX2_speakOnto yX2_speakOnto, Cond.code yX2_speakOnto cX2_speakOnto 4 (some .int), Cond.methodLink RX2 80 yX2_reasonNotToSpeak, Cond.methodLink RX2 92 yX2_cut, Cond.instanceMethod yX2_cut, Cond.selects RX2 yX2_cut yX2_cut]
def wsL_law0_r14 : List Cond := [Cond.code yX2_cut cX2_cut 5 none, Cond.methodLink RL 74 yL_copy, Cond.static yL_copy, Cond.codeWith yL_copy cL_copy 5 (some .int) [(0, 7, 8, 16), (0, 7, 13, 19)], Cond.methodLink RL 22 yX3_copy, Cond.instanceMethod yX3_copy, Cond.selects RX3 yX3_copy yX3_copy, Cond.code yX3_copy cX3_copy 4 (some .int), Cond.methodLink RX3 59 yX3_checkLever, Cond.instanceMethod yX3_checkLever, Cond.selects RX3 yX3_checkLever yX3_checkLever, Cond.code yX3_checkLever cX3_checkLever 2 none, Cond.methodLink RX3 62 yX2_copyOnto, Cond.instanceMethod yX2_copyOnto, Cond.selects RX2 yX2_copyOnto yX2_copyOnto, Cond.code yX2_copyOnto cX2_copyOnto 6 (some .int), Cond.methodLink RX2 107 Lib.Math.min.name, Cond.methodLink RX2 103 yX2_reasonNotToCopy, Cond.instanceMethod yX2_reasonNotToCopy, Cond.selects RX2 yX2_reasonNotToCopy yX2_reasonNotToCopy, Cond.code yX2_reasonNotToCopy cX2_reasonNotToCopy 4 (some .int), Cond.methodLink RX2 112 yX2_clearnessIfCopied, Cond.instanceMethod yX2_clearnessIfCopied, Cond.selects RX2 yX2_clearnessIfCopied yX2_clearnessIfCopied]
def wsL_law0_r15 : List Cond := [Cond.code yX2_clearnessIfCopied cX2_clearnessIfCopied 3 (some .int), Cond.methodLink RL 77 yL_play, Cond.static yL_play, Cond.codeWith yL_play cL_play 3 (some .int) [(0, 5, 6, 16)], Cond.methodLink RL 26 yX3_play, Cond.instanceMethod yX3_play, Cond.selects RX3 yX3_play yX3_play, Cond.code yX3_play cX3_play 2 (some .int), Cond.methodLink RX3 66 yX2_playTrack, Cond.instanceMethod yX2_playTrack, Cond.selects RX2 yX2_playTrack yX2_playTrack, Cond.code yX2_playTrack cX2_playTrack 3 (some .int), Cond.methodLink RL 80 yL_shave, Cond.static yL_shave, Cond.codeWith yL_shave cL_shave 3 (some .int) [(0, 5, 6, 16)], Cond.methodLink RL 30 yX3_shave, Cond.instanceMethod yX3_shave, Cond.selects RX3 yX3_shave yX3_shave, Cond.code yX3_shave cX3_shave 2 (some .int), Cond.methodLink RX3 73 yX2_shaveCylinder, Cond.instanceMethod yX2_shaveCylinder, Cond.selects RX2 yX2_shaveCylinder yX2_shaveCylinder, Cond.code yX2_shaveCylinder cX2_shaveCylinder 3 (some .int), Cond.methodLink RX2 124 yX2_smoothTracks]
def wsL_law0_r16 : List Cond := [Cond.instanceMethod yX2_smoothTracks, Cond.selects RX2 yX2_smoothTracks yX2_smoothTracks, Cond.code yX2_smoothTracks cX2_smoothTracks 4 none, Cond.methodLink RL 82 yL_set, Cond.static yL_set, Cond.codeWith yL_set cL_set 3 (some .int) [(0, 5, 6, 19)], Cond.methodLink RL 36 yX3_set, Cond.instanceMethod yX3_set, Cond.selects RX3 yX3_set yX3_set, Cond.code yX3_set cX3_set 3 (some .int), Cond.methodLink RL 84 yL_renew, Cond.static yL_renew, Cond.codeWith yL_renew cL_renew 4 (some .int) [(0, 6, 7, 16), (0, 6, 11, 19)], Cond.methodLink RL 33 yX3_renew, Cond.instanceMethod yX3_renew, Cond.selects RX3 yX3_renew yX3_renew, Cond.code yX3_renew cX3_renew 3 (some .int), Cond.methodLink RX3 90 yX2_renewCylinder, Cond.instanceMethod yX2_renewCylinder, Cond.selects RX2 yX2_renewCylinder yX2_renewCylinder, Cond.code yX2_renewCylinder cX2_renewCylinder 4 (some .int), Cond.methodLink RL 86 yX3_sharpen, Cond.instanceMethod yX3_sharpen, Cond.selects RX3 yX3_sharpen yX3_sharpen]
def wsL_law0_r17 : List Cond := [Cond.code yX3_sharpen cX3_sharpen 1 (some .int), Cond.methodLink RX3 80 yX2_sharpenPoint, Cond.instanceMethod yX2_sharpenPoint, Cond.selects RX2 yX2_sharpenPoint yX2_sharpenPoint, Cond.code yX2_sharpenPoint cX2_sharpenPoint 2 (some .int), Cond.methodLink RL 89 yX3_wind, Cond.instanceMethod yX3_wind, Cond.selects RX3 yX3_wind yX3_wind, Cond.code yX3_wind cX3_wind 1 (some .int), Cond.methodLink RX3 76 yX2_windUp, Cond.instanceMethod yX2_windUp, Cond.selects RX2 yX2_windUp yX2_windUp, Cond.code yX2_windUp cX2_windUp 2 (some .int), Cond.methodLink RL 132 yL_undo, Cond.static yL_undo, Cond.codeWith yL_undo cL_undo 2 (some .int) [(0, 4, 5, 43)], Cond.classLink RL 43 "java/lang/IllegalStateException", Cond.methodLink RL 39 yX3_undo, Cond.instanceMethod yX3_undo, Cond.selects RX3 yX3_undo yX3_undo, Cond.code yX3_undo cX3_undo 1 (some .int), Cond.classLink RX3 104 "java/lang/IllegalStateException", Cond.initialized "java/lang/IllegalStateException", Cond.methodLink RL 147 yL_copies]
def wsL_law0_r18 : List Cond := [Cond.static yL_copies, Cond.code yL_copies cL_copies 12 (some .boolean), Cond.methodLink RL 126 yL_ifCopied, Cond.static yL_ifCopied, Cond.codeWith yL_ifCopied cL_ifCopied 5 (some .int) [(0, 7, 8, 16), (0, 7, 13, 19)], Cond.methodLink RL 57 yX3_ifCopied, Cond.instanceMethod yX3_ifCopied, Cond.selects RX3 yX3_ifCopied yX3_ifCopied, Cond.code yX3_ifCopied cX3_ifCopied 5 (some .int), Cond.methodLink RX3 157 yX2_reasonNotToCopy, Cond.methodLink RX3 160 yX2_clearnessIfCopied, Cond.methodLink RL 151 yL_speaks, Cond.static yL_speaks, Cond.code yL_speaks cL_speaks 8 (some .boolean), Cond.methodLink RL 155 yL_steps, Cond.static yL_steps, Cond.code yL_steps cL_steps 11 (some .boolean), Cond.methodLink RL 158 yL_shaves, Cond.static yL_shaves, Cond.code yL_shaves cL_shaves 9 (some .boolean)]
def wsL_law0 : List Cond := (wsL_law0_r1 ++ (wsL_law0_r2 ++ (wsL_law0_r3 ++ (wsL_law0_r4 ++ (wsL_law0_r5 ++ (wsL_law0_r6 ++ (wsL_law0_r7 ++ (wsL_law0_r8 ++ (wsL_law0_r9 ++ (wsL_law0_r10 ++ (wsL_law0_r11 ++ (wsL_law0_r12 ++ (wsL_law0_r13 ++ (wsL_law0_r14 ++ (wsL_law0_r15 ++ (wsL_law0_r16 ++ (wsL_law0_r17 ++ wsL_law0_r18))))))))))))))))) ++ wsX30 ++ wsX20 ++ wsX00 ++ wsX10 ++ ([] : List Cond)
def wsL_law : List Cond := wsL_law0 ++ (vx_atS RX3 261 "java/lang/IndexOutOfBoundsException" ["java/lang/RuntimeException", "java/lang/Exception"]).filter goodWord ++ (vx_atS RX3 87 "java/lang/IllegalArgumentException" ["java/lang/RuntimeException", "java/lang/Exception"]).filter goodWord ++ (vx_atS RX3 108 "java/lang/IllegalStateException" ["java/lang/RuntimeException", "java/lang/Exception"]).filter goodWord
end
section
set_option maxRecDepth 100000
theorem wsL_in0_r1 : ∀ w ∈ wsL_law0_r1, w ∈ lw_tbl := List.forall_mem_cons.mpr ⟨List.mem_of_getElem? (i := 23) rfl, List.forall_mem_cons.mpr ⟨List.mem_of_getElem? (i := 24) rfl, List.forall_mem_cons.mpr ⟨List.mem_of_getElem? (i := 11) rfl, List.forall_mem_cons.mpr ⟨List.mem_of_getElem? (i := 25) rfl, List.forall_mem_cons.mpr ⟨List.mem_of_getElem? (i := 26) rfl, List.forall_mem_cons.mpr ⟨List.mem_of_getElem? (i := 27) rfl, List.forall_mem_cons.mpr ⟨List.mem_of_getElem? (i := 28) rfl, List.forall_mem_cons.mpr ⟨List.mem_of_getElem? (i := 29) rfl, List.forall_mem_cons.mpr ⟨List.mem_of_getElem? (i := 30) rfl, List.forall_mem_cons.mpr ⟨List.mem_of_getElem? (i := 31) rfl, List.forall_mem_cons.mpr ⟨List.mem_of_getElem? (i := 32) rfl, List.forall_mem_cons.mpr ⟨List.mem_of_getElem? (i := 12) rfl, List.forall_mem_cons.mpr ⟨List.mem_of_getElem? (i := 131) rfl, List.forall_mem_cons.mpr ⟨List.mem_of_getElem? (i := 132) rfl, List.forall_mem_cons.mpr ⟨List.mem_of_getElem? (i := 114) rfl, List.forall_mem_cons.mpr ⟨List.mem_of_getElem? (i := 133) rfl, List.forall_mem_cons.mpr ⟨List.mem_of_getElem? (i := 134) rfl, List.forall_mem_cons.mpr ⟨List.mem_of_getElem? (i := 135) rfl, List.forall_mem_cons.mpr ⟨List.mem_of_getElem? (i := 101) rfl, List.forall_mem_cons.mpr ⟨List.mem_of_getElem? (i := 102) rfl, List.forall_mem_cons.mpr ⟨List.mem_of_getElem? (i := 13) rfl, List.forall_mem_cons.mpr ⟨List.mem_of_getElem? (i := 136) rfl, List.forall_mem_cons.mpr ⟨List.mem_of_getElem? (i := 116) rfl, List.forall_mem_cons.mpr ⟨List.mem_of_getElem? (i := 117) rfl, List.forall_mem_nil _⟩⟩⟩⟩⟩⟩⟩⟩⟩⟩⟩⟩⟩⟩⟩⟩⟩⟩⟩⟩⟩⟩⟩⟩
theorem wsL_in0_r2 : ∀ w ∈ wsL_law0_r2, w ∈ lw_tbl := List.forall_mem_cons.mpr ⟨List.mem_of_getElem? (i := 14) rfl, List.forall_mem_cons.mpr ⟨List.mem_of_getElem? (i := 137) rfl, List.forall_mem_cons.mpr ⟨List.mem_of_getElem? (i := 33) rfl, List.forall_mem_cons.mpr ⟨List.mem_of_getElem? (i := 34) rfl, List.forall_mem_cons.mpr ⟨List.mem_of_getElem? (i := 35) rfl, List.forall_mem_cons.mpr ⟨List.mem_of_getElem? (i := 36) rfl, List.forall_mem_cons.mpr ⟨List.mem_of_getElem? (i := 99) rfl, List.forall_mem_cons.mpr ⟨List.mem_of_getElem? (i := 37) rfl, List.forall_mem_cons.mpr ⟨List.mem_of_getElem? (i := 39) rfl, List.forall_mem_cons.mpr ⟨List.mem_of_getElem? (i := 41) rfl, List.forall_mem_cons.mpr ⟨List.mem_of_getElem? (i := 42) rfl, List.forall_mem_cons.mpr ⟨List.mem_of_getElem? (i := 43) rfl, List.forall_mem_cons.mpr ⟨List.mem_of_getElem? (i := 44) rfl, List.forall_mem_cons.mpr ⟨List.mem_of_getElem? (i := 45) rfl, List.forall_mem_cons.mpr ⟨List.mem_of_getElem? (i := 46) rfl, List.forall_mem_cons.mpr ⟨List.mem_of_getElem? (i := 47) rfl, List.forall_mem_cons.mpr ⟨List.mem_of_getElem? (i := 48) rfl, List.forall_mem_cons.mpr ⟨List.mem_of_getElem? (i := 50) rfl, List.forall_mem_cons.mpr ⟨List.mem_of_getElem? (i := 51) rfl, List.forall_mem_cons.mpr ⟨List.mem_of_getElem? (i := 53) rfl, List.forall_mem_cons.mpr ⟨List.mem_of_getElem? (i := 54) rfl, List.forall_mem_cons.mpr ⟨List.mem_of_getElem? (i := 55) rfl, List.forall_mem_cons.mpr ⟨List.mem_of_getElem? (i := 56) rfl, List.forall_mem_cons.mpr ⟨List.mem_of_getElem? (i := 57) rfl, List.forall_mem_nil _⟩⟩⟩⟩⟩⟩⟩⟩⟩⟩⟩⟩⟩⟩⟩⟩⟩⟩⟩⟩⟩⟩⟩⟩
theorem wsL_in0_r3 : ∀ w ∈ wsL_law0_r3, w ∈ lw_tbl := List.forall_mem_cons.mpr ⟨List.mem_of_getElem? (i := 58) rfl, List.forall_mem_cons.mpr ⟨List.mem_of_getElem? (i := 59) rfl, List.forall_mem_cons.mpr ⟨List.mem_of_getElem? (i := 104) rfl, List.forall_mem_cons.mpr ⟨List.mem_of_getElem? (i := 105) rfl, List.forall_mem_cons.mpr ⟨List.mem_of_getElem? (i := 106) rfl, List.forall_mem_cons.mpr ⟨List.mem_of_getElem? (i := 115) rfl, List.forall_mem_cons.mpr ⟨List.mem_of_getElem? (i := 107) rfl, List.forall_mem_cons.mpr ⟨List.mem_of_getElem? (i := 108) rfl, List.forall_mem_cons.mpr ⟨List.mem_of_getElem? (i := 119) rfl, List.forall_mem_cons.mpr ⟨List.mem_of_getElem? (i := 120) rfl, List.forall_mem_cons.mpr ⟨List.mem_of_getElem? (i := 121) rfl, List.forall_mem_cons.mpr ⟨List.mem_of_getElem? (i := 122) rfl, List.forall_mem_cons.mpr ⟨List.mem_of_getElem? (i := 124) rfl, List.forall_mem_cons.mpr ⟨List.mem_of_getElem? (i := 125) rfl, List.forall_mem_cons.mpr ⟨List.mem_of_getElem? (i := 471) rfl, List.forall_mem_cons.mpr ⟨List.mem_of_getElem? (i := 472) rfl, List.forall_mem_cons.mpr ⟨List.mem_of_getElem? (i := 10) rfl, List.forall_mem_cons.mpr ⟨List.mem_of_getElem? (i := 473) rfl, List.forall_mem_cons.mpr ⟨List.mem_of_getElem? (i := 474) rfl, List.forall_mem_cons.mpr ⟨List.mem_of_getElem? (i := 475) rfl, List.forall_mem_cons.mpr ⟨List.mem_of_getElem? (i := 476) rfl, List.forall_mem_cons.mpr ⟨List.mem_of_getElem? (i := 477) rfl, List.forall_mem_cons.mpr ⟨List.mem_of_getElem? (i := 478) rfl, List.forall_mem_cons.mpr ⟨List.mem_of_getElem? (i := 479) rfl, List.forall_mem_nil _⟩⟩⟩⟩⟩⟩⟩⟩⟩⟩⟩⟩⟩⟩⟩⟩⟩⟩⟩⟩⟩⟩⟩⟩
theorem wsL_in0_r4 : ∀ w ∈ wsL_law0_r4, w ∈ lw_tbl := List.forall_mem_cons.mpr ⟨List.mem_of_getElem? (i := 304) rfl, List.forall_mem_cons.mpr ⟨List.mem_of_getElem? (i := 249) rfl, List.forall_mem_cons.mpr ⟨List.mem_of_getElem? (i := 245) rfl, List.forall_mem_cons.mpr ⟨List.mem_of_getElem? (i := 363) rfl, List.forall_mem_cons.mpr ⟨List.mem_of_getElem? (i := 480) rfl, List.forall_mem_cons.mpr ⟨List.mem_of_getElem? (i := 481) rfl, List.forall_mem_cons.mpr ⟨List.mem_of_getElem? (i := 482) rfl, List.forall_mem_cons.mpr ⟨List.mem_of_getElem? (i := 483) rfl, List.forall_mem_cons.mpr ⟨List.mem_of_getElem? (i := 309) rfl, List.forall_mem_cons.mpr ⟨List.mem_of_getElem? (i := 311) rfl, List.forall_mem_cons.mpr ⟨List.mem_of_getElem? (i := 2) rfl, List.forall_mem_cons.mpr ⟨List.mem_of_getElem? (i := 312) rfl, List.forall_mem_cons.mpr ⟨List.mem_of_getElem? (i := 313) rfl, List.forall_mem_cons.mpr ⟨List.mem_of_getElem? (i := 18) rfl, List.forall_mem_cons.mpr ⟨List.mem_of_getElem? (i := 254) rfl, List.forall_mem_cons.mpr ⟨List.mem_of_getElem? (i := 256) rfl, List.forall_mem_cons.mpr ⟨List.mem_of_getElem? (i := 1) rfl, List.forall_mem_cons.mpr ⟨List.mem_of_getElem? (i := 257) rfl, List.forall_mem_cons.mpr ⟨List.mem_of_getElem? (i := 258) rfl, List.forall_mem_cons.mpr ⟨List.mem_of_getElem? (i := 19) rfl, List.forall_mem_cons.mpr ⟨List.mem_of_getElem? (i := 484) rfl, List.forall_mem_cons.mpr ⟨List.mem_of_getElem? (i := 485) rfl, List.forall_mem_cons.mpr ⟨List.mem_of_getElem? (i := 486) rfl, List.forall_mem_cons.mpr ⟨List.mem_of_getElem? (i := 487) rfl, List.forall_mem_nil _⟩⟩⟩⟩⟩⟩⟩⟩⟩⟩⟩⟩⟩⟩⟩⟩⟩⟩⟩⟩⟩⟩⟩⟩
theorem wsL_in0_r5 : ∀ w ∈ wsL_law0_r5, w ∈ lw_tbl := List.forall_mem_cons.mpr ⟨List.mem_of_getElem? (i := 290) rfl, List.forall_mem_cons.mpr ⟨List.mem_of_getElem? (i := 291) rfl, List.forall_mem_cons.mpr ⟨List.mem_of_getElem? (i := 292) rfl, List.forall_mem_cons.mpr ⟨List.mem_of_getElem? (i := 293) rfl, List.forall_mem_cons.mpr ⟨List.mem_of_getElem? (i := 488) rfl, List.forall_mem_cons.mpr ⟨List.mem_of_getElem? (i := 489) rfl, List.forall_mem_cons.mpr ⟨List.mem_of_getElem? (i := 490) rfl, List.forall_mem_cons.mpr ⟨List.mem_of_getElem? (i := 491) rfl, List.forall_mem_cons.mpr ⟨List.mem_of_getElem? (i := 492) rfl, List.forall_mem_cons.mpr ⟨List.mem_of_getElem? (i := 493) rfl, List.forall_mem_cons.mpr ⟨List.mem_of_getElem? (i := 494) rfl, List.forall_mem_cons.mpr ⟨List.mem_of_getElem? (i := 38) rfl, List.forall_mem_cons.mpr ⟨List.mem_of_getElem? (i := 40) rfl, List.forall_mem_cons.mpr ⟨List.mem_of_getElem? (i := 49) rfl, List.forall_mem_cons.mpr ⟨List.mem_of_getElem? (i := 496) rfl, List.forall_mem_cons.mpr ⟨List.mem_of_getElem? (i := 497) rfl, List.forall_mem_cons.mpr ⟨List.mem_of_getElem? (i := 498) rfl, List.forall_mem_cons.mpr ⟨List.mem_of_getElem? (i := 499) rfl, List.forall_mem_cons.mpr ⟨List.mem_of_getElem? (i := 500) rfl, List.forall_mem_cons.mpr ⟨List.mem_of_getElem? (i := 501) rfl, List.forall_mem_cons.mpr ⟨List.mem_of_getElem? (i := 502) rfl, List.forall_mem_cons.mpr ⟨List.mem_of_getElem? (i := 503) rfl, List.forall_mem_cons.mpr ⟨List.mem_of_getElem? (i := 358) rfl, List.forall_mem_cons.mpr ⟨List.mem_of_getElem? (i := 359) rfl, List.forall_mem_nil _⟩⟩⟩⟩⟩⟩⟩⟩⟩⟩⟩⟩⟩⟩⟩⟩⟩⟩⟩⟩⟩⟩⟩⟩
theorem wsL_in0_r6 : ∀ w ∈ wsL_law0_r6, w ∈ lw_tbl := List.forall_mem_cons.mpr ⟨List.mem_of_getElem? (i := 360) rfl, List.forall_mem_cons.mpr ⟨List.mem_of_getElem? (i := 361) rfl, List.forall_mem_cons.mpr ⟨List.mem_of_getElem? (i := 20) rfl, List.forall_mem_cons.mpr ⟨List.mem_of_getElem? (i := 362) rfl, List.forall_mem_cons.mpr ⟨List.mem_of_getElem? (i := 505) rfl, List.forall_mem_cons.mpr ⟨List.mem_of_getElem? (i := 507) rfl, List.forall_mem_cons.mpr ⟨List.mem_of_getElem? (i := 8) rfl, List.forall_mem_cons.mpr ⟨List.mem_of_getElem? (i := 508) rfl, List.forall_mem_cons.mpr ⟨List.mem_of_getElem? (i := 511) rfl, List.forall_mem_cons.mpr ⟨List.mem_of_getElem? (i := 385) rfl, List.forall_mem_cons.mpr ⟨List.mem_of_getElem? (i := 386) rfl, List.forall_mem_cons.mpr ⟨List.mem_of_getElem? (i := 387) rfl, List.forall_mem_cons.mpr ⟨List.mem_of_getElem? (i := 388) rfl, List.forall_mem_cons.mpr ⟨List.mem_of_getElem? (i := 389) rfl, List.forall_mem_cons.mpr ⟨List.mem_of_getElem? (i := 396) rfl, List.forall_mem_cons.mpr ⟨List.mem_of_getElem? (i := 397) rfl, List.forall_mem_cons.mpr ⟨List.mem_of_getElem? (i := 398) rfl, List.forall_mem_cons.mpr ⟨List.mem_of_getElem? (i := 351) rfl, List.forall_mem_cons.mpr ⟨List.mem_of_getElem? (i := 352) rfl, List.forall_mem_cons.mpr ⟨List.mem_of_getElem? (i := 512) rfl, List.forall_mem_cons.mpr ⟨List.mem_of_getElem? (i := 514) rfl, List.forall_mem_cons.mpr ⟨List.mem_of_getElem? (i := 9) rfl, List.forall_mem_cons.mpr ⟨List.mem_of_getElem? (i := 515) rfl, List.forall_mem_cons.mpr ⟨List.mem_of_getElem? (i := 516) rfl, List.forall_mem_nil _⟩⟩⟩⟩⟩⟩⟩⟩⟩⟩⟩⟩⟩⟩⟩⟩⟩⟩⟩⟩⟩⟩⟩⟩
theorem wsL_in0_r7 : ∀ w ∈ wsL_law0_r7, w ∈ lw_tbl := List.forall_mem_cons.mpr ⟨List.mem_of_getElem? (i := 517) rfl, List.forall_mem_cons.mpr ⟨List.mem_of_getElem? (i := 518) rfl, List.forall_mem_cons.mpr ⟨List.mem_of_getElem? (i := 519) rfl, List.forall_mem_cons.mpr ⟨List.mem_of_getElem? (i := 520) rfl, List.forall_mem_cons.mpr ⟨List.mem_of_getElem? (i := 521) rfl, List.forall_mem_cons.mpr ⟨List.mem_of_getElem? (i := 522) rfl, List.forall_mem_cons.mpr ⟨List.mem_of_getElem? (i := 523) rfl, List.forall_mem_cons.mpr ⟨List.mem_of_getElem? (i := 524) rfl, List.forall_mem_cons.mpr ⟨List.mem_of_getElem? (i := 525) rfl, List.forall_mem_cons.mpr ⟨List.mem_of_getElem? (i := 526) rfl, List.forall_mem_cons.mpr ⟨List.mem_of_getElem? (i := 527) rfl, List.forall_mem_cons.mpr ⟨List.mem_of_getElem? (i := 528) rfl, List.forall_mem_cons.mpr ⟨List.mem_of_getElem? (i := 329) rfl, List.forall_mem_cons.mpr ⟨List.mem_of_getElem? (i := 331) rfl, List.forall_mem_cons.mpr ⟨List.mem_of_getElem? (i := 3) rfl, List.forall_mem_cons.mpr ⟨List.mem_of_getElem? (i := 332) rfl, List.forall_mem_cons.mpr ⟨List.mem_of_getElem? (i := 529) rfl, List.forall_mem_cons.mpr ⟨List.mem_of_getElem? (i := 347) rfl, List.forall_mem_cons.mpr ⟨List.mem_of_getElem? (i := 348) rfl, List.forall_mem_cons.mpr ⟨List.mem_of_getElem? (i := 349) rfl, List.forall_mem_cons.mpr ⟨List.mem_of_getElem? (i := 530) rfl, List.forall_mem_cons.mpr ⟨List.mem_of_getElem? (i := 531) rfl, List.forall_mem_cons.mpr ⟨List.mem_of_getElem? (i := 532) rfl, List.forall_mem_cons.mpr ⟨List.mem_of_getElem? (i := 533) rfl, List.forall_mem_nil _⟩⟩⟩⟩⟩⟩⟩⟩⟩⟩⟩⟩⟩⟩⟩⟩⟩⟩⟩⟩⟩⟩⟩⟩
theorem wsL_in0_r8 : ∀ w ∈ wsL_law0_r8, w ∈ lw_tbl := List.forall_mem_cons.mpr ⟨List.mem_of_getElem? (i := 534) rfl, List.forall_mem_cons.mpr ⟨List.mem_of_getElem? (i := 535) rfl, List.forall_mem_cons.mpr ⟨List.mem_of_getElem? (i := 536) rfl, List.forall_mem_cons.mpr ⟨List.mem_of_getElem? (i := 418) rfl, List.forall_mem_cons.mpr ⟨List.mem_of_getElem? (i := 420) rfl, List.forall_mem_cons.mpr ⟨List.mem_of_getElem? (i := 7) rfl, List.forall_mem_cons.mpr ⟨List.mem_of_getElem? (i := 421) rfl, List.forall_mem_cons.mpr ⟨List.mem_of_getElem? (i := 537) rfl, List.forall_mem_cons.mpr ⟨List.mem_of_getElem? (i := 538) rfl, List.forall_mem_cons.mpr ⟨List.mem_of_getElem? (i := 539) rfl, List.forall_mem_cons.mpr ⟨List.mem_of_getElem? (i := 540) rfl, List.forall_mem_cons.mpr ⟨List.mem_of_getElem? (i := 286) rfl, List.forall_mem_cons.mpr ⟨List.mem_of_getElem? (i := 287) rfl, List.forall_mem_cons.mpr ⟨List.mem_of_getElem? (i := 288) rfl, List.forall_mem_cons.mpr ⟨List.mem_of_getElem? (i := 289) rfl, List.forall_mem_cons.mpr ⟨List.mem_of_getElem? (i := 427) rfl, List.forall_mem_cons.mpr ⟨List.mem_of_getElem? (i := 428) rfl, List.forall_mem_cons.mpr ⟨List.mem_of_getElem? (i := 429) rfl, List.forall_mem_cons.mpr ⟨List.mem_of_getElem? (i := 430) rfl, List.forall_mem_cons.mpr ⟨List.mem_of_getElem? (i := 410) rfl, List.forall_mem_cons.mpr ⟨List.mem_of_getElem? (i := 541) rfl, List.forall_mem_cons.mpr ⟨List.mem_of_getElem? (i := 542) rfl, List.forall_mem_cons.mpr ⟨List.mem_of_getElem? (i := 543) rfl, List.forall_mem_cons.mpr ⟨List.mem_of_getElem? (i := 544) rfl, List.forall_mem_nil _⟩⟩⟩⟩⟩⟩⟩⟩⟩⟩⟩⟩⟩⟩⟩⟩⟩⟩⟩⟩⟩⟩⟩⟩
theorem wsL_in0_r9 : ∀ w ∈ wsL_law0_r9, w ∈ lw_tbl := List.forall_mem_cons.mpr ⟨List.mem_of_getElem? (i := 545) rfl, List.forall_mem_cons.mpr ⟨List.mem_of_getElem? (i := 546) rfl, List.forall_mem_cons.mpr ⟨List.mem_of_getElem? (i := 547) rfl, List.forall_mem_cons.mpr ⟨List.mem_of_getElem? (i := 548) rfl, List.forall_mem_cons.mpr ⟨List.mem_of_getElem? (i := 549) rfl, List.forall_mem_cons.mpr ⟨List.mem_of_getElem? (i := 550) rfl, List.forall_mem_cons.mpr ⟨List.mem_of_getElem? (i := 551) rfl, List.forall_mem_cons.mpr ⟨List.mem_of_getElem? (i := 552) rfl, List.forall_mem_cons.mpr ⟨List.mem_of_getElem? (i := 553) rfl, List.forall_mem_cons.mpr ⟨List.mem_of_getElem? (i := 554) rfl, List.forall_mem_cons.mpr ⟨List.mem_of_getElem? (i := 555) rfl, List.forall_mem_cons.mpr ⟨List.mem_of_getElem? (i := 556) rfl, List.forall_mem_cons.mpr ⟨List.mem_of_getElem? (i := 557) rfl, List.forall_mem_cons.mpr ⟨List.mem_of_getElem? (i := 558) rfl, List.forall_mem_cons.mpr ⟨List.mem_of_getElem? (i := 559) rfl, List.forall_mem_cons.mpr ⟨List.mem_of_getElem? (i := 560) rfl, List.forall_mem_cons.mpr ⟨List.mem_of_getElem? (i := 561) rfl, List.forall_mem_cons.mpr ⟨List.mem_of_getElem? (i := 562) rfl, List.forall_mem_cons.mpr ⟨List.mem_of_getElem? (i := 563) rfl, List.forall_mem_cons.mpr ⟨List.mem_of_getElem? (i := 564) rfl, List.forall_mem_cons.mpr ⟨List.mem_of_getElem? (i := 565) rfl, List.forall_mem_cons.mpr ⟨List.mem_of_getElem? (i := 566) rfl, List.forall_mem_cons.mpr ⟨List.mem_of_getElem? (i := 567) rfl, List.forall_mem_cons.mpr ⟨List.mem_of_getElem? (i := 568) rfl, List.forall_mem_nil _⟩⟩⟩⟩⟩⟩⟩⟩⟩⟩⟩⟩⟩⟩⟩⟩⟩⟩⟩⟩⟩⟩⟩⟩
theorem wsL_in0_r10 : ∀ w ∈ wsL_law0_r10, w ∈ lw_tbl := List.forall_mem_cons.mpr ⟨List.mem_of_getElem? (i := 569) rfl, List.forall_mem_cons.mpr ⟨List.mem_of_getElem? (i := 570) rfl, List.forall_mem_cons.mpr ⟨List.mem_of_getElem? (i := 571) rfl, List.forall_mem_cons.mpr ⟨List.mem_of_getElem? (i := 246) rfl, List.forall_mem_cons.mpr ⟨List.mem_of_getElem? (i := 247) rfl, List.forall_mem_cons.mpr ⟨List.mem_of_getElem? (i := 248) rfl, List.forall_mem_cons.mpr ⟨List.mem_of_getElem? (i := 250) rfl, List.forall_mem_cons.mpr ⟨List.mem_of_getElem? (i := 251) rfl, List.forall_mem_cons.mpr ⟨List.mem_of_getElem? (i := 252) rfl, List.forall_mem_cons.mpr ⟨List.mem_of_getElem? (i := 253) rfl, List.forall_mem_cons.mpr ⟨List.mem_of_getElem? (i := 274) rfl, List.forall_mem_cons.mpr ⟨List.mem_of_getElem? (i := 275) rfl, List.forall_mem_cons.mpr ⟨List.mem_of_getElem? (i := 276) rfl, List.forall_mem_cons.mpr ⟨List.mem_of_getElem? (i := 277) rfl, List.forall_mem_cons.mpr ⟨List.mem_of_getElem? (i := 278) rfl, List.forall_mem_cons.mpr ⟨List.mem_of_getElem? (i := 279) rfl, List.forall_mem_cons.mpr ⟨List.mem_of_getElem? (i := 280) rfl, List.forall_mem_cons.mpr ⟨List.mem_of_getElem? (i := 281) rfl, List.forall_mem_cons.mpr ⟨List.mem_of_getElem? (i := 282) rfl, List.forall_mem_cons.mpr ⟨List.mem_of_getElem? (i := 283) rfl, List.forall_mem_cons.mpr ⟨List.mem_of_getElem? (i := 284) rfl, List.forall_mem_cons.mpr ⟨List.mem_of_getElem? (i := 285) rfl, List.forall_mem_cons.mpr ⟨List.mem_of_getElem? (i := 294) rfl, List.forall_mem_cons.mpr ⟨List.mem_of_getElem? (i := 295) rfl, List.forall_mem_nil _⟩⟩⟩⟩⟩⟩⟩⟩⟩⟩⟩⟩⟩⟩⟩⟩⟩⟩⟩⟩⟩⟩⟩⟩
theorem wsL_in0_r11 : ∀ w ∈ wsL_law0_r11, w ∈ lw_tbl := List.forall_mem_cons.mpr ⟨List.mem_of_getElem? (i := 296) rfl, List.forall_mem_cons.mpr ⟨List.mem_of_getElem? (i := 297) rfl, List.forall_mem_cons.mpr ⟨List.mem_of_getElem? (i := 572) rfl, List.forall_mem_cons.mpr ⟨List.mem_of_getElem? (i := 573) rfl, List.forall_mem_cons.mpr ⟨List.mem_of_getElem? (i := 574) rfl, List.forall_mem_cons.mpr ⟨List.mem_of_getElem? (i := 575) rfl, List.forall_mem_cons.mpr ⟨List.mem_of_getElem? (i := 576) rfl, List.forall_mem_cons.mpr ⟨List.mem_of_getElem? (i := 577) rfl, List.forall_mem_cons.mpr ⟨List.mem_of_getElem? (i := 578) rfl, List.forall_mem_cons.mpr ⟨List.mem_of_getElem? (i := 579) rfl, List.forall_mem_cons.mpr ⟨List.mem_of_getElem? (i := 580) rfl, List.forall_mem_cons.mpr ⟨List.mem_of_getElem? (i := 581) rfl, List.forall_mem_cons.mpr ⟨List.mem_of_getElem? (i := 582) rfl, List.forall_mem_cons.mpr ⟨List.mem_of_getElem? (i := 583) rfl, List.forall_mem_cons.mpr ⟨List.mem_of_getElem? (i := 584) rfl, List.forall_mem_cons.mpr ⟨List.mem_of_getElem? (i := 585) rfl, List.forall_mem_cons.mpr ⟨List.mem_of_getElem? (i := 586) rfl, List.forall_mem_cons.mpr ⟨List.mem_of_getElem? (i := 587) rfl, List.forall_mem_cons.mpr ⟨List.mem_of_getElem? (i := 588) rfl, List.forall_mem_cons.mpr ⟨List.mem_of_getElem? (i := 153) rfl, List.forall_mem_cons.mpr ⟨List.mem_of_getElem? (i := 154) rfl, List.forall_mem_cons.mpr ⟨List.mem_of_getElem? (i := 155) rfl, List.forall_mem_cons.mpr ⟨List.mem_of_getElem? (i := 156) rfl, List.forall_mem_cons.mpr ⟨List.mem_of_getElem? (i := 157) rfl, List.forall_mem_nil _⟩⟩⟩⟩⟩⟩⟩⟩⟩⟩⟩⟩⟩⟩⟩⟩⟩⟩⟩⟩⟩⟩⟩⟩
theorem wsL_in0_r12 : ∀ w ∈ wsL_law0_r12, w ∈ lw_tbl := List.forall_mem_cons.mpr ⟨List.mem_of_getElem? (i := 589) rfl, List.forall_mem_cons.mpr ⟨List.mem_of_getElem? (i := 590) rfl, List.forall_mem_cons.mpr ⟨List.mem_of_getElem? (i := 591) rfl, List.forall_mem_cons.mpr ⟨List.mem_of_getElem? (i := 596) rfl, List.forall_mem_cons.mpr ⟨List.mem_of_getElem? (i := 597) rfl, List.forall_mem_cons.mpr ⟨List.mem_of_getElem? (i := 592) rfl, List.forall_mem_cons.mpr ⟨List.mem_of_getElem? (i := 593) rfl, List.forall_mem_cons.mpr ⟨List.mem_of_getElem? (i := 594) rfl, List.forall_mem_cons.mpr ⟨List.mem_of_getElem? (i := 595) rfl, List.forall_mem_cons.mpr ⟨List.mem_of_getElem? (i := 52) rfl, List.forall_mem_cons.mpr ⟨List.mem_of_getElem? (i := 298) rfl, List.forall_mem_cons.mpr ⟨List.mem_of_getElem? (i := 299) rfl, List.forall_mem_cons.mpr ⟨List.mem_of_getElem? (i := 300) rfl, List.forall_mem_cons.mpr ⟨List.mem_of_getElem? (i := 158) rfl, List.forall_mem_cons.mpr ⟨List.mem_of_getElem? (i := 159) rfl, List.forall_mem_cons.mpr ⟨List.mem_of_getElem? (i := 160) rfl, List.forall_mem_cons.mpr ⟨List.mem_of_getElem? (i := 161) rfl, List.forall_mem_cons.mpr ⟨List.mem_of_getElem? (i := 301) rfl, List.forall_mem_cons.mpr ⟨List.mem_of_getElem? (i := 302) rfl, List.forall_mem_cons.mpr ⟨List.mem_of_getElem? (i := 303) rfl, List.forall_mem_cons.mpr ⟨List.mem_of_getElem? (i := 305) rfl, List.forall_mem_cons.mpr ⟨List.mem_of_getElem? (i := 306) rfl, List.forall_mem_cons.mpr ⟨List.mem_of_getElem? (i := 307) rfl, List.forall_mem_cons.mpr ⟨List.mem_of_getElem? (i := 308) rfl, List.forall_mem_nil _⟩⟩⟩⟩⟩⟩⟩⟩⟩⟩⟩⟩⟩⟩⟩⟩⟩⟩⟩⟩⟩⟩⟩⟩
theorem wsL_in0_r13 : ∀ w ∈ wsL_law0_r13, w ∈ lw_tbl := List.forall_mem_cons.mpr ⟨List.mem_of_getElem? (i := 334) rfl, List.forall_mem_cons.mpr ⟨List.mem_of_getElem? (i := 336) rfl, List.forall_mem_cons.mpr ⟨List.mem_of_getElem? (i := 4) rfl, List.forall_mem_cons.mpr ⟨List.mem_of_getElem? (i := 337) rfl, List.forall_mem_cons.mpr ⟨List.mem_of_getElem? (i := 338) rfl, List.forall_mem_cons.mpr ⟨List.mem_of_getElem? (i := 340) rfl, List.forall_mem_cons.mpr ⟨List.mem_of_getElem? (i := 5) rfl, List.forall_mem_cons.mpr ⟨List.mem_of_getElem? (i := 341) rfl, List.forall_mem_cons.mpr ⟨List.mem_of_getElem? (i := 238) rfl, List.forall_mem_cons.mpr ⟨List.mem_of_getElem? (i := 239) rfl, List.forall_mem_cons.mpr ⟨List.mem_of_getElem? (i := 240) rfl, List.forall_mem_cons.mpr ⟨List.mem_of_getElem? (i := 241) rfl, List.forall_mem_cons.mpr ⟨List.mem_of_getElem? (i := 242) rfl, List.forall_mem_cons.mpr ⟨List.mem_of_getElem? (i := 244) rfl, List.forall_mem_cons.mpr ⟨List.mem_of_getElem? (i := 243) rfl, List.forall_mem_cons.mpr ⟨List.mem_of_getElem? (i := 21) rfl, List.forall_mem_cons.mpr ⟨List.mem_of_getElem? (i := 342) rfl, List.forall_mem_cons.mpr ⟨List.mem_of_getElem? (i := 343) rfl, List.forall_mem_cons.mpr ⟨List.mem_of_getElem? (i := 344) rfl, List.forall_mem_cons.mpr ⟨List.mem_of_getElem? (i := 345) rfl, List.forall_mem_cons.mpr ⟨List.mem_of_getElem? (i := 346) rfl, List.forall_mem_cons.mpr ⟨List.mem_of_getElem? (i := 353) rfl, List.forall_mem_cons.mpr ⟨List.mem_of_getElem? (i := 354) rfl, List.forall_mem_cons.mpr ⟨List.mem_of_getElem? (i := 355) rfl, List.forall_mem_nil _⟩⟩⟩⟩⟩⟩⟩⟩⟩⟩⟩⟩⟩⟩⟩⟩⟩⟩⟩⟩⟩⟩⟩⟩
theorem wsL_in0_r14 : ∀ w ∈ wsL_law0_r14, w ∈ lw_tbl := List.forall_mem_cons.mpr ⟨List.mem_of_getElem? (i := 356) rfl, List.forall_mem_cons.mpr ⟨List.mem_of_getElem? (i := 364) rfl, List.forall_mem_cons.mpr ⟨List.mem_of_getElem? (i := 365) rfl, List.forall_mem_cons.mpr ⟨List.mem_of_getElem? (i := 366) rfl, List.forall_mem_cons.mpr ⟨List.mem_of_getElem? (i := 367) rfl, List.forall_mem_cons.mpr ⟨List.mem_of_getElem? (i := 368) rfl, List.forall_mem_cons.mpr ⟨List.mem_of_getElem? (i := 369) rfl, List.forall_mem_cons.mpr ⟨List.mem_of_getElem? (i := 370) rfl, List.forall_mem_cons.mpr ⟨List.mem_of_getElem? (i := 371) rfl, List.forall_mem_cons.mpr ⟨List.mem_of_getElem? (i := 373) rfl, List.forall_mem_cons.mpr ⟨List.mem_of_getElem? (i := 6) rfl, List.forall_mem_cons.mpr ⟨List.mem_of_getElem? (i := 374) rfl, List.forall_mem_cons.mpr ⟨List.mem_of_getElem? (i := 376) rfl, List.forall_mem_cons.mpr ⟨List.mem_of_getElem? (i := 377) rfl, List.forall_mem_cons.mpr ⟨List.mem_of_getElem? (i := 378) rfl, List.forall_mem_cons.mpr ⟨List.mem_of_getElem? (i := 379) rfl, List.forall_mem_cons.mpr ⟨List.mem_of_getElem? (i := 390) rfl, List.forall_mem_cons.mpr ⟨List.mem_of_getElem? (i := 380) rfl, List.forall_mem_cons.mpr ⟨List.mem_of_getElem? (i := 381) rfl, List.forall_mem_cons.mpr ⟨List.mem_of_getElem? (i := 382) rfl, List.forall_mem_cons.mpr ⟨List.mem_of_getElem? (i := 383) rfl, List.forall_mem_cons.mpr ⟨List.mem_of_getElem? (i := 391) rfl, List.forall_mem_cons.mpr ⟨List.mem_of_getElem? (i := 392) rfl, List.forall_mem_cons.mpr ⟨List.mem_of_getElem? (i := 393) rfl, List.forall_mem_nil _⟩⟩⟩⟩⟩⟩⟩⟩⟩⟩⟩⟩⟩⟩⟩⟩⟩⟩⟩⟩⟩⟩⟩⟩
theorem wsL_in0_r15 : ∀ w ∈ wsL_law0_r15, w ∈ lw_tbl := List.forall_mem_cons.mpr ⟨List.mem_of_getElem? (i := 394) rfl, List.forall_mem_cons.mpr ⟨List.mem_of_getElem? (i := 399) rfl, List.forall_mem_cons.mpr ⟨List.mem_of_getElem? (i := 400) rfl, List.forall_mem_cons.mpr ⟨List.mem_of_getElem? (i := 401) rfl, List.forall_mem_cons.mpr ⟨List.mem_of_getElem? (i := 402) rfl, List.forall_mem_cons.mpr ⟨List.mem_of_getElem? (i := 403) rfl, List.forall_mem_cons.mpr ⟨List.mem_of_getElem? (i := 404) rfl, List.forall_mem_cons.mpr ⟨List.mem_of_getElem? (i := 405) rfl, List.forall_mem_cons.mpr ⟨List.mem_of_getElem? (i := 406) rfl, List.forall_mem_cons.mpr ⟨List.mem_of_getElem? (i := 407) rfl, List.forall_mem_cons.mpr ⟨List.mem_of_getElem? (i := 408) rfl, List.forall_mem_cons.mpr ⟨List.mem_of_getElem? (i := 409) rfl, List.forall_mem_cons.mpr ⟨List.mem_of_getElem? (i := 411) rfl, List.forall_mem_cons.mpr ⟨List.mem_of_getElem? (i := 412) rfl, List.forall_mem_cons.mpr ⟨List.mem_of_getElem? (i := 413) rfl, List.forall_mem_cons.mpr ⟨List.mem_of_getElem? (i := 414) rfl, List.forall_mem_cons.mpr ⟨List.mem_of_getElem? (i := 415) rfl, List.forall_mem_cons.mpr ⟨List.mem_of_getElem? (i := 416) rfl, List.forall_mem_cons.mpr ⟨List.mem_of_getElem? (i := 417) rfl, List.forall_mem_cons.mpr ⟨List.mem_of_getElem? (i := 423) rfl, List.forall_mem_cons.mpr ⟨List.mem_of_getElem? (i := 424) rfl, List.forall_mem_cons.mpr ⟨List.mem_of_getElem? (i := 425) rfl, List.forall_mem_cons.mpr ⟨List.mem_of_getElem? (i := 426) rfl, List.forall_mem_cons.mpr ⟨List.mem_of_getElem? (i := 431) rfl, List.forall_mem_nil _⟩⟩⟩⟩⟩⟩⟩⟩⟩⟩⟩⟩⟩⟩⟩⟩⟩⟩⟩⟩⟩⟩⟩⟩
theorem wsL_in0_r16 : ∀ w ∈ wsL_law0_r16, w ∈ lw_tbl := List.forall_mem_cons.mpr ⟨List.mem_of_getElem? (i := 432) rfl, List.forall_mem_cons.mpr ⟨List.mem_of_getElem? (i := 433) rfl, List.forall_mem_cons.mpr ⟨List.mem_of_getElem? (i := 434) rfl, List.forall_mem_cons.mpr ⟨List.mem_of_getElem? (i := 435) rfl, List.forall_mem_cons.mpr ⟨List.mem_of_getElem? (i := 436) rfl, List.forall_mem_cons.mpr ⟨List.mem_of_getElem? (i := 437) rfl, List.forall_mem_cons.mpr ⟨List.mem_of_getElem? (i := 438) rfl, List.forall_mem_cons.mpr ⟨List.mem_of_getElem? (i := 439) rfl, List.forall_mem_cons.mpr ⟨List.mem_of_getElem? (i := 440) rfl, List.forall_mem_cons.mpr ⟨List.mem_of_getElem? (i := 441) rfl, List.forall_mem_cons.mpr ⟨List.mem_of_getElem? (i := 443) rfl, List.forall_mem_cons.mpr ⟨List.mem_of_getElem? (i := 444) rfl, List.forall_mem_cons.mpr ⟨List.mem_of_getElem? (i := 445) rfl, List.forall_mem_cons.mpr ⟨List.mem_of_getElem? (i := 446) rfl, List.forall_mem_cons.mpr ⟨List.mem_of_getElem? (i := 447) rfl, List.forall_mem_cons.mpr ⟨List.mem_of_getElem? (i := 448) rfl, List.forall_mem_cons.mpr ⟨List.mem_of_getElem? (i := 449) rfl, List.forall_mem_cons.mpr ⟨List.mem_of_getElem? (i := 451) rfl, List.forall_mem_cons.mpr ⟨List.mem_of_getElem? (i := 452) rfl, List.forall_mem_cons.mpr ⟨List.mem_of_getElem? (i := 453) rfl, List.forall_mem_cons.mpr ⟨List.mem_of_getElem? (i := 454) rfl, List.forall_mem_cons.mpr ⟨List.mem_of_getElem? (i := 455) rfl, List.forall_mem_cons.mpr ⟨List.mem_of_getElem? (i := 456) rfl, List.forall_mem_cons.mpr ⟨List.mem_of_getElem? (i := 457) rfl, List.forall_mem_nil _⟩⟩⟩⟩⟩⟩⟩⟩⟩⟩⟩⟩⟩⟩⟩⟩⟩⟩⟩⟩⟩⟩⟩⟩
theorem wsL_in0_r17 : ∀ w ∈ wsL_law0_r17, w ∈ lw_tbl := List.forall_mem_cons.mpr ⟨List.mem_of_getElem? (i := 458) rfl, List.forall_mem_cons.mpr ⟨List.mem_of_getElem? (i := 459) rfl, List.forall_mem_cons.mpr ⟨List.mem_of_getElem? (i := 460) rfl, List.forall_mem_cons.mpr ⟨List.mem_of_getElem? (i := 461) rfl, List.forall_mem_cons.mpr ⟨List.mem_of_getElem? (i := 462) rfl, List.forall_mem_cons.mpr ⟨List.mem_of_getElem? (i := 463) rfl, List.forall_mem_cons.mpr ⟨List.mem_of_getElem? (i := 464) rfl, List.forall_mem_cons.mpr ⟨List.mem_of_getElem? (i := 465) rfl, List.forall_mem_cons.mpr ⟨List.mem_of_getElem? (i := 466) rfl, List.forall_mem_cons.mpr ⟨List.mem_of_getElem? (i := 467) rfl, List.forall_mem_cons.mpr ⟨List.mem_of_getElem? (i := 468) rfl, List.forall_mem_cons.mpr ⟨List.mem_of_getElem? (i := 469) rfl, List.forall_mem_cons.mpr ⟨List.mem_of_getElem? (i := 470) rfl, List.forall_mem_cons.mpr ⟨List.mem_of_getElem? (i := 162) rfl, List.forall_mem_cons.mpr ⟨List.mem_of_getElem? (i := 163) rfl, List.forall_mem_cons.mpr ⟨List.mem_of_getElem? (i := 164) rfl, List.forall_mem_cons.mpr ⟨List.mem_of_getElem? (i := 165) rfl, List.forall_mem_cons.mpr ⟨List.mem_of_getElem? (i := 166) rfl, List.forall_mem_cons.mpr ⟨List.mem_of_getElem? (i := 167) rfl, List.forall_mem_cons.mpr ⟨List.mem_of_getElem? (i := 168) rfl, List.forall_mem_cons.mpr ⟨List.mem_of_getElem? (i := 169) rfl, List.forall_mem_cons.mpr ⟨List.mem_of_getElem? (i := 170) rfl, List.forall_mem_cons.mpr ⟨List.mem_of_getElem? (i := 22) rfl, List.forall_mem_cons.mpr ⟨List.mem_of_getElem? (i := 598) rfl, List.forall_mem_nil _⟩⟩⟩⟩⟩⟩⟩⟩⟩⟩⟩⟩⟩⟩⟩⟩⟩⟩⟩⟩⟩⟩⟩⟩
theorem wsL_in0_r18 : ∀ w ∈ wsL_law0_r18, w ∈ lw_tbl := List.forall_mem_cons.mpr ⟨List.mem_of_getElem? (i := 599) rfl, List.forall_mem_cons.mpr ⟨List.mem_of_getElem? (i := 600) rfl, List.forall_mem_cons.mpr ⟨List.mem_of_getElem? (i := 601) rfl, List.forall_mem_cons.mpr ⟨List.mem_of_getElem? (i := 602) rfl, List.forall_mem_cons.mpr ⟨List.mem_of_getElem? (i := 603) rfl, List.forall_mem_cons.mpr ⟨List.mem_of_getElem? (i := 604) rfl, List.forall_mem_cons.mpr ⟨List.mem_of_getElem? (i := 605) rfl, List.forall_mem_cons.mpr ⟨List.mem_of_getElem? (i := 606) rfl, List.forall_mem_cons.mpr ⟨List.mem_of_getElem? (i := 607) rfl, List.forall_mem_cons.mpr ⟨List.mem_of_getElem? (i := 608) rfl, List.forall_mem_cons.mpr ⟨List.mem_of_getElem? (i := 609) rfl, List.forall_mem_cons.mpr ⟨List.mem_of_getElem? (i := 610) rfl, List.forall_mem_cons.mpr ⟨List.mem_of_getElem? (i := 611) rfl, List.forall_mem_cons.mpr ⟨List.mem_of_getElem? (i := 612) rfl, List.forall_mem_cons.mpr ⟨List.mem_of_getElem? (i := 613) rfl, List.forall_mem_cons.mpr ⟨List.mem_of_getElem? (i := 614) rfl, List.forall_mem_cons.mpr ⟨List.mem_of_getElem? (i := 615) rfl, List.forall_mem_cons.mpr ⟨List.mem_of_getElem? (i := 616) rfl, List.forall_mem_cons.mpr ⟨List.mem_of_getElem? (i := 617) rfl, List.forall_mem_cons.mpr ⟨List.mem_of_getElem? (i := 618) rfl, List.forall_mem_nil _⟩⟩⟩⟩⟩⟩⟩⟩⟩⟩⟩⟩⟩⟩⟩⟩⟩⟩⟩⟩
theorem wsL_in0_X30 : ∀ w ∈ wsX30, w ∈ lw_tbl := fun w h => (goodIn_p wsX30 [] (by decide +kernel) (by decide +kernel) w h).1
theorem wsL_in0_X20 : ∀ w ∈ wsX20, w ∈ lw_tbl := fun w h => (goodIn_p wsX20 [] (by decide +kernel) (by decide +kernel) w h).1
theorem wsL_in0_X00 : ∀ w ∈ wsX00, w ∈ lw_tbl := fun w h => (goodIn_p wsX00 [] (by decide +kernel) (by decide +kernel) w h).1
theorem wsL_in0_X10 : ∀ w ∈ wsX10, w ∈ lw_tbl := fun w h => (goodIn_p wsX10 [] (by decide +kernel) (by decide +kernel) w h).1
theorem wsL_law_in0 : ∀ w ∈ wsL_law0, w ∈ lw_tbl := List.forall_mem_append.mpr ⟨List.forall_mem_append.mpr ⟨List.forall_mem_append.mpr ⟨List.forall_mem_append.mpr ⟨List.forall_mem_append.mpr ⟨List.forall_mem_append.mpr ⟨wsL_in0_r1, List.forall_mem_append.mpr ⟨wsL_in0_r2, List.forall_mem_append.mpr ⟨wsL_in0_r3, List.forall_mem_append.mpr ⟨wsL_in0_r4, List.forall_mem_append.mpr ⟨wsL_in0_r5, List.forall_mem_append.mpr ⟨wsL_in0_r6, List.forall_mem_append.mpr ⟨wsL_in0_r7, List.forall_mem_append.mpr ⟨wsL_in0_r8, List.forall_mem_append.mpr ⟨wsL_in0_r9, List.forall_mem_append.mpr ⟨wsL_in0_r10, List.forall_mem_append.mpr ⟨wsL_in0_r11, List.forall_mem_append.mpr ⟨wsL_in0_r12, List.forall_mem_append.mpr ⟨wsL_in0_r13, List.forall_mem_append.mpr ⟨wsL_in0_r14, List.forall_mem_append.mpr ⟨wsL_in0_r15, List.forall_mem_append.mpr ⟨wsL_in0_r16, List.forall_mem_append.mpr ⟨wsL_in0_r17, wsL_in0_r18⟩⟩⟩⟩⟩⟩⟩⟩⟩⟩⟩⟩⟩⟩⟩⟩⟩, wsL_in0_X30⟩, wsL_in0_X20⟩, wsL_in0_X00⟩, wsL_in0_X10⟩, List.forall_mem_nil _⟩
theorem wsL_law_x0 : ∀ w ∈ (vx_atS RX3 261 "java/lang/IndexOutOfBoundsException" ["java/lang/RuntimeException", "java/lang/Exception"]).filter goodWord, w ∈ lw_tbl := by decide +kernel
theorem wsL_law_x1 : ∀ w ∈ (vx_atS RX3 87 "java/lang/IllegalArgumentException" ["java/lang/RuntimeException", "java/lang/Exception"]).filter goodWord, w ∈ lw_tbl := by decide +kernel
theorem wsL_law_x2 : ∀ w ∈ (vx_atS RX3 108 "java/lang/IllegalStateException" ["java/lang/RuntimeException", "java/lang/Exception"]).filter goodWord, w ∈ lw_tbl := by decide +kernel
theorem wsL_law_in : ∀ w ∈ wsL_law, w ∈ lw_tbl := fun w h => (List.mem_append.mp h).elim (fun h => (List.mem_append.mp h).elim (fun h => (List.mem_append.mp h).elim (fun h => wsL_law_in0 w h) (fun h => wsL_law_x0 w h)) (fun h => wsL_law_x1 w h)) (fun h => wsL_law_x2 w h)
theorem inlX0 : ∀ w ∈ wsX00, w ∈ wsL_law := fun _ h => List.mem_append_left _ (List.mem_append_left _ (List.mem_append_left _ (List.mem_append_left _ (List.mem_append_left _ (List.mem_append_right _ h)))))
theorem inX0 : ∀ w ∈ wsX00, w ∈ lw_tbl := fun w h => wsL_law_in w (inlX0 w h)
theorem inlX1 : ∀ w ∈ wsX10, w ∈ wsL_law := fun _ h => List.mem_append_left _ (List.mem_append_left _ (List.mem_append_left _ (List.mem_append_left _ (List.mem_append_right _ h))))
theorem inX1 : ∀ w ∈ wsX10, w ∈ lw_tbl := fun w h => wsL_law_in w (inlX1 w h)
theorem inlX2 : ∀ w ∈ wsX20, w ∈ wsL_law := fun _ h => List.mem_append_left _ (List.mem_append_left _ (List.mem_append_left _ (List.mem_append_left _ (List.mem_append_left _ (List.mem_append_left _ (List.mem_append_right _ h))))))
theorem inX2 : ∀ w ∈ wsX20, w ∈ lw_tbl := fun w h => wsL_law_in w (inlX2 w h)
theorem inlX3 : ∀ w ∈ wsX30, w ∈ wsL_law := fun _ h => List.mem_append_left _ (List.mem_append_left _ (List.mem_append_left _ (List.mem_append_left _ (List.mem_append_left _ (List.mem_append_left _ (List.mem_append_left _ (List.mem_append_right _ h)))))))
theorem inX3 : ∀ w ∈ wsX30, w ∈ lw_tbl := fun w h => wsL_law_in w (inlX3 w h)
theorem inX4 : ∀ w ∈ wsX40, w ∈ lw_tbl := by decide +kernel
theorem inJ9 : ∀ w ∈ wsJ90, w ∈ lw_tbl := by decide +kernel
theorem inJ0 : ∀ w ∈ wsJ00, w ∈ lw_tbl := by decide +kernel
theorem inJ10 : ∀ w ∈ wsJ100, w ∈ lw_tbl := by decide +kernel
end
section
/-- the table's word on arrays of arrays -/
def va_AOA (ty : FieldType) (U : State) : Prop := (Cond.arrayOver (.array ty)).before #[] U = true
theorem va_AOA.of {ty : FieldType} {A : Array Value} {U : State} (h : (Cond.arrayOver (.array ty)).before A U = true) : va_AOA ty U := h
theorem va_AOA.use {ty : FieldType} {A : Array Value} {U : State} (h : va_AOA ty U) : (Cond.arrayOver (.array ty)).before A U = true := h
/-! ===== BEGIN new T[n][m]: the outer array a place, the inner ones among the pooled ===== -/
/-- f, but v at every address of l -/
def vr_up {α : Type} (f : Nat → α) (l : List Nat) (v : α) : Nat → α := fun a => if a ∈ l then v else f a
theorem vr_up_in {α : Type} {f : Nat → α} {l : List Nat} {v : α} {a : Nat} (h : a ∈ l) : vr_up f l v a = v := if_pos h
theorem vr_up_ne {α : Type} {f : Nat → α} {l : List Nat} {v : α} {a : Nat} (h : a ∉ l) : vr_up f l v a = f a := if_neg h
theorem vr_rows {L l : List Nat} {f : Nat → va_E} {e : va_E} (h : ∀ a, a ∈ l → a ∉ L) : va_pl L f ++ l.map (fun a => (a, e)) = va_pl (L ++ l) (vr_up f l e) := by
  unfold va_pl
  rw [List.map_append]
  congr 1
  · apply List.map_congr_left
    intro a ha
    rw [vr_up_ne (fun q => h a q ha)]
  · apply List.map_congr_left
    intro a ha
    rw [vr_up_in ha]
theorem vr_lay {X rows : va_W} {x : Nat × va_E} {pl : va_W} {D : va_G} {cl : List vw_C} {H : Heap} (hP : va_P D cl (((X ++ pl) ++ [x]) ++ rows) H) : va_P D cl ((X ++ [x]) ++ (pl ++ rows)) H := by
  rw [List.append_assoc (X ++ pl)] at hP
  have h := va_P.swap hP
  rw [← List.append_assoc X] at h
  have h2 := va_P.swap h
  rw [List.append_assoc (X ++ [x])] at h2
  exact h2
theorem vr_layD {X rows : va_W} {x : Nat × va_E} {pl : va_W} {A : Nat → Prop} (hD : va_D A (((X ++ pl) ++ [x]) ++ rows)) : va_D A ((X ++ [x]) ++ (pl ++ rows)) := by
  rw [List.append_assoc (X ++ pl)] at hD
  have h := va_D.swap hD
  rw [← List.append_assoc X] at h
  have h2 := va_D.swap h
  rw [List.append_assoc (X ++ [x])] at h2
  exact h2
theorem vr_outer (c : ClassId) (N h0 : Nat) : ∀ i : Nat, Jvm.Free.Multi.outerC c N h0 i = arrV c N (fun j => va_rf (if j < i then some (h0 + 1 + j) else none))
  | 0 => by
    show ({ cls := c, slots := Array.replicate N .null, vm := .none } : Cell) = _
    rw [arrV_new]
    refine congrArg (arrV c N) (funext fun j => ?_)
    simp [va_rf]
  | i + 1 => by
    show (Jvm.Free.Multi.outerC c N h0 i).setSlot i (.ref (h0 + 1 + i)) = _
    rw [vr_outer c N h0 i, arrV_store]
    refine congrArg (arrV c N) (funext fun j => ?_)
    by_cases e : j = i
    · subst e
      simp [updV, va_rf]
    · by_cases h : j < i
      · simp [updV, e, h, Nat.lt_succ_of_lt h]
      · simp [updV, e, h, show ¬ j < i + 1 by omega]
section VGM
variable {p : Program} {l : Launch} {e : Env} {R : Room} {s : State} {m : MethodId} {args : Array Value} {below : List Frame} {meth : Method} {c : Code} {H : Heap} {locs : List Loc} {cells slots : Nat} {Q : State → Prop}
variable {cc : ByteArray} {pc : Nat} {ls : Array Slot} {rest : List Value} {D : va_G} {cl : List vw_C} {A : Nat → Prop} {a : Nat} {tys : List (ClassId × FieldType)} {ws : va_W} {H0 : Heap}
theorem va_mna {X : va_W} {L : List Nat} {f : Nat → va_E} {cc : ByteArray} (hexec : p.tables.exec = Jvm.exec) (hb : c.code = cc) {own : String} {index : Nat} {ty : FieldType} {cy : ClassId} (hown : s.vm.findClass own = some m.cls) (hclink : (Cond.classLink own index ("[" ++ (FieldType.array ty).toString)).before args s = true) (hover : va_AOA ty s) (harr : (Cond.arrayClass ty).before args s = true) (hcy : s.vm.findClass (FieldType.array ty).toString = some cy)
    (hK : va_K D cl tys s) (hP : va_P D cl (X ++ va_pl L f) H) (hD : va_D A (X ++ va_pl L f)) (hS : va_S A H0 H locs) (hA : ∀ q, H0.size ≤ q → A q) {n k : Int32} {N' K' : Nat} {z : vp_A} (hn : ¬ n < 0) (hk : ¬ k < 0) (hN : n.toNatClampNeg = N') (hM : k.toNatClampNeg = K')
    (hb1 : N' * 4 ≤ 536870912) (hb2 : K' * componentBytes ty ≤ 536870912) (hb3 : K' ≤ 536870912) (hdf : fits ty (defaultValue ty) = true) (hdd : (defaultValue ty).isDefault = true) (hcells : cells + (1 + N') ≤ R.cells) (hslots : slots + (N' + N' * K') ≤ R.slots) (hz : ∀ c : ClassId, Jvm.Free.Multi.innerC c K' (defaultValue ty) = vp_cell c z) (hdg : decode cc pc = .ok (.multianewarray index 2, 4))
    (kk : ∀ (q : Nat) (r : Nat → Nat) (cA : ClassId) (H1 : Heap), (∀ i j : Nat, i < N' → j < N' → r i = r j → i = j) → (∀ i : Nat, i < N' → r i ∉ L) → va_K D cl (tys ++ [(cA, .array ty)]) s →
      va_P D cl ((X ++ [(q, .inl (cA, N', .inr (.inr (.inr (.inr (fun i => if i < N' then some (r i) else none))))))]) ++ va_pl (L ++ (List.range N').map r) (vr_up f ((List.range N').map r) (.inl (cy, z)))) H1 → va_D A ((X ++ [(q, .inl (cA, N', .inr (.inr (.inr (.inr (fun i => if i < N' then some (r i) else none))))))]) ++ va_pl (L ++ (List.range N').map r) (vr_up f ((List.range N').map r) (.inl (cy, z)))) → va_S A H0 H1 locs →
      W p l e R s m args below meth c H1 locs (cells + 1 + N') (slots + N' + N' * K') Q (F0 m (pc + 4) ls (.ref q :: rest))) : W p l e R s m args below meth c H locs cells slots Q (F0 m pc ls (.int k :: .int n :: rest)) := by
  subst hN
  subst hM
  intro T hT Xs
  obtain ⟨vm₁, cA, comp, -, fA, fC, hO, -, X', step⟩ := Xs.multianewarray2F hexec hown hclink (va_AOA.use hover) harr (g := F0 m pc ls (.int k :: .int n :: rest)) rfl (by rw [hb]; exact hdg) rfl hn hk hb1 hb2 hb3 hdf hdd hcells hslots
  have ec : some cy = some comp := hcy.symm.trans fC
  cases ec
  generalize hF : Jvm.Free.Multi.fill (T.setVm vm₁) cA cy n.toNatClampNeg k.toNatClampNeg (defaultValue ty) n.toNatClampNeg = F at X' step
  have hTh : (T.setVm vm₁).heap = H := hT
  obtain ⟨f1, f2, -, -⟩ := Jvm.Free.Multi.fill_facts (T.setVm vm₁) cA cy n.toNatClampNeg k.toNatClampNeg (defaultValue ty) n.toNatClampNeg
  rw [hF, hTh] at f1 f2
  have hold : ∀ x : Nat, x < H.size → F.heap[x]? = H[x]? := fun x hx => by
    have := Jvm.Free.Multi.fill_old (T.setVm vm₁) cA cy n.toNatClampNeg k.toNatClampNeg (defaultValue ty) (a := x) (by rw [hTh]; exact hx) n.toNatClampNeg
    rw [hF, hTh] at this
    exact this
  have hrow : ∀ j : Nat, j < n.toNatClampNeg → F.heap[H.size + 1 + j]? = some (vp_cell cy z) := fun j hj => by
    have := Jvm.Free.Multi.fill_inner (T.setVm vm₁) cA cy n.toNatClampNeg k.toNatClampNeg (defaultValue ty) n.toNatClampNeg j hj
    rw [hF, hTh, hz] at this
    exact this
  have hout : Jvm.Free.Multi.outerC cA n.toNatClampNeg H.size n.toNatClampNeg = vp_cell cA (n.toNatClampNeg, .inr (.inr (.inr (.inr (fun i => if i < n.toNatClampNeg then some (H.size + 1 + i) else none))))) := by
    rw [vp_cell_q]
    exact vr_outer cA n.toNatClampNeg H.size n.toNatClampNeg
  rw [hout] at f2
  have hlt : ∀ a, a ∈ L → a < H.size := fun a ha => by
    obtain ⟨k9, hk9⟩ := va_pl_get (X := X) (f := f) ha
    exact (hP k9 _ hk9).lt
  have hnl : ∀ i : Nat, i < n.toNatClampNeg → H.size + 1 + i ∉ L := fun i _ h => by
    have := hlt _ h
    omega
  have hnm : ∀ a, a ∈ (List.range n.toNatClampNeg).map (fun i => H.size + 1 + i) → a ∉ L := fun a ha h => by
    obtain ⟨i, -, rfl⟩ := List.mem_map.mp ha
    have := hlt _ h
    omega
  have hP0 : va_P D cl (X ++ va_pl L f) F.heap := hP.kept (fun k9 x hx => hold x.1 ((hP k9 x hx).lt))
  have hP1 : va_P D cl ((X ++ va_pl L f) ++ [(H.size, .inl (cA, n.toNatClampNeg, .inr (.inr (.inr (.inr (fun i => if i < n.toNatClampNeg then some (H.size + 1 + i) else none))))))]) F.heap := hP0.app (fun k9 x hx => by
    have h0 : k9 < 1 := (List.getElem?_eq_some_iff.mp hx).1
    rw [show k9 = 0 by omega] at hx
    cases hx
    exact f2)
  have hP2 : va_P D cl (((X ++ va_pl L f) ++ [(H.size, .inl (cA, n.toNatClampNeg, .inr (.inr (.inr (.inr (fun i => if i < n.toNatClampNeg then some (H.size + 1 + i) else none))))))]) ++ ((List.range n.toNatClampNeg).map (fun i => H.size + 1 + i)).map (fun a => (a, .inl (cy, z)))) F.heap := hP1.app (fun k9 x hx => by
    obtain ⟨a, ha, rfl⟩ := List.mem_map.mp (List.mem_of_getElem? hx)
    obtain ⟨i, hi, rfl⟩ := List.mem_map.mp ha
    exact hrow i (List.mem_range.mp hi))
  have hD2 : va_D A (((X ++ va_pl L f) ++ [(H.size, .inl (cA, n.toNatClampNeg, .inr (.inr (.inr (.inr (fun i => if i < n.toNatClampNeg then some (H.size + 1 + i) else none))))))]) ++ ((List.range n.toNatClampNeg).map (fun i => H.size + 1 + i)).map (fun a => (a, .inl (cy, z)))) := by
    have hD1 := hD.push (e := .inl (cA, n.toNatClampNeg, .inr (.inr (.inr (.inr (fun i => if i < n.toNatClampNeg then some (H.size + 1 + i) else none)))))) hP rfl (hA _ hS.1)
    generalize hW1 : (X ++ va_pl L f) ++ [(H.size, .inl (cA, n.toNatClampNeg, .inr (.inr (.inr (.inr (fun i => if i < n.toNatClampNeg then some (H.size + 1 + i) else none))))))] = W1 at hD1 hP1 ⊢
    have hle : ∀ (k9 : Nat) (x : Nat × va_E), W1[k9]? = some x → x.1 ≤ H.size := fun k9 x hx => by
      rw [← hW1] at hx
      by_cases hl : k9 < (X ++ va_pl L f).length
      · rw [List.getElem?_append_left hl] at hx
        exact Nat.le_of_lt ((hP k9 x hx).lt)
      · rw [List.getElem?_append_right (by omega)] at hx
        have h0 : k9 - (X ++ va_pl L f).length < 1 := (List.getElem?_eq_some_iff.mp hx).1
        rw [show k9 - (X ++ va_pl L f).length = 0 by omega] at hx
        cases hx
        exact Nat.le_refl _
    have hr : ∀ (k9 : Nat) (x : Nat × va_E), (((List.range n.toNatClampNeg).map (fun i => H.size + 1 + i)).map (fun a => ((a, .inl (cy, z)) : Nat × va_E)))[k9]? = some x → x.1 = H.size + 1 + k9 := fun k9 x hx => by
      rw [List.getElem?_map, List.getElem?_map] at hx
      by_cases h9 : k9 < n.toNatClampNeg
      · rw [List.getElem?_range h9] at hx
        cases hx
        rfl
      · have hn0 : (List.range n.toNatClampNeg)[k9]? = none := List.getElem?_eq_none (by rw [List.length_range]; omega)
        rw [hn0] at hx
        cases hx
    refine ⟨fun i j x y hi hj hxy => ?_, fun k9 x hx => ?_⟩
    · by_cases h1 : i < W1.length <;> by_cases h2 : j < W1.length
      · rw [List.getElem?_append_left h1] at hi
        rw [List.getElem?_append_left h2] at hj
        exact hD1.1 i j x y hi hj hxy
      · rw [List.getElem?_append_left h1] at hi
        rw [List.getElem?_append_right (by omega)] at hj
        have := hle _ _ hi
        have := hr _ _ hj
        omega
      · rw [List.getElem?_append_right (by omega)] at hi
        rw [List.getElem?_append_left h2] at hj
        have := hle _ _ hj
        have := hr _ _ hi
        omega
      · rw [List.getElem?_append_right (by omega)] at hi hj
        have := hr _ _ hi
        have := hr _ _ hj
        omega
    · by_cases h1 : k9 < W1.length
      · rw [List.getElem?_append_left h1] at hx
        exact hD1.2 k9 x hx
      · rw [List.getElem?_append_right (by omega)] at hx
        have := hr _ _ hx
        exact hA _ (by have := hS.1; omega)
  have hAr : ArrOfT s cA (.array ty) := fun N9 z9 => by
    obtain ⟨-, k9, hk9, cm9, hkk9⟩ := (hO 0 0 0).1
    exact ⟨(fun q hq => by cases hq), k9, hk9, cm9, hkk9⟩
  have hK2 : va_K D cl (tys ++ [(cA, .array ty)]) s := ⟨hK.1, fun k9 x hx => by
    by_cases hl : k9 < tys.length
    · rw [List.getElem?_append_left hl] at hx
      exact hK.2 k9 x hx
    · rw [List.getElem?_append_right (by omega)] at hx
      have h0 : k9 - tys.length < 1 := (List.getElem?_eq_some_iff.mp hx).1
      rw [show k9 - tys.length = 0 by omega] at hx
      cases hx
      exact ⟨hAr, fA⟩⟩
  obtain ⟨t, a1, b1⟩ := kk H.size (fun i => H.size + 1 + i) cA F.heap (fun i j _ _ h => by have h9 : H.size + 1 + i = H.size + 1 + j := h; omega) hnl hK2 (by rw [← vr_rows hnm]; exact vr_lay hP2) (by rw [← vr_rows hnm]; exact vr_layD hD2) ⟨by rw [f1]; have := hS.1; omega, fun x h1 h2 => (hold x (Nat.lt_of_lt_of_le h1 hS.1)).trans (hS.2.1 x h1 h2), hS.2.2⟩ F rfl X'
  refine ⟨t, step t ?_, b1⟩
  have e : T.heap.size = H.size := by rw [hT]
  rw [e]
  exact a1
end VGM
/-! ===== END ===== -/
end
section
theorem dX0_init_0 : decode cX0_init 0 = .ok (.aload_n 0, 1) := by decide +kernel
theorem dX0_init_1 : decode cX0_init 1 = .ok (.invokespecial 3, 3) := by decide +kernel
theorem dX0_init_4 : decode cX0_init 4 = .ok (.aload_n 0, 1) := by decide +kernel
theorem dX0_init_5 : decode cX0_init 5 = .ok (.bipush 60, 2) := by decide +kernel
theorem dX0_init_7 : decode cX0_init 7 = .ok (.newarray .char, 2) := by decide +kernel
theorem dX0_init_9 : decode cX0_init 9 = .ok (.putfield 11, 3) := by decide +kernel
theorem dX0_init_12 : decode cX0_init 12 = .ok (.aload_n 0, 1) := by decide +kernel
theorem dX0_init_13 : decode cX0_init 13 = .ok (.iconst 0, 1) := by decide +kernel
theorem dX0_init_14 : decode cX0_init 14 = .ok (.putfield 15, 3) := by decide +kernel
theorem dX0_init_17 : decode cX0_init 17 = .ok (.return_, 1) := by decide +kernel
end
section
theorem dX1_init_0 : decode cX1_init 0 = .ok (.aload_n 0, 1) := by decide +kernel
theorem dX1_init_1 : decode cX1_init 1 = .ok (.invokespecial 3, 3) := by decide +kernel
theorem dX1_init_4 : decode cX1_init 4 = .ok (.aload_n 0, 1) := by decide +kernel
theorem dX1_init_5 : decode cX1_init 5 = .ok (.bipush 10, 2) := by decide +kernel
theorem dX1_init_7 : decode cX1_init 7 = .ok (.bipush 101, 2) := by decide +kernel
theorem dX1_init_9 : decode cX1_init 9 = .ok (.multianewarray 9 2, 4) := by decide +kernel
theorem dX1_init_13 : decode cX1_init 13 = .ok (.putfield 11, 3) := by decide +kernel
theorem dX1_init_16 : decode cX1_init 16 = .ok (.aload_n 0, 1) := by decide +kernel
theorem dX1_init_17 : decode cX1_init 17 = .ok (.bipush 10, 2) := by decide +kernel
theorem dX1_init_19 : decode cX1_init 19 = .ok (.bipush 101, 2) := by decide +kernel
theorem dX1_init_21 : decode cX1_init 21 = .ok (.multianewarray 9 2, 4) := by decide +kernel
theorem dX1_init_25 : decode cX1_init 25 = .ok (.putfield 16, 3) := by decide +kernel
theorem dX1_init_28 : decode cX1_init 28 = .ok (.return_, 1) := by decide +kernel
set_option maxRecDepth 20000 in
theorem ggX1_clearestAfter_X1_forget : GoodIn wsX1_clearestAfter wsX1_forget := goodIn_r _ [6] (by decide +kernel) (by decide +kernel)
set_option maxRecDepth 20000 in
theorem gX1_clearestAfter_X1_forget : GoodIn wsX1_clearestAfter (va_wsS RX1 19 yX1_forget wsX1_forget) := goodIn_app (goodIn_of _ (by decide +kernel)) ggX1_clearestAfter_X1_forget
set_option maxRecDepth 20000 in
theorem ggX1_clearestAfter_X3_sharpnessAfter : GoodIn wsX1_clearestAfter wsX3_sharpnessAfter := goodIn_r _ [9, 10, 11, 12, 13] (by decide +kernel) (by decide +kernel)
set_option maxRecDepth 20000 in
theorem gX1_clearestAfter_X3_sharpnessAfter_n23 : GoodIn wsX1_clearestAfter (wsX3_sharpnessAfter) := ggX1_clearestAfter_X3_sharpnessAfter
set_option maxRecDepth 20000 in
theorem ggX1_clearestAfter_X1_stepOn : GoodIn wsX1_clearestAfter wsX1_stepOn := goodIn_r _ [17, 1, 2, 18, 11, 12, 13, 19, 8, 20, 10, 21, 22, 23, 7, 9, 24, 25, 26, 27, 28, 33, 34] (by decide +kernel) (by decide +kernel)
set_option maxRecDepth 20000 in
theorem gX1_clearestAfter_X1_stepOn : GoodIn wsX1_clearestAfter (wsV RX1 27 RX1 yX1_stepOn wsX1_stepOn) := goodIn_app (goodIn_of _ (by decide +kernel)) ggX1_clearestAfter_X1_stepOn
set_option maxRecDepth 20000 in
theorem ggX1_clearestAfter_X1_clearestOf : GoodIn wsX1_clearestAfter wsX1_clearestOf := goodIn_r _ [32, 1, 18, 11, 12, 13, 33, 34] (by decide +kernel) (by decide +kernel)
set_option maxRecDepth 20000 in
theorem gX1_clearestAfter_X1_clearestOf : GoodIn wsX1_clearestAfter (wsV RX1 31 RX1 yX1_clearestOf wsX1_clearestOf) := goodIn_app (goodIn_of _ (by decide +kernel)) ggX1_clearestAfter_X1_clearestOf
theorem dX1_clearestAfter_0 : decode cX1_clearestAfter 0 = .ok (.iload 4, 2) := by decide +kernel
theorem dX1_clearestAfter_2 : decode cX1_clearestAfter 2 = .ok (.istore 5, 2) := by decide +kernel
theorem dX1_clearestAfter_4 : decode cX1_clearestAfter 4 = .ok (.aload_n 0, 1) := by decide +kernel
theorem dX1_clearestAfter_5 : decode cX1_clearestAfter 5 = .ok (.getfield 11, 3) := by decide +kernel
theorem dX1_clearestAfter_8 : decode cX1_clearestAfter 8 = .ok (.iload 5, 2) := by decide +kernel
theorem dX1_clearestAfter_10 : decode cX1_clearestAfter 10 = .ok (.iload 4, 2) := by decide +kernel
theorem dX1_clearestAfter_12 : decode cX1_clearestAfter 12 = .ok (.invokestatic 19, 3) := by decide +kernel
theorem dX1_clearestAfter_15 : decode cX1_clearestAfter 15 = .ok (.aload_n 0, 1) := by decide +kernel
theorem dX1_clearestAfter_16 : decode cX1_clearestAfter 16 = .ok (.getfield 11, 3) := by decide +kernel
theorem dX1_clearestAfter_19 : decode cX1_clearestAfter 19 = .ok (.iload_n 2, 1) := by decide +kernel
theorem dX1_clearestAfter_20 : decode cX1_clearestAfter 20 = .ok (.aaload, 1) := by decide +kernel
theorem dX1_clearestAfter_21 : decode cX1_clearestAfter 21 = .ok (.iload 4, 2) := by decide +kernel
theorem dX1_clearestAfter_23 : decode cX1_clearestAfter 23 = .ok (.iload_n 3, 1) := by decide +kernel
theorem dX1_clearestAfter_24 : decode cX1_clearestAfter 24 = .ok (.iastore, 1) := by decide +kernel
theorem dX1_clearestAfter_25 : decode cX1_clearestAfter 25 = .ok (.iconst 0, 1) := by decide +kernel
theorem dX1_clearestAfter_26 : decode cX1_clearestAfter 26 = .ok (.istore 6, 2) := by decide +kernel
theorem dX1_clearestAfter_28 : decode cX1_clearestAfter 28 = .ok (.iload 6, 2) := by decide +kernel
theorem dX1_clearestAfter_30 : decode cX1_clearestAfter 30 = .ok (.iload_n 1, 1) := by decide +kernel
theorem dX1_clearestAfter_31 : decode cX1_clearestAfter 31 = .ok (.if_icmp .ge 61, 3) := by decide +kernel
theorem dX1_clearestAfter_34 : decode cX1_clearestAfter 34 = .ok (.iload 5, 2) := by decide +kernel
theorem dX1_clearestAfter_36 : decode cX1_clearestAfter 36 = .ok (.bipush 9, 2) := by decide +kernel
theorem dX1_clearestAfter_38 : decode cX1_clearestAfter 38 = .ok (.invokestatic 23, 3) := by decide +kernel
theorem dX1_clearestAfter_41 : decode cX1_clearestAfter 41 = .ok (.istore 7, 2) := by decide +kernel
theorem dX1_clearestAfter_43 : decode cX1_clearestAfter 43 = .ok (.aload_n 0, 1) := by decide +kernel
theorem dX1_clearestAfter_44 : decode cX1_clearestAfter 44 = .ok (.getfield 16, 3) := by decide +kernel
theorem dX1_clearestAfter_47 : decode cX1_clearestAfter 47 = .ok (.iload 7, 2) := by decide +kernel
theorem dX1_clearestAfter_49 : decode cX1_clearestAfter 49 = .ok (.iload 4, 2) := by decide +kernel
theorem dX1_clearestAfter_51 : decode cX1_clearestAfter 51 = .ok (.invokestatic 19, 3) := by decide +kernel
theorem dX1_clearestAfter_54 : decode cX1_clearestAfter 54 = .ok (.aload_n 0, 1) := by decide +kernel
theorem dX1_clearestAfter_55 : decode cX1_clearestAfter 55 = .ok (.iload 5, 2) := by decide +kernel
theorem dX1_clearestAfter_57 : decode cX1_clearestAfter 57 = .ok (.iload 4, 2) := by decide +kernel
theorem dX1_clearestAfter_59 : decode cX1_clearestAfter 59 = .ok (.invokevirtual 27, 3) := by decide +kernel
theorem dX1_clearestAfter_62 : decode cX1_clearestAfter 62 = .ok (.aload_n 0, 1) := by decide +kernel
theorem dX1_clearestAfter_63 : decode cX1_clearestAfter 63 = .ok (.getfield 11, 3) := by decide +kernel
theorem dX1_clearestAfter_66 : decode cX1_clearestAfter 66 = .ok (.astore 8, 2) := by decide +kernel
theorem dX1_clearestAfter_68 : decode cX1_clearestAfter 68 = .ok (.aload_n 0, 1) := by decide +kernel
theorem dX1_clearestAfter_69 : decode cX1_clearestAfter 69 = .ok (.aload_n 0, 1) := by decide +kernel
theorem dX1_clearestAfter_70 : decode cX1_clearestAfter 70 = .ok (.getfield 16, 3) := by decide +kernel
theorem dX1_clearestAfter_73 : decode cX1_clearestAfter 73 = .ok (.putfield 11, 3) := by decide +kernel
theorem dX1_clearestAfter_76 : decode cX1_clearestAfter 76 = .ok (.aload_n 0, 1) := by decide +kernel
theorem dX1_clearestAfter_77 : decode cX1_clearestAfter 77 = .ok (.aload 8, 2) := by decide +kernel
theorem dX1_clearestAfter_79 : decode cX1_clearestAfter 79 = .ok (.putfield 16, 3) := by decide +kernel
theorem dX1_clearestAfter_82 : decode cX1_clearestAfter 82 = .ok (.iload 7, 2) := by decide +kernel
theorem dX1_clearestAfter_84 : decode cX1_clearestAfter 84 = .ok (.istore 5, 2) := by decide +kernel
theorem dX1_clearestAfter_86 : decode cX1_clearestAfter 86 = .ok (.iinc 6 1, 3) := by decide +kernel
theorem dX1_clearestAfter_89 : decode cX1_clearestAfter 89 = .ok (.goto (-61), 3) := by decide +kernel
theorem dX1_clearestAfter_92 : decode cX1_clearestAfter 92 = .ok (.aload_n 0, 1) := by decide +kernel
theorem dX1_clearestAfter_93 : decode cX1_clearestAfter 93 = .ok (.iload 5, 2) := by decide +kernel
theorem dX1_clearestAfter_95 : decode cX1_clearestAfter 95 = .ok (.iload 4, 2) := by decide +kernel
theorem dX1_clearestAfter_97 : decode cX1_clearestAfter 97 = .ok (.invokevirtual 31, 3) := by decide +kernel
theorem dX1_clearestAfter_100 : decode cX1_clearestAfter 100 = .ok (.ireturn, 1) := by decide +kernel
set_option maxRecDepth 20000 in
theorem ggX1_stepOn_X3_copiedDepth : GoodIn wsX1_stepOn wsX3_copiedDepth := goodIn_r _ [9, 10, 4, 5, 6, 11, 12, 13] (by decide +kernel) (by decide +kernel)
set_option maxRecDepth 20000 in
theorem gX1_stepOn_X3_copiedDepth_n34 : GoodIn wsX1_stepOn (wsX3_copiedDepth) := ggX1_stepOn_X3_copiedDepth
set_option maxRecDepth 20000 in
theorem ggX1_stepOn_X3_sharpnessAfter : GoodIn wsX1_stepOn wsX3_sharpnessAfter := goodIn_r _ [15, 10, 4, 5, 6] (by decide +kernel) (by decide +kernel)
set_option maxRecDepth 20000 in
theorem gX1_stepOn_X3_sharpnessAfter_n23 : GoodIn wsX1_stepOn (wsX3_sharpnessAfter) := ggX1_stepOn_X3_sharpnessAfter
set_option maxRecDepth 20000 in
theorem ggX1_stepOn_X3_copiedClearness : GoodIn wsX1_stepOn wsX3_copiedClearness := goodIn_r _ [17, 10, 4, 5, 6, 18, 19, 8, 20] (by decide +kernel) (by decide +kernel)
set_option maxRecDepth 20000 in
theorem gX1_stepOn_X3_copiedClearness_n37 : GoodIn wsX1_stepOn (wsX3_copiedClearness) := ggX1_stepOn_X3_copiedClearness
theorem dX1_stepOn_0 : decode cX1_stepOn 0 = .ok (.iconst 1, 1) := by decide +kernel
theorem dX1_stepOn_1 : decode cX1_stepOn 1 = .ok (.istore_n 3, 1) := by decide +kernel
theorem dX1_stepOn_2 : decode cX1_stepOn 2 = .ok (.iload_n 3, 1) := by decide +kernel
theorem dX1_stepOn_3 : decode cX1_stepOn 3 = .ok (.bipush 9, 2) := by decide +kernel
theorem dX1_stepOn_5 : decode cX1_stepOn 5 = .ok (.if_icmp .gt 110, 3) := by decide +kernel
theorem dX1_stepOn_8 : decode cX1_stepOn 8 = .ok (.iload_n 1, 1) := by decide +kernel
theorem dX1_stepOn_9 : decode cX1_stepOn 9 = .ok (.istore 4, 2) := by decide +kernel
theorem dX1_stepOn_11 : decode cX1_stepOn 11 = .ok (.iload 4, 2) := by decide +kernel
theorem dX1_stepOn_13 : decode cX1_stepOn 13 = .ok (.iload_n 2, 1) := by decide +kernel
theorem dX1_stepOn_14 : decode cX1_stepOn 14 = .ok (.if_icmp .gt 95, 3) := by decide +kernel
theorem dX1_stepOn_17 : decode cX1_stepOn 17 = .ok (.aload_n 0, 1) := by decide +kernel
theorem dX1_stepOn_18 : decode cX1_stepOn 18 = .ok (.getfield 11, 3) := by decide +kernel
theorem dX1_stepOn_21 : decode cX1_stepOn 21 = .ok (.iload_n 3, 1) := by decide +kernel
theorem dX1_stepOn_22 : decode cX1_stepOn 22 = .ok (.aaload, 1) := by decide +kernel
theorem dX1_stepOn_23 : decode cX1_stepOn 23 = .ok (.iload 4, 2) := by decide +kernel
theorem dX1_stepOn_25 : decode cX1_stepOn 25 = .ok (.iaload, 1) := by decide +kernel
theorem dX1_stepOn_26 : decode cX1_stepOn 26 = .ok (.istore 5, 2) := by decide +kernel
theorem dX1_stepOn_28 : decode cX1_stepOn 28 = .ok (.iconst 1, 1) := by decide +kernel
theorem dX1_stepOn_29 : decode cX1_stepOn 29 = .ok (.istore 6, 2) := by decide +kernel
theorem dX1_stepOn_31 : decode cX1_stepOn 31 = .ok (.iload 6, 2) := by decide +kernel
theorem dX1_stepOn_33 : decode cX1_stepOn 33 = .ok (.iconst 3, 1) := by decide +kernel
theorem dX1_stepOn_34 : decode cX1_stepOn 34 = .ok (.if_icmp .gt 69, 3) := by decide +kernel
theorem dX1_stepOn_37 : decode cX1_stepOn 37 = .ok (.iload 5, 2) := by decide +kernel
theorem dX1_stepOn_39 : decode cX1_stepOn 39 = .ok (.iconst (-1), 1) := by decide +kernel
theorem dX1_stepOn_40 : decode cX1_stepOn 40 = .ok (.if_icmp .eq 63, 3) := by decide +kernel
theorem dX1_stepOn_43 : decode cX1_stepOn 43 = .ok (.iload_n 3, 1) := by decide +kernel
theorem dX1_stepOn_44 : decode cX1_stepOn 44 = .ok (.iload 6, 2) := by decide +kernel
theorem dX1_stepOn_46 : decode cX1_stepOn 46 = .ok (.invokestatic 34, 3) := by decide +kernel
theorem dX1_stepOn_49 : decode cX1_stepOn 49 = .ok (.istore 7, 2) := by decide +kernel
theorem dX1_stepOn_51 : decode cX1_stepOn 51 = .ok (.iload 4, 2) := by decide +kernel
theorem dX1_stepOn_53 : decode cX1_stepOn 53 = .ok (.iload 7, 2) := by decide +kernel
theorem dX1_stepOn_55 : decode cX1_stepOn 55 = .ok (.invokestatic 23, 3) := by decide +kernel
theorem dX1_stepOn_58 : decode cX1_stepOn 58 = .ok (.istore 8, 2) := by decide +kernel
theorem dX1_stepOn_60 : decode cX1_stepOn 60 = .ok (.iload 5, 2) := by decide +kernel
theorem dX1_stepOn_62 : decode cX1_stepOn 62 = .ok (.iload 6, 2) := by decide +kernel
theorem dX1_stepOn_64 : decode cX1_stepOn 64 = .ok (.iload 4, 2) := by decide +kernel
theorem dX1_stepOn_66 : decode cX1_stepOn 66 = .ok (.iconst 0, 1) := by decide +kernel
theorem dX1_stepOn_67 : decode cX1_stepOn 67 = .ok (.invokestatic 37, 3) := by decide +kernel
theorem dX1_stepOn_70 : decode cX1_stepOn 70 = .ok (.istore 9, 2) := by decide +kernel
theorem dX1_stepOn_72 : decode cX1_stepOn 72 = .ok (.aload_n 0, 1) := by decide +kernel
theorem dX1_stepOn_73 : decode cX1_stepOn 73 = .ok (.getfield 16, 3) := by decide +kernel
theorem dX1_stepOn_76 : decode cX1_stepOn 76 = .ok (.iload 7, 2) := by decide +kernel
theorem dX1_stepOn_78 : decode cX1_stepOn 78 = .ok (.aaload, 1) := by decide +kernel
theorem dX1_stepOn_79 : decode cX1_stepOn 79 = .ok (.iload 8, 2) := by decide +kernel
theorem dX1_stepOn_81 : decode cX1_stepOn 81 = .ok (.aload_n 0, 1) := by decide +kernel
theorem dX1_stepOn_82 : decode cX1_stepOn 82 = .ok (.getfield 16, 3) := by decide +kernel
theorem dX1_stepOn_85 : decode cX1_stepOn 85 = .ok (.iload 7, 2) := by decide +kernel
theorem dX1_stepOn_87 : decode cX1_stepOn 87 = .ok (.aaload, 1) := by decide +kernel
theorem dX1_stepOn_88 : decode cX1_stepOn 88 = .ok (.iload 8, 2) := by decide +kernel
theorem dX1_stepOn_90 : decode cX1_stepOn 90 = .ok (.iaload, 1) := by decide +kernel
theorem dX1_stepOn_91 : decode cX1_stepOn 91 = .ok (.iload 9, 2) := by decide +kernel
theorem dX1_stepOn_93 : decode cX1_stepOn 93 = .ok (.invokestatic 41, 3) := by decide +kernel
theorem dX1_stepOn_96 : decode cX1_stepOn 96 = .ok (.iastore, 1) := by decide +kernel
theorem dX1_stepOn_97 : decode cX1_stepOn 97 = .ok (.iinc 6 1, 3) := by decide +kernel
theorem dX1_stepOn_100 : decode cX1_stepOn 100 = .ok (.goto (-69), 3) := by decide +kernel
theorem dX1_stepOn_103 : decode cX1_stepOn 103 = .ok (.iinc 4 1, 3) := by decide +kernel
theorem dX1_stepOn_106 : decode cX1_stepOn 106 = .ok (.goto (-95), 3) := by decide +kernel
theorem dX1_stepOn_109 : decode cX1_stepOn 109 = .ok (.iinc 3 1, 3) := by decide +kernel
theorem dX1_stepOn_112 : decode cX1_stepOn 112 = .ok (.goto (-110), 3) := by decide +kernel
theorem dX1_stepOn_115 : decode cX1_stepOn 115 = .ok (.return_, 1) := by decide +kernel
theorem dX1_clearestOf_0 : decode cX1_clearestOf 0 = .ok (.iconst (-1), 1) := by decide +kernel
theorem dX1_clearestOf_1 : decode cX1_clearestOf 1 = .ok (.istore_n 3, 1) := by decide +kernel
theorem dX1_clearestOf_2 : decode cX1_clearestOf 2 = .ok (.iconst 1, 1) := by decide +kernel
theorem dX1_clearestOf_3 : decode cX1_clearestOf 3 = .ok (.istore 4, 2) := by decide +kernel
theorem dX1_clearestOf_5 : decode cX1_clearestOf 5 = .ok (.iload 4, 2) := by decide +kernel
theorem dX1_clearestOf_7 : decode cX1_clearestOf 7 = .ok (.bipush 9, 2) := by decide +kernel
theorem dX1_clearestOf_9 : decode cX1_clearestOf 9 = .ok (.if_icmp .gt 39, 3) := by decide +kernel
theorem dX1_clearestOf_12 : decode cX1_clearestOf 12 = .ok (.iload_n 1, 1) := by decide +kernel
theorem dX1_clearestOf_13 : decode cX1_clearestOf 13 = .ok (.istore 5, 2) := by decide +kernel
theorem dX1_clearestOf_15 : decode cX1_clearestOf 15 = .ok (.iload 5, 2) := by decide +kernel
theorem dX1_clearestOf_17 : decode cX1_clearestOf 17 = .ok (.iload_n 2, 1) := by decide +kernel
theorem dX1_clearestOf_18 : decode cX1_clearestOf 18 = .ok (.if_icmp .gt 24, 3) := by decide +kernel
theorem dX1_clearestOf_21 : decode cX1_clearestOf 21 = .ok (.iload_n 3, 1) := by decide +kernel
theorem dX1_clearestOf_22 : decode cX1_clearestOf 22 = .ok (.aload_n 0, 1) := by decide +kernel
theorem dX1_clearestOf_23 : decode cX1_clearestOf 23 = .ok (.getfield 11, 3) := by decide +kernel
theorem dX1_clearestOf_26 : decode cX1_clearestOf 26 = .ok (.iload 4, 2) := by decide +kernel
theorem dX1_clearestOf_28 : decode cX1_clearestOf 28 = .ok (.aaload, 1) := by decide +kernel
theorem dX1_clearestOf_29 : decode cX1_clearestOf 29 = .ok (.iload 5, 2) := by decide +kernel
theorem dX1_clearestOf_31 : decode cX1_clearestOf 31 = .ok (.iaload, 1) := by decide +kernel
theorem dX1_clearestOf_32 : decode cX1_clearestOf 32 = .ok (.invokestatic 41, 3) := by decide +kernel
theorem dX1_clearestOf_35 : decode cX1_clearestOf 35 = .ok (.istore_n 3, 1) := by decide +kernel
theorem dX1_clearestOf_36 : decode cX1_clearestOf 36 = .ok (.iinc 5 1, 3) := by decide +kernel
theorem dX1_clearestOf_39 : decode cX1_clearestOf 39 = .ok (.goto (-24), 3) := by decide +kernel
theorem dX1_clearestOf_42 : decode cX1_clearestOf 42 = .ok (.iinc 4 1, 3) := by decide +kernel
theorem dX1_clearestOf_45 : decode cX1_clearestOf 45 = .ok (.goto (-40), 3) := by decide +kernel
theorem dX1_clearestOf_48 : decode cX1_clearestOf 48 = .ok (.iload_n 3, 1) := by decide +kernel
theorem dX1_clearestOf_49 : decode cX1_clearestOf 49 = .ok (.ireturn, 1) := by decide +kernel
theorem dX1_forget_0 : decode cX1_forget 0 = .ok (.iconst 1, 1) := by decide +kernel
theorem dX1_forget_1 : decode cX1_forget 1 = .ok (.istore_n 3, 1) := by decide +kernel
theorem dX1_forget_2 : decode cX1_forget 2 = .ok (.iload_n 3, 1) := by decide +kernel
theorem dX1_forget_3 : decode cX1_forget 3 = .ok (.bipush 9, 2) := by decide +kernel
theorem dX1_forget_5 : decode cX1_forget 5 = .ok (.if_icmp .gt 31, 3) := by decide +kernel
theorem dX1_forget_8 : decode cX1_forget 8 = .ok (.iload_n 1, 1) := by decide +kernel
theorem dX1_forget_9 : decode cX1_forget 9 = .ok (.istore 4, 2) := by decide +kernel
theorem dX1_forget_11 : decode cX1_forget 11 = .ok (.iload 4, 2) := by decide +kernel
theorem dX1_forget_13 : decode cX1_forget 13 = .ok (.iload_n 2, 1) := by decide +kernel
theorem dX1_forget_14 : decode cX1_forget 14 = .ok (.if_icmp .gt 16, 3) := by decide +kernel
theorem dX1_forget_17 : decode cX1_forget 17 = .ok (.aload_n 0, 1) := by decide +kernel
theorem dX1_forget_18 : decode cX1_forget 18 = .ok (.iload_n 3, 1) := by decide +kernel
theorem dX1_forget_19 : decode cX1_forget 19 = .ok (.aaload, 1) := by decide +kernel
theorem dX1_forget_20 : decode cX1_forget 20 = .ok (.iload 4, 2) := by decide +kernel
theorem dX1_forget_22 : decode cX1_forget 22 = .ok (.iconst (-1), 1) := by decide +kernel
theorem dX1_forget_23 : decode cX1_forget 23 = .ok (.iastore, 1) := by decide +kernel
theorem dX1_forget_24 : decode cX1_forget 24 = .ok (.iinc 4 1, 3) := by decide +kernel
theorem dX1_forget_27 : decode cX1_forget 27 = .ok (.goto (-16), 3) := by decide +kernel
theorem dX1_forget_30 : decode cX1_forget 30 = .ok (.iinc 3 1, 3) := by decide +kernel
theorem dX1_forget_33 : decode cX1_forget 33 = .ok (.goto (-31), 3) := by decide +kernel
theorem dX1_forget_36 : decode cX1_forget 36 = .ok (.return_, 1) := by decide +kernel
end
section
theorem dX2_init_0 : decode cX2_init 0 = .ok (.aload_n 0, 1) := by decide +kernel
theorem dX2_init_1 : decode cX2_init 1 = .ok (.invokespecial 3, 3) := by decide +kernel
theorem dX2_init_4 : decode cX2_init 4 = .ok (.aload_n 0, 1) := by decide +kernel
theorem dX2_init_5 : decode cX2_init 5 = .ok (.bipush 24, 2) := by decide +kernel
theorem dX2_init_7 : decode cX2_init 7 = .ok (.newarray .int, 2) := by decide +kernel
theorem dX2_init_9 : decode cX2_init 9 = .ok (.putfield 9, 3) := by decide +kernel
theorem dX2_init_12 : decode cX2_init 12 = .ok (.aload_n 0, 1) := by decide +kernel
theorem dX2_init_13 : decode cX2_init 13 = .ok (.bipush 24, 2) := by decide +kernel
theorem dX2_init_15 : decode cX2_init 15 = .ok (.newarray .int, 2) := by decide +kernel
theorem dX2_init_17 : decode cX2_init 17 = .ok (.putfield 15, 3) := by decide +kernel
theorem dX2_init_20 : decode cX2_init 20 = .ok (.aload_n 0, 1) := by decide +kernel
theorem dX2_init_21 : decode cX2_init 21 = .ok (.bipush 24, 2) := by decide +kernel
theorem dX2_init_23 : decode cX2_init 23 = .ok (.newarray .int, 2) := by decide +kernel
theorem dX2_init_25 : decode cX2_init 25 = .ok (.putfield 18, 3) := by decide +kernel
theorem dX2_init_28 : decode cX2_init 28 = .ok (.aload_n 0, 1) := by decide +kernel
theorem dX2_init_29 : decode cX2_init 29 = .ok (.bipush 24, 2) := by decide +kernel
theorem dX2_init_31 : decode cX2_init 31 = .ok (.newarray .int, 2) := by decide +kernel
theorem dX2_init_33 : decode cX2_init 33 = .ok (.putfield 21, 3) := by decide +kernel
theorem dX2_init_36 : decode cX2_init 36 = .ok (.aload_n 0, 1) := by decide +kernel
theorem dX2_init_37 : decode cX2_init 37 = .ok (.bipush 24, 2) := by decide +kernel
theorem dX2_init_39 : decode cX2_init 39 = .ok (.newarray .int, 2) := by decide +kernel
theorem dX2_init_41 : decode cX2_init 41 = .ok (.putfield 24, 3) := by decide +kernel
theorem dX2_init_44 : decode cX2_init 44 = .ok (.aload_n 0, 1) := by decide +kernel
theorem dX2_init_45 : decode cX2_init 45 = .ok (.bipush 24, 2) := by decide +kernel
theorem dX2_init_47 : decode cX2_init 47 = .ok (.newarray .int, 2) := by decide +kernel
theorem dX2_init_49 : decode cX2_init 49 = .ok (.putfield 27, 3) := by decide +kernel
theorem dX2_init_52 : decode cX2_init 52 = .ok (.aload_n 0, 1) := by decide +kernel
theorem dX2_init_53 : decode cX2_init 53 = .ok (.bipush 24, 2) := by decide +kernel
theorem dX2_init_55 : decode cX2_init 55 = .ok (.newarray .int, 2) := by decide +kernel
theorem dX2_init_57 : decode cX2_init 57 = .ok (.putfield 30, 3) := by decide +kernel
theorem dX2_init_60 : decode cX2_init 60 = .ok (.aload_n 0, 1) := by decide +kernel
theorem dX2_init_61 : decode cX2_init 61 = .ok (.bipush 6, 2) := by decide +kernel
theorem dX2_init_63 : decode cX2_init 63 = .ok (.newarray .int, 2) := by decide +kernel
theorem dX2_init_65 : decode cX2_init 65 = .ok (.putfield 33, 3) := by decide +kernel
theorem dX2_init_68 : decode cX2_init 68 = .ok (.aload_n 0, 1) := by decide +kernel
theorem dX2_init_69 : decode cX2_init 69 = .ok (.bipush 6, 2) := by decide +kernel
theorem dX2_init_71 : decode cX2_init 71 = .ok (.newarray .int, 2) := by decide +kernel
theorem dX2_init_73 : decode cX2_init 73 = .ok (.putfield 36, 3) := by decide +kernel
theorem dX2_init_76 : decode cX2_init 76 = .ok (.aload_n 0, 1) := by decide +kernel
theorem dX2_init_77 : decode cX2_init 77 = .ok (.bipush 100, 2) := by decide +kernel
theorem dX2_init_79 : decode cX2_init 79 = .ok (.putfield 39, 3) := by decide +kernel
theorem dX2_init_82 : decode cX2_init 82 = .ok (.aload_n 0, 1) := by decide +kernel
theorem dX2_init_83 : decode cX2_init 83 = .ok (.bipush 100, 2) := by decide +kernel
theorem dX2_init_85 : decode cX2_init 85 = .ok (.putfield 43, 3) := by decide +kernel
theorem dX2_init_88 : decode cX2_init 88 = .ok (.aload_n 0, 1) := by decide +kernel
theorem dX2_init_89 : decode cX2_init 89 = .ok (.iconst 3, 1) := by decide +kernel
theorem dX2_init_90 : decode cX2_init 90 = .ok (.putfield 46, 3) := by decide +kernel
theorem dX2_init_93 : decode cX2_init 93 = .ok (.aload_n 0, 1) := by decide +kernel
theorem dX2_init_94 : decode cX2_init 94 = .ok (.iconst 0, 1) := by decide +kernel
theorem dX2_init_95 : decode cX2_init 95 = .ok (.putfield 49, 3) := by decide +kernel
theorem dX2_init_98 : decode cX2_init 98 = .ok (.aload_n 0, 1) := by decide +kernel
theorem dX2_init_99 : decode cX2_init 99 = .ok (.iconst 0, 1) := by decide +kernel
theorem dX2_init_100 : decode cX2_init 100 = .ok (.putfield 52, 3) := by decide +kernel
theorem dX2_init_103 : decode cX2_init 103 = .ok (.aload_n 0, 1) := by decide +kernel
theorem dX2_init_104 : decode cX2_init 104 = .ok (.iconst 0, 1) := by decide +kernel
theorem dX2_init_105 : decode cX2_init 105 = .ok (.putfield 55, 3) := by decide +kernel
theorem dX2_init_108 : decode cX2_init 108 = .ok (.aload_n 0, 1) := by decide +kernel
theorem dX2_init_109 : decode cX2_init 109 = .ok (.iconst 0, 1) := by decide +kernel
theorem dX2_init_110 : decode cX2_init 110 = .ok (.putfield 58, 3) := by decide +kernel
theorem dX2_init_113 : decode cX2_init 113 = .ok (.aload_n 0, 1) := by decide +kernel
theorem dX2_init_114 : decode cX2_init 114 = .ok (.sipush 360, 3) := by decide +kernel
theorem dX2_init_117 : decode cX2_init 117 = .ok (.putfield 61, 3) := by decide +kernel
theorem dX2_init_120 : decode cX2_init 120 = .ok (.aload_n 0, 1) := by decide +kernel
theorem dX2_init_121 : decode cX2_init 121 = .ok (.iconst 0, 1) := by decide +kernel
theorem dX2_init_122 : decode cX2_init 122 = .ok (.putfield 64, 3) := by decide +kernel
theorem dX2_init_125 : decode cX2_init 125 = .ok (.aload_n 0, 1) := by decide +kernel
theorem dX2_init_126 : decode cX2_init 126 = .ok (.iconst 0, 1) := by decide +kernel
theorem dX2_init_127 : decode cX2_init 127 = .ok (.putfield 67, 3) := by decide +kernel
theorem dX2_init_130 : decode cX2_init 130 = .ok (.iconst 0, 1) := by decide +kernel
theorem dX2_init_131 : decode cX2_init 131 = .ok (.istore_n 1, 1) := by decide +kernel
theorem dX2_init_132 : decode cX2_init 132 = .ok (.iload_n 1, 1) := by decide +kernel
theorem dX2_init_133 : decode cX2_init 133 = .ok (.bipush 6, 2) := by decide +kernel
theorem dX2_init_135 : decode cX2_init 135 = .ok (.if_icmp .ge 17, 3) := by decide +kernel
theorem dX2_init_138 : decode cX2_init 138 = .ok (.aload_n 0, 1) := by decide +kernel
theorem dX2_init_139 : decode cX2_init 139 = .ok (.getfield 33, 3) := by decide +kernel
theorem dX2_init_142 : decode cX2_init 142 = .ok (.iload_n 1, 1) := by decide +kernel
theorem dX2_init_143 : decode cX2_init 143 = .ok (.bipush 60, 2) := by decide +kernel
theorem dX2_init_145 : decode cX2_init 145 = .ok (.iastore, 1) := by decide +kernel
theorem dX2_init_146 : decode cX2_init 146 = .ok (.iinc 1 1, 3) := by decide +kernel
theorem dX2_init_149 : decode cX2_init 149 = .ok (.goto (-17), 3) := by decide +kernel
theorem dX2_init_152 : decode cX2_init 152 = .ok (.iconst 0, 1) := by decide +kernel
theorem dX2_init_153 : decode cX2_init 153 = .ok (.istore_n 1, 1) := by decide +kernel
theorem dX2_init_154 : decode cX2_init 154 = .ok (.iload_n 1, 1) := by decide +kernel
theorem dX2_init_155 : decode cX2_init 155 = .ok (.bipush 24, 2) := by decide +kernel
theorem dX2_init_157 : decode cX2_init 157 = .ok (.if_icmp .ge 16, 3) := by decide +kernel
theorem dX2_init_160 : decode cX2_init 160 = .ok (.aload_n 0, 1) := by decide +kernel
theorem dX2_init_161 : decode cX2_init 161 = .ok (.getfield 24, 3) := by decide +kernel
theorem dX2_init_164 : decode cX2_init 164 = .ok (.iload_n 1, 1) := by decide +kernel
theorem dX2_init_165 : decode cX2_init 165 = .ok (.iconst (-1), 1) := by decide +kernel
theorem dX2_init_166 : decode cX2_init 166 = .ok (.iastore, 1) := by decide +kernel
theorem dX2_init_167 : decode cX2_init 167 = .ok (.iinc 1 1, 3) := by decide +kernel
theorem dX2_init_170 : decode cX2_init 170 = .ok (.goto (-16), 3) := by decide +kernel
theorem dX2_init_173 : decode cX2_init 173 = .ok (.return_, 1) := by decide +kernel
theorem dX2_takeOver_0 : decode cX2_takeOver 0 = .ok (.aload_n 1, 1) := by decide +kernel
theorem dX2_takeOver_1 : decode cX2_takeOver 1 = .ok (.getfield 9, 3) := by decide +kernel
theorem dX2_takeOver_4 : decode cX2_takeOver 4 = .ok (.iconst 0, 1) := by decide +kernel
theorem dX2_takeOver_5 : decode cX2_takeOver 5 = .ok (.aload_n 0, 1) := by decide +kernel
theorem dX2_takeOver_6 : decode cX2_takeOver 6 = .ok (.getfield 9, 3) := by decide +kernel
theorem dX2_takeOver_9 : decode cX2_takeOver 9 = .ok (.iconst 0, 1) := by decide +kernel
theorem dX2_takeOver_10 : decode cX2_takeOver 10 = .ok (.bipush 24, 2) := by decide +kernel
theorem dX2_takeOver_12 : decode cX2_takeOver 12 = .ok (.invokestatic 70, 3) := by decide +kernel
theorem dX2_takeOver_15 : decode cX2_takeOver 15 = .ok (.aload_n 1, 1) := by decide +kernel
theorem dX2_takeOver_16 : decode cX2_takeOver 16 = .ok (.getfield 15, 3) := by decide +kernel
theorem dX2_takeOver_19 : decode cX2_takeOver 19 = .ok (.iconst 0, 1) := by decide +kernel
theorem dX2_takeOver_20 : decode cX2_takeOver 20 = .ok (.aload_n 0, 1) := by decide +kernel
theorem dX2_takeOver_21 : decode cX2_takeOver 21 = .ok (.getfield 15, 3) := by decide +kernel
theorem dX2_takeOver_24 : decode cX2_takeOver 24 = .ok (.iconst 0, 1) := by decide +kernel
theorem dX2_takeOver_25 : decode cX2_takeOver 25 = .ok (.bipush 24, 2) := by decide +kernel
theorem dX2_takeOver_27 : decode cX2_takeOver 27 = .ok (.invokestatic 70, 3) := by decide +kernel
theorem dX2_takeOver_30 : decode cX2_takeOver 30 = .ok (.aload_n 1, 1) := by decide +kernel
theorem dX2_takeOver_31 : decode cX2_takeOver 31 = .ok (.getfield 18, 3) := by decide +kernel
theorem dX2_takeOver_34 : decode cX2_takeOver 34 = .ok (.iconst 0, 1) := by decide +kernel
theorem dX2_takeOver_35 : decode cX2_takeOver 35 = .ok (.aload_n 0, 1) := by decide +kernel
theorem dX2_takeOver_36 : decode cX2_takeOver 36 = .ok (.getfield 18, 3) := by decide +kernel
theorem dX2_takeOver_39 : decode cX2_takeOver 39 = .ok (.iconst 0, 1) := by decide +kernel
theorem dX2_takeOver_40 : decode cX2_takeOver 40 = .ok (.bipush 24, 2) := by decide +kernel
theorem dX2_takeOver_42 : decode cX2_takeOver 42 = .ok (.invokestatic 70, 3) := by decide +kernel
theorem dX2_takeOver_45 : decode cX2_takeOver 45 = .ok (.aload_n 1, 1) := by decide +kernel
theorem dX2_takeOver_46 : decode cX2_takeOver 46 = .ok (.getfield 21, 3) := by decide +kernel
theorem dX2_takeOver_49 : decode cX2_takeOver 49 = .ok (.iconst 0, 1) := by decide +kernel
theorem dX2_takeOver_50 : decode cX2_takeOver 50 = .ok (.aload_n 0, 1) := by decide +kernel
theorem dX2_takeOver_51 : decode cX2_takeOver 51 = .ok (.getfield 21, 3) := by decide +kernel
theorem dX2_takeOver_54 : decode cX2_takeOver 54 = .ok (.iconst 0, 1) := by decide +kernel
theorem dX2_takeOver_55 : decode cX2_takeOver 55 = .ok (.bipush 24, 2) := by decide +kernel
theorem dX2_takeOver_57 : decode cX2_takeOver 57 = .ok (.invokestatic 70, 3) := by decide +kernel
theorem dX2_takeOver_60 : decode cX2_takeOver 60 = .ok (.aload_n 1, 1) := by decide +kernel
theorem dX2_takeOver_61 : decode cX2_takeOver 61 = .ok (.getfield 24, 3) := by decide +kernel
theorem dX2_takeOver_64 : decode cX2_takeOver 64 = .ok (.iconst 0, 1) := by decide +kernel
theorem dX2_takeOver_65 : decode cX2_takeOver 65 = .ok (.aload_n 0, 1) := by decide +kernel
theorem dX2_takeOver_66 : decode cX2_takeOver 66 = .ok (.getfield 24, 3) := by decide +kernel
theorem dX2_takeOver_69 : decode cX2_takeOver 69 = .ok (.iconst 0, 1) := by decide +kernel
theorem dX2_takeOver_70 : decode cX2_takeOver 70 = .ok (.bipush 24, 2) := by decide +kernel
theorem dX2_takeOver_72 : decode cX2_takeOver 72 = .ok (.invokestatic 70, 3) := by decide +kernel
theorem dX2_takeOver_75 : decode cX2_takeOver 75 = .ok (.aload_n 1, 1) := by decide +kernel
theorem dX2_takeOver_76 : decode cX2_takeOver 76 = .ok (.getfield 27, 3) := by decide +kernel
theorem dX2_takeOver_79 : decode cX2_takeOver 79 = .ok (.iconst 0, 1) := by decide +kernel
theorem dX2_takeOver_80 : decode cX2_takeOver 80 = .ok (.aload_n 0, 1) := by decide +kernel
theorem dX2_takeOver_81 : decode cX2_takeOver 81 = .ok (.getfield 27, 3) := by decide +kernel
theorem dX2_takeOver_84 : decode cX2_takeOver 84 = .ok (.iconst 0, 1) := by decide +kernel
theorem dX2_takeOver_85 : decode cX2_takeOver 85 = .ok (.bipush 24, 2) := by decide +kernel
theorem dX2_takeOver_87 : decode cX2_takeOver 87 = .ok (.invokestatic 70, 3) := by decide +kernel
theorem dX2_takeOver_90 : decode cX2_takeOver 90 = .ok (.aload_n 1, 1) := by decide +kernel
theorem dX2_takeOver_91 : decode cX2_takeOver 91 = .ok (.getfield 30, 3) := by decide +kernel
theorem dX2_takeOver_94 : decode cX2_takeOver 94 = .ok (.iconst 0, 1) := by decide +kernel
theorem dX2_takeOver_95 : decode cX2_takeOver 95 = .ok (.aload_n 0, 1) := by decide +kernel
theorem dX2_takeOver_96 : decode cX2_takeOver 96 = .ok (.getfield 30, 3) := by decide +kernel
theorem dX2_takeOver_99 : decode cX2_takeOver 99 = .ok (.iconst 0, 1) := by decide +kernel
theorem dX2_takeOver_100 : decode cX2_takeOver 100 = .ok (.bipush 24, 2) := by decide +kernel
theorem dX2_takeOver_102 : decode cX2_takeOver 102 = .ok (.invokestatic 70, 3) := by decide +kernel
theorem dX2_takeOver_105 : decode cX2_takeOver 105 = .ok (.aload_n 1, 1) := by decide +kernel
theorem dX2_takeOver_106 : decode cX2_takeOver 106 = .ok (.getfield 33, 3) := by decide +kernel
theorem dX2_takeOver_109 : decode cX2_takeOver 109 = .ok (.iconst 0, 1) := by decide +kernel
theorem dX2_takeOver_110 : decode cX2_takeOver 110 = .ok (.aload_n 0, 1) := by decide +kernel
theorem dX2_takeOver_111 : decode cX2_takeOver 111 = .ok (.getfield 33, 3) := by decide +kernel
theorem dX2_takeOver_114 : decode cX2_takeOver 114 = .ok (.iconst 0, 1) := by decide +kernel
theorem dX2_takeOver_115 : decode cX2_takeOver 115 = .ok (.bipush 6, 2) := by decide +kernel
theorem dX2_takeOver_117 : decode cX2_takeOver 117 = .ok (.invokestatic 70, 3) := by decide +kernel
theorem dX2_takeOver_120 : decode cX2_takeOver 120 = .ok (.aload_n 1, 1) := by decide +kernel
theorem dX2_takeOver_121 : decode cX2_takeOver 121 = .ok (.getfield 36, 3) := by decide +kernel
theorem dX2_takeOver_124 : decode cX2_takeOver 124 = .ok (.iconst 0, 1) := by decide +kernel
theorem dX2_takeOver_125 : decode cX2_takeOver 125 = .ok (.aload_n 0, 1) := by decide +kernel
theorem dX2_takeOver_126 : decode cX2_takeOver 126 = .ok (.getfield 36, 3) := by decide +kernel
theorem dX2_takeOver_129 : decode cX2_takeOver 129 = .ok (.iconst 0, 1) := by decide +kernel
theorem dX2_takeOver_130 : decode cX2_takeOver 130 = .ok (.bipush 6, 2) := by decide +kernel
theorem dX2_takeOver_132 : decode cX2_takeOver 132 = .ok (.invokestatic 70, 3) := by decide +kernel
theorem dX2_takeOver_135 : decode cX2_takeOver 135 = .ok (.aload_n 0, 1) := by decide +kernel
theorem dX2_takeOver_136 : decode cX2_takeOver 136 = .ok (.aload_n 1, 1) := by decide +kernel
theorem dX2_takeOver_137 : decode cX2_takeOver 137 = .ok (.getfield 39, 3) := by decide +kernel
theorem dX2_takeOver_140 : decode cX2_takeOver 140 = .ok (.putfield 39, 3) := by decide +kernel
theorem dX2_takeOver_143 : decode cX2_takeOver 143 = .ok (.aload_n 0, 1) := by decide +kernel
theorem dX2_takeOver_144 : decode cX2_takeOver 144 = .ok (.aload_n 1, 1) := by decide +kernel
theorem dX2_takeOver_145 : decode cX2_takeOver 145 = .ok (.getfield 43, 3) := by decide +kernel
theorem dX2_takeOver_148 : decode cX2_takeOver 148 = .ok (.putfield 43, 3) := by decide +kernel
theorem dX2_takeOver_151 : decode cX2_takeOver 151 = .ok (.aload_n 0, 1) := by decide +kernel
theorem dX2_takeOver_152 : decode cX2_takeOver 152 = .ok (.aload_n 1, 1) := by decide +kernel
theorem dX2_takeOver_153 : decode cX2_takeOver 153 = .ok (.getfield 46, 3) := by decide +kernel
theorem dX2_takeOver_156 : decode cX2_takeOver 156 = .ok (.putfield 46, 3) := by decide +kernel
theorem dX2_takeOver_159 : decode cX2_takeOver 159 = .ok (.aload_n 0, 1) := by decide +kernel
theorem dX2_takeOver_160 : decode cX2_takeOver 160 = .ok (.aload_n 1, 1) := by decide +kernel
theorem dX2_takeOver_161 : decode cX2_takeOver 161 = .ok (.getfield 49, 3) := by decide +kernel
theorem dX2_takeOver_164 : decode cX2_takeOver 164 = .ok (.putfield 49, 3) := by decide +kernel
theorem dX2_takeOver_167 : decode cX2_takeOver 167 = .ok (.aload_n 0, 1) := by decide +kernel
theorem dX2_takeOver_168 : decode cX2_takeOver 168 = .ok (.aload_n 1, 1) := by decide +kernel
theorem dX2_takeOver_169 : decode cX2_takeOver 169 = .ok (.getfield 52, 3) := by decide +kernel
theorem dX2_takeOver_172 : decode cX2_takeOver 172 = .ok (.putfield 52, 3) := by decide +kernel
theorem dX2_takeOver_175 : decode cX2_takeOver 175 = .ok (.aload_n 0, 1) := by decide +kernel
theorem dX2_takeOver_176 : decode cX2_takeOver 176 = .ok (.aload_n 1, 1) := by decide +kernel
theorem dX2_takeOver_177 : decode cX2_takeOver 177 = .ok (.getfield 55, 3) := by decide +kernel
theorem dX2_takeOver_180 : decode cX2_takeOver 180 = .ok (.putfield 55, 3) := by decide +kernel
theorem dX2_takeOver_183 : decode cX2_takeOver 183 = .ok (.aload_n 0, 1) := by decide +kernel
theorem dX2_takeOver_184 : decode cX2_takeOver 184 = .ok (.aload_n 1, 1) := by decide +kernel
theorem dX2_takeOver_185 : decode cX2_takeOver 185 = .ok (.getfield 58, 3) := by decide +kernel
theorem dX2_takeOver_188 : decode cX2_takeOver 188 = .ok (.putfield 58, 3) := by decide +kernel
theorem dX2_takeOver_191 : decode cX2_takeOver 191 = .ok (.aload_n 0, 1) := by decide +kernel
theorem dX2_takeOver_192 : decode cX2_takeOver 192 = .ok (.aload_n 1, 1) := by decide +kernel
theorem dX2_takeOver_193 : decode cX2_takeOver 193 = .ok (.getfield 61, 3) := by decide +kernel
theorem dX2_takeOver_196 : decode cX2_takeOver 196 = .ok (.putfield 61, 3) := by decide +kernel
theorem dX2_takeOver_199 : decode cX2_takeOver 199 = .ok (.aload_n 0, 1) := by decide +kernel
theorem dX2_takeOver_200 : decode cX2_takeOver 200 = .ok (.aload_n 1, 1) := by decide +kernel
theorem dX2_takeOver_201 : decode cX2_takeOver 201 = .ok (.getfield 64, 3) := by decide +kernel
theorem dX2_takeOver_204 : decode cX2_takeOver 204 = .ok (.putfield 64, 3) := by decide +kernel
theorem dX2_takeOver_207 : decode cX2_takeOver 207 = .ok (.aload_n 0, 1) := by decide +kernel
theorem dX2_takeOver_208 : decode cX2_takeOver 208 = .ok (.aload_n 1, 1) := by decide +kernel
theorem dX2_takeOver_209 : decode cX2_takeOver 209 = .ok (.getfield 67, 3) := by decide +kernel
theorem dX2_takeOver_212 : decode cX2_takeOver 212 = .ok (.putfield 67, 3) := by decide +kernel
theorem dX2_takeOver_215 : decode cX2_takeOver 215 = .ok (.return_, 1) := by decide +kernel
theorem dX2_isCut_0 : decode cX2_isCut 0 = .ok (.aload_n 0, 1) := by decide +kernel
theorem dX2_isCut_1 : decode cX2_isCut 1 = .ok (.getfield 9, 3) := by decide +kernel
theorem dX2_isCut_4 : decode cX2_isCut 4 = .ok (.iload_n 1, 1) := by decide +kernel
theorem dX2_isCut_5 : decode cX2_isCut 5 = .ok (.iaload, 1) := by decide +kernel
theorem dX2_isCut_6 : decode cX2_isCut 6 = .ok (.ifCond .le 7, 3) := by decide +kernel
theorem dX2_isCut_9 : decode cX2_isCut 9 = .ok (.iconst 1, 1) := by decide +kernel
theorem dX2_isCut_10 : decode cX2_isCut 10 = .ok (.goto 4, 3) := by decide +kernel
theorem dX2_isCut_13 : decode cX2_isCut 13 = .ok (.iconst 0, 1) := by decide +kernel
theorem dX2_isCut_14 : decode cX2_isCut 14 = .ok (.ireturn, 1) := by decide +kernel
theorem dX2_machineFlutter_0 : decode cX2_machineFlutter 0 = .ok (.aload_n 0, 1) := by decide +kernel
theorem dX2_machineFlutter_1 : decode cX2_machineFlutter 1 = .ok (.getfield 43, 3) := by decide +kernel
theorem dX2_machineFlutter_4 : decode cX2_machineFlutter 4 = .ok (.bipush 50, 2) := by decide +kernel
theorem dX2_machineFlutter_6 : decode cX2_machineFlutter 6 = .ok (.if_icmp .lt 7, 3) := by decide +kernel
theorem dX2_machineFlutter_9 : decode cX2_machineFlutter 9 = .ok (.iconst 0, 1) := by decide +kernel
theorem dX2_machineFlutter_10 : decode cX2_machineFlutter 10 = .ok (.goto 12, 3) := by decide +kernel
theorem dX2_machineFlutter_13 : decode cX2_machineFlutter 13 = .ok (.bipush 50, 2) := by decide +kernel
theorem dX2_machineFlutter_15 : decode cX2_machineFlutter 15 = .ok (.aload_n 0, 1) := by decide +kernel
theorem dX2_machineFlutter_16 : decode cX2_machineFlutter 16 = .ok (.getfield 43, 3) := by decide +kernel
theorem dX2_machineFlutter_19 : decode cX2_machineFlutter 19 = .ok (.isub, 1) := by decide +kernel
theorem dX2_machineFlutter_20 : decode cX2_machineFlutter 20 = .ok (.iconst 5, 1) := by decide +kernel
theorem dX2_machineFlutter_21 : decode cX2_machineFlutter 21 = .ok (.idiv, 1) := by decide +kernel
theorem dX2_machineFlutter_22 : decode cX2_machineFlutter 22 = .ok (.ireturn, 1) := by decide +kernel
set_option maxRecDepth 20000 in
theorem ggX2_reasonNotToSpeak_X2_isCut : GoodIn wsX2_reasonNotToSpeak wsX2_isCut := goodIn_r _ [7, 8, 9, 10, 11, 12, 13, 14, 15, 16, 17, 18, 19, 20, 21, 22, 23, 24, 25, 26, 27] (by decide +kernel) (by decide +kernel)
set_option maxRecDepth 20000 in
theorem gX2_reasonNotToSpeak_X2_isCut : GoodIn wsX2_reasonNotToSpeak (wsV RX2 76 RX2 yX2_isCut wsX2_isCut) := goodIn_app (goodIn_of _ (by decide +kernel)) ggX2_reasonNotToSpeak_X2_isCut
theorem dX2_reasonNotToSpeak_0 : decode cX2_reasonNotToSpeak 0 = .ok (.aload_n 0, 1) := by decide +kernel
theorem dX2_reasonNotToSpeak_1 : decode cX2_reasonNotToSpeak 1 = .ok (.iload_n 1, 1) := by decide +kernel
theorem dX2_reasonNotToSpeak_2 : decode cX2_reasonNotToSpeak 2 = .ok (.invokevirtual 76, 3) := by decide +kernel
theorem dX2_reasonNotToSpeak_5 : decode cX2_reasonNotToSpeak 5 = .ok (.ifCond .eq 5, 3) := by decide +kernel
theorem dX2_reasonNotToSpeak_8 : decode cX2_reasonNotToSpeak 8 = .ok (.iconst 1, 1) := by decide +kernel
theorem dX2_reasonNotToSpeak_9 : decode cX2_reasonNotToSpeak 9 = .ok (.ireturn, 1) := by decide +kernel
theorem dX2_reasonNotToSpeak_10 : decode cX2_reasonNotToSpeak 10 = .ok (.aload_n 0, 1) := by decide +kernel
theorem dX2_reasonNotToSpeak_11 : decode cX2_reasonNotToSpeak 11 = .ok (.getfield 33, 3) := by decide +kernel
theorem dX2_reasonNotToSpeak_14 : decode cX2_reasonNotToSpeak 14 = .ok (.iload_n 1, 1) := by decide +kernel
theorem dX2_reasonNotToSpeak_15 : decode cX2_reasonNotToSpeak 15 = .ok (.iconst 4, 1) := by decide +kernel
theorem dX2_reasonNotToSpeak_16 : decode cX2_reasonNotToSpeak 16 = .ok (.idiv, 1) := by decide +kernel
theorem dX2_reasonNotToSpeak_17 : decode cX2_reasonNotToSpeak 17 = .ok (.iaload, 1) := by decide +kernel
theorem dX2_reasonNotToSpeak_18 : decode cX2_reasonNotToSpeak 18 = .ok (.iload_n 2, 1) := by decide +kernel
theorem dX2_reasonNotToSpeak_19 : decode cX2_reasonNotToSpeak 19 = .ok (.if_icmp .ge 5, 3) := by decide +kernel
theorem dX2_reasonNotToSpeak_22 : decode cX2_reasonNotToSpeak 22 = .ok (.iconst 2, 1) := by decide +kernel
theorem dX2_reasonNotToSpeak_23 : decode cX2_reasonNotToSpeak 23 = .ok (.ireturn, 1) := by decide +kernel
theorem dX2_reasonNotToSpeak_24 : decode cX2_reasonNotToSpeak 24 = .ok (.aload_n 0, 1) := by decide +kernel
theorem dX2_reasonNotToSpeak_25 : decode cX2_reasonNotToSpeak 25 = .ok (.getfield 43, 3) := by decide +kernel
theorem dX2_reasonNotToSpeak_28 : decode cX2_reasonNotToSpeak 28 = .ok (.bipush 10, 2) := by decide +kernel
theorem dX2_reasonNotToSpeak_30 : decode cX2_reasonNotToSpeak 30 = .ok (.if_icmp .ge 7, 3) := by decide +kernel
theorem dX2_reasonNotToSpeak_33 : decode cX2_reasonNotToSpeak 33 = .ok (.iconst 3, 1) := by decide +kernel
theorem dX2_reasonNotToSpeak_34 : decode cX2_reasonNotToSpeak 34 = .ok (.goto 4, 3) := by decide +kernel
theorem dX2_reasonNotToSpeak_37 : decode cX2_reasonNotToSpeak 37 = .ok (.iconst 0, 1) := by decide +kernel
theorem dX2_reasonNotToSpeak_38 : decode cX2_reasonNotToSpeak 38 = .ok (.ireturn, 1) := by decide +kernel
set_option maxRecDepth 20000 in
theorem ggX2_speakOnto_X2_reasonNotToSpeak : GoodIn wsX2_speakOnto wsX2_reasonNotToSpeak := goodIn_r _ [11, 12, 5, 13, 14, 15, 10, 16, 17, 39, 40, 41, 42, 43, 44, 45, 46, 47, 48, 49, 50, 51, 52, 53, 54, 55, 56, 57] (by decide +kernel) (by decide +kernel)
set_option maxRecDepth 20000 in
theorem gX2_speakOnto_X2_reasonNotToSpeak : GoodIn wsX2_speakOnto (wsV RX2 80 RX2 yX2_reasonNotToSpeak wsX2_reasonNotToSpeak) := goodIn_app (goodIn_of _ (by decide +kernel)) ggX2_speakOnto_X2_reasonNotToSpeak
set_option maxRecDepth 20000 in
theorem ggX2_speakOnto_X3_bluntness : GoodIn wsX2_speakOnto wsX3_bluntness := goodIn_r _ [20] (by decide +kernel) (by decide +kernel)
set_option maxRecDepth 20000 in
theorem gX2_speakOnto_X3_bluntness_n84 : GoodIn wsX2_speakOnto (wsX3_bluntness) := ggX2_speakOnto_X3_bluntness
set_option maxRecDepth 20000 in
theorem ggX2_speakOnto_X2_machineFlutter : GoodIn wsX2_speakOnto wsX2_machineFlutter := goodIn_r _ [24, 5, 39, 40, 41, 42, 43, 44, 45, 46, 47, 48, 49, 50, 51, 52, 53, 54, 55, 56, 57] (by decide +kernel) (by decide +kernel)
set_option maxRecDepth 20000 in
theorem gX2_speakOnto_X2_machineFlutter : GoodIn wsX2_speakOnto (wsV RX2 88 RX2 yX2_machineFlutter wsX2_machineFlutter) := goodIn_app (goodIn_of _ (by decide +kernel)) ggX2_speakOnto_X2_machineFlutter
set_option maxRecDepth 20000 in
theorem ggX2_speakOnto_X2_cut : GoodIn wsX2_speakOnto wsX2_cut := goodIn_r _ [28, 17, 29, 30, 31, 32, 4, 33, 19, 34, 35, 36, 37, 38, 39, 40, 41, 42, 43, 44, 45, 46, 47, 48, 49, 50, 51, 52, 53, 54, 55, 56, 57] (by decide +kernel) (by decide +kernel)
set_option maxRecDepth 20000 in
theorem gX2_speakOnto_X2_cut : GoodIn wsX2_speakOnto (wsV RX2 92 RX2 yX2_cut wsX2_cut) := goodIn_app (goodIn_of _ (by decide +kernel)) ggX2_speakOnto_X2_cut
theorem dX2_speakOnto_0 : decode cX2_speakOnto 0 = .ok (.aload_n 0, 1) := by decide +kernel
theorem dX2_speakOnto_1 : decode cX2_speakOnto 1 = .ok (.iload_n 1, 1) := by decide +kernel
theorem dX2_speakOnto_2 : decode cX2_speakOnto 2 = .ok (.iload_n 2, 1) := by decide +kernel
theorem dX2_speakOnto_3 : decode cX2_speakOnto 3 = .ok (.invokevirtual 80, 3) := by decide +kernel
theorem dX2_speakOnto_6 : decode cX2_speakOnto 6 = .ok (.istore_n 3, 1) := by decide +kernel
theorem dX2_speakOnto_7 : decode cX2_speakOnto 7 = .ok (.iload_n 3, 1) := by decide +kernel
theorem dX2_speakOnto_8 : decode cX2_speakOnto 8 = .ok (.ifCond .eq 15, 3) := by decide +kernel
theorem dX2_speakOnto_11 : decode cX2_speakOnto 11 = .ok (.aload_n 0, 1) := by decide +kernel
theorem dX2_speakOnto_12 : decode cX2_speakOnto 12 = .ok (.dup, 1) := by decide +kernel
theorem dX2_speakOnto_13 : decode cX2_speakOnto 13 = .ok (.getfield 67, 3) := by decide +kernel
theorem dX2_speakOnto_16 : decode cX2_speakOnto 16 = .ok (.iconst 1, 1) := by decide +kernel
theorem dX2_speakOnto_17 : decode cX2_speakOnto 17 = .ok (.iadd, 1) := by decide +kernel
theorem dX2_speakOnto_18 : decode cX2_speakOnto 18 = .ok (.putfield 67, 3) := by decide +kernel
theorem dX2_speakOnto_21 : decode cX2_speakOnto 21 = .ok (.iload_n 3, 1) := by decide +kernel
theorem dX2_speakOnto_22 : decode cX2_speakOnto 22 = .ok (.ireturn, 1) := by decide +kernel
theorem dX2_speakOnto_23 : decode cX2_speakOnto 23 = .ok (.aload_n 0, 1) := by decide +kernel
theorem dX2_speakOnto_24 : decode cX2_speakOnto 24 = .ok (.getfield 21, 3) := by decide +kernel
theorem dX2_speakOnto_27 : decode cX2_speakOnto 27 = .ok (.iload_n 1, 1) := by decide +kernel
theorem dX2_speakOnto_28 : decode cX2_speakOnto 28 = .ok (.iconst 0, 1) := by decide +kernel
theorem dX2_speakOnto_29 : decode cX2_speakOnto 29 = .ok (.iastore, 1) := by decide +kernel
theorem dX2_speakOnto_30 : decode cX2_speakOnto 30 = .ok (.aload_n 0, 1) := by decide +kernel
theorem dX2_speakOnto_31 : decode cX2_speakOnto 31 = .ok (.getfield 24, 3) := by decide +kernel
theorem dX2_speakOnto_34 : decode cX2_speakOnto 34 = .ok (.iload_n 1, 1) := by decide +kernel
theorem dX2_speakOnto_35 : decode cX2_speakOnto 35 = .ok (.iconst (-1), 1) := by decide +kernel
theorem dX2_speakOnto_36 : decode cX2_speakOnto 36 = .ok (.iastore, 1) := by decide +kernel
theorem dX2_speakOnto_37 : decode cX2_speakOnto 37 = .ok (.aload_n 0, 1) := by decide +kernel
theorem dX2_speakOnto_38 : decode cX2_speakOnto 38 = .ok (.iload_n 1, 1) := by decide +kernel
theorem dX2_speakOnto_39 : decode cX2_speakOnto 39 = .ok (.iload_n 2, 1) := by decide +kernel
theorem dX2_speakOnto_40 : decode cX2_speakOnto 40 = .ok (.bipush 40, 2) := by decide +kernel
theorem dX2_speakOnto_42 : decode cX2_speakOnto 42 = .ok (.iconst 5, 1) := by decide +kernel
theorem dX2_speakOnto_43 : decode cX2_speakOnto 43 = .ok (.iload_n 2, 1) := by decide +kernel
theorem dX2_speakOnto_44 : decode cX2_speakOnto 44 = .ok (.imul, 1) := by decide +kernel
theorem dX2_speakOnto_45 : decode cX2_speakOnto 45 = .ok (.iadd, 1) := by decide +kernel
theorem dX2_speakOnto_46 : decode cX2_speakOnto 46 = .ok (.aload_n 0, 1) := by decide +kernel
theorem dX2_speakOnto_47 : decode cX2_speakOnto 47 = .ok (.getfield 39, 3) := by decide +kernel
theorem dX2_speakOnto_50 : decode cX2_speakOnto 50 = .ok (.invokestatic 84, 3) := by decide +kernel
theorem dX2_speakOnto_53 : decode cX2_speakOnto 53 = .ok (.isub, 1) := by decide +kernel
theorem dX2_speakOnto_54 : decode cX2_speakOnto 54 = .ok (.aload_n 0, 1) := by decide +kernel
theorem dX2_speakOnto_55 : decode cX2_speakOnto 55 = .ok (.invokevirtual 88, 3) := by decide +kernel
theorem dX2_speakOnto_58 : decode cX2_speakOnto 58 = .ok (.invokevirtual 92, 3) := by decide +kernel
theorem dX2_speakOnto_61 : decode cX2_speakOnto 61 = .ok (.aload_n 0, 1) := by decide +kernel
theorem dX2_speakOnto_62 : decode cX2_speakOnto 62 = .ok (.dup, 1) := by decide +kernel
theorem dX2_speakOnto_63 : decode cX2_speakOnto 63 = .ok (.getfield 43, 3) := by decide +kernel
theorem dX2_speakOnto_66 : decode cX2_speakOnto 66 = .ok (.bipush 10, 2) := by decide +kernel
theorem dX2_speakOnto_68 : decode cX2_speakOnto 68 = .ok (.isub, 1) := by decide +kernel
theorem dX2_speakOnto_69 : decode cX2_speakOnto 69 = .ok (.putfield 43, 3) := by decide +kernel
theorem dX2_speakOnto_72 : decode cX2_speakOnto 72 = .ok (.aload_n 0, 1) := by decide +kernel
theorem dX2_speakOnto_73 : decode cX2_speakOnto 73 = .ok (.dup, 1) := by decide +kernel
theorem dX2_speakOnto_74 : decode cX2_speakOnto 74 = .ok (.getfield 49, 3) := by decide +kernel
theorem dX2_speakOnto_77 : decode cX2_speakOnto 77 = .ok (.iconst 1, 1) := by decide +kernel
theorem dX2_speakOnto_78 : decode cX2_speakOnto 78 = .ok (.iadd, 1) := by decide +kernel
theorem dX2_speakOnto_79 : decode cX2_speakOnto 79 = .ok (.putfield 49, 3) := by decide +kernel
theorem dX2_speakOnto_82 : decode cX2_speakOnto 82 = .ok (.iconst 0, 1) := by decide +kernel
theorem dX2_speakOnto_83 : decode cX2_speakOnto 83 = .ok (.ireturn, 1) := by decide +kernel
set_option maxRecDepth 20000 in
theorem ggX2_reasonNotToCopy_X2_isCut : GoodIn wsX2_reasonNotToCopy wsX2_isCut := goodIn_r _ [8, 2, 19, 20, 21, 22, 23, 24, 25, 26, 27, 28, 29, 30, 31, 32, 33, 34, 35, 36, 37] (by decide +kernel) (by decide +kernel)
set_option maxRecDepth 20000 in
theorem gX2_reasonNotToCopy_X2_isCut : GoodIn wsX2_reasonNotToCopy (wsV RX2 76 RX2 yX2_isCut wsX2_isCut) := goodIn_app (goodIn_of _ (by decide +kernel)) ggX2_reasonNotToCopy_X2_isCut
set_option maxRecDepth 20000 in
theorem ggX2_reasonNotToCopy_X3_copiedDepth : GoodIn wsX2_reasonNotToCopy wsX3_copiedDepth := goodIn_r _ [11, 12, 13, 14, 15, 16, 17, 18] (by decide +kernel) (by decide +kernel)
set_option maxRecDepth 20000 in
theorem gX2_reasonNotToCopy_X3_copiedDepth_n96 : GoodIn wsX2_reasonNotToCopy (wsX3_copiedDepth) := ggX2_reasonNotToCopy_X3_copiedDepth
theorem dX2_reasonNotToCopy_0 : decode cX2_reasonNotToCopy 0 = .ok (.aload_n 0, 1) := by decide +kernel
theorem dX2_reasonNotToCopy_1 : decode cX2_reasonNotToCopy 1 = .ok (.iload_n 1, 1) := by decide +kernel
theorem dX2_reasonNotToCopy_2 : decode cX2_reasonNotToCopy 2 = .ok (.invokevirtual 76, 3) := by decide +kernel
theorem dX2_reasonNotToCopy_5 : decode cX2_reasonNotToCopy 5 = .ok (.ifCond .ne 5, 3) := by decide +kernel
theorem dX2_reasonNotToCopy_8 : decode cX2_reasonNotToCopy 8 = .ok (.iconst 1, 1) := by decide +kernel
theorem dX2_reasonNotToCopy_9 : decode cX2_reasonNotToCopy 9 = .ok (.ireturn, 1) := by decide +kernel
theorem dX2_reasonNotToCopy_10 : decode cX2_reasonNotToCopy 10 = .ok (.aload_n 0, 1) := by decide +kernel
theorem dX2_reasonNotToCopy_11 : decode cX2_reasonNotToCopy 11 = .ok (.iload_n 2, 1) := by decide +kernel
theorem dX2_reasonNotToCopy_12 : decode cX2_reasonNotToCopy 12 = .ok (.invokevirtual 76, 3) := by decide +kernel
theorem dX2_reasonNotToCopy_15 : decode cX2_reasonNotToCopy 15 = .ok (.ifCond .eq 5, 3) := by decide +kernel
theorem dX2_reasonNotToCopy_18 : decode cX2_reasonNotToCopy 18 = .ok (.iconst 2, 1) := by decide +kernel
theorem dX2_reasonNotToCopy_19 : decode cX2_reasonNotToCopy 19 = .ok (.ireturn, 1) := by decide +kernel
theorem dX2_reasonNotToCopy_20 : decode cX2_reasonNotToCopy 20 = .ok (.iload_n 1, 1) := by decide +kernel
theorem dX2_reasonNotToCopy_21 : decode cX2_reasonNotToCopy 21 = .ok (.iconst 4, 1) := by decide +kernel
theorem dX2_reasonNotToCopy_22 : decode cX2_reasonNotToCopy 22 = .ok (.idiv, 1) := by decide +kernel
theorem dX2_reasonNotToCopy_23 : decode cX2_reasonNotToCopy 23 = .ok (.iload_n 2, 1) := by decide +kernel
theorem dX2_reasonNotToCopy_24 : decode cX2_reasonNotToCopy 24 = .ok (.iconst 4, 1) := by decide +kernel
theorem dX2_reasonNotToCopy_25 : decode cX2_reasonNotToCopy 25 = .ok (.idiv, 1) := by decide +kernel
theorem dX2_reasonNotToCopy_26 : decode cX2_reasonNotToCopy 26 = .ok (.if_icmp .ne 5, 3) := by decide +kernel
theorem dX2_reasonNotToCopy_29 : decode cX2_reasonNotToCopy 29 = .ok (.iconst 3, 1) := by decide +kernel
theorem dX2_reasonNotToCopy_30 : decode cX2_reasonNotToCopy 30 = .ok (.ireturn, 1) := by decide +kernel
theorem dX2_reasonNotToCopy_31 : decode cX2_reasonNotToCopy 31 = .ok (.aload_n 0, 1) := by decide +kernel
theorem dX2_reasonNotToCopy_32 : decode cX2_reasonNotToCopy 32 = .ok (.getfield 33, 3) := by decide +kernel
theorem dX2_reasonNotToCopy_35 : decode cX2_reasonNotToCopy 35 = .ok (.iload_n 2, 1) := by decide +kernel
theorem dX2_reasonNotToCopy_36 : decode cX2_reasonNotToCopy 36 = .ok (.iconst 4, 1) := by decide +kernel
theorem dX2_reasonNotToCopy_37 : decode cX2_reasonNotToCopy 37 = .ok (.idiv, 1) := by decide +kernel
theorem dX2_reasonNotToCopy_38 : decode cX2_reasonNotToCopy 38 = .ok (.iaload, 1) := by decide +kernel
theorem dX2_reasonNotToCopy_39 : decode cX2_reasonNotToCopy 39 = .ok (.aload_n 0, 1) := by decide +kernel
theorem dX2_reasonNotToCopy_40 : decode cX2_reasonNotToCopy 40 = .ok (.getfield 9, 3) := by decide +kernel
theorem dX2_reasonNotToCopy_43 : decode cX2_reasonNotToCopy 43 = .ok (.iload_n 1, 1) := by decide +kernel
theorem dX2_reasonNotToCopy_44 : decode cX2_reasonNotToCopy 44 = .ok (.iaload, 1) := by decide +kernel
theorem dX2_reasonNotToCopy_45 : decode cX2_reasonNotToCopy 45 = .ok (.iload_n 3, 1) := by decide +kernel
theorem dX2_reasonNotToCopy_46 : decode cX2_reasonNotToCopy 46 = .ok (.invokestatic 96, 3) := by decide +kernel
theorem dX2_reasonNotToCopy_49 : decode cX2_reasonNotToCopy 49 = .ok (.if_icmp .ge 5, 3) := by decide +kernel
theorem dX2_reasonNotToCopy_52 : decode cX2_reasonNotToCopy 52 = .ok (.iconst 4, 1) := by decide +kernel
theorem dX2_reasonNotToCopy_53 : decode cX2_reasonNotToCopy 53 = .ok (.ireturn, 1) := by decide +kernel
theorem dX2_reasonNotToCopy_54 : decode cX2_reasonNotToCopy 54 = .ok (.aload_n 0, 1) := by decide +kernel
theorem dX2_reasonNotToCopy_55 : decode cX2_reasonNotToCopy 55 = .ok (.getfield 43, 3) := by decide +kernel
theorem dX2_reasonNotToCopy_58 : decode cX2_reasonNotToCopy 58 = .ok (.bipush 20, 2) := by decide +kernel
theorem dX2_reasonNotToCopy_60 : decode cX2_reasonNotToCopy 60 = .ok (.if_icmp .ge 7, 3) := by decide +kernel
theorem dX2_reasonNotToCopy_63 : decode cX2_reasonNotToCopy 63 = .ok (.iconst 5, 1) := by decide +kernel
theorem dX2_reasonNotToCopy_64 : decode cX2_reasonNotToCopy 64 = .ok (.goto 4, 3) := by decide +kernel
theorem dX2_reasonNotToCopy_67 : decode cX2_reasonNotToCopy 67 = .ok (.iconst 0, 1) := by decide +kernel
theorem dX2_reasonNotToCopy_68 : decode cX2_reasonNotToCopy 68 = .ok (.ireturn, 1) := by decide +kernel
set_option maxRecDepth 20000 in
theorem ggX2_clearnessIfCopied_X2_machineFlutter : GoodIn wsX2_clearnessIfCopied wsX2_machineFlutter := goodIn_r _ [7, 8, 19, 20, 21, 22, 23, 24, 25, 26, 27, 28, 29, 30, 31, 32, 33, 34, 35, 36, 37] (by decide +kernel) (by decide +kernel)
set_option maxRecDepth 20000 in
theorem gX2_clearnessIfCopied_X2_machineFlutter : GoodIn wsX2_clearnessIfCopied (wsV RX2 88 RX2 yX2_machineFlutter wsX2_machineFlutter) := goodIn_app (goodIn_of _ (by decide +kernel)) ggX2_clearnessIfCopied_X2_machineFlutter
set_option maxRecDepth 20000 in
theorem ggX2_clearnessIfCopied_X3_copiedClearness : GoodIn wsX2_clearnessIfCopied wsX3_copiedClearness := goodIn_r _ [11, 12, 13, 14, 15, 16, 17, 10, 18] (by decide +kernel) (by decide +kernel)
set_option maxRecDepth 20000 in
theorem gX2_clearnessIfCopied_X3_copiedClearness_n99 : GoodIn wsX2_clearnessIfCopied (wsX3_copiedClearness) := ggX2_clearnessIfCopied_X3_copiedClearness
theorem dX2_clearnessIfCopied_0 : decode cX2_clearnessIfCopied 0 = .ok (.aload_n 0, 1) := by decide +kernel
theorem dX2_clearnessIfCopied_1 : decode cX2_clearnessIfCopied 1 = .ok (.getfield 15, 3) := by decide +kernel
theorem dX2_clearnessIfCopied_4 : decode cX2_clearnessIfCopied 4 = .ok (.iload_n 1, 1) := by decide +kernel
theorem dX2_clearnessIfCopied_5 : decode cX2_clearnessIfCopied 5 = .ok (.iaload, 1) := by decide +kernel
theorem dX2_clearnessIfCopied_6 : decode cX2_clearnessIfCopied 6 = .ok (.iload_n 2, 1) := by decide +kernel
theorem dX2_clearnessIfCopied_7 : decode cX2_clearnessIfCopied 7 = .ok (.aload_n 0, 1) := by decide +kernel
theorem dX2_clearnessIfCopied_8 : decode cX2_clearnessIfCopied 8 = .ok (.getfield 39, 3) := by decide +kernel
theorem dX2_clearnessIfCopied_11 : decode cX2_clearnessIfCopied 11 = .ok (.aload_n 0, 1) := by decide +kernel
theorem dX2_clearnessIfCopied_12 : decode cX2_clearnessIfCopied 12 = .ok (.invokevirtual 88, 3) := by decide +kernel
theorem dX2_clearnessIfCopied_15 : decode cX2_clearnessIfCopied 15 = .ok (.invokestatic 99, 3) := by decide +kernel
theorem dX2_clearnessIfCopied_18 : decode cX2_clearnessIfCopied 18 = .ok (.ireturn, 1) := by decide +kernel
set_option maxRecDepth 20000 in
theorem ggX2_copyOnto_X2_reasonNotToCopy : GoodIn wsX2_copyOnto wsX2_reasonNotToCopy := goodIn_r _ [16, 17, 9, 10, 18, 19, 20, 15, 21, 22, 23, 24, 25, 26, 7, 27, 28, 6, 8, 52, 53, 54, 55, 56, 57, 58, 59, 60, 61, 62, 63, 64, 65, 66, 67, 68, 69, 70] (by decide +kernel) (by decide +kernel)
set_option maxRecDepth 20000 in
theorem gX2_copyOnto_X2_reasonNotToCopy : GoodIn wsX2_copyOnto (wsV RX2 103 RX2 yX2_reasonNotToCopy wsX2_reasonNotToCopy) := goodIn_app (goodIn_of _ (by decide +kernel)) ggX2_copyOnto_X2_reasonNotToCopy
set_option maxRecDepth 20000 in
theorem ggX2_copyOnto_X2_machineFlutter : GoodIn wsX2_copyOnto wsX2_machineFlutter := goodIn_r _ [32, 10, 52, 53, 54, 55, 56, 57, 58, 59, 60, 61, 62, 63, 64, 65, 66, 67, 68, 69, 70] (by decide +kernel) (by decide +kernel)
set_option maxRecDepth 20000 in
theorem gX2_copyOnto_X2_machineFlutter : GoodIn wsX2_copyOnto (wsV RX2 88 RX2 yX2_machineFlutter wsX2_machineFlutter) := goodIn_app (goodIn_of _ (by decide +kernel)) ggX2_copyOnto_X2_machineFlutter
set_option maxRecDepth 20000 in
theorem ggX2_copyOnto_X3_copiedDepth : GoodIn wsX2_copyOnto wsX3_copiedDepth := goodIn_r _ [24, 25, 26, 7, 27, 28, 6, 8] (by decide +kernel) (by decide +kernel)
set_option maxRecDepth 20000 in
theorem gX2_copyOnto_X3_copiedDepth_n96 : GoodIn wsX2_copyOnto (wsX3_copiedDepth) := ggX2_copyOnto_X3_copiedDepth
set_option maxRecDepth 20000 in
theorem ggX2_copyOnto_X2_clearnessIfCopied : GoodIn wsX2_copyOnto wsX2_clearnessIfCopied := goodIn_r _ [36, 37, 38, 29, 30, 31, 15, 32, 10, 39, 23, 40, 25, 26, 7, 27, 41, 42, 43, 52, 53, 54, 55, 56, 57, 58, 59, 60, 61, 62, 63, 64, 65, 66, 67, 68, 69, 70] (by decide +kernel) (by decide +kernel)
set_option maxRecDepth 20000 in
theorem gX2_copyOnto_X2_clearnessIfCopied : GoodIn wsX2_copyOnto (wsV RX2 112 RX2 yX2_clearnessIfCopied wsX2_clearnessIfCopied) := goodIn_app (goodIn_of _ (by decide +kernel)) ggX2_copyOnto_X2_clearnessIfCopied
set_option maxRecDepth 20000 in
theorem ggX2_copyOnto_X2_cut : GoodIn wsX2_copyOnto wsX2_cut := goodIn_r _ [47, 9, 37, 48, 4, 49, 38, 50, 23, 51, 25, 26, 7, 27, 52, 53, 54, 55, 56, 57, 58, 59, 60, 61, 62, 63, 64, 65, 66, 67, 68, 69, 70] (by decide +kernel) (by decide +kernel)
set_option maxRecDepth 20000 in
theorem gX2_copyOnto_X2_cut : GoodIn wsX2_copyOnto (wsV RX2 92 RX2 yX2_cut wsX2_cut) := goodIn_app (goodIn_of _ (by decide +kernel)) ggX2_copyOnto_X2_cut
theorem dX2_copyOnto_0 : decode cX2_copyOnto 0 = .ok (.aload_n 0, 1) := by decide +kernel
theorem dX2_copyOnto_1 : decode cX2_copyOnto 1 = .ok (.iload_n 1, 1) := by decide +kernel
theorem dX2_copyOnto_2 : decode cX2_copyOnto 2 = .ok (.iload_n 2, 1) := by decide +kernel
theorem dX2_copyOnto_3 : decode cX2_copyOnto 3 = .ok (.iload_n 3, 1) := by decide +kernel
theorem dX2_copyOnto_4 : decode cX2_copyOnto 4 = .ok (.invokevirtual 103, 3) := by decide +kernel
theorem dX2_copyOnto_7 : decode cX2_copyOnto 7 = .ok (.istore 4, 2) := by decide +kernel
theorem dX2_copyOnto_9 : decode cX2_copyOnto 9 = .ok (.iload 4, 2) := by decide +kernel
theorem dX2_copyOnto_11 : decode cX2_copyOnto 11 = .ok (.ifCond .eq 16, 3) := by decide +kernel
theorem dX2_copyOnto_14 : decode cX2_copyOnto 14 = .ok (.aload_n 0, 1) := by decide +kernel
theorem dX2_copyOnto_15 : decode cX2_copyOnto 15 = .ok (.dup, 1) := by decide +kernel
theorem dX2_copyOnto_16 : decode cX2_copyOnto 16 = .ok (.getfield 67, 3) := by decide +kernel
theorem dX2_copyOnto_19 : decode cX2_copyOnto 19 = .ok (.iconst 1, 1) := by decide +kernel
theorem dX2_copyOnto_20 : decode cX2_copyOnto 20 = .ok (.iadd, 1) := by decide +kernel
theorem dX2_copyOnto_21 : decode cX2_copyOnto 21 = .ok (.putfield 67, 3) := by decide +kernel
theorem dX2_copyOnto_24 : decode cX2_copyOnto 24 = .ok (.iload 4, 2) := by decide +kernel
theorem dX2_copyOnto_26 : decode cX2_copyOnto 26 = .ok (.ireturn, 1) := by decide +kernel
theorem dX2_copyOnto_27 : decode cX2_copyOnto 27 = .ok (.aload_n 0, 1) := by decide +kernel
theorem dX2_copyOnto_28 : decode cX2_copyOnto 28 = .ok (.getfield 21, 3) := by decide +kernel
theorem dX2_copyOnto_31 : decode cX2_copyOnto 31 = .ok (.iload_n 2, 1) := by decide +kernel
theorem dX2_copyOnto_32 : decode cX2_copyOnto 32 = .ok (.aload_n 0, 1) := by decide +kernel
theorem dX2_copyOnto_33 : decode cX2_copyOnto 33 = .ok (.getfield 21, 3) := by decide +kernel
theorem dX2_copyOnto_36 : decode cX2_copyOnto 36 = .ok (.iload_n 1, 1) := by decide +kernel
theorem dX2_copyOnto_37 : decode cX2_copyOnto 37 = .ok (.iaload, 1) := by decide +kernel
theorem dX2_copyOnto_38 : decode cX2_copyOnto 38 = .ok (.iconst 1, 1) := by decide +kernel
theorem dX2_copyOnto_39 : decode cX2_copyOnto 39 = .ok (.iadd, 1) := by decide +kernel
theorem dX2_copyOnto_40 : decode cX2_copyOnto 40 = .ok (.iastore, 1) := by decide +kernel
theorem dX2_copyOnto_41 : decode cX2_copyOnto 41 = .ok (.aload_n 0, 1) := by decide +kernel
theorem dX2_copyOnto_42 : decode cX2_copyOnto 42 = .ok (.getfield 24, 3) := by decide +kernel
theorem dX2_copyOnto_45 : decode cX2_copyOnto 45 = .ok (.iload_n 2, 1) := by decide +kernel
theorem dX2_copyOnto_46 : decode cX2_copyOnto 46 = .ok (.iload_n 1, 1) := by decide +kernel
theorem dX2_copyOnto_47 : decode cX2_copyOnto 47 = .ok (.iastore, 1) := by decide +kernel
theorem dX2_copyOnto_48 : decode cX2_copyOnto 48 = .ok (.bipush 20, 2) := by decide +kernel
theorem dX2_copyOnto_50 : decode cX2_copyOnto 50 = .ok (.aload_n 0, 1) := by decide +kernel
theorem dX2_copyOnto_51 : decode cX2_copyOnto 51 = .ok (.getfield 18, 3) := by decide +kernel
theorem dX2_copyOnto_54 : decode cX2_copyOnto 54 = .ok (.iload_n 1, 1) := by decide +kernel
theorem dX2_copyOnto_55 : decode cX2_copyOnto 55 = .ok (.iaload, 1) := by decide +kernel
theorem dX2_copyOnto_56 : decode cX2_copyOnto 56 = .ok (.aload_n 0, 1) := by decide +kernel
theorem dX2_copyOnto_57 : decode cX2_copyOnto 57 = .ok (.invokevirtual 88, 3) := by decide +kernel
theorem dX2_copyOnto_60 : decode cX2_copyOnto 60 = .ok (.iadd, 1) := by decide +kernel
theorem dX2_copyOnto_61 : decode cX2_copyOnto 61 = .ok (.invokestatic 107, 3) := by decide +kernel
theorem dX2_copyOnto_64 : decode cX2_copyOnto 64 = .ok (.istore 5, 2) := by decide +kernel
theorem dX2_copyOnto_66 : decode cX2_copyOnto 66 = .ok (.aload_n 0, 1) := by decide +kernel
theorem dX2_copyOnto_67 : decode cX2_copyOnto 67 = .ok (.iload_n 2, 1) := by decide +kernel
theorem dX2_copyOnto_68 : decode cX2_copyOnto 68 = .ok (.aload_n 0, 1) := by decide +kernel
theorem dX2_copyOnto_69 : decode cX2_copyOnto 69 = .ok (.getfield 9, 3) := by decide +kernel
theorem dX2_copyOnto_72 : decode cX2_copyOnto 72 = .ok (.iload_n 1, 1) := by decide +kernel
theorem dX2_copyOnto_73 : decode cX2_copyOnto 73 = .ok (.iaload, 1) := by decide +kernel
theorem dX2_copyOnto_74 : decode cX2_copyOnto 74 = .ok (.iload_n 3, 1) := by decide +kernel
theorem dX2_copyOnto_75 : decode cX2_copyOnto 75 = .ok (.invokestatic 96, 3) := by decide +kernel
theorem dX2_copyOnto_78 : decode cX2_copyOnto 78 = .ok (.aload_n 0, 1) := by decide +kernel
theorem dX2_copyOnto_79 : decode cX2_copyOnto 79 = .ok (.iload_n 1, 1) := by decide +kernel
theorem dX2_copyOnto_80 : decode cX2_copyOnto 80 = .ok (.iload_n 3, 1) := by decide +kernel
theorem dX2_copyOnto_81 : decode cX2_copyOnto 81 = .ok (.invokevirtual 112, 3) := by decide +kernel
theorem dX2_copyOnto_84 : decode cX2_copyOnto 84 = .ok (.iload 5, 2) := by decide +kernel
theorem dX2_copyOnto_86 : decode cX2_copyOnto 86 = .ok (.invokevirtual 92, 3) := by decide +kernel
theorem dX2_copyOnto_89 : decode cX2_copyOnto 89 = .ok (.aload_n 0, 1) := by decide +kernel
theorem dX2_copyOnto_90 : decode cX2_copyOnto 90 = .ok (.dup, 1) := by decide +kernel
theorem dX2_copyOnto_91 : decode cX2_copyOnto 91 = .ok (.getfield 43, 3) := by decide +kernel
theorem dX2_copyOnto_94 : decode cX2_copyOnto 94 = .ok (.bipush 20, 2) := by decide +kernel
theorem dX2_copyOnto_96 : decode cX2_copyOnto 96 = .ok (.isub, 1) := by decide +kernel
theorem dX2_copyOnto_97 : decode cX2_copyOnto 97 = .ok (.putfield 43, 3) := by decide +kernel
theorem dX2_copyOnto_100 : decode cX2_copyOnto 100 = .ok (.aload_n 0, 1) := by decide +kernel
theorem dX2_copyOnto_101 : decode cX2_copyOnto 101 = .ok (.dup, 1) := by decide +kernel
theorem dX2_copyOnto_102 : decode cX2_copyOnto 102 = .ok (.getfield 52, 3) := by decide +kernel
theorem dX2_copyOnto_105 : decode cX2_copyOnto 105 = .ok (.iconst 1, 1) := by decide +kernel
theorem dX2_copyOnto_106 : decode cX2_copyOnto 106 = .ok (.iadd, 1) := by decide +kernel
theorem dX2_copyOnto_107 : decode cX2_copyOnto 107 = .ok (.putfield 52, 3) := by decide +kernel
theorem dX2_copyOnto_110 : decode cX2_copyOnto 110 = .ok (.iconst 0, 1) := by decide +kernel
theorem dX2_copyOnto_111 : decode cX2_copyOnto 111 = .ok (.ireturn, 1) := by decide +kernel
set_option maxRecDepth 20000 in
theorem ggX2_cut_X3_sharpnessAfter : GoodIn wsX2_cut wsX3_sharpnessAfter := goodIn_r _ [9, 10, 11, 12, 13] (by decide +kernel) (by decide +kernel)
set_option maxRecDepth 20000 in
theorem gX2_cut_X3_sharpnessAfter_n115 : GoodIn wsX2_cut (wsX3_sharpnessAfter) := ggX2_cut_X3_sharpnessAfter
theorem dX2_cut_0 : decode cX2_cut 0 = .ok (.aload_n 0, 1) := by decide +kernel
theorem dX2_cut_1 : decode cX2_cut 1 = .ok (.getfield 9, 3) := by decide +kernel
theorem dX2_cut_4 : decode cX2_cut 4 = .ok (.iload_n 1, 1) := by decide +kernel
theorem dX2_cut_5 : decode cX2_cut 5 = .ok (.iload_n 2, 1) := by decide +kernel
theorem dX2_cut_6 : decode cX2_cut 6 = .ok (.iastore, 1) := by decide +kernel
theorem dX2_cut_7 : decode cX2_cut 7 = .ok (.aload_n 0, 1) := by decide +kernel
theorem dX2_cut_8 : decode cX2_cut 8 = .ok (.getfield 15, 3) := by decide +kernel
theorem dX2_cut_11 : decode cX2_cut 11 = .ok (.iload_n 1, 1) := by decide +kernel
theorem dX2_cut_12 : decode cX2_cut 12 = .ok (.iload_n 3, 1) := by decide +kernel
theorem dX2_cut_13 : decode cX2_cut 13 = .ok (.iastore, 1) := by decide +kernel
theorem dX2_cut_14 : decode cX2_cut 14 = .ok (.aload_n 0, 1) := by decide +kernel
theorem dX2_cut_15 : decode cX2_cut 15 = .ok (.getfield 27, 3) := by decide +kernel
theorem dX2_cut_18 : decode cX2_cut 18 = .ok (.iload_n 1, 1) := by decide +kernel
theorem dX2_cut_19 : decode cX2_cut 19 = .ok (.iload_n 3, 1) := by decide +kernel
theorem dX2_cut_20 : decode cX2_cut 20 = .ok (.iastore, 1) := by decide +kernel
theorem dX2_cut_21 : decode cX2_cut 21 = .ok (.aload_n 0, 1) := by decide +kernel
theorem dX2_cut_22 : decode cX2_cut 22 = .ok (.getfield 18, 3) := by decide +kernel
theorem dX2_cut_25 : decode cX2_cut 25 = .ok (.iload_n 1, 1) := by decide +kernel
theorem dX2_cut_26 : decode cX2_cut 26 = .ok (.iload 4, 2) := by decide +kernel
theorem dX2_cut_28 : decode cX2_cut 28 = .ok (.iastore, 1) := by decide +kernel
theorem dX2_cut_29 : decode cX2_cut 29 = .ok (.aload_n 0, 1) := by decide +kernel
theorem dX2_cut_30 : decode cX2_cut 30 = .ok (.getfield 30, 3) := by decide +kernel
theorem dX2_cut_33 : decode cX2_cut 33 = .ok (.iload_n 1, 1) := by decide +kernel
theorem dX2_cut_34 : decode cX2_cut 34 = .ok (.iconst 0, 1) := by decide +kernel
theorem dX2_cut_35 : decode cX2_cut 35 = .ok (.iastore, 1) := by decide +kernel
theorem dX2_cut_36 : decode cX2_cut 36 = .ok (.aload_n 0, 1) := by decide +kernel
theorem dX2_cut_37 : decode cX2_cut 37 = .ok (.aload_n 0, 1) := by decide +kernel
theorem dX2_cut_38 : decode cX2_cut 38 = .ok (.getfield 39, 3) := by decide +kernel
theorem dX2_cut_41 : decode cX2_cut 41 = .ok (.iload_n 2, 1) := by decide +kernel
theorem dX2_cut_42 : decode cX2_cut 42 = .ok (.invokestatic 115, 3) := by decide +kernel
theorem dX2_cut_45 : decode cX2_cut 45 = .ok (.putfield 39, 3) := by decide +kernel
theorem dX2_cut_48 : decode cX2_cut 48 = .ok (.return_, 1) := by decide +kernel
set_option maxRecDepth 20000 in
theorem ggX2_playTrack_X2_isCut : GoodIn wsX2_playTrack wsX2_isCut := goodIn_r _ [15, 16, 17, 18, 19, 20, 21, 22, 23, 24, 25, 26, 27, 28, 29, 30, 31, 32, 33, 34, 35] (by decide +kernel) (by decide +kernel)
set_option maxRecDepth 20000 in
theorem gX2_playTrack_X2_isCut : GoodIn wsX2_playTrack (wsV RX2 76 RX2 yX2_isCut wsX2_isCut) := goodIn_app (goodIn_of _ (by decide +kernel)) ggX2_playTrack_X2_isCut
theorem dX2_playTrack_0 : decode cX2_playTrack 0 = .ok (.aload_n 0, 1) := by decide +kernel
theorem dX2_playTrack_1 : decode cX2_playTrack 1 = .ok (.iload_n 1, 1) := by decide +kernel
theorem dX2_playTrack_2 : decode cX2_playTrack 2 = .ok (.invokevirtual 76, 3) := by decide +kernel
theorem dX2_playTrack_5 : decode cX2_playTrack 5 = .ok (.ifCond .ne 7, 3) := by decide +kernel
theorem dX2_playTrack_8 : decode cX2_playTrack 8 = .ok (.iconst 1, 1) := by decide +kernel
theorem dX2_playTrack_9 : decode cX2_playTrack 9 = .ok (.goto 16, 3) := by decide +kernel
theorem dX2_playTrack_12 : decode cX2_playTrack 12 = .ok (.aload_n 0, 1) := by decide +kernel
theorem dX2_playTrack_13 : decode cX2_playTrack 13 = .ok (.getfield 43, 3) := by decide +kernel
theorem dX2_playTrack_16 : decode cX2_playTrack 16 = .ok (.iconst 5, 1) := by decide +kernel
theorem dX2_playTrack_17 : decode cX2_playTrack 17 = .ok (.if_icmp .ge 7, 3) := by decide +kernel
theorem dX2_playTrack_20 : decode cX2_playTrack 20 = .ok (.iconst 2, 1) := by decide +kernel
theorem dX2_playTrack_21 : decode cX2_playTrack 21 = .ok (.goto 4, 3) := by decide +kernel
theorem dX2_playTrack_24 : decode cX2_playTrack 24 = .ok (.iconst 0, 1) := by decide +kernel
theorem dX2_playTrack_25 : decode cX2_playTrack 25 = .ok (.istore_n 2, 1) := by decide +kernel
theorem dX2_playTrack_26 : decode cX2_playTrack 26 = .ok (.iload_n 2, 1) := by decide +kernel
theorem dX2_playTrack_27 : decode cX2_playTrack 27 = .ok (.ifCond .eq 15, 3) := by decide +kernel
theorem dX2_playTrack_30 : decode cX2_playTrack 30 = .ok (.aload_n 0, 1) := by decide +kernel
theorem dX2_playTrack_31 : decode cX2_playTrack 31 = .ok (.dup, 1) := by decide +kernel
theorem dX2_playTrack_32 : decode cX2_playTrack 32 = .ok (.getfield 67, 3) := by decide +kernel
theorem dX2_playTrack_35 : decode cX2_playTrack 35 = .ok (.iconst 1, 1) := by decide +kernel
theorem dX2_playTrack_36 : decode cX2_playTrack 36 = .ok (.iadd, 1) := by decide +kernel
theorem dX2_playTrack_37 : decode cX2_playTrack 37 = .ok (.putfield 67, 3) := by decide +kernel
theorem dX2_playTrack_40 : decode cX2_playTrack 40 = .ok (.iload_n 2, 1) := by decide +kernel
theorem dX2_playTrack_41 : decode cX2_playTrack 41 = .ok (.ireturn, 1) := by decide +kernel
theorem dX2_playTrack_42 : decode cX2_playTrack 42 = .ok (.aload_n 0, 1) := by decide +kernel
theorem dX2_playTrack_43 : decode cX2_playTrack 43 = .ok (.getfield 15, 3) := by decide +kernel
theorem dX2_playTrack_46 : decode cX2_playTrack 46 = .ok (.iload_n 1, 1) := by decide +kernel
theorem dX2_playTrack_47 : decode cX2_playTrack 47 = .ok (.iconst 0, 1) := by decide +kernel
theorem dX2_playTrack_48 : decode cX2_playTrack 48 = .ok (.aload_n 0, 1) := by decide +kernel
theorem dX2_playTrack_49 : decode cX2_playTrack 49 = .ok (.getfield 15, 3) := by decide +kernel
theorem dX2_playTrack_52 : decode cX2_playTrack 52 = .ok (.iload_n 1, 1) := by decide +kernel
theorem dX2_playTrack_53 : decode cX2_playTrack 53 = .ok (.iaload, 1) := by decide +kernel
theorem dX2_playTrack_54 : decode cX2_playTrack 54 = .ok (.aload_n 0, 1) := by decide +kernel
theorem dX2_playTrack_55 : decode cX2_playTrack 55 = .ok (.getfield 46, 3) := by decide +kernel
theorem dX2_playTrack_58 : decode cX2_playTrack 58 = .ok (.isub, 1) := by decide +kernel
theorem dX2_playTrack_59 : decode cX2_playTrack 59 = .ok (.invokestatic 118, 3) := by decide +kernel
theorem dX2_playTrack_62 : decode cX2_playTrack 62 = .ok (.iastore, 1) := by decide +kernel
theorem dX2_playTrack_63 : decode cX2_playTrack 63 = .ok (.aload_n 0, 1) := by decide +kernel
theorem dX2_playTrack_64 : decode cX2_playTrack 64 = .ok (.getfield 30, 3) := by decide +kernel
theorem dX2_playTrack_67 : decode cX2_playTrack 67 = .ok (.iload_n 1, 1) := by decide +kernel
theorem dX2_playTrack_68 : decode cX2_playTrack 68 = .ok (.dup2, 1) := by decide +kernel
theorem dX2_playTrack_69 : decode cX2_playTrack 69 = .ok (.iaload, 1) := by decide +kernel
theorem dX2_playTrack_70 : decode cX2_playTrack 70 = .ok (.iconst 1, 1) := by decide +kernel
theorem dX2_playTrack_71 : decode cX2_playTrack 71 = .ok (.iadd, 1) := by decide +kernel
theorem dX2_playTrack_72 : decode cX2_playTrack 72 = .ok (.iastore, 1) := by decide +kernel
theorem dX2_playTrack_73 : decode cX2_playTrack 73 = .ok (.aload_n 0, 1) := by decide +kernel
theorem dX2_playTrack_74 : decode cX2_playTrack 74 = .ok (.dup, 1) := by decide +kernel
theorem dX2_playTrack_75 : decode cX2_playTrack 75 = .ok (.getfield 43, 3) := by decide +kernel
theorem dX2_playTrack_78 : decode cX2_playTrack 78 = .ok (.iconst 5, 1) := by decide +kernel
theorem dX2_playTrack_79 : decode cX2_playTrack 79 = .ok (.isub, 1) := by decide +kernel
theorem dX2_playTrack_80 : decode cX2_playTrack 80 = .ok (.putfield 43, 3) := by decide +kernel
theorem dX2_playTrack_83 : decode cX2_playTrack 83 = .ok (.aload_n 0, 1) := by decide +kernel
theorem dX2_playTrack_84 : decode cX2_playTrack 84 = .ok (.dup, 1) := by decide +kernel
theorem dX2_playTrack_85 : decode cX2_playTrack 85 = .ok (.getfield 55, 3) := by decide +kernel
theorem dX2_playTrack_88 : decode cX2_playTrack 88 = .ok (.iconst 1, 1) := by decide +kernel
theorem dX2_playTrack_89 : decode cX2_playTrack 89 = .ok (.iadd, 1) := by decide +kernel
theorem dX2_playTrack_90 : decode cX2_playTrack 90 = .ok (.putfield 55, 3) := by decide +kernel
theorem dX2_playTrack_93 : decode cX2_playTrack 93 = .ok (.bipush 10, 2) := by decide +kernel
theorem dX2_playTrack_95 : decode cX2_playTrack 95 = .ok (.aload_n 0, 1) := by decide +kernel
theorem dX2_playTrack_96 : decode cX2_playTrack 96 = .ok (.getfield 15, 3) := by decide +kernel
theorem dX2_playTrack_99 : decode cX2_playTrack 99 = .ok (.iload_n 1, 1) := by decide +kernel
theorem dX2_playTrack_100 : decode cX2_playTrack 100 = .ok (.iaload, 1) := by decide +kernel
theorem dX2_playTrack_101 : decode cX2_playTrack 101 = .ok (.iadd, 1) := by decide +kernel
theorem dX2_playTrack_102 : decode cX2_playTrack 102 = .ok (.ireturn, 1) := by decide +kernel
set_option maxRecDepth 20000 in
theorem ggX2_shaveCylinder_X2_greatestDepth : GoodIn wsX2_shaveCylinder wsX2_greatestDepth := goodIn_r _ [9, 10, 11, 12, 13, 14, 20, 21, 22, 23, 24, 25, 26, 27, 28, 29, 30, 31, 32, 33, 34, 35, 36, 37, 38] (by decide +kernel) (by decide +kernel)
set_option maxRecDepth 20000 in
theorem gX2_shaveCylinder_X2_greatestDepth : GoodIn wsX2_shaveCylinder (wsV RX2 121 RX2 yX2_greatestDepth wsX2_greatestDepth) := goodIn_app (goodIn_of _ (by decide +kernel)) ggX2_shaveCylinder_X2_greatestDepth
set_option maxRecDepth 20000 in
theorem ggX2_shaveCylinder_X2_smoothTracks : GoodIn wsX2_shaveCylinder wsX2_smoothTracks := goodIn_r _ [18, 10, 19, 20, 21, 22, 23, 24, 25, 26, 27, 28, 29, 30, 31, 32, 33, 34, 35, 36, 37, 38] (by decide +kernel) (by decide +kernel)
set_option maxRecDepth 20000 in
theorem gX2_shaveCylinder_X2_smoothTracks : GoodIn wsX2_shaveCylinder (wsV RX2 124 RX2 yX2_smoothTracks wsX2_smoothTracks) := goodIn_app (goodIn_of _ (by decide +kernel)) ggX2_shaveCylinder_X2_smoothTracks
theorem dX2_shaveCylinder_0 : decode cX2_shaveCylinder 0 = .ok (.aload_n 0, 1) := by decide +kernel
theorem dX2_shaveCylinder_1 : decode cX2_shaveCylinder 1 = .ok (.iload_n 1, 1) := by decide +kernel
theorem dX2_shaveCylinder_2 : decode cX2_shaveCylinder 2 = .ok (.invokevirtual 121, 3) := by decide +kernel
theorem dX2_shaveCylinder_5 : decode cX2_shaveCylinder 5 = .ok (.istore_n 2, 1) := by decide +kernel
theorem dX2_shaveCylinder_6 : decode cX2_shaveCylinder 6 = .ok (.iload_n 2, 1) := by decide +kernel
theorem dX2_shaveCylinder_7 : decode cX2_shaveCylinder 7 = .ok (.ifCond .ne 15, 3) := by decide +kernel
theorem dX2_shaveCylinder_10 : decode cX2_shaveCylinder 10 = .ok (.aload_n 0, 1) := by decide +kernel
theorem dX2_shaveCylinder_11 : decode cX2_shaveCylinder 11 = .ok (.dup, 1) := by decide +kernel
theorem dX2_shaveCylinder_12 : decode cX2_shaveCylinder 12 = .ok (.getfield 67, 3) := by decide +kernel
theorem dX2_shaveCylinder_15 : decode cX2_shaveCylinder 15 = .ok (.iconst 1, 1) := by decide +kernel
theorem dX2_shaveCylinder_16 : decode cX2_shaveCylinder 16 = .ok (.iadd, 1) := by decide +kernel
theorem dX2_shaveCylinder_17 : decode cX2_shaveCylinder 17 = .ok (.putfield 67, 3) := by decide +kernel
theorem dX2_shaveCylinder_20 : decode cX2_shaveCylinder 20 = .ok (.iconst (-1), 1) := by decide +kernel
theorem dX2_shaveCylinder_21 : decode cX2_shaveCylinder 21 = .ok (.ireturn, 1) := by decide +kernel
theorem dX2_shaveCylinder_22 : decode cX2_shaveCylinder 22 = .ok (.aload_n 0, 1) := by decide +kernel
theorem dX2_shaveCylinder_23 : decode cX2_shaveCylinder 23 = .ok (.getfield 33, 3) := by decide +kernel
theorem dX2_shaveCylinder_26 : decode cX2_shaveCylinder 26 = .ok (.iload_n 1, 1) := by decide +kernel
theorem dX2_shaveCylinder_27 : decode cX2_shaveCylinder 27 = .ok (.dup2, 1) := by decide +kernel
theorem dX2_shaveCylinder_28 : decode cX2_shaveCylinder 28 = .ok (.iaload, 1) := by decide +kernel
theorem dX2_shaveCylinder_29 : decode cX2_shaveCylinder 29 = .ok (.iload_n 2, 1) := by decide +kernel
theorem dX2_shaveCylinder_30 : decode cX2_shaveCylinder 30 = .ok (.isub, 1) := by decide +kernel
theorem dX2_shaveCylinder_31 : decode cX2_shaveCylinder 31 = .ok (.iastore, 1) := by decide +kernel
theorem dX2_shaveCylinder_32 : decode cX2_shaveCylinder 32 = .ok (.aload_n 0, 1) := by decide +kernel
theorem dX2_shaveCylinder_33 : decode cX2_shaveCylinder 33 = .ok (.dup, 1) := by decide +kernel
theorem dX2_shaveCylinder_34 : decode cX2_shaveCylinder 34 = .ok (.getfield 58, 3) := by decide +kernel
theorem dX2_shaveCylinder_37 : decode cX2_shaveCylinder 37 = .ok (.iload_n 2, 1) := by decide +kernel
theorem dX2_shaveCylinder_38 : decode cX2_shaveCylinder 38 = .ok (.iadd, 1) := by decide +kernel
theorem dX2_shaveCylinder_39 : decode cX2_shaveCylinder 39 = .ok (.putfield 58, 3) := by decide +kernel
theorem dX2_shaveCylinder_42 : decode cX2_shaveCylinder 42 = .ok (.aload_n 0, 1) := by decide +kernel
theorem dX2_shaveCylinder_43 : decode cX2_shaveCylinder 43 = .ok (.getfield 36, 3) := by decide +kernel
theorem dX2_shaveCylinder_46 : decode cX2_shaveCylinder 46 = .ok (.iload_n 1, 1) := by decide +kernel
theorem dX2_shaveCylinder_47 : decode cX2_shaveCylinder 47 = .ok (.dup2, 1) := by decide +kernel
theorem dX2_shaveCylinder_48 : decode cX2_shaveCylinder 48 = .ok (.iaload, 1) := by decide +kernel
theorem dX2_shaveCylinder_49 : decode cX2_shaveCylinder 49 = .ok (.iconst 1, 1) := by decide +kernel
theorem dX2_shaveCylinder_50 : decode cX2_shaveCylinder 50 = .ok (.iadd, 1) := by decide +kernel
theorem dX2_shaveCylinder_51 : decode cX2_shaveCylinder 51 = .ok (.iastore, 1) := by decide +kernel
theorem dX2_shaveCylinder_52 : decode cX2_shaveCylinder 52 = .ok (.aload_n 0, 1) := by decide +kernel
theorem dX2_shaveCylinder_53 : decode cX2_shaveCylinder 53 = .ok (.iload_n 1, 1) := by decide +kernel
theorem dX2_shaveCylinder_54 : decode cX2_shaveCylinder 54 = .ok (.invokevirtual 124, 3) := by decide +kernel
theorem dX2_shaveCylinder_57 : decode cX2_shaveCylinder 57 = .ok (.iload_n 2, 1) := by decide +kernel
theorem dX2_shaveCylinder_58 : decode cX2_shaveCylinder 58 = .ok (.ireturn, 1) := by decide +kernel
set_option maxRecDepth 20000 in
theorem ggX2_renewCylinder_X2_smoothTracks : GoodIn wsX2_renewCylinder wsX2_smoothTracks := goodIn_r _ [9, 10, 11, 12, 13, 14, 15, 16, 17, 18, 19, 20, 21, 22, 23, 24, 25, 26, 27, 28, 29, 30] (by decide +kernel) (by decide +kernel)
set_option maxRecDepth 20000 in
theorem gX2_renewCylinder_X2_smoothTracks : GoodIn wsX2_renewCylinder (wsV RX2 124 RX2 yX2_smoothTracks wsX2_smoothTracks) := goodIn_app (goodIn_of _ (by decide +kernel)) ggX2_renewCylinder_X2_smoothTracks
theorem dX2_renewCylinder_0 : decode cX2_renewCylinder 0 = .ok (.aload_n 0, 1) := by decide +kernel
theorem dX2_renewCylinder_1 : decode cX2_renewCylinder 1 = .ok (.getfield 33, 3) := by decide +kernel
theorem dX2_renewCylinder_4 : decode cX2_renewCylinder 4 = .ok (.iload_n 1, 1) := by decide +kernel
theorem dX2_renewCylinder_5 : decode cX2_renewCylinder 5 = .ok (.iaload, 1) := by decide +kernel
theorem dX2_renewCylinder_6 : decode cX2_renewCylinder 6 = .ok (.istore_n 3, 1) := by decide +kernel
theorem dX2_renewCylinder_7 : decode cX2_renewCylinder 7 = .ok (.aload_n 0, 1) := by decide +kernel
theorem dX2_renewCylinder_8 : decode cX2_renewCylinder 8 = .ok (.getfield 33, 3) := by decide +kernel
theorem dX2_renewCylinder_11 : decode cX2_renewCylinder 11 = .ok (.iload_n 1, 1) := by decide +kernel
theorem dX2_renewCylinder_12 : decode cX2_renewCylinder 12 = .ok (.iload_n 2, 1) := by decide +kernel
theorem dX2_renewCylinder_13 : decode cX2_renewCylinder 13 = .ok (.iastore, 1) := by decide +kernel
theorem dX2_renewCylinder_14 : decode cX2_renewCylinder 14 = .ok (.aload_n 0, 1) := by decide +kernel
theorem dX2_renewCylinder_15 : decode cX2_renewCylinder 15 = .ok (.dup, 1) := by decide +kernel
theorem dX2_renewCylinder_16 : decode cX2_renewCylinder 16 = .ok (.getfield 64, 3) := by decide +kernel
theorem dX2_renewCylinder_19 : decode cX2_renewCylinder 19 = .ok (.iload_n 3, 1) := by decide +kernel
theorem dX2_renewCylinder_20 : decode cX2_renewCylinder 20 = .ok (.iadd, 1) := by decide +kernel
theorem dX2_renewCylinder_21 : decode cX2_renewCylinder 21 = .ok (.putfield 64, 3) := by decide +kernel
theorem dX2_renewCylinder_24 : decode cX2_renewCylinder 24 = .ok (.aload_n 0, 1) := by decide +kernel
theorem dX2_renewCylinder_25 : decode cX2_renewCylinder 25 = .ok (.dup, 1) := by decide +kernel
theorem dX2_renewCylinder_26 : decode cX2_renewCylinder 26 = .ok (.getfield 61, 3) := by decide +kernel
theorem dX2_renewCylinder_29 : decode cX2_renewCylinder 29 = .ok (.iload_n 2, 1) := by decide +kernel
theorem dX2_renewCylinder_30 : decode cX2_renewCylinder 30 = .ok (.iadd, 1) := by decide +kernel
theorem dX2_renewCylinder_31 : decode cX2_renewCylinder 31 = .ok (.putfield 61, 3) := by decide +kernel
theorem dX2_renewCylinder_34 : decode cX2_renewCylinder 34 = .ok (.aload_n 0, 1) := by decide +kernel
theorem dX2_renewCylinder_35 : decode cX2_renewCylinder 35 = .ok (.getfield 36, 3) := by decide +kernel
theorem dX2_renewCylinder_38 : decode cX2_renewCylinder 38 = .ok (.iload_n 1, 1) := by decide +kernel
theorem dX2_renewCylinder_39 : decode cX2_renewCylinder 39 = .ok (.iconst 0, 1) := by decide +kernel
theorem dX2_renewCylinder_40 : decode cX2_renewCylinder 40 = .ok (.iastore, 1) := by decide +kernel
theorem dX2_renewCylinder_41 : decode cX2_renewCylinder 41 = .ok (.aload_n 0, 1) := by decide +kernel
theorem dX2_renewCylinder_42 : decode cX2_renewCylinder 42 = .ok (.iload_n 1, 1) := by decide +kernel
theorem dX2_renewCylinder_43 : decode cX2_renewCylinder 43 = .ok (.invokevirtual 124, 3) := by decide +kernel
theorem dX2_renewCylinder_46 : decode cX2_renewCylinder 46 = .ok (.iload_n 3, 1) := by decide +kernel
theorem dX2_renewCylinder_47 : decode cX2_renewCylinder 47 = .ok (.ireturn, 1) := by decide +kernel
theorem dX2_smoothTracks_0 : decode cX2_smoothTracks 0 = .ok (.iload_n 1, 1) := by decide +kernel
theorem dX2_smoothTracks_1 : decode cX2_smoothTracks 1 = .ok (.iconst 4, 1) := by decide +kernel
theorem dX2_smoothTracks_2 : decode cX2_smoothTracks 2 = .ok (.imul, 1) := by decide +kernel
theorem dX2_smoothTracks_3 : decode cX2_smoothTracks 3 = .ok (.istore_n 2, 1) := by decide +kernel
theorem dX2_smoothTracks_4 : decode cX2_smoothTracks 4 = .ok (.iload_n 2, 1) := by decide +kernel
theorem dX2_smoothTracks_5 : decode cX2_smoothTracks 5 = .ok (.istore_n 3, 1) := by decide +kernel
theorem dX2_smoothTracks_6 : decode cX2_smoothTracks 6 = .ok (.iload_n 3, 1) := by decide +kernel
theorem dX2_smoothTracks_7 : decode cX2_smoothTracks 7 = .ok (.iload_n 2, 1) := by decide +kernel
theorem dX2_smoothTracks_8 : decode cX2_smoothTracks 8 = .ok (.iconst 4, 1) := by decide +kernel
theorem dX2_smoothTracks_9 : decode cX2_smoothTracks 9 = .ok (.iadd, 1) := by decide +kernel
theorem dX2_smoothTracks_10 : decode cX2_smoothTracks 10 = .ok (.if_icmp .ge 23, 3) := by decide +kernel
theorem dX2_smoothTracks_13 : decode cX2_smoothTracks 13 = .ok (.aload_n 0, 1) := by decide +kernel
theorem dX2_smoothTracks_14 : decode cX2_smoothTracks 14 = .ok (.getfield 9, 3) := by decide +kernel
theorem dX2_smoothTracks_17 : decode cX2_smoothTracks 17 = .ok (.iload_n 3, 1) := by decide +kernel
theorem dX2_smoothTracks_18 : decode cX2_smoothTracks 18 = .ok (.iconst 0, 1) := by decide +kernel
theorem dX2_smoothTracks_19 : decode cX2_smoothTracks 19 = .ok (.iastore, 1) := by decide +kernel
theorem dX2_smoothTracks_20 : decode cX2_smoothTracks 20 = .ok (.aload_n 0, 1) := by decide +kernel
theorem dX2_smoothTracks_21 : decode cX2_smoothTracks 21 = .ok (.getfield 24, 3) := by decide +kernel
theorem dX2_smoothTracks_24 : decode cX2_smoothTracks 24 = .ok (.iload_n 3, 1) := by decide +kernel
theorem dX2_smoothTracks_25 : decode cX2_smoothTracks 25 = .ok (.iconst (-1), 1) := by decide +kernel
theorem dX2_smoothTracks_26 : decode cX2_smoothTracks 26 = .ok (.iastore, 1) := by decide +kernel
theorem dX2_smoothTracks_27 : decode cX2_smoothTracks 27 = .ok (.iinc 3 1, 3) := by decide +kernel
theorem dX2_smoothTracks_30 : decode cX2_smoothTracks 30 = .ok (.goto (-24), 3) := by decide +kernel
theorem dX2_smoothTracks_33 : decode cX2_smoothTracks 33 = .ok (.return_, 1) := by decide +kernel
theorem dX2_windUp_0 : decode cX2_windUp 0 = .ok (.bipush 100, 2) := by decide +kernel
theorem dX2_windUp_2 : decode cX2_windUp 2 = .ok (.aload_n 0, 1) := by decide +kernel
theorem dX2_windUp_3 : decode cX2_windUp 3 = .ok (.getfield 43, 3) := by decide +kernel
theorem dX2_windUp_6 : decode cX2_windUp 6 = .ok (.isub, 1) := by decide +kernel
theorem dX2_windUp_7 : decode cX2_windUp 7 = .ok (.istore_n 1, 1) := by decide +kernel
theorem dX2_windUp_8 : decode cX2_windUp 8 = .ok (.aload_n 0, 1) := by decide +kernel
theorem dX2_windUp_9 : decode cX2_windUp 9 = .ok (.bipush 100, 2) := by decide +kernel
theorem dX2_windUp_11 : decode cX2_windUp 11 = .ok (.putfield 43, 3) := by decide +kernel
theorem dX2_windUp_14 : decode cX2_windUp 14 = .ok (.iload_n 1, 1) := by decide +kernel
theorem dX2_windUp_15 : decode cX2_windUp 15 = .ok (.ireturn, 1) := by decide +kernel
theorem dX2_sharpenPoint_0 : decode cX2_sharpenPoint 0 = .ok (.bipush 100, 2) := by decide +kernel
theorem dX2_sharpenPoint_2 : decode cX2_sharpenPoint 2 = .ok (.aload_n 0, 1) := by decide +kernel
theorem dX2_sharpenPoint_3 : decode cX2_sharpenPoint 3 = .ok (.getfield 39, 3) := by decide +kernel
theorem dX2_sharpenPoint_6 : decode cX2_sharpenPoint 6 = .ok (.isub, 1) := by decide +kernel
theorem dX2_sharpenPoint_7 : decode cX2_sharpenPoint 7 = .ok (.istore_n 1, 1) := by decide +kernel
theorem dX2_sharpenPoint_8 : decode cX2_sharpenPoint 8 = .ok (.aload_n 0, 1) := by decide +kernel
theorem dX2_sharpenPoint_9 : decode cX2_sharpenPoint 9 = .ok (.bipush 100, 2) := by decide +kernel
theorem dX2_sharpenPoint_11 : decode cX2_sharpenPoint 11 = .ok (.putfield 39, 3) := by decide +kernel
theorem dX2_sharpenPoint_14 : decode cX2_sharpenPoint 14 = .ok (.iload_n 1, 1) := by decide +kernel
theorem dX2_sharpenPoint_15 : decode cX2_sharpenPoint 15 = .ok (.ireturn, 1) := by decide +kernel
set_option maxRecDepth 20000 in
theorem ggX2_trackProperty_X2_isCut : GoodIn wsX2_trackProperty wsX2_isCut := goodIn_r _ [12, 1, 13, 14, 15, 16, 17, 18, 19, 20, 21, 22, 23, 24, 25, 26, 27, 28, 29, 30, 31] (by decide +kernel) (by decide +kernel)
set_option maxRecDepth 20000 in
theorem gX2_trackProperty_X2_isCut : GoodIn wsX2_trackProperty (wsV RX2 76 RX2 yX2_isCut wsX2_isCut) := goodIn_app (goodIn_of _ (by decide +kernel)) ggX2_trackProperty_X2_isCut
theorem dX2_trackProperty_0 : decode cX2_trackProperty 0 = .ok (.iload_n 2, 1) := by decide +kernel
theorem dX2_trackProperty_1 : decode cX2_trackProperty 1 = .ok (.ifCond .ne 10, 3) := by decide +kernel
theorem dX2_trackProperty_4 : decode cX2_trackProperty 4 = .ok (.aload_n 0, 1) := by decide +kernel
theorem dX2_trackProperty_5 : decode cX2_trackProperty 5 = .ok (.getfield 9, 3) := by decide +kernel
theorem dX2_trackProperty_8 : decode cX2_trackProperty 8 = .ok (.iload_n 1, 1) := by decide +kernel
theorem dX2_trackProperty_9 : decode cX2_trackProperty 9 = .ok (.iaload, 1) := by decide +kernel
theorem dX2_trackProperty_10 : decode cX2_trackProperty 10 = .ok (.ireturn, 1) := by decide +kernel
theorem dX2_trackProperty_11 : decode cX2_trackProperty 11 = .ok (.aload_n 0, 1) := by decide +kernel
theorem dX2_trackProperty_12 : decode cX2_trackProperty 12 = .ok (.iload_n 1, 1) := by decide +kernel
theorem dX2_trackProperty_13 : decode cX2_trackProperty 13 = .ok (.invokevirtual 76, 3) := by decide +kernel
theorem dX2_trackProperty_16 : decode cX2_trackProperty 16 = .ok (.ifCond .ne 5, 3) := by decide +kernel
theorem dX2_trackProperty_19 : decode cX2_trackProperty 19 = .ok (.iconst (-1), 1) := by decide +kernel
theorem dX2_trackProperty_20 : decode cX2_trackProperty 20 = .ok (.ireturn, 1) := by decide +kernel
theorem dX2_trackProperty_21 : decode cX2_trackProperty 21 = .ok (.iload_n 2, 1) := by decide +kernel
theorem dX2_trackProperty_22 : decode cX2_trackProperty 22 = .ok (.tableswitch 69 1 5 #[34, 41, 48, 55, 62], 34) := by decide +kernel
theorem dX2_trackProperty_56 : decode cX2_trackProperty 56 = .ok (.aload_n 0, 1) := by decide +kernel
theorem dX2_trackProperty_57 : decode cX2_trackProperty 57 = .ok (.getfield 15, 3) := by decide +kernel
theorem dX2_trackProperty_60 : decode cX2_trackProperty 60 = .ok (.iload_n 1, 1) := by decide +kernel
theorem dX2_trackProperty_61 : decode cX2_trackProperty 61 = .ok (.iaload, 1) := by decide +kernel
theorem dX2_trackProperty_62 : decode cX2_trackProperty 62 = .ok (.ireturn, 1) := by decide +kernel
theorem dX2_trackProperty_63 : decode cX2_trackProperty 63 = .ok (.aload_n 0, 1) := by decide +kernel
theorem dX2_trackProperty_64 : decode cX2_trackProperty 64 = .ok (.getfield 18, 3) := by decide +kernel
theorem dX2_trackProperty_67 : decode cX2_trackProperty 67 = .ok (.iload_n 1, 1) := by decide +kernel
theorem dX2_trackProperty_68 : decode cX2_trackProperty 68 = .ok (.iaload, 1) := by decide +kernel
theorem dX2_trackProperty_69 : decode cX2_trackProperty 69 = .ok (.ireturn, 1) := by decide +kernel
theorem dX2_trackProperty_70 : decode cX2_trackProperty 70 = .ok (.aload_n 0, 1) := by decide +kernel
theorem dX2_trackProperty_71 : decode cX2_trackProperty 71 = .ok (.getfield 21, 3) := by decide +kernel
theorem dX2_trackProperty_74 : decode cX2_trackProperty 74 = .ok (.iload_n 1, 1) := by decide +kernel
theorem dX2_trackProperty_75 : decode cX2_trackProperty 75 = .ok (.iaload, 1) := by decide +kernel
theorem dX2_trackProperty_76 : decode cX2_trackProperty 76 = .ok (.ireturn, 1) := by decide +kernel
theorem dX2_trackProperty_77 : decode cX2_trackProperty 77 = .ok (.aload_n 0, 1) := by decide +kernel
theorem dX2_trackProperty_78 : decode cX2_trackProperty 78 = .ok (.getfield 24, 3) := by decide +kernel
theorem dX2_trackProperty_81 : decode cX2_trackProperty 81 = .ok (.iload_n 1, 1) := by decide +kernel
theorem dX2_trackProperty_82 : decode cX2_trackProperty 82 = .ok (.iaload, 1) := by decide +kernel
theorem dX2_trackProperty_83 : decode cX2_trackProperty 83 = .ok (.ireturn, 1) := by decide +kernel
theorem dX2_trackProperty_84 : decode cX2_trackProperty 84 = .ok (.aload_n 0, 1) := by decide +kernel
theorem dX2_trackProperty_85 : decode cX2_trackProperty 85 = .ok (.getfield 27, 3) := by decide +kernel
theorem dX2_trackProperty_88 : decode cX2_trackProperty 88 = .ok (.iload_n 1, 1) := by decide +kernel
theorem dX2_trackProperty_89 : decode cX2_trackProperty 89 = .ok (.iaload, 1) := by decide +kernel
theorem dX2_trackProperty_90 : decode cX2_trackProperty 90 = .ok (.ireturn, 1) := by decide +kernel
theorem dX2_trackProperty_91 : decode cX2_trackProperty 91 = .ok (.aload_n 0, 1) := by decide +kernel
theorem dX2_trackProperty_92 : decode cX2_trackProperty 92 = .ok (.getfield 30, 3) := by decide +kernel
theorem dX2_trackProperty_95 : decode cX2_trackProperty 95 = .ok (.iload_n 1, 1) := by decide +kernel
theorem dX2_trackProperty_96 : decode cX2_trackProperty 96 = .ok (.iaload, 1) := by decide +kernel
theorem dX2_trackProperty_97 : decode cX2_trackProperty 97 = .ok (.ireturn, 1) := by decide +kernel
set_option maxRecDepth 20000 in
theorem ggX2_cylinderProperty_X2_cutTracksOn : GoodIn wsX2_cylinderProperty wsX2_cutTracksOn := goodIn_r _ [7, 8, 9, 10, 6, 11, 12, 26, 27, 28, 29, 30, 31, 32, 33, 34, 35, 36, 37, 38, 39, 40, 41, 42, 43, 44] (by decide +kernel) (by decide +kernel)
set_option maxRecDepth 20000 in
theorem gX2_cylinderProperty_X2_cutTracksOn : GoodIn wsX2_cylinderProperty (wsV RX2 128 RX2 yX2_cutTracksOn wsX2_cutTracksOn) := goodIn_app (goodIn_of _ (by decide +kernel)) ggX2_cylinderProperty_X2_cutTracksOn
set_option maxRecDepth 20000 in
theorem ggX2_cylinderProperty_X2_greatestDepth : GoodIn wsX2_cylinderProperty wsX2_greatestDepth := goodIn_r _ [16, 12, 17, 18, 19, 20, 26, 27, 28, 29, 30, 31, 32, 33, 34, 35, 36, 37, 38, 39, 40, 41, 42, 43, 44] (by decide +kernel) (by decide +kernel)
set_option maxRecDepth 20000 in
theorem gX2_cylinderProperty_X2_greatestDepth : GoodIn wsX2_cylinderProperty (wsV RX2 121 RX2 yX2_greatestDepth wsX2_greatestDepth) := goodIn_app (goodIn_of _ (by decide +kernel)) ggX2_cylinderProperty_X2_greatestDepth
set_option maxRecDepth 20000 in
theorem ggX2_cylinderProperty_X2_clearestTrackOn : GoodIn wsX2_cylinderProperty wsX2_clearestTrackOn := goodIn_r _ [24, 25, 8, 9, 10, 6, 11, 12, 26, 27, 28, 29, 30, 31, 32, 33, 34, 35, 36, 37, 38, 39, 40, 41, 42, 43, 44] (by decide +kernel) (by decide +kernel)
set_option maxRecDepth 20000 in
theorem gX2_cylinderProperty_X2_clearestTrackOn : GoodIn wsX2_cylinderProperty (wsV RX2 131 RX2 yX2_clearestTrackOn wsX2_clearestTrackOn) := goodIn_app (goodIn_of _ (by decide +kernel)) ggX2_cylinderProperty_X2_clearestTrackOn
theorem dX2_cylinderProperty_0 : decode cX2_cylinderProperty 0 = .ok (.iload_n 2, 1) := by decide +kernel
theorem dX2_cylinderProperty_1 : decode cX2_cylinderProperty 1 = .ok (.tableswitch 56 0 3 #[31, 38, 44, 50], 31) := by decide +kernel
theorem dX2_cylinderProperty_32 : decode cX2_cylinderProperty 32 = .ok (.aload_n 0, 1) := by decide +kernel
theorem dX2_cylinderProperty_33 : decode cX2_cylinderProperty 33 = .ok (.getfield 33, 3) := by decide +kernel
theorem dX2_cylinderProperty_36 : decode cX2_cylinderProperty 36 = .ok (.iload_n 1, 1) := by decide +kernel
theorem dX2_cylinderProperty_37 : decode cX2_cylinderProperty 37 = .ok (.iaload, 1) := by decide +kernel
theorem dX2_cylinderProperty_38 : decode cX2_cylinderProperty 38 = .ok (.ireturn, 1) := by decide +kernel
theorem dX2_cylinderProperty_39 : decode cX2_cylinderProperty 39 = .ok (.aload_n 0, 1) := by decide +kernel
theorem dX2_cylinderProperty_40 : decode cX2_cylinderProperty 40 = .ok (.iload_n 1, 1) := by decide +kernel
theorem dX2_cylinderProperty_41 : decode cX2_cylinderProperty 41 = .ok (.invokevirtual 128, 3) := by decide +kernel
theorem dX2_cylinderProperty_44 : decode cX2_cylinderProperty 44 = .ok (.ireturn, 1) := by decide +kernel
theorem dX2_cylinderProperty_45 : decode cX2_cylinderProperty 45 = .ok (.aload_n 0, 1) := by decide +kernel
theorem dX2_cylinderProperty_46 : decode cX2_cylinderProperty 46 = .ok (.iload_n 1, 1) := by decide +kernel
theorem dX2_cylinderProperty_47 : decode cX2_cylinderProperty 47 = .ok (.invokevirtual 121, 3) := by decide +kernel
theorem dX2_cylinderProperty_50 : decode cX2_cylinderProperty 50 = .ok (.ireturn, 1) := by decide +kernel
theorem dX2_cylinderProperty_51 : decode cX2_cylinderProperty 51 = .ok (.aload_n 0, 1) := by decide +kernel
theorem dX2_cylinderProperty_52 : decode cX2_cylinderProperty 52 = .ok (.iload_n 1, 1) := by decide +kernel
theorem dX2_cylinderProperty_53 : decode cX2_cylinderProperty 53 = .ok (.invokevirtual 131, 3) := by decide +kernel
theorem dX2_cylinderProperty_56 : decode cX2_cylinderProperty 56 = .ok (.ireturn, 1) := by decide +kernel
theorem dX2_cylinderProperty_57 : decode cX2_cylinderProperty 57 = .ok (.aload_n 0, 1) := by decide +kernel
theorem dX2_cylinderProperty_58 : decode cX2_cylinderProperty 58 = .ok (.getfield 36, 3) := by decide +kernel
theorem dX2_cylinderProperty_61 : decode cX2_cylinderProperty 61 = .ok (.iload_n 1, 1) := by decide +kernel
theorem dX2_cylinderProperty_62 : decode cX2_cylinderProperty 62 = .ok (.iaload, 1) := by decide +kernel
theorem dX2_cylinderProperty_63 : decode cX2_cylinderProperty 63 = .ok (.ireturn, 1) := by decide +kernel
set_option maxRecDepth 20000 in
theorem ggX2_number_X2_machineFlutter : GoodIn wsX2_number wsX2_machineFlutter := goodIn_r _ [14, 2, 33, 34, 35, 36, 37, 38, 39, 40, 41, 42, 43, 44, 45, 46, 47, 48, 49, 50, 51] (by decide +kernel) (by decide +kernel)
set_option maxRecDepth 20000 in
theorem gX2_number_X2_machineFlutter : GoodIn wsX2_number (wsV RX2 88 RX2 yX2_machineFlutter wsX2_machineFlutter) := goodIn_app (goodIn_of _ (by decide +kernel)) ggX2_number_X2_machineFlutter
set_option maxRecDepth 20000 in
theorem ggX2_number_X2_cutTracks : GoodIn wsX2_number wsX2_cutTracks := goodIn_r _ [18, 19, 20, 21, 13, 22, 23, 24, 25, 26, 27, 33, 34, 35, 36, 37, 38, 39, 40, 41, 42, 43, 44, 45, 46, 47, 48, 49, 50, 51] (by decide +kernel) (by decide +kernel)
set_option maxRecDepth 20000 in
theorem gX2_number_X2_cutTracks : GoodIn wsX2_number (wsV RX2 134 RX2 yX2_cutTracks wsX2_cutTracks) := goodIn_app (goodIn_of _ (by decide +kernel)) ggX2_number_X2_cutTracks
set_option maxRecDepth 20000 in
theorem ggX2_number_X2_layersTogether : GoodIn wsX2_number wsX2_layersTogether := goodIn_r _ [31, 32, 33, 34, 35, 36, 37, 38, 39, 40, 41, 42, 43, 44, 45, 46, 47, 48, 49, 50, 51] (by decide +kernel) (by decide +kernel)
set_option maxRecDepth 20000 in
theorem gX2_number_X2_layersTogether : GoodIn wsX2_number (wsV RX2 137 RX2 yX2_layersTogether wsX2_layersTogether) := goodIn_app (goodIn_of _ (by decide +kernel)) ggX2_number_X2_layersTogether
theorem dX2_number_0 : decode cX2_number 0 = .ok (.iload_n 1, 1) := by decide +kernel
theorem dX2_number_1 : decode cX2_number 1 = .ok (.tableswitch 114 0 10 #[59, 64, 69, 74, 79, 84, 89, 94, 99, 104, 109], 59) := by decide +kernel
theorem dX2_number_60 : decode cX2_number 60 = .ok (.aload_n 0, 1) := by decide +kernel
theorem dX2_number_61 : decode cX2_number 61 = .ok (.getfield 39, 3) := by decide +kernel
theorem dX2_number_64 : decode cX2_number 64 = .ok (.ireturn, 1) := by decide +kernel
theorem dX2_number_65 : decode cX2_number 65 = .ok (.aload_n 0, 1) := by decide +kernel
theorem dX2_number_66 : decode cX2_number 66 = .ok (.getfield 43, 3) := by decide +kernel
theorem dX2_number_69 : decode cX2_number 69 = .ok (.ireturn, 1) := by decide +kernel
theorem dX2_number_70 : decode cX2_number 70 = .ok (.aload_n 0, 1) := by decide +kernel
theorem dX2_number_71 : decode cX2_number 71 = .ok (.invokevirtual 88, 3) := by decide +kernel
theorem dX2_number_74 : decode cX2_number 74 = .ok (.ireturn, 1) := by decide +kernel
theorem dX2_number_75 : decode cX2_number 75 = .ok (.aload_n 0, 1) := by decide +kernel
theorem dX2_number_76 : decode cX2_number 76 = .ok (.invokevirtual 134, 3) := by decide +kernel
theorem dX2_number_79 : decode cX2_number 79 = .ok (.ireturn, 1) := by decide +kernel
theorem dX2_number_80 : decode cX2_number 80 = .ok (.aload_n 0, 1) := by decide +kernel
theorem dX2_number_81 : decode cX2_number 81 = .ok (.getfield 49, 3) := by decide +kernel
theorem dX2_number_84 : decode cX2_number 84 = .ok (.ireturn, 1) := by decide +kernel
theorem dX2_number_85 : decode cX2_number 85 = .ok (.aload_n 0, 1) := by decide +kernel
theorem dX2_number_86 : decode cX2_number 86 = .ok (.getfield 52, 3) := by decide +kernel
theorem dX2_number_89 : decode cX2_number 89 = .ok (.ireturn, 1) := by decide +kernel
theorem dX2_number_90 : decode cX2_number 90 = .ok (.aload_n 0, 1) := by decide +kernel
theorem dX2_number_91 : decode cX2_number 91 = .ok (.getfield 55, 3) := by decide +kernel
theorem dX2_number_94 : decode cX2_number 94 = .ok (.ireturn, 1) := by decide +kernel
theorem dX2_number_95 : decode cX2_number 95 = .ok (.aload_n 0, 1) := by decide +kernel
theorem dX2_number_96 : decode cX2_number 96 = .ok (.invokevirtual 137, 3) := by decide +kernel
theorem dX2_number_99 : decode cX2_number 99 = .ok (.ireturn, 1) := by decide +kernel
theorem dX2_number_100 : decode cX2_number 100 = .ok (.aload_n 0, 1) := by decide +kernel
theorem dX2_number_101 : decode cX2_number 101 = .ok (.getfield 58, 3) := by decide +kernel
theorem dX2_number_104 : decode cX2_number 104 = .ok (.ireturn, 1) := by decide +kernel
theorem dX2_number_105 : decode cX2_number 105 = .ok (.aload_n 0, 1) := by decide +kernel
theorem dX2_number_106 : decode cX2_number 106 = .ok (.getfield 61, 3) := by decide +kernel
theorem dX2_number_109 : decode cX2_number 109 = .ok (.ireturn, 1) := by decide +kernel
theorem dX2_number_110 : decode cX2_number 110 = .ok (.aload_n 0, 1) := by decide +kernel
theorem dX2_number_111 : decode cX2_number 111 = .ok (.getfield 64, 3) := by decide +kernel
theorem dX2_number_114 : decode cX2_number 114 = .ok (.ireturn, 1) := by decide +kernel
theorem dX2_number_115 : decode cX2_number 115 = .ok (.aload_n 0, 1) := by decide +kernel
theorem dX2_number_116 : decode cX2_number 116 = .ok (.getfield 67, 3) := by decide +kernel
theorem dX2_number_119 : decode cX2_number 119 = .ok (.ireturn, 1) := by decide +kernel
set_option maxRecDepth 20000 in
theorem ggX2_cutTracksOn_X2_isCut : GoodIn wsX2_cutTracksOn wsX2_isCut := goodIn_r _ [5, 6, 7, 8, 9, 10, 11, 12, 13, 14, 15, 16, 17, 18, 19, 20, 21, 22, 23, 24, 25] (by decide +kernel) (by decide +kernel)
set_option maxRecDepth 20000 in
theorem gX2_cutTracksOn_X2_isCut : GoodIn wsX2_cutTracksOn (wsV RX2 76 RX2 yX2_isCut wsX2_isCut) := goodIn_app (goodIn_of _ (by decide +kernel)) ggX2_cutTracksOn_X2_isCut
theorem dX2_cutTracksOn_0 : decode cX2_cutTracksOn 0 = .ok (.iconst 0, 1) := by decide +kernel
theorem dX2_cutTracksOn_1 : decode cX2_cutTracksOn 1 = .ok (.istore_n 2, 1) := by decide +kernel
theorem dX2_cutTracksOn_2 : decode cX2_cutTracksOn 2 = .ok (.iload_n 1, 1) := by decide +kernel
theorem dX2_cutTracksOn_3 : decode cX2_cutTracksOn 3 = .ok (.iconst 4, 1) := by decide +kernel
theorem dX2_cutTracksOn_4 : decode cX2_cutTracksOn 4 = .ok (.imul, 1) := by decide +kernel
theorem dX2_cutTracksOn_5 : decode cX2_cutTracksOn 5 = .ok (.istore_n 3, 1) := by decide +kernel
theorem dX2_cutTracksOn_6 : decode cX2_cutTracksOn 6 = .ok (.iload_n 3, 1) := by decide +kernel
theorem dX2_cutTracksOn_7 : decode cX2_cutTracksOn 7 = .ok (.istore 4, 2) := by decide +kernel
theorem dX2_cutTracksOn_9 : decode cX2_cutTracksOn 9 = .ok (.iload 4, 2) := by decide +kernel
theorem dX2_cutTracksOn_11 : decode cX2_cutTracksOn 11 = .ok (.iload_n 3, 1) := by decide +kernel
theorem dX2_cutTracksOn_12 : decode cX2_cutTracksOn 12 = .ok (.iconst 4, 1) := by decide +kernel
theorem dX2_cutTracksOn_13 : decode cX2_cutTracksOn 13 = .ok (.iadd, 1) := by decide +kernel
theorem dX2_cutTracksOn_14 : decode cX2_cutTracksOn 14 = .ok (.if_icmp .ge 26, 3) := by decide +kernel
theorem dX2_cutTracksOn_17 : decode cX2_cutTracksOn 17 = .ok (.iload_n 2, 1) := by decide +kernel
theorem dX2_cutTracksOn_18 : decode cX2_cutTracksOn 18 = .ok (.aload_n 0, 1) := by decide +kernel
theorem dX2_cutTracksOn_19 : decode cX2_cutTracksOn 19 = .ok (.iload 4, 2) := by decide +kernel
theorem dX2_cutTracksOn_21 : decode cX2_cutTracksOn 21 = .ok (.invokevirtual 76, 3) := by decide +kernel
theorem dX2_cutTracksOn_24 : decode cX2_cutTracksOn 24 = .ok (.ifCond .eq 7, 3) := by decide +kernel
theorem dX2_cutTracksOn_27 : decode cX2_cutTracksOn 27 = .ok (.iconst 1, 1) := by decide +kernel
theorem dX2_cutTracksOn_28 : decode cX2_cutTracksOn 28 = .ok (.goto 4, 3) := by decide +kernel
theorem dX2_cutTracksOn_31 : decode cX2_cutTracksOn 31 = .ok (.iconst 0, 1) := by decide +kernel
theorem dX2_cutTracksOn_32 : decode cX2_cutTracksOn 32 = .ok (.iadd, 1) := by decide +kernel
theorem dX2_cutTracksOn_33 : decode cX2_cutTracksOn 33 = .ok (.istore_n 2, 1) := by decide +kernel
theorem dX2_cutTracksOn_34 : decode cX2_cutTracksOn 34 = .ok (.iinc 4 1, 3) := by decide +kernel
theorem dX2_cutTracksOn_37 : decode cX2_cutTracksOn 37 = .ok (.goto (-28), 3) := by decide +kernel
theorem dX2_cutTracksOn_40 : decode cX2_cutTracksOn 40 = .ok (.iload_n 2, 1) := by decide +kernel
theorem dX2_cutTracksOn_41 : decode cX2_cutTracksOn 41 = .ok (.ireturn, 1) := by decide +kernel
set_option maxRecDepth 20000 in
theorem ggX2_cutTracks_X2_cutTracksOn : GoodIn wsX2_cutTracks wsX2_cutTracksOn := goodIn_r _ [5, 6, 7, 8, 4, 9, 10, 11, 12, 13, 14, 15, 16, 17, 18, 19, 20, 21, 22, 23, 24, 25, 26, 27, 28, 29] (by decide +kernel) (by decide +kernel)
set_option maxRecDepth 20000 in
theorem gX2_cutTracks_X2_cutTracksOn : GoodIn wsX2_cutTracks (wsV RX2 128 RX2 yX2_cutTracksOn wsX2_cutTracksOn) := goodIn_app (goodIn_of _ (by decide +kernel)) ggX2_cutTracks_X2_cutTracksOn
theorem dX2_cutTracks_0 : decode cX2_cutTracks 0 = .ok (.iconst 0, 1) := by decide +kernel
theorem dX2_cutTracks_1 : decode cX2_cutTracks 1 = .ok (.istore_n 1, 1) := by decide +kernel
theorem dX2_cutTracks_2 : decode cX2_cutTracks 2 = .ok (.iconst 0, 1) := by decide +kernel
theorem dX2_cutTracks_3 : decode cX2_cutTracks 3 = .ok (.istore_n 2, 1) := by decide +kernel
theorem dX2_cutTracks_4 : decode cX2_cutTracks 4 = .ok (.iload_n 2, 1) := by decide +kernel
theorem dX2_cutTracks_5 : decode cX2_cutTracks 5 = .ok (.bipush 6, 2) := by decide +kernel
theorem dX2_cutTracks_7 : decode cX2_cutTracks 7 = .ok (.if_icmp .ge 17, 3) := by decide +kernel
theorem dX2_cutTracks_10 : decode cX2_cutTracks 10 = .ok (.iload_n 1, 1) := by decide +kernel
theorem dX2_cutTracks_11 : decode cX2_cutTracks 11 = .ok (.aload_n 0, 1) := by decide +kernel
theorem dX2_cutTracks_12 : decode cX2_cutTracks 12 = .ok (.iload_n 2, 1) := by decide +kernel
theorem dX2_cutTracks_13 : decode cX2_cutTracks 13 = .ok (.invokevirtual 128, 3) := by decide +kernel
theorem dX2_cutTracks_16 : decode cX2_cutTracks 16 = .ok (.iadd, 1) := by decide +kernel
theorem dX2_cutTracks_17 : decode cX2_cutTracks 17 = .ok (.istore_n 1, 1) := by decide +kernel
theorem dX2_cutTracks_18 : decode cX2_cutTracks 18 = .ok (.iinc 2 1, 3) := by decide +kernel
theorem dX2_cutTracks_21 : decode cX2_cutTracks 21 = .ok (.goto (-17), 3) := by decide +kernel
theorem dX2_cutTracks_24 : decode cX2_cutTracks 24 = .ok (.iload_n 1, 1) := by decide +kernel
theorem dX2_cutTracks_25 : decode cX2_cutTracks 25 = .ok (.ireturn, 1) := by decide +kernel
theorem dX2_greatestDepth_0 : decode cX2_greatestDepth 0 = .ok (.iconst 0, 1) := by decide +kernel
theorem dX2_greatestDepth_1 : decode cX2_greatestDepth 1 = .ok (.istore_n 2, 1) := by decide +kernel
theorem dX2_greatestDepth_2 : decode cX2_greatestDepth 2 = .ok (.iload_n 1, 1) := by decide +kernel
theorem dX2_greatestDepth_3 : decode cX2_greatestDepth 3 = .ok (.iconst 4, 1) := by decide +kernel
theorem dX2_greatestDepth_4 : decode cX2_greatestDepth 4 = .ok (.imul, 1) := by decide +kernel
theorem dX2_greatestDepth_5 : decode cX2_greatestDepth 5 = .ok (.istore_n 3, 1) := by decide +kernel
theorem dX2_greatestDepth_6 : decode cX2_greatestDepth 6 = .ok (.iload_n 3, 1) := by decide +kernel
theorem dX2_greatestDepth_7 : decode cX2_greatestDepth 7 = .ok (.istore 4, 2) := by decide +kernel
theorem dX2_greatestDepth_9 : decode cX2_greatestDepth 9 = .ok (.iload 4, 2) := by decide +kernel
theorem dX2_greatestDepth_11 : decode cX2_greatestDepth 11 = .ok (.iload_n 3, 1) := by decide +kernel
theorem dX2_greatestDepth_12 : decode cX2_greatestDepth 12 = .ok (.iconst 4, 1) := by decide +kernel
theorem dX2_greatestDepth_13 : decode cX2_greatestDepth 13 = .ok (.iadd, 1) := by decide +kernel
theorem dX2_greatestDepth_14 : decode cX2_greatestDepth 14 = .ok (.if_icmp .ge 21, 3) := by decide +kernel
theorem dX2_greatestDepth_17 : decode cX2_greatestDepth 17 = .ok (.iload_n 2, 1) := by decide +kernel
theorem dX2_greatestDepth_18 : decode cX2_greatestDepth 18 = .ok (.aload_n 0, 1) := by decide +kernel
theorem dX2_greatestDepth_19 : decode cX2_greatestDepth 19 = .ok (.getfield 9, 3) := by decide +kernel
theorem dX2_greatestDepth_22 : decode cX2_greatestDepth 22 = .ok (.iload 4, 2) := by decide +kernel
theorem dX2_greatestDepth_24 : decode cX2_greatestDepth 24 = .ok (.iaload, 1) := by decide +kernel
theorem dX2_greatestDepth_25 : decode cX2_greatestDepth 25 = .ok (.invokestatic 118, 3) := by decide +kernel
theorem dX2_greatestDepth_28 : decode cX2_greatestDepth 28 = .ok (.istore_n 2, 1) := by decide +kernel
theorem dX2_greatestDepth_29 : decode cX2_greatestDepth 29 = .ok (.iinc 4 1, 3) := by decide +kernel
theorem dX2_greatestDepth_32 : decode cX2_greatestDepth 32 = .ok (.goto (-23), 3) := by decide +kernel
theorem dX2_greatestDepth_35 : decode cX2_greatestDepth 35 = .ok (.iload_n 2, 1) := by decide +kernel
theorem dX2_greatestDepth_36 : decode cX2_greatestDepth 36 = .ok (.ireturn, 1) := by decide +kernel
set_option maxRecDepth 20000 in
theorem ggX2_clearestTrackOn_X2_isCut : GoodIn wsX2_clearestTrackOn wsX2_isCut := goodIn_r _ [6, 7, 8, 9, 10, 11, 12, 13, 14, 15, 16, 17, 18, 19, 20, 21, 22, 23, 24, 25, 26] (by decide +kernel) (by decide +kernel)
set_option maxRecDepth 20000 in
theorem gX2_clearestTrackOn_X2_isCut : GoodIn wsX2_clearestTrackOn (wsV RX2 76 RX2 yX2_isCut wsX2_isCut) := goodIn_app (goodIn_of _ (by decide +kernel)) ggX2_clearestTrackOn_X2_isCut
theorem dX2_clearestTrackOn_0 : decode cX2_clearestTrackOn 0 = .ok (.iconst (-1), 1) := by decide +kernel
theorem dX2_clearestTrackOn_1 : decode cX2_clearestTrackOn 1 = .ok (.istore_n 2, 1) := by decide +kernel
theorem dX2_clearestTrackOn_2 : decode cX2_clearestTrackOn 2 = .ok (.iload_n 1, 1) := by decide +kernel
theorem dX2_clearestTrackOn_3 : decode cX2_clearestTrackOn 3 = .ok (.iconst 4, 1) := by decide +kernel
theorem dX2_clearestTrackOn_4 : decode cX2_clearestTrackOn 4 = .ok (.imul, 1) := by decide +kernel
theorem dX2_clearestTrackOn_5 : decode cX2_clearestTrackOn 5 = .ok (.istore_n 3, 1) := by decide +kernel
theorem dX2_clearestTrackOn_6 : decode cX2_clearestTrackOn 6 = .ok (.iload_n 3, 1) := by decide +kernel
theorem dX2_clearestTrackOn_7 : decode cX2_clearestTrackOn 7 = .ok (.istore 4, 2) := by decide +kernel
theorem dX2_clearestTrackOn_9 : decode cX2_clearestTrackOn 9 = .ok (.iload 4, 2) := by decide +kernel
theorem dX2_clearestTrackOn_11 : decode cX2_clearestTrackOn 11 = .ok (.iload_n 3, 1) := by decide +kernel
theorem dX2_clearestTrackOn_12 : decode cX2_clearestTrackOn 12 = .ok (.iconst 4, 1) := by decide +kernel
theorem dX2_clearestTrackOn_13 : decode cX2_clearestTrackOn 13 = .ok (.iadd, 1) := by decide +kernel
theorem dX2_clearestTrackOn_14 : decode cX2_clearestTrackOn 14 = .ok (.if_icmp .ge 42, 3) := by decide +kernel
theorem dX2_clearestTrackOn_17 : decode cX2_clearestTrackOn 17 = .ok (.aload_n 0, 1) := by decide +kernel
theorem dX2_clearestTrackOn_18 : decode cX2_clearestTrackOn 18 = .ok (.iload 4, 2) := by decide +kernel
theorem dX2_clearestTrackOn_20 : decode cX2_clearestTrackOn 20 = .ok (.invokevirtual 76, 3) := by decide +kernel
theorem dX2_clearestTrackOn_23 : decode cX2_clearestTrackOn 23 = .ok (.ifCond .eq 27, 3) := by decide +kernel
theorem dX2_clearestTrackOn_26 : decode cX2_clearestTrackOn 26 = .ok (.iload_n 2, 1) := by decide +kernel
theorem dX2_clearestTrackOn_27 : decode cX2_clearestTrackOn 27 = .ok (.iconst (-1), 1) := by decide +kernel
theorem dX2_clearestTrackOn_28 : decode cX2_clearestTrackOn 28 = .ok (.if_icmp .eq 19, 3) := by decide +kernel
theorem dX2_clearestTrackOn_31 : decode cX2_clearestTrackOn 31 = .ok (.aload_n 0, 1) := by decide +kernel
theorem dX2_clearestTrackOn_32 : decode cX2_clearestTrackOn 32 = .ok (.getfield 15, 3) := by decide +kernel
theorem dX2_clearestTrackOn_35 : decode cX2_clearestTrackOn 35 = .ok (.iload 4, 2) := by decide +kernel
theorem dX2_clearestTrackOn_37 : decode cX2_clearestTrackOn 37 = .ok (.iaload, 1) := by decide +kernel
theorem dX2_clearestTrackOn_38 : decode cX2_clearestTrackOn 38 = .ok (.aload_n 0, 1) := by decide +kernel
theorem dX2_clearestTrackOn_39 : decode cX2_clearestTrackOn 39 = .ok (.getfield 15, 3) := by decide +kernel
theorem dX2_clearestTrackOn_42 : decode cX2_clearestTrackOn 42 = .ok (.iload_n 2, 1) := by decide +kernel
theorem dX2_clearestTrackOn_43 : decode cX2_clearestTrackOn 43 = .ok (.iaload, 1) := by decide +kernel
theorem dX2_clearestTrackOn_44 : decode cX2_clearestTrackOn 44 = .ok (.if_icmp .le 6, 3) := by decide +kernel
theorem dX2_clearestTrackOn_47 : decode cX2_clearestTrackOn 47 = .ok (.iload 4, 2) := by decide +kernel
theorem dX2_clearestTrackOn_49 : decode cX2_clearestTrackOn 49 = .ok (.istore_n 2, 1) := by decide +kernel
theorem dX2_clearestTrackOn_50 : decode cX2_clearestTrackOn 50 = .ok (.iinc 4 1, 3) := by decide +kernel
theorem dX2_clearestTrackOn_53 : decode cX2_clearestTrackOn 53 = .ok (.goto (-44), 3) := by decide +kernel
theorem dX2_clearestTrackOn_56 : decode cX2_clearestTrackOn 56 = .ok (.iload_n 2, 1) := by decide +kernel
theorem dX2_clearestTrackOn_57 : decode cX2_clearestTrackOn 57 = .ok (.ireturn, 1) := by decide +kernel
set_option maxRecDepth 20000 in
theorem ggX2_clearestTrack_X2_isCut : GoodIn wsX2_clearestTrack wsX2_isCut := goodIn_r _ [5, 6, 13, 14, 15, 16, 17, 18, 19, 20, 21, 22, 23, 24, 25, 26, 27, 28, 29, 30, 31] (by decide +kernel) (by decide +kernel)
set_option maxRecDepth 20000 in
theorem gX2_clearestTrack_X2_isCut : GoodIn wsX2_clearestTrack (wsV RX2 76 RX2 yX2_isCut wsX2_isCut) := goodIn_app (goodIn_of _ (by decide +kernel)) ggX2_clearestTrack_X2_isCut
set_option maxRecDepth 20000 in
theorem ggX2_clearestTrack_X2_soundsBetter : GoodIn wsX2_clearestTrack wsX2_soundsBetter := goodIn_r _ [10, 11, 12, 13, 14, 15, 16, 17, 18, 19, 20, 21, 22, 23, 24, 25, 26, 27, 28, 29, 30, 31] (by decide +kernel) (by decide +kernel)
set_option maxRecDepth 20000 in
theorem gX2_clearestTrack_X2_soundsBetter : GoodIn wsX2_clearestTrack (wsV RX2 140 RX2 yX2_soundsBetter wsX2_soundsBetter) := goodIn_app (goodIn_of _ (by decide +kernel)) ggX2_clearestTrack_X2_soundsBetter
theorem dX2_clearestTrack_0 : decode cX2_clearestTrack 0 = .ok (.iconst (-1), 1) := by decide +kernel
theorem dX2_clearestTrack_1 : decode cX2_clearestTrack 1 = .ok (.istore_n 1, 1) := by decide +kernel
theorem dX2_clearestTrack_2 : decode cX2_clearestTrack 2 = .ok (.iconst 0, 1) := by decide +kernel
theorem dX2_clearestTrack_3 : decode cX2_clearestTrack 3 = .ok (.istore_n 2, 1) := by decide +kernel
theorem dX2_clearestTrack_4 : decode cX2_clearestTrack 4 = .ok (.iload_n 2, 1) := by decide +kernel
theorem dX2_clearestTrack_5 : decode cX2_clearestTrack 5 = .ok (.bipush 24, 2) := by decide +kernel
theorem dX2_clearestTrack_7 : decode cX2_clearestTrack 7 = .ok (.if_icmp .ge 33, 3) := by decide +kernel
theorem dX2_clearestTrack_10 : decode cX2_clearestTrack 10 = .ok (.aload_n 0, 1) := by decide +kernel
theorem dX2_clearestTrack_11 : decode cX2_clearestTrack 11 = .ok (.iload_n 2, 1) := by decide +kernel
theorem dX2_clearestTrack_12 : decode cX2_clearestTrack 12 = .ok (.invokevirtual 76, 3) := by decide +kernel
theorem dX2_clearestTrack_15 : decode cX2_clearestTrack 15 = .ok (.ifCond .eq 19, 3) := by decide +kernel
theorem dX2_clearestTrack_18 : decode cX2_clearestTrack 18 = .ok (.iload_n 1, 1) := by decide +kernel
theorem dX2_clearestTrack_19 : decode cX2_clearestTrack 19 = .ok (.iconst (-1), 1) := by decide +kernel
theorem dX2_clearestTrack_20 : decode cX2_clearestTrack 20 = .ok (.if_icmp .eq 12, 3) := by decide +kernel
theorem dX2_clearestTrack_23 : decode cX2_clearestTrack 23 = .ok (.aload_n 0, 1) := by decide +kernel
theorem dX2_clearestTrack_24 : decode cX2_clearestTrack 24 = .ok (.iload_n 2, 1) := by decide +kernel
theorem dX2_clearestTrack_25 : decode cX2_clearestTrack 25 = .ok (.iload_n 1, 1) := by decide +kernel
theorem dX2_clearestTrack_26 : decode cX2_clearestTrack 26 = .ok (.invokevirtual 140, 3) := by decide +kernel
theorem dX2_clearestTrack_29 : decode cX2_clearestTrack 29 = .ok (.ifCond .eq 5, 3) := by decide +kernel
theorem dX2_clearestTrack_32 : decode cX2_clearestTrack 32 = .ok (.iload_n 2, 1) := by decide +kernel
theorem dX2_clearestTrack_33 : decode cX2_clearestTrack 33 = .ok (.istore_n 1, 1) := by decide +kernel
theorem dX2_clearestTrack_34 : decode cX2_clearestTrack 34 = .ok (.iinc 2 1, 3) := by decide +kernel
theorem dX2_clearestTrack_37 : decode cX2_clearestTrack 37 = .ok (.goto (-33), 3) := by decide +kernel
theorem dX2_clearestTrack_40 : decode cX2_clearestTrack 40 = .ok (.iload_n 1, 1) := by decide +kernel
theorem dX2_clearestTrack_41 : decode cX2_clearestTrack 41 = .ok (.ireturn, 1) := by decide +kernel
theorem dX2_soundsBetter_0 : decode cX2_soundsBetter 0 = .ok (.aload_n 0, 1) := by decide +kernel
theorem dX2_soundsBetter_1 : decode cX2_soundsBetter 1 = .ok (.getfield 15, 3) := by decide +kernel
theorem dX2_soundsBetter_4 : decode cX2_soundsBetter 4 = .ok (.iload_n 1, 1) := by decide +kernel
theorem dX2_soundsBetter_5 : decode cX2_soundsBetter 5 = .ok (.iaload, 1) := by decide +kernel
theorem dX2_soundsBetter_6 : decode cX2_soundsBetter 6 = .ok (.aload_n 0, 1) := by decide +kernel
theorem dX2_soundsBetter_7 : decode cX2_soundsBetter 7 = .ok (.getfield 15, 3) := by decide +kernel
theorem dX2_soundsBetter_10 : decode cX2_soundsBetter 10 = .ok (.iload_n 2, 1) := by decide +kernel
theorem dX2_soundsBetter_11 : decode cX2_soundsBetter 11 = .ok (.iaload, 1) := by decide +kernel
theorem dX2_soundsBetter_12 : decode cX2_soundsBetter 12 = .ok (.if_icmp .eq 24, 3) := by decide +kernel
theorem dX2_soundsBetter_15 : decode cX2_soundsBetter 15 = .ok (.aload_n 0, 1) := by decide +kernel
theorem dX2_soundsBetter_16 : decode cX2_soundsBetter 16 = .ok (.getfield 15, 3) := by decide +kernel
theorem dX2_soundsBetter_19 : decode cX2_soundsBetter 19 = .ok (.iload_n 1, 1) := by decide +kernel
theorem dX2_soundsBetter_20 : decode cX2_soundsBetter 20 = .ok (.iaload, 1) := by decide +kernel
theorem dX2_soundsBetter_21 : decode cX2_soundsBetter 21 = .ok (.aload_n 0, 1) := by decide +kernel
theorem dX2_soundsBetter_22 : decode cX2_soundsBetter 22 = .ok (.getfield 15, 3) := by decide +kernel
theorem dX2_soundsBetter_25 : decode cX2_soundsBetter 25 = .ok (.iload_n 2, 1) := by decide +kernel
theorem dX2_soundsBetter_26 : decode cX2_soundsBetter 26 = .ok (.iaload, 1) := by decide +kernel
theorem dX2_soundsBetter_27 : decode cX2_soundsBetter 27 = .ok (.if_icmp .le 7, 3) := by decide +kernel
theorem dX2_soundsBetter_30 : decode cX2_soundsBetter 30 = .ok (.iconst 1, 1) := by decide +kernel
theorem dX2_soundsBetter_31 : decode cX2_soundsBetter 31 = .ok (.goto 4, 3) := by decide +kernel
theorem dX2_soundsBetter_34 : decode cX2_soundsBetter 34 = .ok (.iconst 0, 1) := by decide +kernel
theorem dX2_soundsBetter_35 : decode cX2_soundsBetter 35 = .ok (.ireturn, 1) := by decide +kernel
theorem dX2_soundsBetter_36 : decode cX2_soundsBetter 36 = .ok (.aload_n 0, 1) := by decide +kernel
theorem dX2_soundsBetter_37 : decode cX2_soundsBetter 37 = .ok (.getfield 18, 3) := by decide +kernel
theorem dX2_soundsBetter_40 : decode cX2_soundsBetter 40 = .ok (.iload_n 1, 1) := by decide +kernel
theorem dX2_soundsBetter_41 : decode cX2_soundsBetter 41 = .ok (.iaload, 1) := by decide +kernel
theorem dX2_soundsBetter_42 : decode cX2_soundsBetter 42 = .ok (.aload_n 0, 1) := by decide +kernel
theorem dX2_soundsBetter_43 : decode cX2_soundsBetter 43 = .ok (.getfield 18, 3) := by decide +kernel
theorem dX2_soundsBetter_46 : decode cX2_soundsBetter 46 = .ok (.iload_n 2, 1) := by decide +kernel
theorem dX2_soundsBetter_47 : decode cX2_soundsBetter 47 = .ok (.iaload, 1) := by decide +kernel
theorem dX2_soundsBetter_48 : decode cX2_soundsBetter 48 = .ok (.if_icmp .ge 7, 3) := by decide +kernel
theorem dX2_soundsBetter_51 : decode cX2_soundsBetter 51 = .ok (.iconst 1, 1) := by decide +kernel
theorem dX2_soundsBetter_52 : decode cX2_soundsBetter 52 = .ok (.goto 4, 3) := by decide +kernel
theorem dX2_soundsBetter_55 : decode cX2_soundsBetter 55 = .ok (.iconst 0, 1) := by decide +kernel
theorem dX2_soundsBetter_56 : decode cX2_soundsBetter 56 = .ok (.ireturn, 1) := by decide +kernel
theorem dX2_layersTogether_0 : decode cX2_layersTogether 0 = .ok (.iconst 0, 1) := by decide +kernel
theorem dX2_layersTogether_1 : decode cX2_layersTogether 1 = .ok (.istore_n 1, 1) := by decide +kernel
theorem dX2_layersTogether_2 : decode cX2_layersTogether 2 = .ok (.iconst 0, 1) := by decide +kernel
theorem dX2_layersTogether_3 : decode cX2_layersTogether 3 = .ok (.istore_n 2, 1) := by decide +kernel
theorem dX2_layersTogether_4 : decode cX2_layersTogether 4 = .ok (.iload_n 2, 1) := by decide +kernel
theorem dX2_layersTogether_5 : decode cX2_layersTogether 5 = .ok (.bipush 6, 2) := by decide +kernel
theorem dX2_layersTogether_7 : decode cX2_layersTogether 7 = .ok (.if_icmp .ge 18, 3) := by decide +kernel
theorem dX2_layersTogether_10 : decode cX2_layersTogether 10 = .ok (.iload_n 1, 1) := by decide +kernel
theorem dX2_layersTogether_11 : decode cX2_layersTogether 11 = .ok (.aload_n 0, 1) := by decide +kernel
theorem dX2_layersTogether_12 : decode cX2_layersTogether 12 = .ok (.getfield 33, 3) := by decide +kernel
theorem dX2_layersTogether_15 : decode cX2_layersTogether 15 = .ok (.iload_n 2, 1) := by decide +kernel
theorem dX2_layersTogether_16 : decode cX2_layersTogether 16 = .ok (.iaload, 1) := by decide +kernel
theorem dX2_layersTogether_17 : decode cX2_layersTogether 17 = .ok (.iadd, 1) := by decide +kernel
theorem dX2_layersTogether_18 : decode cX2_layersTogether 18 = .ok (.istore_n 1, 1) := by decide +kernel
theorem dX2_layersTogether_19 : decode cX2_layersTogether 19 = .ok (.iinc 2 1, 3) := by decide +kernel
theorem dX2_layersTogether_22 : decode cX2_layersTogether 22 = .ok (.goto (-18), 3) := by decide +kernel
theorem dX2_layersTogether_25 : decode cX2_layersTogether 25 = .ok (.iload_n 1, 1) := by decide +kernel
theorem dX2_layersTogether_26 : decode cX2_layersTogether 26 = .ok (.ireturn, 1) := by decide +kernel
theorem dX2_depthTogether_0 : decode cX2_depthTogether 0 = .ok (.iconst 0, 1) := by decide +kernel
theorem dX2_depthTogether_1 : decode cX2_depthTogether 1 = .ok (.istore_n 1, 1) := by decide +kernel
theorem dX2_depthTogether_2 : decode cX2_depthTogether 2 = .ok (.iconst 0, 1) := by decide +kernel
theorem dX2_depthTogether_3 : decode cX2_depthTogether 3 = .ok (.istore_n 2, 1) := by decide +kernel
theorem dX2_depthTogether_4 : decode cX2_depthTogether 4 = .ok (.iload_n 2, 1) := by decide +kernel
theorem dX2_depthTogether_5 : decode cX2_depthTogether 5 = .ok (.bipush 24, 2) := by decide +kernel
theorem dX2_depthTogether_7 : decode cX2_depthTogether 7 = .ok (.if_icmp .ge 18, 3) := by decide +kernel
theorem dX2_depthTogether_10 : decode cX2_depthTogether 10 = .ok (.iload_n 1, 1) := by decide +kernel
theorem dX2_depthTogether_11 : decode cX2_depthTogether 11 = .ok (.aload_n 0, 1) := by decide +kernel
theorem dX2_depthTogether_12 : decode cX2_depthTogether 12 = .ok (.getfield 9, 3) := by decide +kernel
theorem dX2_depthTogether_15 : decode cX2_depthTogether 15 = .ok (.iload_n 2, 1) := by decide +kernel
theorem dX2_depthTogether_16 : decode cX2_depthTogether 16 = .ok (.iaload, 1) := by decide +kernel
theorem dX2_depthTogether_17 : decode cX2_depthTogether 17 = .ok (.iadd, 1) := by decide +kernel
theorem dX2_depthTogether_18 : decode cX2_depthTogether 18 = .ok (.istore_n 1, 1) := by decide +kernel
theorem dX2_depthTogether_19 : decode cX2_depthTogether 19 = .ok (.iinc 2 1, 3) := by decide +kernel
theorem dX2_depthTogether_22 : decode cX2_depthTogether 22 = .ok (.goto (-18), 3) := by decide +kernel
theorem dX2_depthTogether_25 : decode cX2_depthTogether 25 = .ok (.iload_n 1, 1) := by decide +kernel
theorem dX2_depthTogether_26 : decode cX2_depthTogether 26 = .ok (.ireturn, 1) := by decide +kernel
set_option maxRecDepth 20000 in
theorem ggX2_clearnessTogether_X2_isCut : GoodIn wsX2_clearnessTogether wsX2_isCut := goodIn_r _ [6, 7, 8, 9, 10, 11, 12, 13, 14, 15, 16, 17, 18, 19, 20, 21, 22, 23, 24, 25, 26] (by decide +kernel) (by decide +kernel)
set_option maxRecDepth 20000 in
theorem gX2_clearnessTogether_X2_isCut : GoodIn wsX2_clearnessTogether (wsV RX2 76 RX2 yX2_isCut wsX2_isCut) := goodIn_app (goodIn_of _ (by decide +kernel)) ggX2_clearnessTogether_X2_isCut
theorem dX2_clearnessTogether_0 : decode cX2_clearnessTogether 0 = .ok (.iconst 0, 1) := by decide +kernel
theorem dX2_clearnessTogether_1 : decode cX2_clearnessTogether 1 = .ok (.istore_n 1, 1) := by decide +kernel
theorem dX2_clearnessTogether_2 : decode cX2_clearnessTogether 2 = .ok (.iconst 0, 1) := by decide +kernel
theorem dX2_clearnessTogether_3 : decode cX2_clearnessTogether 3 = .ok (.istore_n 2, 1) := by decide +kernel
theorem dX2_clearnessTogether_4 : decode cX2_clearnessTogether 4 = .ok (.iload_n 2, 1) := by decide +kernel
theorem dX2_clearnessTogether_5 : decode cX2_clearnessTogether 5 = .ok (.bipush 24, 2) := by decide +kernel
theorem dX2_clearnessTogether_7 : decode cX2_clearnessTogether 7 = .ok (.if_icmp .ge 30, 3) := by decide +kernel
theorem dX2_clearnessTogether_10 : decode cX2_clearnessTogether 10 = .ok (.iload_n 1, 1) := by decide +kernel
theorem dX2_clearnessTogether_11 : decode cX2_clearnessTogether 11 = .ok (.aload_n 0, 1) := by decide +kernel
theorem dX2_clearnessTogether_12 : decode cX2_clearnessTogether 12 = .ok (.iload_n 2, 1) := by decide +kernel
theorem dX2_clearnessTogether_13 : decode cX2_clearnessTogether 13 = .ok (.invokevirtual 76, 3) := by decide +kernel
theorem dX2_clearnessTogether_16 : decode cX2_clearnessTogether 16 = .ok (.ifCond .eq 12, 3) := by decide +kernel
theorem dX2_clearnessTogether_19 : decode cX2_clearnessTogether 19 = .ok (.aload_n 0, 1) := by decide +kernel
theorem dX2_clearnessTogether_20 : decode cX2_clearnessTogether 20 = .ok (.getfield 15, 3) := by decide +kernel
theorem dX2_clearnessTogether_23 : decode cX2_clearnessTogether 23 = .ok (.iload_n 2, 1) := by decide +kernel
theorem dX2_clearnessTogether_24 : decode cX2_clearnessTogether 24 = .ok (.iaload, 1) := by decide +kernel
theorem dX2_clearnessTogether_25 : decode cX2_clearnessTogether 25 = .ok (.goto 4, 3) := by decide +kernel
theorem dX2_clearnessTogether_28 : decode cX2_clearnessTogether 28 = .ok (.iconst 0, 1) := by decide +kernel
theorem dX2_clearnessTogether_29 : decode cX2_clearnessTogether 29 = .ok (.iadd, 1) := by decide +kernel
theorem dX2_clearnessTogether_30 : decode cX2_clearnessTogether 30 = .ok (.istore_n 1, 1) := by decide +kernel
theorem dX2_clearnessTogether_31 : decode cX2_clearnessTogether 31 = .ok (.iinc 2 1, 3) := by decide +kernel
theorem dX2_clearnessTogether_34 : decode cX2_clearnessTogether 34 = .ok (.goto (-30), 3) := by decide +kernel
theorem dX2_clearnessTogether_37 : decode cX2_clearnessTogether 37 = .ok (.iload_n 1, 1) := by decide +kernel
theorem dX2_clearnessTogether_38 : decode cX2_clearnessTogether 38 = .ok (.ireturn, 1) := by decide +kernel
set_option maxRecDepth 20000 in
theorem ggX2_descendants_X2_comesFrom : GoodIn wsX2_descendants wsX2_comesFrom := goodIn_r _ [5, 6, 7, 8, 9, 10, 11, 12, 13, 14, 15, 16, 17, 18, 19, 20, 21, 22, 23, 24, 25] (by decide +kernel) (by decide +kernel)
set_option maxRecDepth 20000 in
theorem gX2_descendants_X2_comesFrom : GoodIn wsX2_descendants (wsV RX2 144 RX2 yX2_comesFrom wsX2_comesFrom) := goodIn_app (goodIn_of _ (by decide +kernel)) ggX2_descendants_X2_comesFrom
theorem dX2_descendants_0 : decode cX2_descendants 0 = .ok (.iconst 0, 1) := by decide +kernel
theorem dX2_descendants_1 : decode cX2_descendants 1 = .ok (.istore_n 2, 1) := by decide +kernel
theorem dX2_descendants_2 : decode cX2_descendants 2 = .ok (.iconst 0, 1) := by decide +kernel
theorem dX2_descendants_3 : decode cX2_descendants 3 = .ok (.istore_n 3, 1) := by decide +kernel
theorem dX2_descendants_4 : decode cX2_descendants 4 = .ok (.iload_n 3, 1) := by decide +kernel
theorem dX2_descendants_5 : decode cX2_descendants 5 = .ok (.bipush 24, 2) := by decide +kernel
theorem dX2_descendants_7 : decode cX2_descendants 7 = .ok (.if_icmp .ge 26, 3) := by decide +kernel
theorem dX2_descendants_10 : decode cX2_descendants 10 = .ok (.iload_n 3, 1) := by decide +kernel
theorem dX2_descendants_11 : decode cX2_descendants 11 = .ok (.iload_n 1, 1) := by decide +kernel
theorem dX2_descendants_12 : decode cX2_descendants 12 = .ok (.if_icmp .eq 15, 3) := by decide +kernel
theorem dX2_descendants_15 : decode cX2_descendants 15 = .ok (.aload_n 0, 1) := by decide +kernel
theorem dX2_descendants_16 : decode cX2_descendants 16 = .ok (.iload_n 3, 1) := by decide +kernel
theorem dX2_descendants_17 : decode cX2_descendants 17 = .ok (.iload_n 1, 1) := by decide +kernel
theorem dX2_descendants_18 : decode cX2_descendants 18 = .ok (.invokevirtual 144, 3) := by decide +kernel
theorem dX2_descendants_21 : decode cX2_descendants 21 = .ok (.ifCond .eq 6, 3) := by decide +kernel
theorem dX2_descendants_24 : decode cX2_descendants 24 = .ok (.iinc 2 1, 3) := by decide +kernel
theorem dX2_descendants_27 : decode cX2_descendants 27 = .ok (.iinc 3 1, 3) := by decide +kernel
theorem dX2_descendants_30 : decode cX2_descendants 30 = .ok (.goto (-26), 3) := by decide +kernel
theorem dX2_descendants_33 : decode cX2_descendants 33 = .ok (.iload_n 2, 1) := by decide +kernel
theorem dX2_descendants_34 : decode cX2_descendants 34 = .ok (.ireturn, 1) := by decide +kernel
theorem dX2_comesFrom_0 : decode cX2_comesFrom 0 = .ok (.aload_n 0, 1) := by decide +kernel
theorem dX2_comesFrom_1 : decode cX2_comesFrom 1 = .ok (.getfield 24, 3) := by decide +kernel
theorem dX2_comesFrom_4 : decode cX2_comesFrom 4 = .ok (.iload_n 1, 1) := by decide +kernel
theorem dX2_comesFrom_5 : decode cX2_comesFrom 5 = .ok (.iaload, 1) := by decide +kernel
theorem dX2_comesFrom_6 : decode cX2_comesFrom 6 = .ok (.istore_n 3, 1) := by decide +kernel
theorem dX2_comesFrom_7 : decode cX2_comesFrom 7 = .ok (.iconst 0, 1) := by decide +kernel
theorem dX2_comesFrom_8 : decode cX2_comesFrom 8 = .ok (.istore 4, 2) := by decide +kernel
theorem dX2_comesFrom_10 : decode cX2_comesFrom 10 = .ok (.iload 4, 2) := by decide +kernel
theorem dX2_comesFrom_12 : decode cX2_comesFrom 12 = .ok (.bipush 24, 2) := by decide +kernel
theorem dX2_comesFrom_14 : decode cX2_comesFrom 14 = .ok (.if_icmp .ge 33, 3) := by decide +kernel
theorem dX2_comesFrom_17 : decode cX2_comesFrom 17 = .ok (.iload_n 3, 1) := by decide +kernel
theorem dX2_comesFrom_18 : decode cX2_comesFrom 18 = .ok (.ifCond .lt 29, 3) := by decide +kernel
theorem dX2_comesFrom_21 : decode cX2_comesFrom 21 = .ok (.iload_n 3, 1) := by decide +kernel
theorem dX2_comesFrom_22 : decode cX2_comesFrom 22 = .ok (.bipush 24, 2) := by decide +kernel
theorem dX2_comesFrom_24 : decode cX2_comesFrom 24 = .ok (.if_icmp .ge 23, 3) := by decide +kernel
theorem dX2_comesFrom_27 : decode cX2_comesFrom 27 = .ok (.iload_n 3, 1) := by decide +kernel
theorem dX2_comesFrom_28 : decode cX2_comesFrom 28 = .ok (.iload_n 2, 1) := by decide +kernel
theorem dX2_comesFrom_29 : decode cX2_comesFrom 29 = .ok (.if_icmp .ne 5, 3) := by decide +kernel
theorem dX2_comesFrom_32 : decode cX2_comesFrom 32 = .ok (.iconst 1, 1) := by decide +kernel
theorem dX2_comesFrom_33 : decode cX2_comesFrom 33 = .ok (.ireturn, 1) := by decide +kernel
theorem dX2_comesFrom_34 : decode cX2_comesFrom 34 = .ok (.aload_n 0, 1) := by decide +kernel
theorem dX2_comesFrom_35 : decode cX2_comesFrom 35 = .ok (.getfield 24, 3) := by decide +kernel
theorem dX2_comesFrom_38 : decode cX2_comesFrom 38 = .ok (.iload_n 3, 1) := by decide +kernel
theorem dX2_comesFrom_39 : decode cX2_comesFrom 39 = .ok (.iaload, 1) := by decide +kernel
theorem dX2_comesFrom_40 : decode cX2_comesFrom 40 = .ok (.istore_n 3, 1) := by decide +kernel
theorem dX2_comesFrom_41 : decode cX2_comesFrom 41 = .ok (.iinc 4 1, 3) := by decide +kernel
theorem dX2_comesFrom_44 : decode cX2_comesFrom 44 = .ok (.goto (-34), 3) := by decide +kernel
theorem dX2_comesFrom_47 : decode cX2_comesFrom 47 = .ok (.iconst 0, 1) := by decide +kernel
theorem dX2_comesFrom_48 : decode cX2_comesFrom 48 = .ok (.ireturn, 1) := by decide +kernel
end
section
set_option maxRecDepth 20000 in
theorem ggX3_init_X2_init : GoodIn wsX3_init wsX2_init := goodIn_r _ [23, 24, 2, 3, 25, 26, 27, 28, 29, 30, 31, 32, 33, 34, 35, 36, 37, 38, 39, 40, 41, 42, 43, 44, 57, 58, 59, 60, 61, 62, 63, 64, 65, 66, 67, 68, 69, 70, 71, 72, 73, 74, 75] (by decide +kernel) (by decide +kernel)
set_option maxRecDepth 20000 in
theorem gX3_init_X2_init : GoodIn wsX3_init (wsX2_init) := ggX3_init_X2_init
set_option maxRecDepth 20000 in
theorem ggX3_init_X0_init : GoodIn wsX3_init wsX0_init := goodIn_r _ [46, 47, 2, 3, 48, 49, 50, 83, 84] (by decide +kernel) (by decide +kernel)
set_option maxRecDepth 20000 in
theorem gX3_init_X0_init_n33 : GoodIn wsX3_init (wsX0_init) := ggX3_init_X0_init
set_option maxRecDepth 20000 in
theorem ggX3_init_X1_init : GoodIn wsX3_init wsX1_init := goodIn_r _ [52, 53, 2, 3, 54, 25, 55, 56, 85, 86] (by decide +kernel) (by decide +kernel)
set_option maxRecDepth 20000 in
theorem gX3_init_X1_init_n40 : GoodIn wsX3_init (wsX1_init) := ggX3_init_X1_init
theorem dX3_init_0 : decode cX3_init 0 = .ok (.aload_n 0, 1) := by decide +kernel
theorem dX3_init_1 : decode cX3_init 1 = .ok (.invokespecial 3, 3) := by decide +kernel
theorem dX3_init_4 : decode cX3_init 4 = .ok (.aload_n 0, 1) := by decide +kernel
theorem dX3_init_5 : decode cX3_init 5 = .ok (.new 9, 3) := by decide +kernel
theorem dX3_init_8 : decode cX3_init 8 = .ok (.dup, 1) := by decide +kernel
theorem dX3_init_9 : decode cX3_init 9 = .ok (.invokespecial 11, 3) := by decide +kernel
theorem dX3_init_12 : decode cX3_init 12 = .ok (.putfield 12, 3) := by decide +kernel
theorem dX3_init_15 : decode cX3_init 15 = .ok (.aload_n 0, 1) := by decide +kernel
theorem dX3_init_16 : decode cX3_init 16 = .ok (.iconst 2, 1) := by decide +kernel
theorem dX3_init_17 : decode cX3_init 17 = .ok (.anewarray 9, 3) := by decide +kernel
theorem dX3_init_20 : decode cX3_init 20 = .ok (.putfield 16, 3) := by decide +kernel
theorem dX3_init_23 : decode cX3_init 23 = .ok (.aload_n 0, 1) := by decide +kernel
theorem dX3_init_24 : decode cX3_init 24 = .ok (.iconst 2, 1) := by decide +kernel
theorem dX3_init_25 : decode cX3_init 25 = .ok (.newarray .boolean, 2) := by decide +kernel
theorem dX3_init_27 : decode cX3_init 27 = .ok (.putfield 20, 3) := by decide +kernel
theorem dX3_init_30 : decode cX3_init 30 = .ok (.aload_n 0, 1) := by decide +kernel
theorem dX3_init_31 : decode cX3_init 31 = .ok (.bipush 6, 2) := by decide +kernel
theorem dX3_init_33 : decode cX3_init 33 = .ok (.anewarray 9, 3) := by decide +kernel
theorem dX3_init_36 : decode cX3_init 36 = .ok (.putfield 24, 3) := by decide +kernel
theorem dX3_init_39 : decode cX3_init 39 = .ok (.aload_n 0, 1) := by decide +kernel
theorem dX3_init_40 : decode cX3_init 40 = .ok (.iconst 0, 1) := by decide +kernel
theorem dX3_init_41 : decode cX3_init 41 = .ok (.putfield 27, 3) := by decide +kernel
theorem dX3_init_44 : decode cX3_init 44 = .ok (.aload_n 0, 1) := by decide +kernel
theorem dX3_init_45 : decode cX3_init 45 = .ok (.new 31, 3) := by decide +kernel
theorem dX3_init_48 : decode cX3_init 48 = .ok (.dup, 1) := by decide +kernel
theorem dX3_init_49 : decode cX3_init 49 = .ok (.invokespecial 33, 3) := by decide +kernel
theorem dX3_init_52 : decode cX3_init 52 = .ok (.putfield 34, 3) := by decide +kernel
theorem dX3_init_55 : decode cX3_init 55 = .ok (.aload_n 0, 1) := by decide +kernel
theorem dX3_init_56 : decode cX3_init 56 = .ok (.new 38, 3) := by decide +kernel
theorem dX3_init_59 : decode cX3_init 59 = .ok (.dup, 1) := by decide +kernel
theorem dX3_init_60 : decode cX3_init 60 = .ok (.invokespecial 40, 3) := by decide +kernel
theorem dX3_init_63 : decode cX3_init 63 = .ok (.putfield 41, 3) := by decide +kernel
theorem dX3_init_66 : decode cX3_init 66 = .ok (.iconst 0, 1) := by decide +kernel
theorem dX3_init_67 : decode cX3_init 67 = .ok (.istore_n 1, 1) := by decide +kernel
theorem dX3_init_68 : decode cX3_init 68 = .ok (.iload_n 1, 1) := by decide +kernel
theorem dX3_init_69 : decode cX3_init 69 = .ok (.iconst 2, 1) := by decide +kernel
theorem dX3_init_70 : decode cX3_init 70 = .ok (.if_icmp .ge 22, 3) := by decide +kernel
theorem dX3_init_73 : decode cX3_init 73 = .ok (.aload_n 0, 1) := by decide +kernel
theorem dX3_init_74 : decode cX3_init 74 = .ok (.getfield 16, 3) := by decide +kernel
theorem dX3_init_77 : decode cX3_init 77 = .ok (.iload_n 1, 1) := by decide +kernel
theorem dX3_init_78 : decode cX3_init 78 = .ok (.new 9, 3) := by decide +kernel
theorem dX3_init_81 : decode cX3_init 81 = .ok (.dup, 1) := by decide +kernel
theorem dX3_init_82 : decode cX3_init 82 = .ok (.invokespecial 11, 3) := by decide +kernel
theorem dX3_init_85 : decode cX3_init 85 = .ok (.aastore, 1) := by decide +kernel
theorem dX3_init_86 : decode cX3_init 86 = .ok (.iinc 1 1, 3) := by decide +kernel
theorem dX3_init_89 : decode cX3_init 89 = .ok (.goto (-21), 3) := by decide +kernel
theorem dX3_init_92 : decode cX3_init 92 = .ok (.iconst 0, 1) := by decide +kernel
theorem dX3_init_93 : decode cX3_init 93 = .ok (.istore_n 1, 1) := by decide +kernel
theorem dX3_init_94 : decode cX3_init 94 = .ok (.iload_n 1, 1) := by decide +kernel
theorem dX3_init_95 : decode cX3_init 95 = .ok (.bipush 6, 2) := by decide +kernel
theorem dX3_init_97 : decode cX3_init 97 = .ok (.if_icmp .ge 22, 3) := by decide +kernel
theorem dX3_init_100 : decode cX3_init 100 = .ok (.aload_n 0, 1) := by decide +kernel
theorem dX3_init_101 : decode cX3_init 101 = .ok (.getfield 24, 3) := by decide +kernel
theorem dX3_init_104 : decode cX3_init 104 = .ok (.iload_n 1, 1) := by decide +kernel
theorem dX3_init_105 : decode cX3_init 105 = .ok (.new 9, 3) := by decide +kernel
theorem dX3_init_108 : decode cX3_init 108 = .ok (.dup, 1) := by decide +kernel
theorem dX3_init_109 : decode cX3_init 109 = .ok (.invokespecial 11, 3) := by decide +kernel
theorem dX3_init_112 : decode cX3_init 112 = .ok (.aastore, 1) := by decide +kernel
theorem dX3_init_113 : decode cX3_init 113 = .ok (.iinc 1 1, 3) := by decide +kernel
theorem dX3_init_116 : decode cX3_init 116 = .ok (.goto (-22), 3) := by decide +kernel
theorem dX3_init_119 : decode cX3_init 119 = .ok (.return_, 1) := by decide +kernel
set_option maxRecDepth 20000 in
theorem ggX3_speak_X3_checkTrack : GoodIn wsX3_speak wsX3_checkTrack := goodIn_ca (goodIn_r _ [6, 7, 8] (by decide +kernel) (by decide +kernel)) (goodIn_sub (fun _ h => List.mem_cons_of_mem _ (List.mem_append_left _ (List.mem_append_right _ h))) (by decide +kernel))
set_option maxRecDepth 20000 in
theorem gX3_speak_X3_checkTrack : GoodIn wsX3_speak (wsV RX3 45 RX3 yX3_checkTrack wsX3_checkTrack) := goodIn_app (goodIn_of _ (by decide +kernel)) ggX3_speak_X3_checkTrack
set_option maxRecDepth 20000 in
theorem ggX3_speak_X3_checkLoudness : GoodIn wsX3_speak wsX3_checkLoudness := goodIn_ca (goodIn_r _ [12, 13, 14] (by decide +kernel) (by decide +kernel)) (goodIn_sub (fun _ h => List.mem_cons_of_mem _ (List.mem_append_right _ h)) (by decide +kernel))
set_option maxRecDepth 20000 in
theorem gX3_speak_X3_checkLoudness : GoodIn wsX3_speak (wsV RX3 49 RX3 yX3_checkLoudness wsX3_checkLoudness) := goodIn_app (goodIn_of _ (by decide +kernel)) ggX3_speak_X3_checkLoudness
set_option maxRecDepth 20000 in
theorem ggX3_speak_X3_saveState : GoodIn wsX3_speak wsX3_saveState := goodIn_r _ [18, 19, 20, 1, 21, 22, 23, 5, 24, 25, 26, 27, 28, 29, 30, 31, 32, 33, 34, 35, 36, 37, 38, 39, 40, 41, 42, 43, 44, 45, 46, 47, 48, 49, 50, 51, 52, 81, 82, 83, 84, 85, 86, 87, 88, 89, 90, 91, 92, 93, 94, 95, 96, 97, 98, 99, 100, 101, 102, 103, 104, 105, 106] (by decide +kernel) (by decide +kernel)
set_option maxRecDepth 20000 in
theorem gX3_speak_X3_saveState : GoodIn wsX3_speak (wsV RX3 52 RX3 yX3_saveState wsX3_saveState) := goodIn_app (goodIn_of _ (by decide +kernel)) ggX3_speak_X3_saveState
set_option maxRecDepth 20000 in
theorem ggX3_speak_X2_speakOnto : GoodIn wsX3_speak wsX2_speakOnto := goodIn_r _ [56, 52, 37, 38, 43, 44, 46, 57, 58, 59, 28, 60, 41, 61, 62, 63, 64, 30, 65, 5, 66, 67, 68, 69, 70, 71, 72, 73, 74, 35, 39, 36, 40, 75, 76, 77, 78, 79, 80, 88, 89, 90, 91, 92, 93, 94, 95, 96, 97, 98, 99, 100, 101, 102, 103, 104, 105, 106] (by decide +kernel) (by decide +kernel)
set_option maxRecDepth 20000 in
theorem gX3_speak_X2_speakOnto : GoodIn wsX3_speak (wsV RX3 55 RX2 yX2_speakOnto wsX2_speakOnto) := goodIn_app (goodIn_of _ (by decide +kernel)) ggX3_speak_X2_speakOnto
theorem dX3_speak_0 : decode cX3_speak 0 = .ok (.aload_n 0, 1) := by decide +kernel
theorem dX3_speak_1 : decode cX3_speak 1 = .ok (.iload_n 1, 1) := by decide +kernel
theorem dX3_speak_2 : decode cX3_speak 2 = .ok (.invokevirtual 45, 3) := by decide +kernel
theorem dX3_speak_5 : decode cX3_speak 5 = .ok (.aload_n 0, 1) := by decide +kernel
theorem dX3_speak_6 : decode cX3_speak 6 = .ok (.iload_n 2, 1) := by decide +kernel
theorem dX3_speak_7 : decode cX3_speak 7 = .ok (.invokevirtual 49, 3) := by decide +kernel
theorem dX3_speak_10 : decode cX3_speak 10 = .ok (.aload_n 0, 1) := by decide +kernel
theorem dX3_speak_11 : decode cX3_speak 11 = .ok (.invokevirtual 52, 3) := by decide +kernel
theorem dX3_speak_14 : decode cX3_speak 14 = .ok (.aload_n 0, 1) := by decide +kernel
theorem dX3_speak_15 : decode cX3_speak 15 = .ok (.getfield 12, 3) := by decide +kernel
theorem dX3_speak_18 : decode cX3_speak 18 = .ok (.iload_n 1, 1) := by decide +kernel
theorem dX3_speak_19 : decode cX3_speak 19 = .ok (.iload_n 2, 1) := by decide +kernel
theorem dX3_speak_20 : decode cX3_speak 20 = .ok (.invokevirtual 55, 3) := by decide +kernel
theorem dX3_speak_23 : decode cX3_speak 23 = .ok (.ireturn, 1) := by decide +kernel
set_option maxRecDepth 20000 in
theorem ggX3_copy_X3_checkTrack : GoodIn wsX3_copy wsX3_checkTrack := goodIn_ca (goodIn_r _ [6, 7, 8] (by decide +kernel) (by decide +kernel)) (goodIn_sub (fun _ h => List.mem_cons_of_mem _ (List.mem_append_left _ (List.mem_append_right _ h))) (by decide +kernel))
set_option maxRecDepth 20000 in
theorem gX3_copy_X3_checkTrack : GoodIn wsX3_copy (wsV RX3 45 RX3 yX3_checkTrack wsX3_checkTrack) := goodIn_app (goodIn_of _ (by decide +kernel)) ggX3_copy_X3_checkTrack
set_option maxRecDepth 20000 in
theorem ggX3_copy_X3_checkLever : GoodIn wsX3_copy wsX3_checkLever := goodIn_ca (goodIn_r _ [12, 13, 14] (by decide +kernel) (by decide +kernel)) (goodIn_sub (fun _ h => List.mem_cons_of_mem _ (List.mem_append_right _ h)) (by decide +kernel))
set_option maxRecDepth 20000 in
theorem gX3_copy_X3_checkLever : GoodIn wsX3_copy (wsV RX3 59 RX3 yX3_checkLever wsX3_checkLever) := goodIn_app (goodIn_of _ (by decide +kernel)) ggX3_copy_X3_checkLever
set_option maxRecDepth 20000 in
theorem ggX3_copy_X3_saveState : GoodIn wsX3_copy wsX3_saveState := goodIn_r _ [18, 19, 20, 1, 21, 22, 23, 5, 24, 25, 26, 27, 28, 29, 30, 31, 32, 33, 34, 35, 36, 37, 38, 39, 40, 41, 42, 43, 44, 45, 46, 47, 48, 49, 50, 51, 52, 94, 95, 96, 97, 98, 99, 100, 101, 102, 103, 104, 105, 106, 107, 108, 109, 110, 111, 112, 113, 114, 115, 116, 117, 118, 119] (by decide +kernel) (by decide +kernel)
set_option maxRecDepth 20000 in
theorem gX3_copy_X3_saveState : GoodIn wsX3_copy (wsV RX3 52 RX3 yX3_saveState wsX3_saveState) := goodIn_app (goodIn_of _ (by decide +kernel)) ggX3_copy_X3_saveState
set_option maxRecDepth 20000 in
theorem ggX3_copy_X2_copyOnto : GoodIn wsX3_copy wsX2_copyOnto := goodIn_r _ [56, 52, 37, 38, 36, 57, 58, 59, 60, 30, 44, 47, 61, 62, 63, 28, 64, 41, 65, 66, 67, 68, 69, 5, 70, 71, 72, 73, 74, 75, 76, 77, 78, 79, 80, 81, 82, 35, 43, 83, 84, 85, 86, 87, 88, 89, 90, 91, 39, 40, 92, 93, 101, 102, 103, 104, 105, 106, 107, 108, 109, 110, 111, 112, 113, 114, 115, 116, 117, 118, 119] (by decide +kernel) (by decide +kernel)
set_option maxRecDepth 20000 in
theorem gX3_copy_X2_copyOnto : GoodIn wsX3_copy (wsV RX3 62 RX2 yX2_copyOnto wsX2_copyOnto) := goodIn_app (goodIn_of _ (by decide +kernel)) ggX3_copy_X2_copyOnto
theorem dX3_copy_0 : decode cX3_copy 0 = .ok (.aload_n 0, 1) := by decide +kernel
theorem dX3_copy_1 : decode cX3_copy 1 = .ok (.iload_n 1, 1) := by decide +kernel
theorem dX3_copy_2 : decode cX3_copy 2 = .ok (.invokevirtual 45, 3) := by decide +kernel
theorem dX3_copy_5 : decode cX3_copy 5 = .ok (.aload_n 0, 1) := by decide +kernel
theorem dX3_copy_6 : decode cX3_copy 6 = .ok (.iload_n 2, 1) := by decide +kernel
theorem dX3_copy_7 : decode cX3_copy 7 = .ok (.invokevirtual 45, 3) := by decide +kernel
theorem dX3_copy_10 : decode cX3_copy 10 = .ok (.aload_n 0, 1) := by decide +kernel
theorem dX3_copy_11 : decode cX3_copy 11 = .ok (.iload_n 3, 1) := by decide +kernel
theorem dX3_copy_12 : decode cX3_copy 12 = .ok (.invokevirtual 59, 3) := by decide +kernel
theorem dX3_copy_15 : decode cX3_copy 15 = .ok (.aload_n 0, 1) := by decide +kernel
theorem dX3_copy_16 : decode cX3_copy 16 = .ok (.invokevirtual 52, 3) := by decide +kernel
theorem dX3_copy_19 : decode cX3_copy 19 = .ok (.aload_n 0, 1) := by decide +kernel
theorem dX3_copy_20 : decode cX3_copy 20 = .ok (.getfield 12, 3) := by decide +kernel
theorem dX3_copy_23 : decode cX3_copy 23 = .ok (.iload_n 1, 1) := by decide +kernel
theorem dX3_copy_24 : decode cX3_copy 24 = .ok (.iload_n 2, 1) := by decide +kernel
theorem dX3_copy_25 : decode cX3_copy 25 = .ok (.iload_n 3, 1) := by decide +kernel
theorem dX3_copy_26 : decode cX3_copy 26 = .ok (.invokevirtual 62, 3) := by decide +kernel
theorem dX3_copy_29 : decode cX3_copy 29 = .ok (.ireturn, 1) := by decide +kernel
set_option maxRecDepth 20000 in
theorem ggX3_play_X3_checkTrack : GoodIn wsX3_play wsX3_checkTrack := goodIn_ca (goodIn_r _ [6, 7, 8] (by decide +kernel) (by decide +kernel)) (goodIn_sub (fun _ h => List.mem_cons_of_mem _ (List.mem_append_right _ h)) (by decide +kernel))
set_option maxRecDepth 20000 in
theorem gX3_play_X3_checkTrack : GoodIn wsX3_play (wsV RX3 45 RX3 yX3_checkTrack wsX3_checkTrack) := goodIn_app (goodIn_of _ (by decide +kernel)) ggX3_play_X3_checkTrack
set_option maxRecDepth 20000 in
theorem ggX3_play_X3_saveState : GoodIn wsX3_play wsX3_saveState := goodIn_r _ [12, 13, 14, 1, 15, 16, 17, 5, 18, 19, 20, 21, 22, 23, 24, 25, 26, 27, 28, 29, 30, 31, 32, 33, 34, 35, 36, 37, 38, 39, 40, 41, 42, 43, 44, 45, 46, 59, 60, 61, 62, 63, 64, 65, 66, 67, 68, 69, 70, 71, 72, 73, 74, 75, 76, 77, 78, 79, 80, 81, 82, 83, 84] (by decide +kernel) (by decide +kernel)
set_option maxRecDepth 20000 in
theorem gX3_play_X3_saveState : GoodIn wsX3_play (wsV RX3 52 RX3 yX3_saveState wsX3_saveState) := goodIn_app (goodIn_of _ (by decide +kernel)) ggX3_play_X3_saveState
set_option maxRecDepth 20000 in
theorem ggX3_play_X2_playTrack : GoodIn wsX3_play wsX2_playTrack := goodIn_r _ [50, 38, 46, 29, 39, 51, 52, 53, 54, 34, 42, 55, 56, 57, 22, 58, 24, 66, 67, 68, 69, 70, 71, 72, 73, 74, 75, 76, 77, 78, 79, 80, 81, 82, 83, 84] (by decide +kernel) (by decide +kernel)
set_option maxRecDepth 20000 in
theorem gX3_play_X2_playTrack : GoodIn wsX3_play (wsV RX3 66 RX2 yX2_playTrack wsX2_playTrack) := goodIn_app (goodIn_of _ (by decide +kernel)) ggX3_play_X2_playTrack
theorem dX3_play_0 : decode cX3_play 0 = .ok (.aload_n 0, 1) := by decide +kernel
theorem dX3_play_1 : decode cX3_play 1 = .ok (.iload_n 1, 1) := by decide +kernel
theorem dX3_play_2 : decode cX3_play 2 = .ok (.invokevirtual 45, 3) := by decide +kernel
theorem dX3_play_5 : decode cX3_play 5 = .ok (.aload_n 0, 1) := by decide +kernel
theorem dX3_play_6 : decode cX3_play 6 = .ok (.invokevirtual 52, 3) := by decide +kernel
theorem dX3_play_9 : decode cX3_play 9 = .ok (.aload_n 0, 1) := by decide +kernel
theorem dX3_play_10 : decode cX3_play 10 = .ok (.getfield 12, 3) := by decide +kernel
theorem dX3_play_13 : decode cX3_play 13 = .ok (.iload_n 1, 1) := by decide +kernel
theorem dX3_play_14 : decode cX3_play 14 = .ok (.invokevirtual 66, 3) := by decide +kernel
theorem dX3_play_17 : decode cX3_play 17 = .ok (.ireturn, 1) := by decide +kernel
set_option maxRecDepth 20000 in
theorem ggX3_shave_X3_checkCylinder : GoodIn wsX3_shave wsX3_checkCylinder := goodIn_ca (goodIn_r _ [6, 7, 8] (by decide +kernel) (by decide +kernel)) (goodIn_sub (fun _ h => List.mem_cons_of_mem _ (List.mem_append_right _ h)) (by decide +kernel))
set_option maxRecDepth 20000 in
theorem gX3_shave_X3_checkCylinder : GoodIn wsX3_shave (wsV RX3 70 RX3 yX3_checkCylinder wsX3_checkCylinder) := goodIn_app (goodIn_of _ (by decide +kernel)) ggX3_shave_X3_checkCylinder
set_option maxRecDepth 20000 in
theorem ggX3_shave_X3_saveState : GoodIn wsX3_shave wsX3_saveState := goodIn_r _ [12, 13, 14, 1, 15, 16, 17, 5, 18, 19, 20, 21, 22, 23, 24, 25, 26, 27, 28, 29, 30, 31, 32, 33, 34, 35, 36, 37, 38, 39, 40, 41, 42, 43, 44, 45, 46, 63, 64, 65, 66, 67, 68, 69, 70, 71, 72, 73, 74, 75, 76, 77, 78, 79, 80, 81, 82, 83, 84, 85, 86, 87, 88] (by decide +kernel) (by decide +kernel)
set_option maxRecDepth 20000 in
theorem gX3_shave_X3_saveState : GoodIn wsX3_shave (wsV RX3 52 RX3 yX3_saveState wsX3_saveState) := goodIn_app (goodIn_of _ (by decide +kernel)) ggX3_shave_X3_saveState
set_option maxRecDepth 20000 in
theorem ggX3_shave_X2_shaveCylinder : GoodIn wsX3_shave wsX2_shaveCylinder := goodIn_r _ [50, 46, 35, 43, 36, 51, 52, 53, 22, 54, 24, 55, 56, 57, 58, 59, 60, 61, 62, 32, 70, 71, 72, 73, 74, 75, 76, 77, 78, 79, 80, 81, 82, 83, 84, 85, 86, 87, 88] (by decide +kernel) (by decide +kernel)
set_option maxRecDepth 20000 in
theorem gX3_shave_X2_shaveCylinder : GoodIn wsX3_shave (wsV RX3 73 RX2 yX2_shaveCylinder wsX2_shaveCylinder) := goodIn_app (goodIn_of _ (by decide +kernel)) ggX3_shave_X2_shaveCylinder
theorem dX3_shave_0 : decode cX3_shave 0 = .ok (.aload_n 0, 1) := by decide +kernel
theorem dX3_shave_1 : decode cX3_shave 1 = .ok (.iload_n 1, 1) := by decide +kernel
theorem dX3_shave_2 : decode cX3_shave 2 = .ok (.invokevirtual 70, 3) := by decide +kernel
theorem dX3_shave_5 : decode cX3_shave 5 = .ok (.aload_n 0, 1) := by decide +kernel
theorem dX3_shave_6 : decode cX3_shave 6 = .ok (.invokevirtual 52, 3) := by decide +kernel
theorem dX3_shave_9 : decode cX3_shave 9 = .ok (.aload_n 0, 1) := by decide +kernel
theorem dX3_shave_10 : decode cX3_shave 10 = .ok (.getfield 12, 3) := by decide +kernel
theorem dX3_shave_13 : decode cX3_shave 13 = .ok (.iload_n 1, 1) := by decide +kernel
theorem dX3_shave_14 : decode cX3_shave 14 = .ok (.invokevirtual 73, 3) := by decide +kernel
theorem dX3_shave_17 : decode cX3_shave 17 = .ok (.ireturn, 1) := by decide +kernel
set_option maxRecDepth 20000 in
theorem ggX3_wind_X3_saveState : GoodIn wsX3_wind wsX3_saveState := goodIn_r _ [6, 7, 8, 1, 9, 10, 11, 5, 12, 13, 14, 15, 16, 17, 18, 19, 20, 21, 22, 23, 24, 25, 26, 27, 28, 29, 30, 31, 32, 33, 34, 35, 36, 37, 38, 39, 40, 45, 46, 47, 48, 49, 50, 51, 52, 53, 54, 55, 56, 57, 58, 59, 60, 61, 62, 63, 64, 65, 66, 67, 68, 69, 70] (by decide +kernel) (by decide +kernel)
set_option maxRecDepth 20000 in
theorem gX3_wind_X3_saveState : GoodIn wsX3_wind (wsV RX3 52 RX3 yX3_saveState wsX3_saveState) := goodIn_app (goodIn_of _ (by decide +kernel)) ggX3_wind_X3_saveState
set_option maxRecDepth 20000 in
theorem ggX3_wind_X2_windUp : GoodIn wsX3_wind wsX2_windUp := goodIn_r _ [44, 32, 52, 53, 54, 55, 56, 57, 58, 59, 60, 61, 62, 63, 64, 65, 66, 67, 68, 69, 70] (by decide +kernel) (by decide +kernel)
set_option maxRecDepth 20000 in
theorem gX3_wind_X2_windUp : GoodIn wsX3_wind (wsV RX3 76 RX2 yX2_windUp wsX2_windUp) := goodIn_app (goodIn_of _ (by decide +kernel)) ggX3_wind_X2_windUp
theorem dX3_wind_0 : decode cX3_wind 0 = .ok (.aload_n 0, 1) := by decide +kernel
theorem dX3_wind_1 : decode cX3_wind 1 = .ok (.invokevirtual 52, 3) := by decide +kernel
theorem dX3_wind_4 : decode cX3_wind 4 = .ok (.aload_n 0, 1) := by decide +kernel
theorem dX3_wind_5 : decode cX3_wind 5 = .ok (.getfield 12, 3) := by decide +kernel
theorem dX3_wind_8 : decode cX3_wind 8 = .ok (.invokevirtual 76, 3) := by decide +kernel
theorem dX3_wind_11 : decode cX3_wind 11 = .ok (.ireturn, 1) := by decide +kernel
set_option maxRecDepth 20000 in
theorem ggX3_sharpen_X3_saveState : GoodIn wsX3_sharpen wsX3_saveState := goodIn_r _ [6, 7, 8, 1, 9, 10, 11, 5, 12, 13, 14, 15, 16, 17, 18, 19, 20, 21, 22, 23, 24, 25, 26, 27, 28, 29, 30, 31, 32, 33, 34, 35, 36, 37, 38, 39, 40, 45, 46, 47, 48, 49, 50, 51, 52, 53, 54, 55, 56, 57, 58, 59, 60, 61, 62, 63, 64, 65, 66, 67, 68, 69, 70] (by decide +kernel) (by decide +kernel)
set_option maxRecDepth 20000 in
theorem gX3_sharpen_X3_saveState : GoodIn wsX3_sharpen (wsV RX3 52 RX3 yX3_saveState wsX3_saveState) := goodIn_app (goodIn_of _ (by decide +kernel)) ggX3_sharpen_X3_saveState
set_option maxRecDepth 20000 in
theorem ggX3_sharpen_X2_sharpenPoint : GoodIn wsX3_sharpen wsX2_sharpenPoint := goodIn_r _ [44, 31, 52, 53, 54, 55, 56, 57, 58, 59, 60, 61, 62, 63, 64, 65, 66, 67, 68, 69, 70] (by decide +kernel) (by decide +kernel)
set_option maxRecDepth 20000 in
theorem gX3_sharpen_X2_sharpenPoint : GoodIn wsX3_sharpen (wsV RX3 80 RX2 yX2_sharpenPoint wsX2_sharpenPoint) := goodIn_app (goodIn_of _ (by decide +kernel)) ggX3_sharpen_X2_sharpenPoint
theorem dX3_sharpen_0 : decode cX3_sharpen 0 = .ok (.aload_n 0, 1) := by decide +kernel
theorem dX3_sharpen_1 : decode cX3_sharpen 1 = .ok (.invokevirtual 52, 3) := by decide +kernel
theorem dX3_sharpen_4 : decode cX3_sharpen 4 = .ok (.aload_n 0, 1) := by decide +kernel
theorem dX3_sharpen_5 : decode cX3_sharpen 5 = .ok (.getfield 12, 3) := by decide +kernel
theorem dX3_sharpen_8 : decode cX3_sharpen 8 = .ok (.invokevirtual 80, 3) := by decide +kernel
theorem dX3_sharpen_11 : decode cX3_sharpen 11 = .ok (.ireturn, 1) := by decide +kernel
set_option maxRecDepth 20000 in
theorem ggX3_renew_X3_checkCylinder : GoodIn wsX3_renew wsX3_checkCylinder := goodIn_ca (goodIn_r _ [8, 9, 10] (by decide +kernel) (by decide +kernel)) (goodIn_sub (fun _ h => List.mem_cons_of_mem _ (List.mem_append_right _ h)) (by decide +kernel))
set_option maxRecDepth 20000 in
theorem gX3_renew_X3_checkCylinder : GoodIn wsX3_renew (wsV RX3 70 RX3 yX3_checkCylinder wsX3_checkCylinder) := goodIn_app (goodIn_of _ (by decide +kernel)) ggX3_renew_X3_checkCylinder
set_option maxRecDepth 20000 in
theorem ggX3_renew_X3_saveState : GoodIn wsX3_renew wsX3_saveState := goodIn_r _ [14, 15, 16, 3, 17, 18, 19, 7, 20, 21, 22, 23, 24, 25, 26, 27, 28, 29, 30, 31, 32, 33, 34, 35, 36, 37, 38, 39, 40, 41, 42, 43, 44, 45, 46, 47, 48, 57, 58, 59, 60, 61, 62, 63, 64, 65, 66, 67, 68, 69, 70, 71, 72, 73, 74, 75, 76, 77, 78, 79, 80, 81, 82] (by decide +kernel) (by decide +kernel)
set_option maxRecDepth 20000 in
theorem gX3_renew_X3_saveState : GoodIn wsX3_renew (wsV RX3 52 RX3 yX3_saveState wsX3_saveState) := goodIn_app (goodIn_of _ (by decide +kernel)) ggX3_renew_X3_saveState
set_option maxRecDepth 20000 in
theorem ggX3_renew_X2_renewCylinder : GoodIn wsX3_renew wsX2_renewCylinder := goodIn_r _ [52, 37, 47, 46, 38, 53, 54, 55, 24, 56, 26, 34, 64, 65, 66, 67, 68, 69, 70, 71, 72, 73, 74, 75, 76, 77, 78, 79, 80, 81, 82] (by decide +kernel) (by decide +kernel)
set_option maxRecDepth 20000 in
theorem gX3_renew_X2_renewCylinder : GoodIn wsX3_renew (wsV RX3 90 RX2 yX2_renewCylinder wsX2_renewCylinder) := goodIn_app (goodIn_of _ (by decide +kernel)) ggX3_renew_X2_renewCylinder
theorem dX3_renew_0 : decode cX3_renew 0 = .ok (.aload_n 0, 1) := by decide +kernel
theorem dX3_renew_1 : decode cX3_renew 1 = .ok (.iload_n 1, 1) := by decide +kernel
theorem dX3_renew_2 : decode cX3_renew 2 = .ok (.invokevirtual 70, 3) := by decide +kernel
theorem dX3_renew_5 : decode cX3_renew 5 = .ok (.iload_n 2, 1) := by decide +kernel
theorem dX3_renew_6 : decode cX3_renew 6 = .ok (.ifCond .lt 9, 3) := by decide +kernel
theorem dX3_renew_9 : decode cX3_renew 9 = .ok (.iload_n 2, 1) := by decide +kernel
theorem dX3_renew_10 : decode cX3_renew 10 = .ok (.bipush 100, 2) := by decide +kernel
theorem dX3_renew_12 : decode cX3_renew 12 = .ok (.if_icmp .le 13, 3) := by decide +kernel
theorem dX3_renew_15 : decode cX3_renew 15 = .ok (.new 83, 3) := by decide +kernel
theorem dX3_renew_18 : decode cX3_renew 18 = .ok (.dup, 1) := by decide +kernel
theorem dX3_renew_19 : decode cX3_renew 19 = .ok (.ldc 85, 2) := by decide +kernel
theorem dX3_renew_21 : decode cX3_renew 21 = .ok (.invokespecial 87, 3) := by decide +kernel
theorem dX3_renew_24 : decode cX3_renew 24 = .ok (.athrow, 1) := by decide +kernel
theorem dX3_renew_25 : decode cX3_renew 25 = .ok (.aload_n 0, 1) := by decide +kernel
theorem dX3_renew_26 : decode cX3_renew 26 = .ok (.invokevirtual 52, 3) := by decide +kernel
theorem dX3_renew_29 : decode cX3_renew 29 = .ok (.aload_n 0, 1) := by decide +kernel
theorem dX3_renew_30 : decode cX3_renew 30 = .ok (.getfield 12, 3) := by decide +kernel
theorem dX3_renew_33 : decode cX3_renew 33 = .ok (.iload_n 1, 1) := by decide +kernel
theorem dX3_renew_34 : decode cX3_renew 34 = .ok (.iload_n 2, 1) := by decide +kernel
theorem dX3_renew_35 : decode cX3_renew 35 = .ok (.invokevirtual 90, 3) := by decide +kernel
theorem dX3_renew_38 : decode cX3_renew 38 = .ok (.ireturn, 1) := by decide +kernel
set_option maxRecDepth 20000 in
theorem ggX3_set_X3_saveState : GoodIn wsX3_set wsX3_saveState := goodIn_r _ [9, 10, 11, 3, 12, 13, 14, 8, 15, 16, 17, 18, 19, 20, 21, 22, 23, 24, 25, 26, 27, 28, 29, 30, 31, 32, 33, 34, 35, 36, 37, 38, 39, 40, 41, 42, 43, 44, 45, 46, 47, 48, 49, 50, 51, 52, 53, 54, 55, 56, 57, 58, 59, 60, 61, 62, 63, 64, 65, 66, 67, 68, 69] (by decide +kernel) (by decide +kernel)
set_option maxRecDepth 20000 in
theorem gX3_set_X3_saveState : GoodIn wsX3_set (wsV RX3 52 RX3 yX3_saveState wsX3_saveState) := goodIn_app (goodIn_of _ (by decide +kernel)) ggX3_set_X3_saveState
theorem dX3_set_0 : decode cX3_set 0 = .ok (.iload_n 1, 1) := by decide +kernel
theorem dX3_set_1 : decode cX3_set 1 = .ok (.ifCond .lt 9, 3) := by decide +kernel
theorem dX3_set_4 : decode cX3_set 4 = .ok (.iload_n 1, 1) := by decide +kernel
theorem dX3_set_5 : decode cX3_set 5 = .ok (.bipush 20, 2) := by decide +kernel
theorem dX3_set_7 : decode cX3_set 7 = .ok (.if_icmp .le 13, 3) := by decide +kernel
theorem dX3_set_10 : decode cX3_set 10 = .ok (.new 83, 3) := by decide +kernel
theorem dX3_set_13 : decode cX3_set 13 = .ok (.dup, 1) := by decide +kernel
theorem dX3_set_14 : decode cX3_set 14 = .ok (.ldc 93, 2) := by decide +kernel
theorem dX3_set_16 : decode cX3_set 16 = .ok (.invokespecial 87, 3) := by decide +kernel
theorem dX3_set_19 : decode cX3_set 19 = .ok (.athrow, 1) := by decide +kernel
theorem dX3_set_20 : decode cX3_set 20 = .ok (.aload_n 0, 1) := by decide +kernel
theorem dX3_set_21 : decode cX3_set 21 = .ok (.invokevirtual 52, 3) := by decide +kernel
theorem dX3_set_24 : decode cX3_set 24 = .ok (.aload_n 0, 1) := by decide +kernel
theorem dX3_set_25 : decode cX3_set 25 = .ok (.getfield 12, 3) := by decide +kernel
theorem dX3_set_28 : decode cX3_set 28 = .ok (.getfield 95, 3) := by decide +kernel
theorem dX3_set_31 : decode cX3_set 31 = .ok (.istore_n 2, 1) := by decide +kernel
theorem dX3_set_32 : decode cX3_set 32 = .ok (.aload_n 0, 1) := by decide +kernel
theorem dX3_set_33 : decode cX3_set 33 = .ok (.getfield 12, 3) := by decide +kernel
theorem dX3_set_36 : decode cX3_set 36 = .ok (.iload_n 1, 1) := by decide +kernel
theorem dX3_set_37 : decode cX3_set 37 = .ok (.putfield 95, 3) := by decide +kernel
theorem dX3_set_40 : decode cX3_set 40 = .ok (.iload_n 2, 1) := by decide +kernel
theorem dX3_set_41 : decode cX3_set 41 = .ok (.ireturn, 1) := by decide +kernel
set_option maxRecDepth 20000 in
theorem ggX3_undo_X2_takeOver : GoodIn wsX3_undo wsX2_takeOver := goodIn_r _ [10, 11, 12, 13, 14, 15, 16, 17, 18, 19, 20, 21, 22, 23, 24, 25, 26, 27, 28, 29, 30, 31, 32, 33, 41, 42, 43, 44, 45, 46, 47, 48, 49, 50, 51, 52, 53, 54, 55, 56, 57, 58, 59] (by decide +kernel) (by decide +kernel)
set_option maxRecDepth 20000 in
theorem gX3_undo_X2_takeOver : GoodIn wsX3_undo (wsV RX3 130 RX2 yX2_takeOver wsX2_takeOver) := goodIn_app (goodIn_of _ (by decide +kernel)) ggX3_undo_X2_takeOver
theorem dX3_undo_0 : decode cX3_undo 0 = .ok (.aload_n 0, 1) := by decide +kernel
theorem dX3_undo_1 : decode cX3_undo 1 = .ok (.getfield 27, 3) := by decide +kernel
theorem dX3_undo_4 : decode cX3_undo 4 = .ok (.ifCond .gt 13, 3) := by decide +kernel
theorem dX3_undo_7 : decode cX3_undo 7 = .ok (.new 104, 3) := by decide +kernel
theorem dX3_undo_10 : decode cX3_undo 10 = .ok (.dup, 1) := by decide +kernel
theorem dX3_undo_11 : decode cX3_undo 11 = .ok (.ldc 139, 2) := by decide +kernel
theorem dX3_undo_13 : decode cX3_undo 13 = .ok (.invokespecial 108, 3) := by decide +kernel
theorem dX3_undo_16 : decode cX3_undo 16 = .ok (.athrow, 1) := by decide +kernel
theorem dX3_undo_17 : decode cX3_undo 17 = .ok (.aload_n 0, 1) := by decide +kernel
theorem dX3_undo_18 : decode cX3_undo 18 = .ok (.dup, 1) := by decide +kernel
theorem dX3_undo_19 : decode cX3_undo 19 = .ok (.getfield 27, 3) := by decide +kernel
theorem dX3_undo_22 : decode cX3_undo 22 = .ok (.iconst 1, 1) := by decide +kernel
theorem dX3_undo_23 : decode cX3_undo 23 = .ok (.isub, 1) := by decide +kernel
theorem dX3_undo_24 : decode cX3_undo 24 = .ok (.putfield 27, 3) := by decide +kernel
theorem dX3_undo_27 : decode cX3_undo 27 = .ok (.aload_n 0, 1) := by decide +kernel
theorem dX3_undo_28 : decode cX3_undo 28 = .ok (.getfield 12, 3) := by decide +kernel
theorem dX3_undo_31 : decode cX3_undo 31 = .ok (.aload_n 0, 1) := by decide +kernel
theorem dX3_undo_32 : decode cX3_undo 32 = .ok (.getfield 24, 3) := by decide +kernel
theorem dX3_undo_35 : decode cX3_undo 35 = .ok (.aload_n 0, 1) := by decide +kernel
theorem dX3_undo_36 : decode cX3_undo 36 = .ok (.getfield 27, 3) := by decide +kernel
theorem dX3_undo_39 : decode cX3_undo 39 = .ok (.aaload, 1) := by decide +kernel
theorem dX3_undo_40 : decode cX3_undo 40 = .ok (.invokevirtual 130, 3) := by decide +kernel
theorem dX3_undo_43 : decode cX3_undo 43 = .ok (.aload_n 0, 1) := by decide +kernel
theorem dX3_undo_44 : decode cX3_undo 44 = .ok (.getfield 27, 3) := by decide +kernel
theorem dX3_undo_47 : decode cX3_undo 47 = .ok (.ireturn, 1) := by decide +kernel
set_option maxRecDepth 20000 in
theorem ggX3_trackOf_X3_checkTrack : GoodIn wsX3_trackOf wsX3_checkTrack := goodIn_ca (goodIn_r _ [6, 7, 8] (by decide +kernel) (by decide +kernel)) (goodIn_sub (fun _ h => List.mem_cons_of_mem _ (List.mem_append_left _ (List.mem_append_right _ h))) (by decide +kernel))
set_option maxRecDepth 20000 in
theorem gX3_trackOf_X3_checkTrack : GoodIn wsX3_trackOf (wsV RX3 45 RX3 yX3_checkTrack wsX3_checkTrack) := goodIn_app (goodIn_of _ (by decide +kernel)) ggX3_trackOf_X3_checkTrack
set_option maxRecDepth 20000 in
theorem ggX3_trackOf_X3_checkWhat : GoodIn wsX3_trackOf wsX3_checkWhat := goodIn_ca (goodIn_r _ [12, 13, 14] (by decide +kernel) (by decide +kernel)) (goodIn_sub (fun _ h => List.mem_cons_of_mem _ (List.mem_append_right _ h)) (by decide +kernel))
set_option maxRecDepth 20000 in
theorem gX3_trackOf_X3_checkWhat : GoodIn wsX3_trackOf (wsV RX3 141 RX3 yX3_checkWhat wsX3_checkWhat) := goodIn_app (goodIn_of _ (by decide +kernel)) ggX3_trackOf_X3_checkWhat
set_option maxRecDepth 20000 in
theorem ggX3_trackOf_X2_trackProperty : GoodIn wsX3_trackOf wsX2_trackProperty := goodIn_r _ [19, 20, 21, 22, 23, 24, 25, 26, 27, 28, 29, 18, 30, 38, 39, 40, 41, 42, 43, 44, 45, 46, 47, 48, 49, 50, 51, 52, 53, 54, 55, 56] (by decide +kernel) (by decide +kernel)
set_option maxRecDepth 20000 in
theorem gX3_trackOf_X2_trackProperty : GoodIn wsX3_trackOf (wsV RX3 145 RX2 yX2_trackProperty wsX2_trackProperty) := goodIn_app (goodIn_of _ (by decide +kernel)) ggX3_trackOf_X2_trackProperty
theorem dX3_trackOf_0 : decode cX3_trackOf 0 = .ok (.aload_n 0, 1) := by decide +kernel
theorem dX3_trackOf_1 : decode cX3_trackOf 1 = .ok (.iload_n 1, 1) := by decide +kernel
theorem dX3_trackOf_2 : decode cX3_trackOf 2 = .ok (.invokevirtual 45, 3) := by decide +kernel
theorem dX3_trackOf_5 : decode cX3_trackOf 5 = .ok (.aload_n 0, 1) := by decide +kernel
theorem dX3_trackOf_6 : decode cX3_trackOf 6 = .ok (.iload_n 2, 1) := by decide +kernel
theorem dX3_trackOf_7 : decode cX3_trackOf 7 = .ok (.bipush 7, 2) := by decide +kernel
theorem dX3_trackOf_9 : decode cX3_trackOf 9 = .ok (.invokevirtual 141, 3) := by decide +kernel
theorem dX3_trackOf_12 : decode cX3_trackOf 12 = .ok (.aload_n 0, 1) := by decide +kernel
theorem dX3_trackOf_13 : decode cX3_trackOf 13 = .ok (.getfield 12, 3) := by decide +kernel
theorem dX3_trackOf_16 : decode cX3_trackOf 16 = .ok (.iload_n 1, 1) := by decide +kernel
theorem dX3_trackOf_17 : decode cX3_trackOf 17 = .ok (.iload_n 2, 1) := by decide +kernel
theorem dX3_trackOf_18 : decode cX3_trackOf 18 = .ok (.invokevirtual 145, 3) := by decide +kernel
theorem dX3_trackOf_21 : decode cX3_trackOf 21 = .ok (.ireturn, 1) := by decide +kernel
set_option maxRecDepth 20000 in
theorem ggX3_cylinderOf_X3_checkCylinder : GoodIn wsX3_cylinderOf wsX3_checkCylinder := goodIn_ca (goodIn_r _ [6, 7, 8] (by decide +kernel) (by decide +kernel)) (goodIn_sub (fun _ h => List.mem_cons_of_mem _ (List.mem_append_left _ (List.mem_append_right _ h))) (by decide +kernel))
set_option maxRecDepth 20000 in
theorem gX3_cylinderOf_X3_checkCylinder : GoodIn wsX3_cylinderOf (wsV RX3 70 RX3 yX3_checkCylinder wsX3_checkCylinder) := goodIn_app (goodIn_of _ (by decide +kernel)) ggX3_cylinderOf_X3_checkCylinder
set_option maxRecDepth 20000 in
theorem ggX3_cylinderOf_X3_checkWhat : GoodIn wsX3_cylinderOf wsX3_checkWhat := goodIn_ca (goodIn_r _ [12, 13, 14] (by decide +kernel) (by decide +kernel)) (goodIn_sub (fun _ h => List.mem_cons_of_mem _ (List.mem_append_right _ h)) (by decide +kernel))
set_option maxRecDepth 20000 in
theorem gX3_cylinderOf_X3_checkWhat : GoodIn wsX3_cylinderOf (wsV RX3 141 RX3 yX3_checkWhat wsX3_checkWhat) := goodIn_app (goodIn_of _ (by decide +kernel)) ggX3_cylinderOf_X3_checkWhat
set_option maxRecDepth 20000 in
theorem ggX3_cylinderOf_X2_cylinderProperty : GoodIn wsX3_cylinderOf wsX2_cylinderProperty := goodIn_r _ [19, 20, 21, 22, 23, 24, 18, 25, 26, 27, 28, 29, 30, 31, 32, 33, 34, 35, 36, 37, 38, 39, 40, 41, 42, 43, 51, 52, 53, 54, 55, 56, 57, 58, 59, 60, 61, 62, 63, 64, 65, 66, 67, 68, 69] (by decide +kernel) (by decide +kernel)
set_option maxRecDepth 20000 in
theorem gX3_cylinderOf_X2_cylinderProperty : GoodIn wsX3_cylinderOf (wsV RX3 148 RX2 yX2_cylinderProperty wsX2_cylinderProperty) := goodIn_app (goodIn_of _ (by decide +kernel)) ggX3_cylinderOf_X2_cylinderProperty
theorem dX3_cylinderOf_0 : decode cX3_cylinderOf 0 = .ok (.aload_n 0, 1) := by decide +kernel
theorem dX3_cylinderOf_1 : decode cX3_cylinderOf 1 = .ok (.iload_n 1, 1) := by decide +kernel
theorem dX3_cylinderOf_2 : decode cX3_cylinderOf 2 = .ok (.invokevirtual 70, 3) := by decide +kernel
theorem dX3_cylinderOf_5 : decode cX3_cylinderOf 5 = .ok (.aload_n 0, 1) := by decide +kernel
theorem dX3_cylinderOf_6 : decode cX3_cylinderOf 6 = .ok (.iload_n 2, 1) := by decide +kernel
theorem dX3_cylinderOf_7 : decode cX3_cylinderOf 7 = .ok (.iconst 5, 1) := by decide +kernel
theorem dX3_cylinderOf_8 : decode cX3_cylinderOf 8 = .ok (.invokevirtual 141, 3) := by decide +kernel
theorem dX3_cylinderOf_11 : decode cX3_cylinderOf 11 = .ok (.aload_n 0, 1) := by decide +kernel
theorem dX3_cylinderOf_12 : decode cX3_cylinderOf 12 = .ok (.getfield 12, 3) := by decide +kernel
theorem dX3_cylinderOf_15 : decode cX3_cylinderOf 15 = .ok (.iload_n 1, 1) := by decide +kernel
theorem dX3_cylinderOf_16 : decode cX3_cylinderOf 16 = .ok (.iload_n 2, 1) := by decide +kernel
theorem dX3_cylinderOf_17 : decode cX3_cylinderOf 17 = .ok (.invokevirtual 148, 3) := by decide +kernel
theorem dX3_cylinderOf_20 : decode cX3_cylinderOf 20 = .ok (.ireturn, 1) := by decide +kernel
set_option maxRecDepth 20000 in
theorem ggX3_count_X3_checkWhat : GoodIn wsX3_count wsX3_checkWhat := goodIn_ca (goodIn_r _ [7, 8, 9] (by decide +kernel) (by decide +kernel)) (goodIn_sub (fun _ h => List.mem_cons_of_mem _ (List.mem_append_right _ h)) (by decide +kernel))
set_option maxRecDepth 20000 in
theorem gX3_count_X3_checkWhat : GoodIn wsX3_count (wsV RX3 141 RX3 yX3_checkWhat wsX3_checkWhat) := goodIn_app (goodIn_of _ (by decide +kernel)) ggX3_count_X3_checkWhat
set_option maxRecDepth 20000 in
theorem ggX3_count_X2_number : GoodIn wsX3_count wsX2_number := goodIn_r _ [14, 15, 16, 17, 18, 19, 20, 21, 22, 23, 24, 25, 26, 13, 27, 28, 29, 30, 31, 32, 33, 34, 35, 36, 37, 38, 39, 40, 41, 42, 43, 44, 45, 53, 54, 55, 56, 57, 58, 59, 60, 61, 62, 63, 64, 65, 66, 67, 68, 69, 70, 71] (by decide +kernel) (by decide +kernel)
set_option maxRecDepth 20000 in
theorem gX3_count_X2_number : GoodIn wsX3_count (wsV RX3 151 RX2 yX2_number wsX2_number) := goodIn_app (goodIn_of _ (by decide +kernel)) ggX3_count_X2_number
theorem dX3_count_0 : decode cX3_count 0 = .ok (.aload_n 0, 1) := by decide +kernel
theorem dX3_count_1 : decode cX3_count 1 = .ok (.iload_n 1, 1) := by decide +kernel
theorem dX3_count_2 : decode cX3_count 2 = .ok (.bipush 13, 2) := by decide +kernel
theorem dX3_count_4 : decode cX3_count 4 = .ok (.invokevirtual 141, 3) := by decide +kernel
theorem dX3_count_7 : decode cX3_count 7 = .ok (.iload_n 1, 1) := by decide +kernel
theorem dX3_count_8 : decode cX3_count 8 = .ok (.bipush 12, 2) := by decide +kernel
theorem dX3_count_10 : decode cX3_count 10 = .ok (.if_icmp .ne 10, 3) := by decide +kernel
theorem dX3_count_13 : decode cX3_count 13 = .ok (.aload_n 0, 1) := by decide +kernel
theorem dX3_count_14 : decode cX3_count 14 = .ok (.getfield 27, 3) := by decide +kernel
theorem dX3_count_17 : decode cX3_count 17 = .ok (.goto 11, 3) := by decide +kernel
theorem dX3_count_20 : decode cX3_count 20 = .ok (.aload_n 0, 1) := by decide +kernel
theorem dX3_count_21 : decode cX3_count 21 = .ok (.getfield 12, 3) := by decide +kernel
theorem dX3_count_24 : decode cX3_count 24 = .ok (.iload_n 1, 1) := by decide +kernel
theorem dX3_count_25 : decode cX3_count 25 = .ok (.invokevirtual 151, 3) := by decide +kernel
theorem dX3_count_28 : decode cX3_count 28 = .ok (.ireturn, 1) := by decide +kernel
theorem dX3_setting_0 : decode cX3_setting 0 = .ok (.aload_n 0, 1) := by decide +kernel
theorem dX3_setting_1 : decode cX3_setting 1 = .ok (.getfield 12, 3) := by decide +kernel
theorem dX3_setting_4 : decode cX3_setting 4 = .ok (.getfield 95, 3) := by decide +kernel
theorem dX3_setting_7 : decode cX3_setting 7 = .ok (.ireturn, 1) := by decide +kernel
set_option maxRecDepth 20000 in
theorem ggX3_whyNot_X3_checkTrack : GoodIn wsX3_whyNot wsX3_checkTrack := goodIn_ca (goodIn_r _ [6, 7, 8] (by decide +kernel) (by decide +kernel)) (goodIn_sub (fun _ h => List.mem_cons_of_mem _ (List.mem_append_left _ (List.mem_append_right _ h))) (by decide +kernel))
set_option maxRecDepth 20000 in
theorem gX3_whyNot_X3_checkTrack : GoodIn wsX3_whyNot (wsV RX3 45 RX3 yX3_checkTrack wsX3_checkTrack) := goodIn_app (goodIn_of _ (by decide +kernel)) ggX3_whyNot_X3_checkTrack
set_option maxRecDepth 20000 in
theorem ggX3_whyNot_X3_checkLoudness : GoodIn wsX3_whyNot wsX3_checkLoudness := goodIn_ca (goodIn_r _ [12, 13, 14] (by decide +kernel) (by decide +kernel)) (goodIn_sub (fun _ h => List.mem_cons_of_mem _ (List.mem_append_right _ h)) (by decide +kernel))
set_option maxRecDepth 20000 in
theorem gX3_whyNot_X3_checkLoudness : GoodIn wsX3_whyNot (wsV RX3 49 RX3 yX3_checkLoudness wsX3_checkLoudness) := goodIn_app (goodIn_of _ (by decide +kernel)) ggX3_whyNot_X3_checkLoudness
set_option maxRecDepth 20000 in
theorem ggX3_whyNot_X2_reasonNotToSpeak : GoodIn wsX3_whyNot wsX2_reasonNotToSpeak := goodIn_r _ [19, 20, 21, 22, 23, 24, 18, 25, 26, 34, 35, 36, 37, 38, 39, 40, 41, 42, 43, 44, 45, 46, 47, 48, 49, 50, 51, 52] (by decide +kernel) (by decide +kernel)
set_option maxRecDepth 20000 in
theorem gX3_whyNot_X2_reasonNotToSpeak : GoodIn wsX3_whyNot (wsV RX3 154 RX2 yX2_reasonNotToSpeak wsX2_reasonNotToSpeak) := goodIn_app (goodIn_of _ (by decide +kernel)) ggX3_whyNot_X2_reasonNotToSpeak
theorem dX3_whyNot_0 : decode cX3_whyNot 0 = .ok (.aload_n 0, 1) := by decide +kernel
theorem dX3_whyNot_1 : decode cX3_whyNot 1 = .ok (.iload_n 1, 1) := by decide +kernel
theorem dX3_whyNot_2 : decode cX3_whyNot 2 = .ok (.invokevirtual 45, 3) := by decide +kernel
theorem dX3_whyNot_5 : decode cX3_whyNot 5 = .ok (.aload_n 0, 1) := by decide +kernel
theorem dX3_whyNot_6 : decode cX3_whyNot 6 = .ok (.iload_n 2, 1) := by decide +kernel
theorem dX3_whyNot_7 : decode cX3_whyNot 7 = .ok (.invokevirtual 49, 3) := by decide +kernel
theorem dX3_whyNot_10 : decode cX3_whyNot 10 = .ok (.aload_n 0, 1) := by decide +kernel
theorem dX3_whyNot_11 : decode cX3_whyNot 11 = .ok (.getfield 12, 3) := by decide +kernel
theorem dX3_whyNot_14 : decode cX3_whyNot 14 = .ok (.iload_n 1, 1) := by decide +kernel
theorem dX3_whyNot_15 : decode cX3_whyNot 15 = .ok (.iload_n 2, 1) := by decide +kernel
theorem dX3_whyNot_16 : decode cX3_whyNot 16 = .ok (.invokevirtual 154, 3) := by decide +kernel
theorem dX3_whyNot_19 : decode cX3_whyNot 19 = .ok (.ireturn, 1) := by decide +kernel
set_option maxRecDepth 20000 in
theorem ggX3_ifCopied_X3_checkTrack : GoodIn wsX3_ifCopied wsX3_checkTrack := goodIn_ca (goodIn_r _ [6, 7, 8] (by decide +kernel) (by decide +kernel)) (goodIn_sub (fun _ h => List.mem_cons_of_mem _ (List.mem_append_left _ (List.mem_append_right _ h))) (by decide +kernel))
set_option maxRecDepth 20000 in
theorem gX3_ifCopied_X3_checkTrack : GoodIn wsX3_ifCopied (wsV RX3 45 RX3 yX3_checkTrack wsX3_checkTrack) := goodIn_app (goodIn_of _ (by decide +kernel)) ggX3_ifCopied_X3_checkTrack
set_option maxRecDepth 20000 in
theorem ggX3_ifCopied_X3_checkLever : GoodIn wsX3_ifCopied wsX3_checkLever := goodIn_ca (goodIn_r _ [12, 13, 14] (by decide +kernel) (by decide +kernel)) (goodIn_sub (fun _ h => List.mem_cons_of_mem _ (List.mem_append_right _ h)) (by decide +kernel))
set_option maxRecDepth 20000 in
theorem gX3_ifCopied_X3_checkLever : GoodIn wsX3_ifCopied (wsV RX3 59 RX3 yX3_checkLever wsX3_checkLever) := goodIn_app (goodIn_of _ (by decide +kernel)) ggX3_ifCopied_X3_checkLever
set_option maxRecDepth 20000 in
theorem ggX3_ifCopied_X2_reasonNotToCopy : GoodIn wsX3_ifCopied wsX2_reasonNotToCopy := goodIn_r _ [19, 20, 21, 22, 23, 24, 25, 18, 26, 27, 5, 28, 29, 30, 31, 32, 33, 34, 35, 58, 59, 60, 61, 62, 63, 64, 65, 66, 67, 68, 69, 70, 71, 72, 73, 74, 75, 76] (by decide +kernel) (by decide +kernel)
set_option maxRecDepth 20000 in
theorem gX3_ifCopied_X2_reasonNotToCopy : GoodIn wsX3_ifCopied (wsV RX3 157 RX2 yX2_reasonNotToCopy wsX2_reasonNotToCopy) := goodIn_app (goodIn_of _ (by decide +kernel)) ggX3_ifCopied_X2_reasonNotToCopy
set_option maxRecDepth 20000 in
theorem ggX3_ifCopied_X2_clearnessIfCopied : GoodIn wsX3_ifCopied wsX2_clearnessIfCopied := goodIn_r _ [39, 40, 41, 42, 43, 44, 18, 45, 22, 46, 5, 47, 29, 30, 31, 32, 48, 49, 50, 58, 59, 60, 61, 62, 63, 64, 65, 66, 67, 68, 69, 70, 71, 72, 73, 74, 75, 76] (by decide +kernel) (by decide +kernel)
set_option maxRecDepth 20000 in
theorem gX3_ifCopied_X2_clearnessIfCopied : GoodIn wsX3_ifCopied (wsV RX3 160 RX2 yX2_clearnessIfCopied wsX2_clearnessIfCopied) := goodIn_app (goodIn_of _ (by decide +kernel)) ggX3_ifCopied_X2_clearnessIfCopied
theorem dX3_ifCopied_0 : decode cX3_ifCopied 0 = .ok (.aload_n 0, 1) := by decide +kernel
theorem dX3_ifCopied_1 : decode cX3_ifCopied 1 = .ok (.iload_n 1, 1) := by decide +kernel
theorem dX3_ifCopied_2 : decode cX3_ifCopied 2 = .ok (.invokevirtual 45, 3) := by decide +kernel
theorem dX3_ifCopied_5 : decode cX3_ifCopied 5 = .ok (.aload_n 0, 1) := by decide +kernel
theorem dX3_ifCopied_6 : decode cX3_ifCopied 6 = .ok (.iload_n 2, 1) := by decide +kernel
theorem dX3_ifCopied_7 : decode cX3_ifCopied 7 = .ok (.invokevirtual 45, 3) := by decide +kernel
theorem dX3_ifCopied_10 : decode cX3_ifCopied 10 = .ok (.aload_n 0, 1) := by decide +kernel
theorem dX3_ifCopied_11 : decode cX3_ifCopied 11 = .ok (.iload_n 3, 1) := by decide +kernel
theorem dX3_ifCopied_12 : decode cX3_ifCopied 12 = .ok (.invokevirtual 59, 3) := by decide +kernel
theorem dX3_ifCopied_15 : decode cX3_ifCopied 15 = .ok (.aload_n 0, 1) := by decide +kernel
theorem dX3_ifCopied_16 : decode cX3_ifCopied 16 = .ok (.getfield 12, 3) := by decide +kernel
theorem dX3_ifCopied_19 : decode cX3_ifCopied 19 = .ok (.iload_n 1, 1) := by decide +kernel
theorem dX3_ifCopied_20 : decode cX3_ifCopied 20 = .ok (.iload_n 2, 1) := by decide +kernel
theorem dX3_ifCopied_21 : decode cX3_ifCopied 21 = .ok (.iload_n 3, 1) := by decide +kernel
theorem dX3_ifCopied_22 : decode cX3_ifCopied 22 = .ok (.invokevirtual 157, 3) := by decide +kernel
theorem dX3_ifCopied_25 : decode cX3_ifCopied 25 = .ok (.istore 4, 2) := by decide +kernel
theorem dX3_ifCopied_27 : decode cX3_ifCopied 27 = .ok (.iload 4, 2) := by decide +kernel
theorem dX3_ifCopied_29 : decode cX3_ifCopied 29 = .ok (.ifCond .ne 15, 3) := by decide +kernel
theorem dX3_ifCopied_32 : decode cX3_ifCopied 32 = .ok (.aload_n 0, 1) := by decide +kernel
theorem dX3_ifCopied_33 : decode cX3_ifCopied 33 = .ok (.getfield 12, 3) := by decide +kernel
theorem dX3_ifCopied_36 : decode cX3_ifCopied 36 = .ok (.iload_n 1, 1) := by decide +kernel
theorem dX3_ifCopied_37 : decode cX3_ifCopied 37 = .ok (.iload_n 3, 1) := by decide +kernel
theorem dX3_ifCopied_38 : decode cX3_ifCopied 38 = .ok (.invokevirtual 160, 3) := by decide +kernel
theorem dX3_ifCopied_41 : decode cX3_ifCopied 41 = .ok (.goto 6, 3) := by decide +kernel
theorem dX3_ifCopied_44 : decode cX3_ifCopied 44 = .ok (.iload 4, 2) := by decide +kernel
theorem dX3_ifCopied_46 : decode cX3_ifCopied 46 = .ok (.ineg, 1) := by decide +kernel
theorem dX3_ifCopied_47 : decode cX3_ifCopied 47 = .ok (.ireturn, 1) := by decide +kernel
set_option maxRecDepth 20000 in
theorem ggX3_chain_X3_checkTrack : GoodIn wsX3_chain wsX3_checkTrack := goodIn_ca (goodIn_r _ [12, 13, 14] (by decide +kernel) (by decide +kernel)) (goodIn_sub (fun _ h => List.mem_cons_of_mem _ (List.mem_append_right _ h)) (by decide +kernel))
set_option maxRecDepth 20000 in
theorem gX3_chain_X3_checkTrack : GoodIn wsX3_chain (wsV RX3 45 RX3 yX3_checkTrack wsX3_checkTrack) := goodIn_app (goodIn_of _ (by decide +kernel)) ggX3_chain_X3_checkTrack
set_option maxRecDepth 20000 in
theorem ggX3_chain_X3_checkWhat : GoodIn wsX3_chain wsX3_checkWhat := goodIn_ca (goodIn_r _ [18, 1, 2] (by decide +kernel) (by decide +kernel)) (goodIn_sub (fun _ h => List.mem_cons_of_mem _ (List.mem_append_left _ (List.mem_append_right _ h))) (by decide +kernel))
set_option maxRecDepth 20000 in
theorem gX3_chain_X3_checkWhat : GoodIn wsX3_chain (wsV RX3 141 RX3 yX3_checkWhat wsX3_checkWhat) := goodIn_app (goodIn_of _ (by decide +kernel)) ggX3_chain_X3_checkWhat
set_option maxRecDepth 20000 in
theorem ggX3_chain_X2_isCut : GoodIn wsX3_chain wsX2_isCut := goodIn_r _ [23, 24, 73, 74, 75, 76, 77, 78, 79, 80, 81, 82, 83, 84, 85, 86, 87, 88, 89, 90, 91] (by decide +kernel) (by decide +kernel)
set_option maxRecDepth 20000 in
theorem gX3_chain_X2_isCut : GoodIn wsX3_chain (wsV RX3 165 RX2 yX2_isCut wsX2_isCut) := goodIn_app (goodIn_of _ (by decide +kernel)) ggX3_chain_X2_isCut
set_option maxRecDepth 20000 in
theorem ggX3_chain_X1_clearestAfter : GoodIn wsX3_chain wsX1_clearestAfter := goodIn_r _ [29, 30, 31, 32, 33, 28, 34, 35, 11, 36, 37, 38, 39, 40, 41, 42, 43, 44, 45, 46, 47, 48, 49, 50, 51, 52, 53, 54, 55, 56, 57, 58, 59, 92, 93] (by decide +kernel) (by decide +kernel)
set_option maxRecDepth 20000 in
theorem gX3_chain_X1_clearestAfter : GoodIn wsX3_chain (wsV RX3 179 RX1 yX1_clearestAfter wsX1_clearestAfter) := goodIn_app (goodIn_of _ (by decide +kernel)) ggX3_chain_X1_clearestAfter
set_option maxRecDepth 20000 in
theorem ggX3_chain_X3_clearestOfAllLevers : GoodIn wsX3_chain wsX3_clearestOfAllLevers := goodIn_r _ [62, 37, 38, 39, 40, 63, 46, 11, 47, 48, 49, 50, 64, 51, 52, 53, 54, 55, 65, 35, 36, 60, 61] (by decide +kernel) (by decide +kernel)
set_option maxRecDepth 20000 in
theorem gX3_chain_X3_clearestOfAllLevers : GoodIn wsX3_chain (va_wsS RX3 183 yX3_clearestOfAllLevers wsX3_clearestOfAllLevers) := goodIn_app (goodIn_of _ (by decide +kernel)) ggX3_chain_X3_clearestOfAllLevers
theorem dX3_chain_0 : decode cX3_chain 0 = .ok (.aload_n 0, 1) := by decide +kernel
theorem dX3_chain_1 : decode cX3_chain 1 = .ok (.iload_n 1, 1) := by decide +kernel
theorem dX3_chain_2 : decode cX3_chain 2 = .ok (.invokevirtual 45, 3) := by decide +kernel
theorem dX3_chain_5 : decode cX3_chain 5 = .ok (.iload_n 2, 1) := by decide +kernel
theorem dX3_chain_6 : decode cX3_chain 6 = .ok (.iconst 1, 1) := by decide +kernel
theorem dX3_chain_7 : decode cX3_chain 7 = .ok (.if_icmp .lt 8, 3) := by decide +kernel
theorem dX3_chain_10 : decode cX3_chain 10 = .ok (.iload_n 2, 1) := by decide +kernel
theorem dX3_chain_11 : decode cX3_chain 11 = .ok (.iconst 5, 1) := by decide +kernel
theorem dX3_chain_12 : decode cX3_chain 12 = .ok (.if_icmp .le 13, 3) := by decide +kernel
theorem dX3_chain_15 : decode cX3_chain 15 = .ok (.new 83, 3) := by decide +kernel
theorem dX3_chain_18 : decode cX3_chain 18 = .ok (.dup, 1) := by decide +kernel
theorem dX3_chain_19 : decode cX3_chain 19 = .ok (.ldc 163, 2) := by decide +kernel
theorem dX3_chain_21 : decode cX3_chain 21 = .ok (.invokespecial 87, 3) := by decide +kernel
theorem dX3_chain_24 : decode cX3_chain 24 = .ok (.athrow, 1) := by decide +kernel
theorem dX3_chain_25 : decode cX3_chain 25 = .ok (.aload_n 0, 1) := by decide +kernel
theorem dX3_chain_26 : decode cX3_chain 26 = .ok (.iload_n 3, 1) := by decide +kernel
theorem dX3_chain_27 : decode cX3_chain 27 = .ok (.iconst 2, 1) := by decide +kernel
theorem dX3_chain_28 : decode cX3_chain 28 = .ok (.invokevirtual 141, 3) := by decide +kernel
theorem dX3_chain_31 : decode cX3_chain 31 = .ok (.aload_n 0, 1) := by decide +kernel
theorem dX3_chain_32 : decode cX3_chain 32 = .ok (.getfield 12, 3) := by decide +kernel
theorem dX3_chain_35 : decode cX3_chain 35 = .ok (.iload_n 1, 1) := by decide +kernel
theorem dX3_chain_36 : decode cX3_chain 36 = .ok (.invokevirtual 165, 3) := by decide +kernel
theorem dX3_chain_39 : decode cX3_chain 39 = .ok (.ifCond .ne 5, 3) := by decide +kernel
theorem dX3_chain_42 : decode cX3_chain 42 = .ok (.iconst (-1), 1) := by decide +kernel
theorem dX3_chain_43 : decode cX3_chain 43 = .ok (.ireturn, 1) := by decide +kernel
theorem dX3_chain_44 : decode cX3_chain 44 = .ok (.aload_n 0, 1) := by decide +kernel
theorem dX3_chain_45 : decode cX3_chain 45 = .ok (.getfield 12, 3) := by decide +kernel
theorem dX3_chain_48 : decode cX3_chain 48 = .ok (.getfield 169, 3) := by decide +kernel
theorem dX3_chain_51 : decode cX3_chain 51 = .ok (.iload_n 1, 1) := by decide +kernel
theorem dX3_chain_52 : decode cX3_chain 52 = .ok (.iaload, 1) := by decide +kernel
theorem dX3_chain_53 : decode cX3_chain 53 = .ok (.istore 4, 2) := by decide +kernel
theorem dX3_chain_55 : decode cX3_chain 55 = .ok (.aload_n 0, 1) := by decide +kernel
theorem dX3_chain_56 : decode cX3_chain 56 = .ok (.getfield 12, 3) := by decide +kernel
theorem dX3_chain_59 : decode cX3_chain 59 = .ok (.getfield 173, 3) := by decide +kernel
theorem dX3_chain_62 : decode cX3_chain 62 = .ok (.iload_n 1, 1) := by decide +kernel
theorem dX3_chain_63 : decode cX3_chain 63 = .ok (.iaload, 1) := by decide +kernel
theorem dX3_chain_64 : decode cX3_chain 64 = .ok (.istore 5, 2) := by decide +kernel
theorem dX3_chain_66 : decode cX3_chain 66 = .ok (.iload_n 3, 1) := by decide +kernel
theorem dX3_chain_67 : decode cX3_chain 67 = .ok (.ifCond .ne 23, 3) := by decide +kernel
theorem dX3_chain_70 : decode cX3_chain 70 = .ok (.aload_n 0, 1) := by decide +kernel
theorem dX3_chain_71 : decode cX3_chain 71 = .ok (.getfield 41, 3) := by decide +kernel
theorem dX3_chain_74 : decode cX3_chain 74 = .ok (.iload_n 2, 1) := by decide +kernel
theorem dX3_chain_75 : decode cX3_chain 75 = .ok (.iload 4, 2) := by decide +kernel
theorem dX3_chain_77 : decode cX3_chain 77 = .ok (.iload 5, 2) := by decide +kernel
theorem dX3_chain_79 : decode cX3_chain 79 = .ok (.aload_n 0, 1) := by decide +kernel
theorem dX3_chain_80 : decode cX3_chain 80 = .ok (.getfield 12, 3) := by decide +kernel
theorem dX3_chain_83 : decode cX3_chain 83 = .ok (.getfield 176, 3) := by decide +kernel
theorem dX3_chain_86 : decode cX3_chain 86 = .ok (.invokevirtual 179, 3) := by decide +kernel
theorem dX3_chain_89 : decode cX3_chain 89 = .ok (.ireturn, 1) := by decide +kernel
theorem dX3_chain_90 : decode cX3_chain 90 = .ok (.iload_n 2, 1) := by decide +kernel
theorem dX3_chain_91 : decode cX3_chain 91 = .ok (.iload 4, 2) := by decide +kernel
theorem dX3_chain_93 : decode cX3_chain 93 = .ok (.iload 5, 2) := by decide +kernel
theorem dX3_chain_95 : decode cX3_chain 95 = .ok (.aload_n 0, 1) := by decide +kernel
theorem dX3_chain_96 : decode cX3_chain 96 = .ok (.getfield 12, 3) := by decide +kernel
theorem dX3_chain_99 : decode cX3_chain 99 = .ok (.getfield 176, 3) := by decide +kernel
theorem dX3_chain_102 : decode cX3_chain 102 = .ok (.invokestatic 183, 3) := by decide +kernel
theorem dX3_chain_105 : decode cX3_chain 105 = .ok (.ireturn, 1) := by decide +kernel
set_option maxRecDepth 20000 in
theorem ggX3_clearest_X2_clearestTrack : GoodIn wsX3_clearest wsX2_clearestTrack := goodIn_r _ [6, 7, 8, 9, 5, 10, 11, 12, 13, 14, 15, 16, 17, 25, 26, 27, 28, 29, 30, 31, 32, 33, 34, 35, 36, 37, 38, 39, 40, 41, 42, 43] (by decide +kernel) (by decide +kernel)
set_option maxRecDepth 20000 in
theorem gX3_clearest_X2_clearestTrack : GoodIn wsX3_clearest (wsV RX3 186 RX2 yX2_clearestTrack wsX2_clearestTrack) := goodIn_app (goodIn_of _ (by decide +kernel)) ggX3_clearest_X2_clearestTrack
theorem dX3_clearest_0 : decode cX3_clearest 0 = .ok (.aload_n 0, 1) := by decide +kernel
theorem dX3_clearest_1 : decode cX3_clearest 1 = .ok (.getfield 12, 3) := by decide +kernel
theorem dX3_clearest_4 : decode cX3_clearest 4 = .ok (.invokevirtual 186, 3) := by decide +kernel
theorem dX3_clearest_7 : decode cX3_clearest 7 = .ok (.ireturn, 1) := by decide +kernel
set_option maxRecDepth 20000 in
theorem ggX3_daughters_X3_checkTrack : GoodIn wsX3_daughters wsX3_checkTrack := goodIn_ca (goodIn_r _ [6, 7, 8] (by decide +kernel) (by decide +kernel)) (goodIn_sub (fun _ h => List.mem_cons_of_mem _ (List.mem_append_right _ h)) (by decide +kernel))
set_option maxRecDepth 20000 in
theorem gX3_daughters_X3_checkTrack : GoodIn wsX3_daughters (wsV RX3 45 RX3 yX3_checkTrack wsX3_checkTrack) := goodIn_app (goodIn_of _ (by decide +kernel)) ggX3_daughters_X3_checkTrack
set_option maxRecDepth 20000 in
theorem ggX3_daughters_X2_descendants : GoodIn wsX3_daughters wsX2_descendants := goodIn_r _ [13, 14, 15, 16, 12, 17, 18, 26, 27, 28, 29, 30, 31, 32, 33, 34, 35, 36, 37, 38, 39, 40, 41, 42, 43, 44] (by decide +kernel) (by decide +kernel)
set_option maxRecDepth 20000 in
theorem gX3_daughters_X2_descendants : GoodIn wsX3_daughters (wsV RX3 189 RX2 yX2_descendants wsX2_descendants) := goodIn_app (goodIn_of _ (by decide +kernel)) ggX3_daughters_X2_descendants
theorem dX3_daughters_0 : decode cX3_daughters 0 = .ok (.aload_n 0, 1) := by decide +kernel
theorem dX3_daughters_1 : decode cX3_daughters 1 = .ok (.iload_n 1, 1) := by decide +kernel
theorem dX3_daughters_2 : decode cX3_daughters 2 = .ok (.invokevirtual 45, 3) := by decide +kernel
theorem dX3_daughters_5 : decode cX3_daughters 5 = .ok (.aload_n 0, 1) := by decide +kernel
theorem dX3_daughters_6 : decode cX3_daughters 6 = .ok (.getfield 12, 3) := by decide +kernel
theorem dX3_daughters_9 : decode cX3_daughters 9 = .ok (.iload_n 1, 1) := by decide +kernel
theorem dX3_daughters_10 : decode cX3_daughters 10 = .ok (.invokevirtual 189, 3) := by decide +kernel
theorem dX3_daughters_13 : decode cX3_daughters 13 = .ok (.ireturn, 1) := by decide +kernel
set_option maxRecDepth 20000 in
theorem ggX3_meanDepth_X2_cutTracks : GoodIn wsX3_meanDepth wsX2_cutTracks := goodIn_r _ [6, 7, 8, 9, 5, 10, 11, 12, 13, 14, 15, 27, 28, 29, 30, 31, 32, 33, 34, 35, 36, 37, 38, 39, 40, 41, 42, 43, 44, 45] (by decide +kernel) (by decide +kernel)
set_option maxRecDepth 20000 in
theorem gX3_meanDepth_X2_cutTracks : GoodIn wsX3_meanDepth (wsV RX3 134 RX2 yX2_cutTracks wsX2_cutTracks) := goodIn_app (goodIn_of _ (by decide +kernel)) ggX3_meanDepth_X2_cutTracks
set_option maxRecDepth 20000 in
theorem ggX3_meanDepth_X2_depthTogether : GoodIn wsX3_meanDepth wsX2_depthTogether := goodIn_r _ [19, 15, 27, 28, 29, 30, 31, 32, 33, 34, 35, 36, 37, 38, 39, 40, 41, 42, 43, 44, 45] (by decide +kernel) (by decide +kernel)
set_option maxRecDepth 20000 in
theorem gX3_meanDepth_X2_depthTogether : GoodIn wsX3_meanDepth (wsV RX3 192 RX2 yX2_depthTogether wsX2_depthTogether) := goodIn_app (goodIn_of _ (by decide +kernel)) ggX3_meanDepth_X2_depthTogether
theorem dX3_meanDepth_0 : decode cX3_meanDepth 0 = .ok (.aload_n 0, 1) := by decide +kernel
theorem dX3_meanDepth_1 : decode cX3_meanDepth 1 = .ok (.getfield 12, 3) := by decide +kernel
theorem dX3_meanDepth_4 : decode cX3_meanDepth 4 = .ok (.invokevirtual 134, 3) := by decide +kernel
theorem dX3_meanDepth_7 : decode cX3_meanDepth 7 = .ok (.istore_n 1, 1) := by decide +kernel
theorem dX3_meanDepth_8 : decode cX3_meanDepth 8 = .ok (.iload_n 1, 1) := by decide +kernel
theorem dX3_meanDepth_9 : decode cX3_meanDepth 9 = .ok (.ifCond .gt 7, 3) := by decide +kernel
theorem dX3_meanDepth_12 : decode cX3_meanDepth 12 = .ok (.fconst 0, 1) := by decide +kernel
theorem dX3_meanDepth_13 : decode cX3_meanDepth 13 = .ok (.goto 14, 3) := by decide +kernel
theorem dX3_meanDepth_16 : decode cX3_meanDepth 16 = .ok (.aload_n 0, 1) := by decide +kernel
theorem dX3_meanDepth_17 : decode cX3_meanDepth 17 = .ok (.getfield 12, 3) := by decide +kernel
theorem dX3_meanDepth_20 : decode cX3_meanDepth 20 = .ok (.invokevirtual 192, 3) := by decide +kernel
theorem dX3_meanDepth_23 : decode cX3_meanDepth 23 = .ok (.i2f, 1) := by decide +kernel
theorem dX3_meanDepth_24 : decode cX3_meanDepth 24 = .ok (.iload_n 1, 1) := by decide +kernel
theorem dX3_meanDepth_25 : decode cX3_meanDepth 25 = .ok (.i2f, 1) := by decide +kernel
theorem dX3_meanDepth_26 : decode cX3_meanDepth 26 = .ok (.fdiv, 1) := by decide +kernel
theorem dX3_meanDepth_27 : decode cX3_meanDepth 27 = .ok (.freturn, 1) := by decide +kernel
set_option maxRecDepth 20000 in
theorem ggX3_clearShare_X2_cutTracks : GoodIn wsX3_clearShare wsX2_cutTracks := goodIn_r _ [6, 7, 8, 9, 5, 10, 11, 12, 13, 14, 15, 28, 29, 30, 31, 32, 33, 34, 35, 36, 37, 38, 39, 40, 41, 42, 43, 44, 45, 46] (by decide +kernel) (by decide +kernel)
set_option maxRecDepth 20000 in
theorem gX3_clearShare_X2_cutTracks : GoodIn wsX3_clearShare (wsV RX3 134 RX2 yX2_cutTracks wsX2_cutTracks) := goodIn_app (goodIn_of _ (by decide +kernel)) ggX3_clearShare_X2_cutTracks
set_option maxRecDepth 20000 in
theorem ggX3_clearShare_X2_clearnessTogether : GoodIn wsX3_clearShare wsX2_clearnessTogether := goodIn_r _ [19, 20, 11, 12, 13, 5, 14, 15, 28, 29, 30, 31, 32, 33, 34, 35, 36, 37, 38, 39, 40, 41, 42, 43, 44, 45, 46] (by decide +kernel) (by decide +kernel)
set_option maxRecDepth 20000 in
theorem gX3_clearShare_X2_clearnessTogether : GoodIn wsX3_clearShare (wsV RX3 195 RX2 yX2_clearnessTogether wsX2_clearnessTogether) := goodIn_app (goodIn_of _ (by decide +kernel)) ggX3_clearShare_X2_clearnessTogether
theorem dX3_clearShare_0 : decode cX3_clearShare 0 = .ok (.aload_n 0, 1) := by decide +kernel
theorem dX3_clearShare_1 : decode cX3_clearShare 1 = .ok (.getfield 12, 3) := by decide +kernel
theorem dX3_clearShare_4 : decode cX3_clearShare 4 = .ok (.invokevirtual 134, 3) := by decide +kernel
theorem dX3_clearShare_7 : decode cX3_clearShare 7 = .ok (.istore_n 1, 1) := by decide +kernel
theorem dX3_clearShare_8 : decode cX3_clearShare 8 = .ok (.iload_n 1, 1) := by decide +kernel
theorem dX3_clearShare_9 : decode cX3_clearShare 9 = .ok (.ifCond .gt 7, 3) := by decide +kernel
theorem dX3_clearShare_12 : decode cX3_clearShare 12 = .ok (.dconst 0, 1) := by decide +kernel
theorem dX3_clearShare_13 : decode cX3_clearShare 13 = .ok (.goto 17, 3) := by decide +kernel
theorem dX3_clearShare_16 : decode cX3_clearShare 16 = .ok (.aload_n 0, 1) := by decide +kernel
theorem dX3_clearShare_17 : decode cX3_clearShare 17 = .ok (.getfield 12, 3) := by decide +kernel
theorem dX3_clearShare_20 : decode cX3_clearShare 20 = .ok (.invokevirtual 195, 3) := by decide +kernel
theorem dX3_clearShare_23 : decode cX3_clearShare 23 = .ok (.i2d, 1) := by decide +kernel
theorem dX3_clearShare_24 : decode cX3_clearShare 24 = .ok (.bipush 100, 2) := by decide +kernel
theorem dX3_clearShare_26 : decode cX3_clearShare 26 = .ok (.iload_n 1, 1) := by decide +kernel
theorem dX3_clearShare_27 : decode cX3_clearShare 27 = .ok (.imul, 1) := by decide +kernel
theorem dX3_clearShare_28 : decode cX3_clearShare 28 = .ok (.i2d, 1) := by decide +kernel
theorem dX3_clearShare_29 : decode cX3_clearShare 29 = .ok (.ddiv, 1) := by decide +kernel
theorem dX3_clearShare_30 : decode cX3_clearShare 30 = .ok (.dreturn, 1) := by decide +kernel
theorem dX3_checkTrack_0 : decode cX3_checkTrack 0 = .ok (.iload_n 1, 1) := by decide +kernel
theorem dX3_checkTrack_1 : decode cX3_checkTrack 1 = .ok (.ifCond .lt 9, 3) := by decide +kernel
theorem dX3_checkTrack_4 : decode cX3_checkTrack 4 = .ok (.iload_n 1, 1) := by decide +kernel
theorem dX3_checkTrack_5 : decode cX3_checkTrack 5 = .ok (.bipush 24, 2) := by decide +kernel
theorem dX3_checkTrack_7 : decode cX3_checkTrack 7 = .ok (.if_icmp .lt 14, 3) := by decide +kernel
theorem dX3_checkTrack_10 : decode cX3_checkTrack 10 = .ok (.new 257, 3) := by decide +kernel
theorem dX3_checkTrack_13 : decode cX3_checkTrack 13 = .ok (.dup, 1) := by decide +kernel
theorem dX3_checkTrack_14 : decode cX3_checkTrack 14 = .ok (.ldc_w 259, 3) := by decide +kernel
theorem dX3_checkTrack_17 : decode cX3_checkTrack 17 = .ok (.invokespecial 261, 3) := by decide +kernel
theorem dX3_checkTrack_20 : decode cX3_checkTrack 20 = .ok (.athrow, 1) := by decide +kernel
theorem dX3_checkTrack_21 : decode cX3_checkTrack 21 = .ok (.return_, 1) := by decide +kernel
theorem dX3_checkCylinder_0 : decode cX3_checkCylinder 0 = .ok (.iload_n 1, 1) := by decide +kernel
theorem dX3_checkCylinder_1 : decode cX3_checkCylinder 1 = .ok (.ifCond .lt 9, 3) := by decide +kernel
theorem dX3_checkCylinder_4 : decode cX3_checkCylinder 4 = .ok (.iload_n 1, 1) := by decide +kernel
theorem dX3_checkCylinder_5 : decode cX3_checkCylinder 5 = .ok (.bipush 6, 2) := by decide +kernel
theorem dX3_checkCylinder_7 : decode cX3_checkCylinder 7 = .ok (.if_icmp .lt 14, 3) := by decide +kernel
theorem dX3_checkCylinder_10 : decode cX3_checkCylinder 10 = .ok (.new 257, 3) := by decide +kernel
theorem dX3_checkCylinder_13 : decode cX3_checkCylinder 13 = .ok (.dup, 1) := by decide +kernel
theorem dX3_checkCylinder_14 : decode cX3_checkCylinder 14 = .ok (.ldc_w 262, 3) := by decide +kernel
theorem dX3_checkCylinder_17 : decode cX3_checkCylinder 17 = .ok (.invokespecial 261, 3) := by decide +kernel
theorem dX3_checkCylinder_20 : decode cX3_checkCylinder 20 = .ok (.athrow, 1) := by decide +kernel
theorem dX3_checkCylinder_21 : decode cX3_checkCylinder 21 = .ok (.return_, 1) := by decide +kernel
theorem dX3_checkLoudness_0 : decode cX3_checkLoudness 0 = .ok (.iload_n 1, 1) := by decide +kernel
theorem dX3_checkLoudness_1 : decode cX3_checkLoudness 1 = .ok (.iconst 1, 1) := by decide +kernel
theorem dX3_checkLoudness_2 : decode cX3_checkLoudness 2 = .ok (.if_icmp .lt 9, 3) := by decide +kernel
theorem dX3_checkLoudness_5 : decode cX3_checkLoudness 5 = .ok (.iload_n 1, 1) := by decide +kernel
theorem dX3_checkLoudness_6 : decode cX3_checkLoudness 6 = .ok (.bipush 9, 2) := by decide +kernel
theorem dX3_checkLoudness_8 : decode cX3_checkLoudness 8 = .ok (.if_icmp .le 14, 3) := by decide +kernel
theorem dX3_checkLoudness_11 : decode cX3_checkLoudness 11 = .ok (.new 83, 3) := by decide +kernel
theorem dX3_checkLoudness_14 : decode cX3_checkLoudness 14 = .ok (.dup, 1) := by decide +kernel
theorem dX3_checkLoudness_15 : decode cX3_checkLoudness 15 = .ok (.ldc_w 264, 3) := by decide +kernel
theorem dX3_checkLoudness_18 : decode cX3_checkLoudness 18 = .ok (.invokespecial 87, 3) := by decide +kernel
theorem dX3_checkLoudness_21 : decode cX3_checkLoudness 21 = .ok (.athrow, 1) := by decide +kernel
theorem dX3_checkLoudness_22 : decode cX3_checkLoudness 22 = .ok (.return_, 1) := by decide +kernel
theorem dX3_checkLever_0 : decode cX3_checkLever 0 = .ok (.iload_n 1, 1) := by decide +kernel
theorem dX3_checkLever_1 : decode cX3_checkLever 1 = .ok (.iconst 1, 1) := by decide +kernel
theorem dX3_checkLever_2 : decode cX3_checkLever 2 = .ok (.if_icmp .lt 8, 3) := by decide +kernel
theorem dX3_checkLever_5 : decode cX3_checkLever 5 = .ok (.iload_n 1, 1) := by decide +kernel
theorem dX3_checkLever_6 : decode cX3_checkLever 6 = .ok (.iconst 3, 1) := by decide +kernel
theorem dX3_checkLever_7 : decode cX3_checkLever 7 = .ok (.if_icmp .le 14, 3) := by decide +kernel
theorem dX3_checkLever_10 : decode cX3_checkLever 10 = .ok (.new 83, 3) := by decide +kernel
theorem dX3_checkLever_13 : decode cX3_checkLever 13 = .ok (.dup, 1) := by decide +kernel
theorem dX3_checkLever_14 : decode cX3_checkLever 14 = .ok (.ldc_w 266, 3) := by decide +kernel
theorem dX3_checkLever_17 : decode cX3_checkLever 17 = .ok (.invokespecial 87, 3) := by decide +kernel
theorem dX3_checkLever_20 : decode cX3_checkLever 20 = .ok (.athrow, 1) := by decide +kernel
theorem dX3_checkLever_21 : decode cX3_checkLever 21 = .ok (.return_, 1) := by decide +kernel
theorem dX3_checkWhat_0 : decode cX3_checkWhat 0 = .ok (.iload_n 1, 1) := by decide +kernel
theorem dX3_checkWhat_1 : decode cX3_checkWhat 1 = .ok (.ifCond .lt 8, 3) := by decide +kernel
theorem dX3_checkWhat_4 : decode cX3_checkWhat 4 = .ok (.iload_n 1, 1) := by decide +kernel
theorem dX3_checkWhat_5 : decode cX3_checkWhat 5 = .ok (.iload_n 2, 1) := by decide +kernel
theorem dX3_checkWhat_6 : decode cX3_checkWhat 6 = .ok (.if_icmp .lt 14, 3) := by decide +kernel
theorem dX3_checkWhat_9 : decode cX3_checkWhat 9 = .ok (.new 83, 3) := by decide +kernel
theorem dX3_checkWhat_12 : decode cX3_checkWhat 12 = .ok (.dup, 1) := by decide +kernel
theorem dX3_checkWhat_13 : decode cX3_checkWhat 13 = .ok (.ldc_w 270, 3) := by decide +kernel
theorem dX3_checkWhat_16 : decode cX3_checkWhat 16 = .ok (.invokespecial 87, 3) := by decide +kernel
theorem dX3_checkWhat_19 : decode cX3_checkWhat 19 = .ok (.athrow, 1) := by decide +kernel
theorem dX3_checkWhat_20 : decode cX3_checkWhat 20 = .ok (.return_, 1) := by decide +kernel
set_option maxRecDepth 20000 in
theorem ggX3_saveState_X3_dropOldestState : GoodIn wsX3_saveState wsX3_dropOldestState := goodIn_r _ [8, 2, 1, 37, 38, 39, 40, 41, 42, 43] (by decide +kernel) (by decide +kernel)
set_option maxRecDepth 20000 in
theorem gX3_saveState_X3_dropOldestState : GoodIn wsX3_saveState (wsV RX3 272 RX3 yX3_dropOldestState wsX3_dropOldestState) := goodIn_app (goodIn_of _ (by decide +kernel)) ggX3_saveState_X3_dropOldestState
set_option maxRecDepth 20000 in
theorem ggX3_saveState_X2_takeOver : GoodIn wsX3_saveState wsX2_takeOver := goodIn_r _ [13, 14, 15, 16, 17, 18, 19, 20, 21, 22, 23, 24, 25, 26, 27, 28, 29, 30, 31, 32, 33, 34, 35, 36, 44, 45, 46, 47, 48, 49, 50, 51, 52, 53, 54, 55, 56, 57, 58, 59, 60, 61, 62] (by decide +kernel) (by decide +kernel)
set_option maxRecDepth 20000 in
theorem gX3_saveState_X2_takeOver : GoodIn wsX3_saveState (wsV RX3 130 RX2 yX2_takeOver wsX2_takeOver) := goodIn_app (goodIn_of _ (by decide +kernel)) ggX3_saveState_X2_takeOver
theorem dX3_saveState_0 : decode cX3_saveState 0 = .ok (.aload_n 0, 1) := by decide +kernel
theorem dX3_saveState_1 : decode cX3_saveState 1 = .ok (.getfield 27, 3) := by decide +kernel
theorem dX3_saveState_4 : decode cX3_saveState 4 = .ok (.bipush 6, 2) := by decide +kernel
theorem dX3_saveState_6 : decode cX3_saveState 6 = .ok (.if_icmp .lt 7, 3) := by decide +kernel
theorem dX3_saveState_9 : decode cX3_saveState 9 = .ok (.aload_n 0, 1) := by decide +kernel
theorem dX3_saveState_10 : decode cX3_saveState 10 = .ok (.invokevirtual 272, 3) := by decide +kernel
theorem dX3_saveState_13 : decode cX3_saveState 13 = .ok (.aload_n 0, 1) := by decide +kernel
theorem dX3_saveState_14 : decode cX3_saveState 14 = .ok (.getfield 24, 3) := by decide +kernel
theorem dX3_saveState_17 : decode cX3_saveState 17 = .ok (.aload_n 0, 1) := by decide +kernel
theorem dX3_saveState_18 : decode cX3_saveState 18 = .ok (.getfield 27, 3) := by decide +kernel
theorem dX3_saveState_21 : decode cX3_saveState 21 = .ok (.aaload, 1) := by decide +kernel
theorem dX3_saveState_22 : decode cX3_saveState 22 = .ok (.aload_n 0, 1) := by decide +kernel
theorem dX3_saveState_23 : decode cX3_saveState 23 = .ok (.getfield 12, 3) := by decide +kernel
theorem dX3_saveState_26 : decode cX3_saveState 26 = .ok (.invokevirtual 130, 3) := by decide +kernel
theorem dX3_saveState_29 : decode cX3_saveState 29 = .ok (.aload_n 0, 1) := by decide +kernel
theorem dX3_saveState_30 : decode cX3_saveState 30 = .ok (.dup, 1) := by decide +kernel
theorem dX3_saveState_31 : decode cX3_saveState 31 = .ok (.getfield 27, 3) := by decide +kernel
theorem dX3_saveState_34 : decode cX3_saveState 34 = .ok (.iconst 1, 1) := by decide +kernel
theorem dX3_saveState_35 : decode cX3_saveState 35 = .ok (.iadd, 1) := by decide +kernel
theorem dX3_saveState_36 : decode cX3_saveState 36 = .ok (.putfield 27, 3) := by decide +kernel
theorem dX3_saveState_39 : decode cX3_saveState 39 = .ok (.return_, 1) := by decide +kernel
theorem dX3_dropOldestState_0 : decode cX3_dropOldestState 0 = .ok (.aload_n 0, 1) := by decide +kernel
theorem dX3_dropOldestState_1 : decode cX3_dropOldestState 1 = .ok (.getfield 24, 3) := by decide +kernel
theorem dX3_dropOldestState_4 : decode cX3_dropOldestState 4 = .ok (.iconst 0, 1) := by decide +kernel
theorem dX3_dropOldestState_5 : decode cX3_dropOldestState 5 = .ok (.aaload, 1) := by decide +kernel
theorem dX3_dropOldestState_6 : decode cX3_dropOldestState 6 = .ok (.astore_n 1, 1) := by decide +kernel
theorem dX3_dropOldestState_7 : decode cX3_dropOldestState 7 = .ok (.iconst 1, 1) := by decide +kernel
theorem dX3_dropOldestState_8 : decode cX3_dropOldestState 8 = .ok (.istore_n 2, 1) := by decide +kernel
theorem dX3_dropOldestState_9 : decode cX3_dropOldestState 9 = .ok (.iload_n 2, 1) := by decide +kernel
theorem dX3_dropOldestState_10 : decode cX3_dropOldestState 10 = .ok (.bipush 6, 2) := by decide +kernel
theorem dX3_dropOldestState_12 : decode cX3_dropOldestState 12 = .ok (.if_icmp .ge 23, 3) := by decide +kernel
theorem dX3_dropOldestState_15 : decode cX3_dropOldestState 15 = .ok (.aload_n 0, 1) := by decide +kernel
theorem dX3_dropOldestState_16 : decode cX3_dropOldestState 16 = .ok (.getfield 24, 3) := by decide +kernel
theorem dX3_dropOldestState_19 : decode cX3_dropOldestState 19 = .ok (.iload_n 2, 1) := by decide +kernel
theorem dX3_dropOldestState_20 : decode cX3_dropOldestState 20 = .ok (.iconst 1, 1) := by decide +kernel
theorem dX3_dropOldestState_21 : decode cX3_dropOldestState 21 = .ok (.isub, 1) := by decide +kernel
theorem dX3_dropOldestState_22 : decode cX3_dropOldestState 22 = .ok (.aload_n 0, 1) := by decide +kernel
theorem dX3_dropOldestState_23 : decode cX3_dropOldestState 23 = .ok (.getfield 24, 3) := by decide +kernel
theorem dX3_dropOldestState_26 : decode cX3_dropOldestState 26 = .ok (.iload_n 2, 1) := by decide +kernel
theorem dX3_dropOldestState_27 : decode cX3_dropOldestState 27 = .ok (.aaload, 1) := by decide +kernel
theorem dX3_dropOldestState_28 : decode cX3_dropOldestState 28 = .ok (.aastore, 1) := by decide +kernel
theorem dX3_dropOldestState_29 : decode cX3_dropOldestState 29 = .ok (.iinc 2 1, 3) := by decide +kernel
theorem dX3_dropOldestState_32 : decode cX3_dropOldestState 32 = .ok (.goto (-23), 3) := by decide +kernel
theorem dX3_dropOldestState_35 : decode cX3_dropOldestState 35 = .ok (.aload_n 0, 1) := by decide +kernel
theorem dX3_dropOldestState_36 : decode cX3_dropOldestState 36 = .ok (.getfield 24, 3) := by decide +kernel
theorem dX3_dropOldestState_39 : decode cX3_dropOldestState 39 = .ok (.iconst 5, 1) := by decide +kernel
theorem dX3_dropOldestState_40 : decode cX3_dropOldestState 40 = .ok (.aload_n 1, 1) := by decide +kernel
theorem dX3_dropOldestState_41 : decode cX3_dropOldestState 41 = .ok (.aastore, 1) := by decide +kernel
theorem dX3_dropOldestState_42 : decode cX3_dropOldestState 42 = .ok (.aload_n 0, 1) := by decide +kernel
theorem dX3_dropOldestState_43 : decode cX3_dropOldestState 43 = .ok (.iconst 5, 1) := by decide +kernel
theorem dX3_dropOldestState_44 : decode cX3_dropOldestState 44 = .ok (.putfield 27, 3) := by decide +kernel
theorem dX3_dropOldestState_47 : decode cX3_dropOldestState 47 = .ok (.return_, 1) := by decide +kernel
theorem dX3_bluntness_0 : decode cX3_bluntness 0 = .ok (.bipush 100, 2) := by decide +kernel
theorem dX3_bluntness_2 : decode cX3_bluntness 2 = .ok (.iload_n 0, 1) := by decide +kernel
theorem dX3_bluntness_3 : decode cX3_bluntness 3 = .ok (.isub, 1) := by decide +kernel
theorem dX3_bluntness_4 : decode cX3_bluntness 4 = .ok (.iconst 4, 1) := by decide +kernel
theorem dX3_bluntness_5 : decode cX3_bluntness 5 = .ok (.idiv, 1) := by decide +kernel
theorem dX3_bluntness_6 : decode cX3_bluntness 6 = .ok (.ireturn, 1) := by decide +kernel
theorem dX3_sharpnessAfter_0 : decode cX3_sharpnessAfter 0 = .ok (.iconst 0, 1) := by decide +kernel
theorem dX3_sharpnessAfter_1 : decode cX3_sharpnessAfter 1 = .ok (.iload_n 0, 1) := by decide +kernel
theorem dX3_sharpnessAfter_2 : decode cX3_sharpnessAfter 2 = .ok (.iload_n 1, 1) := by decide +kernel
theorem dX3_sharpnessAfter_3 : decode cX3_sharpnessAfter 3 = .ok (.isub, 1) := by decide +kernel
theorem dX3_sharpnessAfter_4 : decode cX3_sharpnessAfter 4 = .ok (.invokestatic 290, 3) := by decide +kernel
theorem dX3_sharpnessAfter_7 : decode cX3_sharpnessAfter 7 = .ok (.ireturn, 1) := by decide +kernel
theorem dX3_copiedDepth_0 : decode cX3_copiedDepth 0 = .ok (.bipush 9, 2) := by decide +kernel
theorem dX3_copiedDepth_2 : decode cX3_copiedDepth 2 = .ok (.iconst 1, 1) := by decide +kernel
theorem dX3_copiedDepth_3 : decode cX3_copiedDepth 3 = .ok (.iload_n 0, 1) := by decide +kernel
theorem dX3_copiedDepth_4 : decode cX3_copiedDepth 4 = .ok (.iload_n 1, 1) := by decide +kernel
theorem dX3_copiedDepth_5 : decode cX3_copiedDepth 5 = .ok (.imul, 1) := by decide +kernel
theorem dX3_copiedDepth_6 : decode cX3_copiedDepth 6 = .ok (.iconst 2, 1) := by decide +kernel
theorem dX3_copiedDepth_7 : decode cX3_copiedDepth 7 = .ok (.idiv, 1) := by decide +kernel
theorem dX3_copiedDepth_8 : decode cX3_copiedDepth 8 = .ok (.invokestatic 290, 3) := by decide +kernel
theorem dX3_copiedDepth_11 : decode cX3_copiedDepth 11 = .ok (.invokestatic 295, 3) := by decide +kernel
theorem dX3_copiedDepth_14 : decode cX3_copiedDepth 14 = .ok (.ireturn, 1) := by decide +kernel
set_option maxRecDepth 20000 in
theorem ggX3_copiedClearness_X3_bluntness : GoodIn wsX3_copiedClearness wsX3_bluntness := goodIn_r _ [8] (by decide +kernel) (by decide +kernel)
set_option maxRecDepth 20000 in
theorem gX3_copiedClearness_X3_bluntness : GoodIn wsX3_copiedClearness (va_wsS RX3 298 yX3_bluntness wsX3_bluntness) := goodIn_app (goodIn_of _ (by decide +kernel)) ggX3_copiedClearness_X3_bluntness
theorem dX3_copiedClearness_0 : decode cX3_copiedClearness 0 = .ok (.iload_n 1, 1) := by decide +kernel
theorem dX3_copiedClearness_1 : decode cX3_copiedClearness 1 = .ok (.iconst 1, 1) := by decide +kernel
theorem dX3_copiedClearness_2 : decode cX3_copiedClearness 2 = .ok (.if_icmp .ge 5, 3) := by decide +kernel
theorem dX3_copiedClearness_5 : decode cX3_copiedClearness 5 = .ok (.iconst 0, 1) := by decide +kernel
theorem dX3_copiedClearness_6 : decode cX3_copiedClearness 6 = .ok (.ireturn, 1) := by decide +kernel
theorem dX3_copiedClearness_7 : decode cX3_copiedClearness 7 = .ok (.iconst 0, 1) := by decide +kernel
theorem dX3_copiedClearness_8 : decode cX3_copiedClearness 8 = .ok (.iload_n 0, 1) := by decide +kernel
theorem dX3_copiedClearness_9 : decode cX3_copiedClearness 9 = .ok (.bipush 12, 2) := by decide +kernel
theorem dX3_copiedClearness_11 : decode cX3_copiedClearness 11 = .ok (.iload_n 1, 1) := by decide +kernel
theorem dX3_copiedClearness_12 : decode cX3_copiedClearness 12 = .ok (.idiv, 1) := by decide +kernel
theorem dX3_copiedClearness_13 : decode cX3_copiedClearness 13 = .ok (.isub, 1) := by decide +kernel
theorem dX3_copiedClearness_14 : decode cX3_copiedClearness 14 = .ok (.iload_n 2, 1) := by decide +kernel
theorem dX3_copiedClearness_15 : decode cX3_copiedClearness 15 = .ok (.invokestatic 298, 3) := by decide +kernel
theorem dX3_copiedClearness_18 : decode cX3_copiedClearness 18 = .ok (.isub, 1) := by decide +kernel
theorem dX3_copiedClearness_19 : decode cX3_copiedClearness 19 = .ok (.iload_n 3, 1) := by decide +kernel
theorem dX3_copiedClearness_20 : decode cX3_copiedClearness 20 = .ok (.isub, 1) := by decide +kernel
theorem dX3_copiedClearness_21 : decode cX3_copiedClearness 21 = .ok (.invokestatic 290, 3) := by decide +kernel
theorem dX3_copiedClearness_24 : decode cX3_copiedClearness 24 = .ok (.ireturn, 1) := by decide +kernel
set_option maxRecDepth 20000 in
theorem ggX3_clearestOfAllLevers_X3_copiedDepth : GoodIn wsX3_clearestOfAllLevers wsX3_copiedDepth := goodIn_r _ [8, 1, 2, 3, 4, 9, 10, 11] (by decide +kernel) (by decide +kernel)
set_option maxRecDepth 20000 in
theorem gX3_clearestOfAllLevers_X3_copiedDepth : GoodIn wsX3_clearestOfAllLevers (va_wsS RX3 301 yX3_copiedDepth wsX3_copiedDepth) := goodIn_app (goodIn_of _ (by decide +kernel)) ggX3_clearestOfAllLevers_X3_copiedDepth
set_option maxRecDepth 20000 in
theorem ggX3_clearestOfAllLevers_X3_copiedClearness : GoodIn wsX3_clearestOfAllLevers wsX3_copiedClearness := goodIn_r _ [14, 1, 2, 3, 4, 15, 16, 7, 17] (by decide +kernel) (by decide +kernel)
set_option maxRecDepth 20000 in
theorem gX3_clearestOfAllLevers_X3_copiedClearness : GoodIn wsX3_clearestOfAllLevers (va_wsS RX3 304 yX3_copiedClearness wsX3_copiedClearness) := goodIn_app (goodIn_of _ (by decide +kernel)) ggX3_clearestOfAllLevers_X3_copiedClearness
set_option maxRecDepth 20000 in
theorem ggX3_clearestOfAllLevers_X3_sharpnessAfter : GoodIn wsX3_clearestOfAllLevers wsX3_sharpnessAfter := goodIn_r _ [20, 1, 2, 3, 4] (by decide +kernel) (by decide +kernel)
set_option maxRecDepth 20000 in
theorem gX3_clearestOfAllLevers_X3_sharpnessAfter : GoodIn wsX3_clearestOfAllLevers (va_wsS RX3 307 yX3_sharpnessAfter wsX3_sharpnessAfter) := goodIn_app (goodIn_of _ (by decide +kernel)) ggX3_clearestOfAllLevers_X3_sharpnessAfter
set_option maxRecDepth 20000 in
theorem ggX3_clearestOfAllLevers_X3_clearestOfAllLevers : GoodIn wsX3_clearestOfAllLevers wsX3_clearestOfAllLevers := goodIn_r _ [0, 1, 2, 3, 4, 5, 6, 7, 8, 9, 10, 11, 12, 13, 14, 15, 16, 17, 18, 19, 20, 21, 22] (by decide +kernel) (by decide +kernel)
set_option maxRecDepth 20000 in
theorem gX3_clearestOfAllLevers_X3_clearestOfAllLevers : GoodIn wsX3_clearestOfAllLevers (va_wsS RX3 183 yX3_clearestOfAllLevers wsX3_clearestOfAllLevers) := goodIn_app (goodIn_of _ (by decide +kernel)) ggX3_clearestOfAllLevers_X3_clearestOfAllLevers
theorem dX3_clearestOfAllLevers_0 : decode cX3_clearestOfAllLevers 0 = .ok (.iload_n 0, 1) := by decide +kernel
theorem dX3_clearestOfAllLevers_1 : decode cX3_clearestOfAllLevers 1 = .ok (.ifCond .gt 5, 3) := by decide +kernel
theorem dX3_clearestOfAllLevers_4 : decode cX3_clearestOfAllLevers 4 = .ok (.iload_n 2, 1) := by decide +kernel
theorem dX3_clearestOfAllLevers_5 : decode cX3_clearestOfAllLevers 5 = .ok (.ireturn, 1) := by decide +kernel
theorem dX3_clearestOfAllLevers_6 : decode cX3_clearestOfAllLevers 6 = .ok (.iconst (-1), 1) := by decide +kernel
theorem dX3_clearestOfAllLevers_7 : decode cX3_clearestOfAllLevers 7 = .ok (.istore 4, 2) := by decide +kernel
theorem dX3_clearestOfAllLevers_9 : decode cX3_clearestOfAllLevers 9 = .ok (.iconst 1, 1) := by decide +kernel
theorem dX3_clearestOfAllLevers_10 : decode cX3_clearestOfAllLevers 10 = .ok (.istore 5, 2) := by decide +kernel
theorem dX3_clearestOfAllLevers_12 : decode cX3_clearestOfAllLevers 12 = .ok (.iload 5, 2) := by decide +kernel
theorem dX3_clearestOfAllLevers_14 : decode cX3_clearestOfAllLevers 14 = .ok (.iconst 3, 1) := by decide +kernel
theorem dX3_clearestOfAllLevers_15 : decode cX3_clearestOfAllLevers 15 = .ok (.if_icmp .gt 50, 3) := by decide +kernel
theorem dX3_clearestOfAllLevers_18 : decode cX3_clearestOfAllLevers 18 = .ok (.iload_n 1, 1) := by decide +kernel
theorem dX3_clearestOfAllLevers_19 : decode cX3_clearestOfAllLevers 19 = .ok (.iload 5, 2) := by decide +kernel
theorem dX3_clearestOfAllLevers_21 : decode cX3_clearestOfAllLevers 21 = .ok (.invokestatic 301, 3) := by decide +kernel
theorem dX3_clearestOfAllLevers_24 : decode cX3_clearestOfAllLevers 24 = .ok (.istore 6, 2) := by decide +kernel
theorem dX3_clearestOfAllLevers_26 : decode cX3_clearestOfAllLevers 26 = .ok (.iload_n 2, 1) := by decide +kernel
theorem dX3_clearestOfAllLevers_27 : decode cX3_clearestOfAllLevers 27 = .ok (.iload 5, 2) := by decide +kernel
theorem dX3_clearestOfAllLevers_29 : decode cX3_clearestOfAllLevers 29 = .ok (.iload_n 3, 1) := by decide +kernel
theorem dX3_clearestOfAllLevers_30 : decode cX3_clearestOfAllLevers 30 = .ok (.iconst 0, 1) := by decide +kernel
theorem dX3_clearestOfAllLevers_31 : decode cX3_clearestOfAllLevers 31 = .ok (.invokestatic 304, 3) := by decide +kernel
theorem dX3_clearestOfAllLevers_34 : decode cX3_clearestOfAllLevers 34 = .ok (.istore 7, 2) := by decide +kernel
theorem dX3_clearestOfAllLevers_36 : decode cX3_clearestOfAllLevers 36 = .ok (.iload 4, 2) := by decide +kernel
theorem dX3_clearestOfAllLevers_38 : decode cX3_clearestOfAllLevers 38 = .ok (.iload_n 0, 1) := by decide +kernel
theorem dX3_clearestOfAllLevers_39 : decode cX3_clearestOfAllLevers 39 = .ok (.iconst 1, 1) := by decide +kernel
theorem dX3_clearestOfAllLevers_40 : decode cX3_clearestOfAllLevers 40 = .ok (.isub, 1) := by decide +kernel
theorem dX3_clearestOfAllLevers_41 : decode cX3_clearestOfAllLevers 41 = .ok (.iload 6, 2) := by decide +kernel
theorem dX3_clearestOfAllLevers_43 : decode cX3_clearestOfAllLevers 43 = .ok (.iload 7, 2) := by decide +kernel
theorem dX3_clearestOfAllLevers_45 : decode cX3_clearestOfAllLevers 45 = .ok (.iload_n 3, 1) := by decide +kernel
theorem dX3_clearestOfAllLevers_46 : decode cX3_clearestOfAllLevers 46 = .ok (.iload 6, 2) := by decide +kernel
theorem dX3_clearestOfAllLevers_48 : decode cX3_clearestOfAllLevers 48 = .ok (.invokestatic 307, 3) := by decide +kernel
theorem dX3_clearestOfAllLevers_51 : decode cX3_clearestOfAllLevers 51 = .ok (.invokestatic 183, 3) := by decide +kernel
theorem dX3_clearestOfAllLevers_54 : decode cX3_clearestOfAllLevers 54 = .ok (.invokestatic 290, 3) := by decide +kernel
theorem dX3_clearestOfAllLevers_57 : decode cX3_clearestOfAllLevers 57 = .ok (.istore 4, 2) := by decide +kernel
theorem dX3_clearestOfAllLevers_59 : decode cX3_clearestOfAllLevers 59 = .ok (.iinc 5 1, 3) := by decide +kernel
theorem dX3_clearestOfAllLevers_62 : decode cX3_clearestOfAllLevers 62 = .ok (.goto (-50), 3) := by decide +kernel
theorem dX3_clearestOfAllLevers_65 : decode cX3_clearestOfAllLevers 65 = .ok (.iload 4, 2) := by decide +kernel
theorem dX3_clearestOfAllLevers_67 : decode cX3_clearestOfAllLevers 67 = .ok (.ireturn, 1) := by decide +kernel
end
section
theorem dL_at_0 : decode cL_at 0 = .ok (.iload_n 1, 1) := by decide +kernel
theorem dL_at_1 : decode cL_at 1 = .ok (.aload_n 0, 1) := by decide +kernel
theorem dL_at_2 : decode cL_at 2 = .ok (.arraylength, 1) := by decide +kernel
theorem dL_at_3 : decode cL_at 3 = .ok (.if_icmp .ge 9, 3) := by decide +kernel
theorem dL_at_6 : decode cL_at 6 = .ok (.aload_n 0, 1) := by decide +kernel
theorem dL_at_7 : decode cL_at 7 = .ok (.iload_n 1, 1) := by decide +kernel
theorem dL_at_8 : decode cL_at 8 = .ok (.iaload, 1) := by decide +kernel
theorem dL_at_9 : decode cL_at 9 = .ok (.goto 12, 3) := by decide +kernel
theorem dL_at_12 : decode cL_at 12 = .ok (.ldc 7, 2) := by decide +kernel
theorem dL_at_14 : decode cL_at 14 = .ok (.iload_n 1, 1) := by decide +kernel
theorem dL_at_15 : decode cL_at 15 = .ok (.iconst 1, 1) := by decide +kernel
theorem dL_at_16 : decode cL_at 16 = .ok (.iadd, 1) := by decide +kernel
theorem dL_at_17 : decode cL_at 17 = .ok (.imul, 1) := by decide +kernel
theorem dL_at_18 : decode cL_at 18 = .ok (.ldc 8, 2) := by decide +kernel
theorem dL_at_20 : decode cL_at 20 = .ok (.iadd, 1) := by decide +kernel
theorem dL_at_21 : decode cL_at 21 = .ok (.ireturn, 1) := by decide +kernel
theorem dL_low_0 : decode cL_low 0 = .ok (.iload_n 0, 1) := by decide +kernel
theorem dL_low_1 : decode cL_low 1 = .ok (.ldc 9, 2) := by decide +kernel
theorem dL_low_3 : decode cL_low 3 = .ok (.iand, 1) := by decide +kernel
theorem dL_low_4 : decode cL_low 4 = .ok (.iload_n 1, 1) := by decide +kernel
theorem dL_low_5 : decode cL_low 5 = .ok (.irem, 1) := by decide +kernel
theorem dL_low_6 : decode cL_low 6 = .ok (.ireturn, 1) := by decide +kernel
set_option maxRecDepth 20000 in
theorem ggL_speak_X3_speak : GoodIn wsL_speak wsX3_speak := goodIn_ca (goodIn_ca (goodIn_r _ [9, 10, 11, 12, 13, 8, 14, 15, 16, 17, 18, 19, 20, 21, 22, 23, 24, 25, 26, 27, 28, 29, 30, 31, 32, 33, 34, 35, 36, 37, 38, 39, 40, 41, 42, 43, 44, 45, 46, 47, 48, 49, 50, 51, 52, 53, 54, 55, 56, 57, 58, 59, 60, 61, 62, 63, 64, 65, 66, 67, 68, 69, 70, 71, 72, 73, 74, 75, 76, 77, 78, 79, 80, 81, 82, 83, 84, 85, 86, 87, 88, 89, 90, 91, 92, 93, 94, 95, 96, 97, 98, 99, 100, 101, 102, 103, 104, 105, 106, 107, 108, 109, 110, 111, 112, 113, 114] (by decide +kernel) (by decide +kernel)) (goodIn_sub (fun _ h => List.mem_cons_of_mem _ (List.mem_append_left _ (List.mem_append_right _ h))) (by decide +kernel))) (goodIn_sub (fun _ h => List.mem_cons_of_mem _ (List.mem_append_right _ h)) (by decide +kernel))
set_option maxRecDepth 20000 in
theorem gL_speak_X3_speak : GoodIn wsL_speak (wsV RL 10 RX3 yX3_speak wsX3_speak) := goodIn_app (goodIn_of _ (by decide +kernel)) ggL_speak_X3_speak
theorem dL_speak_0 : decode cL_speak 0 = .ok (.aload_n 0, 1) := by decide +kernel
theorem dL_speak_1 : decode cL_speak 1 = .ok (.iload_n 1, 1) := by decide +kernel
theorem dL_speak_2 : decode cL_speak 2 = .ok (.iload_n 2, 1) := by decide +kernel
theorem dL_speak_3 : decode cL_speak 3 = .ok (.invokevirtual 10, 3) := by decide +kernel
theorem dL_speak_6 : decode cL_speak 6 = .ok (.ireturn, 1) := by decide +kernel
theorem dL_speak_7 : decode cL_speak 7 = .ok (.astore_n 3, 1) := by decide +kernel
theorem dL_speak_8 : decode cL_speak 8 = .ok (.ldc 18, 2) := by decide +kernel
theorem dL_speak_10 : decode cL_speak 10 = .ok (.ireturn, 1) := by decide +kernel
theorem dL_speak_11 : decode cL_speak 11 = .ok (.astore_n 3, 1) := by decide +kernel
theorem dL_speak_12 : decode cL_speak 12 = .ok (.ldc 21, 2) := by decide +kernel
theorem dL_speak_14 : decode cL_speak 14 = .ok (.ireturn, 1) := by decide +kernel
set_option maxRecDepth 20000 in
theorem ggL_copy_X3_copy : GoodIn wsL_copy wsX3_copy := goodIn_ca (goodIn_ca (goodIn_r _ [9, 10, 11, 12, 13, 8, 14, 15, 16, 17, 18, 19, 20, 21, 22, 23, 24, 25, 26, 27, 28, 29, 30, 31, 32, 33, 34, 35, 36, 37, 38, 39, 40, 41, 42, 43, 44, 45, 46, 47, 48, 49, 50, 51, 52, 53, 54, 55, 56, 57, 58, 59, 60, 61, 62, 63, 64, 65, 66, 67, 68, 69, 70, 71, 72, 73, 74, 75, 76, 77, 78, 79, 80, 81, 82, 83, 84, 85, 86, 87, 88, 89, 90, 91, 92, 93, 94, 95, 96, 97, 98, 99, 100, 101, 102, 103, 104, 105, 106, 107, 108, 109, 110, 111, 112, 113, 114, 115, 116, 117, 118, 119, 120, 121, 122, 123, 124, 125, 126, 127] (by decide +kernel) (by decide +kernel)) (goodIn_sub (fun _ h => List.mem_cons_of_mem _ (List.mem_append_left _ (List.mem_append_right _ h))) (by decide +kernel))) (goodIn_sub (fun _ h => List.mem_cons_of_mem _ (List.mem_append_right _ h)) (by decide +kernel))
set_option maxRecDepth 20000 in
theorem gL_copy_X3_copy : GoodIn wsL_copy (wsV RL 22 RX3 yX3_copy wsX3_copy) := goodIn_app (goodIn_of _ (by decide +kernel)) ggL_copy_X3_copy
theorem dL_copy_0 : decode cL_copy 0 = .ok (.aload_n 0, 1) := by decide +kernel
theorem dL_copy_1 : decode cL_copy 1 = .ok (.iload_n 1, 1) := by decide +kernel
theorem dL_copy_2 : decode cL_copy 2 = .ok (.iload_n 2, 1) := by decide +kernel
theorem dL_copy_3 : decode cL_copy 3 = .ok (.iload_n 3, 1) := by decide +kernel
theorem dL_copy_4 : decode cL_copy 4 = .ok (.invokevirtual 22, 3) := by decide +kernel
theorem dL_copy_7 : decode cL_copy 7 = .ok (.ireturn, 1) := by decide +kernel
theorem dL_copy_8 : decode cL_copy 8 = .ok (.astore 4, 2) := by decide +kernel
theorem dL_copy_10 : decode cL_copy 10 = .ok (.ldc 18, 2) := by decide +kernel
theorem dL_copy_12 : decode cL_copy 12 = .ok (.ireturn, 1) := by decide +kernel
theorem dL_copy_13 : decode cL_copy 13 = .ok (.astore 4, 2) := by decide +kernel
theorem dL_copy_15 : decode cL_copy 15 = .ok (.ldc 21, 2) := by decide +kernel
theorem dL_copy_17 : decode cL_copy 17 = .ok (.ireturn, 1) := by decide +kernel
set_option maxRecDepth 20000 in
theorem ggL_play_X3_play : GoodIn wsL_play wsX3_play := goodIn_ca (goodIn_r _ [7, 8, 9, 10, 11, 6, 12, 13, 14, 15, 16, 17, 18, 19, 20, 21, 22, 23, 24, 25, 26, 27, 28, 29, 30, 31, 32, 33, 34, 35, 36, 37, 38, 39, 40, 41, 42, 43, 44, 45, 46, 47, 48, 49, 50, 51, 52, 53, 54, 55, 56, 57, 58, 59, 60, 61, 62, 63, 64, 65, 66, 67, 68, 69, 70, 71, 72, 73, 74, 75, 76, 77, 78, 79, 80, 81, 82, 83, 84, 85, 86, 87, 88, 89, 90] (by decide +kernel) (by decide +kernel)) (goodIn_sub (fun _ h => List.mem_cons_of_mem _ (List.mem_append_right _ h)) (by decide +kernel))
set_option maxRecDepth 20000 in
theorem gL_play_X3_play : GoodIn wsL_play (wsV RL 26 RX3 yX3_play wsX3_play) := goodIn_app (goodIn_of _ (by decide +kernel)) ggL_play_X3_play
theorem dL_play_0 : decode cL_play 0 = .ok (.aload_n 0, 1) := by decide +kernel
theorem dL_play_1 : decode cL_play 1 = .ok (.iload_n 1, 1) := by decide +kernel
theorem dL_play_2 : decode cL_play 2 = .ok (.invokevirtual 26, 3) := by decide +kernel
theorem dL_play_5 : decode cL_play 5 = .ok (.ireturn, 1) := by decide +kernel
theorem dL_play_6 : decode cL_play 6 = .ok (.astore_n 2, 1) := by decide +kernel
theorem dL_play_7 : decode cL_play 7 = .ok (.ldc 18, 2) := by decide +kernel
theorem dL_play_9 : decode cL_play 9 = .ok (.ireturn, 1) := by decide +kernel
set_option maxRecDepth 20000 in
theorem ggL_shave_X3_shave : GoodIn wsL_shave wsX3_shave := goodIn_ca (goodIn_r _ [7, 8, 9, 10, 11, 6, 12, 13, 14, 15, 16, 17, 18, 19, 20, 21, 22, 23, 24, 25, 26, 27, 28, 29, 30, 31, 32, 33, 34, 35, 36, 37, 38, 39, 40, 41, 42, 43, 44, 45, 46, 47, 48, 49, 50, 51, 52, 53, 54, 55, 56, 57, 58, 59, 60, 61, 62, 63, 64, 65, 66, 67, 68, 69, 70, 71, 72, 73, 74, 75, 76, 77, 78, 79, 80, 81, 82, 83, 84, 85, 86, 87, 88, 89, 90, 91, 92, 93, 94] (by decide +kernel) (by decide +kernel)) (goodIn_sub (fun _ h => List.mem_cons_of_mem _ (List.mem_append_right _ h)) (by decide +kernel))
set_option maxRecDepth 20000 in
theorem gL_shave_X3_shave : GoodIn wsL_shave (wsV RL 30 RX3 yX3_shave wsX3_shave) := goodIn_app (goodIn_of _ (by decide +kernel)) ggL_shave_X3_shave
theorem dL_shave_0 : decode cL_shave 0 = .ok (.aload_n 0, 1) := by decide +kernel
theorem dL_shave_1 : decode cL_shave 1 = .ok (.iload_n 1, 1) := by decide +kernel
theorem dL_shave_2 : decode cL_shave 2 = .ok (.invokevirtual 30, 3) := by decide +kernel
theorem dL_shave_5 : decode cL_shave 5 = .ok (.ireturn, 1) := by decide +kernel
theorem dL_shave_6 : decode cL_shave 6 = .ok (.astore_n 2, 1) := by decide +kernel
theorem dL_shave_7 : decode cL_shave 7 = .ok (.ldc 18, 2) := by decide +kernel
theorem dL_shave_9 : decode cL_shave 9 = .ok (.ireturn, 1) := by decide +kernel
set_option maxRecDepth 20000 in
theorem ggL_renew_X3_renew : GoodIn wsL_renew wsX3_renew := goodIn_ca (goodIn_ca (goodIn_r _ [9, 10, 11, 12, 13, 14, 15, 8, 16, 17, 18, 19, 20, 21, 22, 23, 24, 25, 26, 27, 28, 29, 30, 31, 32, 33, 34, 35, 36, 37, 38, 39, 40, 41, 42, 43, 44, 45, 46, 47, 48, 49, 50, 51, 52, 53, 54, 55, 56, 57, 58, 59, 60, 61, 62, 63, 64, 65, 66, 67, 68, 69, 70, 71, 72, 73, 74, 75, 76, 77, 78, 79, 80, 81, 82, 83, 84, 85, 86, 87, 88, 89, 90] (by decide +kernel) (by decide +kernel)) (goodIn_sub (fun _ h => List.mem_cons_of_mem _ (List.mem_append_left _ (List.mem_append_right _ h))) (by decide +kernel))) (goodIn_sub (fun _ h => List.mem_cons_of_mem _ (List.mem_append_right _ h)) (by decide +kernel))
set_option maxRecDepth 20000 in
theorem gL_renew_X3_renew : GoodIn wsL_renew (wsV RL 33 RX3 yX3_renew wsX3_renew) := goodIn_app (goodIn_of _ (by decide +kernel)) ggL_renew_X3_renew
theorem dL_renew_0 : decode cL_renew 0 = .ok (.aload_n 0, 1) := by decide +kernel
theorem dL_renew_1 : decode cL_renew 1 = .ok (.iload_n 1, 1) := by decide +kernel
theorem dL_renew_2 : decode cL_renew 2 = .ok (.iload_n 2, 1) := by decide +kernel
theorem dL_renew_3 : decode cL_renew 3 = .ok (.invokevirtual 33, 3) := by decide +kernel
theorem dL_renew_6 : decode cL_renew 6 = .ok (.ireturn, 1) := by decide +kernel
theorem dL_renew_7 : decode cL_renew 7 = .ok (.astore_n 3, 1) := by decide +kernel
theorem dL_renew_8 : decode cL_renew 8 = .ok (.ldc 18, 2) := by decide +kernel
theorem dL_renew_10 : decode cL_renew 10 = .ok (.ireturn, 1) := by decide +kernel
theorem dL_renew_11 : decode cL_renew 11 = .ok (.astore_n 3, 1) := by decide +kernel
theorem dL_renew_12 : decode cL_renew 12 = .ok (.ldc 21, 2) := by decide +kernel
theorem dL_renew_14 : decode cL_renew 14 = .ok (.ireturn, 1) := by decide +kernel
set_option maxRecDepth 20000 in
theorem ggL_set_X3_set : GoodIn wsL_set wsX3_set := goodIn_ca (goodIn_r _ [7, 8, 9, 10, 11, 12, 13, 14, 6, 15, 16, 17, 18, 19, 20, 21, 22, 23, 24, 25, 26, 27, 28, 29, 30, 31, 32, 33, 34, 35, 36, 37, 38, 39, 40, 41, 42, 43, 44, 45, 46, 47, 48, 49, 50, 51, 52, 53, 54, 55, 56, 57, 58, 59, 60, 61, 62, 63, 64, 65, 66, 67, 68, 69, 70, 71, 72, 73, 74, 75] (by decide +kernel) (by decide +kernel)) (goodIn_sub (fun _ h => List.mem_cons_of_mem _ (List.mem_append_right _ h)) (by decide +kernel))
set_option maxRecDepth 20000 in
theorem gL_set_X3_set : GoodIn wsL_set (wsV RL 36 RX3 yX3_set wsX3_set) := goodIn_app (goodIn_of _ (by decide +kernel)) ggL_set_X3_set
theorem dL_set_0 : decode cL_set 0 = .ok (.aload_n 0, 1) := by decide +kernel
theorem dL_set_1 : decode cL_set 1 = .ok (.iload_n 1, 1) := by decide +kernel
theorem dL_set_2 : decode cL_set 2 = .ok (.invokevirtual 36, 3) := by decide +kernel
theorem dL_set_5 : decode cL_set 5 = .ok (.ireturn, 1) := by decide +kernel
theorem dL_set_6 : decode cL_set 6 = .ok (.astore_n 2, 1) := by decide +kernel
theorem dL_set_7 : decode cL_set 7 = .ok (.ldc 18, 2) := by decide +kernel
theorem dL_set_9 : decode cL_set 9 = .ok (.ireturn, 1) := by decide +kernel
set_option maxRecDepth 20000 in
theorem ggL_undo_X3_undo : GoodIn wsL_undo wsX3_undo := goodIn_ca (goodIn_r _ [7, 8, 9, 10, 11, 12, 13, 14, 15, 16, 17, 18, 19, 20, 21, 22, 23, 24, 25, 26, 27, 28, 29, 30, 31, 32, 33, 34, 35, 36, 37, 38, 39, 40, 41, 42, 43, 44, 45, 46, 47, 48, 49, 50, 51, 52, 53, 54, 55, 56, 57, 58, 59, 60, 61, 62, 63, 64, 65, 66] (by decide +kernel) (by decide +kernel)) (goodIn_sub (fun _ h => List.mem_cons_of_mem _ (List.mem_append_right _ h)) (by decide +kernel))
set_option maxRecDepth 20000 in
theorem gL_undo_X3_undo : GoodIn wsL_undo (wsV RL 39 RX3 yX3_undo wsX3_undo) := goodIn_app (goodIn_of _ (by decide +kernel)) ggL_undo_X3_undo
theorem dL_undo_0 : decode cL_undo 0 = .ok (.aload_n 0, 1) := by decide +kernel
theorem dL_undo_1 : decode cL_undo 1 = .ok (.invokevirtual 39, 3) := by decide +kernel
theorem dL_undo_4 : decode cL_undo 4 = .ok (.ireturn, 1) := by decide +kernel
theorem dL_undo_5 : decode cL_undo 5 = .ok (.astore_n 1, 1) := by decide +kernel
theorem dL_undo_6 : decode cL_undo 6 = .ok (.ldc 18, 2) := by decide +kernel
theorem dL_undo_8 : decode cL_undo 8 = .ok (.ireturn, 1) := by decide +kernel
set_option maxRecDepth 20000 in
theorem ggL_trackOf_X3_trackOf : GoodIn wsL_trackOf wsX3_trackOf := goodIn_ca (goodIn_ca (goodIn_r _ [9, 10, 11, 12, 13, 8, 14, 15, 16, 17, 18, 19, 20, 21, 22, 23, 24, 25, 26, 27, 28, 29, 30, 31, 32, 33, 34, 35, 36, 37, 38, 39, 40, 41, 42, 43, 44, 45, 46, 47, 48, 49, 50, 51, 52, 53, 54, 55, 56, 57, 58, 59, 60, 61, 62, 63, 64] (by decide +kernel) (by decide +kernel)) (goodIn_sub (fun _ h => List.mem_cons_of_mem _ (List.mem_append_left _ (List.mem_append_right _ h))) (by decide +kernel))) (goodIn_sub (fun _ h => List.mem_cons_of_mem _ (List.mem_append_right _ h)) (by decide +kernel))
set_option maxRecDepth 20000 in
theorem gL_trackOf_X3_trackOf : GoodIn wsL_trackOf (wsV RL 45 RX3 yX3_trackOf wsX3_trackOf) := goodIn_app (goodIn_of _ (by decide +kernel)) ggL_trackOf_X3_trackOf
theorem dL_trackOf_0 : decode cL_trackOf 0 = .ok (.aload_n 0, 1) := by decide +kernel
theorem dL_trackOf_1 : decode cL_trackOf 1 = .ok (.iload_n 1, 1) := by decide +kernel
theorem dL_trackOf_2 : decode cL_trackOf 2 = .ok (.iload_n 2, 1) := by decide +kernel
theorem dL_trackOf_3 : decode cL_trackOf 3 = .ok (.invokevirtual 45, 3) := by decide +kernel
theorem dL_trackOf_6 : decode cL_trackOf 6 = .ok (.ireturn, 1) := by decide +kernel
theorem dL_trackOf_7 : decode cL_trackOf 7 = .ok (.astore_n 3, 1) := by decide +kernel
theorem dL_trackOf_8 : decode cL_trackOf 8 = .ok (.ldc 18, 2) := by decide +kernel
theorem dL_trackOf_10 : decode cL_trackOf 10 = .ok (.ireturn, 1) := by decide +kernel
theorem dL_trackOf_11 : decode cL_trackOf 11 = .ok (.astore_n 3, 1) := by decide +kernel
theorem dL_trackOf_12 : decode cL_trackOf 12 = .ok (.ldc 21, 2) := by decide +kernel
theorem dL_trackOf_14 : decode cL_trackOf 14 = .ok (.ireturn, 1) := by decide +kernel
set_option maxRecDepth 20000 in
theorem ggL_cylinderOf_X3_cylinderOf : GoodIn wsL_cylinderOf wsX3_cylinderOf := goodIn_ca (goodIn_ca (goodIn_r _ [9, 10, 11, 12, 13, 8, 14, 15, 16, 17, 18, 19, 20, 21, 22, 23, 24, 25, 26, 27, 28, 29, 30, 31, 32, 33, 34, 35, 36, 37, 38, 39, 40, 41, 42, 43, 44, 45, 46, 47, 48, 49, 50, 51, 52, 53, 54, 55, 56, 57, 58, 59, 60, 61, 62, 63, 64, 65, 66, 67, 68, 69, 70, 71, 72, 73, 74, 75, 76, 77] (by decide +kernel) (by decide +kernel)) (goodIn_sub (fun _ h => List.mem_cons_of_mem _ (List.mem_append_left _ (List.mem_append_right _ h))) (by decide +kernel))) (goodIn_sub (fun _ h => List.mem_cons_of_mem _ (List.mem_append_right _ h)) (by decide +kernel))
set_option maxRecDepth 20000 in
theorem gL_cylinderOf_X3_cylinderOf : GoodIn wsL_cylinderOf (wsV RL 48 RX3 yX3_cylinderOf wsX3_cylinderOf) := goodIn_app (goodIn_of _ (by decide +kernel)) ggL_cylinderOf_X3_cylinderOf
theorem dL_cylinderOf_0 : decode cL_cylinderOf 0 = .ok (.aload_n 0, 1) := by decide +kernel
theorem dL_cylinderOf_1 : decode cL_cylinderOf 1 = .ok (.iload_n 1, 1) := by decide +kernel
theorem dL_cylinderOf_2 : decode cL_cylinderOf 2 = .ok (.iload_n 2, 1) := by decide +kernel
theorem dL_cylinderOf_3 : decode cL_cylinderOf 3 = .ok (.invokevirtual 48, 3) := by decide +kernel
theorem dL_cylinderOf_6 : decode cL_cylinderOf 6 = .ok (.ireturn, 1) := by decide +kernel
theorem dL_cylinderOf_7 : decode cL_cylinderOf 7 = .ok (.astore_n 3, 1) := by decide +kernel
theorem dL_cylinderOf_8 : decode cL_cylinderOf 8 = .ok (.ldc 18, 2) := by decide +kernel
theorem dL_cylinderOf_10 : decode cL_cylinderOf 10 = .ok (.ireturn, 1) := by decide +kernel
theorem dL_cylinderOf_11 : decode cL_cylinderOf 11 = .ok (.astore_n 3, 1) := by decide +kernel
theorem dL_cylinderOf_12 : decode cL_cylinderOf 12 = .ok (.ldc 21, 2) := by decide +kernel
theorem dL_cylinderOf_14 : decode cL_cylinderOf 14 = .ok (.ireturn, 1) := by decide +kernel
set_option maxRecDepth 20000 in
theorem ggL_count_X3_count : GoodIn wsL_count wsX3_count := goodIn_ca (goodIn_r _ [7, 8, 9, 10, 11, 12, 6, 13, 14, 15, 16, 17, 18, 19, 20, 21, 22, 23, 24, 25, 26, 27, 28, 29, 30, 31, 32, 33, 34, 35, 36, 37, 38, 39, 40, 41, 42, 43, 44, 45, 46, 47, 48, 49, 50, 51, 52, 53, 54, 55, 56, 57, 58, 59, 60, 61, 62, 63, 64, 65, 66, 67, 68, 69, 70, 71, 72, 73, 74, 75, 76, 77] (by decide +kernel) (by decide +kernel)) (goodIn_sub (fun _ h => List.mem_cons_of_mem _ (List.mem_append_right _ h)) (by decide +kernel))
set_option maxRecDepth 20000 in
theorem gL_count_X3_count : GoodIn wsL_count (wsV RL 51 RX3 yX3_count wsX3_count) := goodIn_app (goodIn_of _ (by decide +kernel)) ggL_count_X3_count
theorem dL_count_0 : decode cL_count 0 = .ok (.aload_n 0, 1) := by decide +kernel
theorem dL_count_1 : decode cL_count 1 = .ok (.iload_n 1, 1) := by decide +kernel
theorem dL_count_2 : decode cL_count 2 = .ok (.invokevirtual 51, 3) := by decide +kernel
theorem dL_count_5 : decode cL_count 5 = .ok (.ireturn, 1) := by decide +kernel
theorem dL_count_6 : decode cL_count 6 = .ok (.astore_n 2, 1) := by decide +kernel
theorem dL_count_7 : decode cL_count 7 = .ok (.ldc 18, 2) := by decide +kernel
theorem dL_count_9 : decode cL_count 9 = .ok (.ireturn, 1) := by decide +kernel
set_option maxRecDepth 20000 in
theorem ggL_whyNot_X3_whyNot : GoodIn wsL_whyNot wsX3_whyNot := goodIn_ca (goodIn_ca (goodIn_r _ [9, 10, 11, 12, 13, 8, 14, 15, 16, 17, 18, 19, 20, 21, 22, 23, 24, 25, 26, 27, 28, 29, 30, 31, 32, 33, 34, 35, 36, 37, 38, 39, 40, 41, 42, 43, 44, 45, 46, 47, 48, 49, 50, 51, 52, 53, 54, 55, 56, 57, 58, 59, 60] (by decide +kernel) (by decide +kernel)) (goodIn_sub (fun _ h => List.mem_cons_of_mem _ (List.mem_append_left _ (List.mem_append_right _ h))) (by decide +kernel))) (goodIn_sub (fun _ h => List.mem_cons_of_mem _ (List.mem_append_right _ h)) (by decide +kernel))
set_option maxRecDepth 20000 in
theorem gL_whyNot_X3_whyNot : GoodIn wsL_whyNot (wsV RL 54 RX3 yX3_whyNot wsX3_whyNot) := goodIn_app (goodIn_of _ (by decide +kernel)) ggL_whyNot_X3_whyNot
theorem dL_whyNot_0 : decode cL_whyNot 0 = .ok (.aload_n 0, 1) := by decide +kernel
theorem dL_whyNot_1 : decode cL_whyNot 1 = .ok (.iload_n 1, 1) := by decide +kernel
theorem dL_whyNot_2 : decode cL_whyNot 2 = .ok (.iload_n 2, 1) := by decide +kernel
theorem dL_whyNot_3 : decode cL_whyNot 3 = .ok (.invokevirtual 54, 3) := by decide +kernel
theorem dL_whyNot_6 : decode cL_whyNot 6 = .ok (.ireturn, 1) := by decide +kernel
theorem dL_whyNot_7 : decode cL_whyNot 7 = .ok (.astore_n 3, 1) := by decide +kernel
theorem dL_whyNot_8 : decode cL_whyNot 8 = .ok (.ldc 18, 2) := by decide +kernel
theorem dL_whyNot_10 : decode cL_whyNot 10 = .ok (.ireturn, 1) := by decide +kernel
theorem dL_whyNot_11 : decode cL_whyNot 11 = .ok (.astore_n 3, 1) := by decide +kernel
theorem dL_whyNot_12 : decode cL_whyNot 12 = .ok (.ldc 21, 2) := by decide +kernel
theorem dL_whyNot_14 : decode cL_whyNot 14 = .ok (.ireturn, 1) := by decide +kernel
set_option maxRecDepth 20000 in
theorem ggL_ifCopied_X3_ifCopied : GoodIn wsL_ifCopied wsX3_ifCopied := goodIn_ca (goodIn_ca (goodIn_r _ [9, 10, 11, 12, 13, 8, 14, 15, 16, 17, 18, 19, 20, 21, 22, 23, 24, 25, 26, 27, 28, 29, 30, 31, 32, 33, 34, 35, 36, 37, 38, 39, 40, 41, 42, 43, 44, 45, 46, 47, 48, 49, 50, 51, 52, 53, 54, 55, 56, 57, 58, 59, 60, 61, 62, 63, 64, 65, 66, 67, 68, 69, 70, 71, 72, 73, 74, 75, 76, 77, 78, 79, 80, 81, 82, 83, 84] (by decide +kernel) (by decide +kernel)) (goodIn_sub (fun _ h => List.mem_cons_of_mem _ (List.mem_append_left _ (List.mem_append_right _ h))) (by decide +kernel))) (goodIn_sub (fun _ h => List.mem_cons_of_mem _ (List.mem_append_right _ h)) (by decide +kernel))
set_option maxRecDepth 20000 in
theorem gL_ifCopied_X3_ifCopied : GoodIn wsL_ifCopied (wsV RL 57 RX3 yX3_ifCopied wsX3_ifCopied) := goodIn_app (goodIn_of _ (by decide +kernel)) ggL_ifCopied_X3_ifCopied
theorem dL_ifCopied_0 : decode cL_ifCopied 0 = .ok (.aload_n 0, 1) := by decide +kernel
theorem dL_ifCopied_1 : decode cL_ifCopied 1 = .ok (.iload_n 1, 1) := by decide +kernel
theorem dL_ifCopied_2 : decode cL_ifCopied 2 = .ok (.iload_n 2, 1) := by decide +kernel
theorem dL_ifCopied_3 : decode cL_ifCopied 3 = .ok (.iload_n 3, 1) := by decide +kernel
theorem dL_ifCopied_4 : decode cL_ifCopied 4 = .ok (.invokevirtual 57, 3) := by decide +kernel
theorem dL_ifCopied_7 : decode cL_ifCopied 7 = .ok (.ireturn, 1) := by decide +kernel
theorem dL_ifCopied_8 : decode cL_ifCopied 8 = .ok (.astore 4, 2) := by decide +kernel
theorem dL_ifCopied_10 : decode cL_ifCopied 10 = .ok (.ldc 18, 2) := by decide +kernel
theorem dL_ifCopied_12 : decode cL_ifCopied 12 = .ok (.ireturn, 1) := by decide +kernel
theorem dL_ifCopied_13 : decode cL_ifCopied 13 = .ok (.astore 4, 2) := by decide +kernel
theorem dL_ifCopied_15 : decode cL_ifCopied 15 = .ok (.ldc 21, 2) := by decide +kernel
theorem dL_ifCopied_17 : decode cL_ifCopied 17 = .ok (.ireturn, 1) := by decide +kernel
set_option maxRecDepth 20000 in
theorem ggL_chain_X3_chain : GoodIn wsL_chain wsX3_chain := goodIn_ca (goodIn_ca (goodIn_r _ [9, 10, 11, 12, 13, 14, 15, 16, 17, 18, 19, 8, 20, 21, 22, 23, 24, 25, 26, 27, 28, 29, 30, 31, 32, 33, 34, 35, 36, 37, 38, 39, 40, 41, 42, 43, 44, 45, 46, 47, 48, 49, 50, 51, 52, 53, 54, 55, 56, 57, 58, 59, 60, 61, 62, 63, 64, 65, 66, 67, 68, 69, 70, 71, 72, 73, 74, 75, 76, 77, 78, 79, 80, 81, 82, 83, 84, 85, 86, 87, 88, 89, 90, 91, 92, 93, 94, 95, 96, 97, 98, 99, 100, 101] (by decide +kernel) (by decide +kernel)) (goodIn_sub (fun _ h => List.mem_cons_of_mem _ (List.mem_append_left _ (List.mem_append_right _ h))) (by decide +kernel))) (goodIn_sub (fun _ h => List.mem_cons_of_mem _ (List.mem_append_right _ h)) (by decide +kernel))
set_option maxRecDepth 20000 in
theorem gL_chain_X3_chain : GoodIn wsL_chain (wsV RL 60 RX3 yX3_chain wsX3_chain) := goodIn_app (goodIn_of _ (by decide +kernel)) ggL_chain_X3_chain
theorem dL_chain_0 : decode cL_chain 0 = .ok (.aload_n 0, 1) := by decide +kernel
theorem dL_chain_1 : decode cL_chain 1 = .ok (.iload_n 1, 1) := by decide +kernel
theorem dL_chain_2 : decode cL_chain 2 = .ok (.iload_n 2, 1) := by decide +kernel
theorem dL_chain_3 : decode cL_chain 3 = .ok (.iload_n 3, 1) := by decide +kernel
theorem dL_chain_4 : decode cL_chain 4 = .ok (.invokevirtual 60, 3) := by decide +kernel
theorem dL_chain_7 : decode cL_chain 7 = .ok (.ireturn, 1) := by decide +kernel
theorem dL_chain_8 : decode cL_chain 8 = .ok (.astore 4, 2) := by decide +kernel
theorem dL_chain_10 : decode cL_chain 10 = .ok (.ldc 18, 2) := by decide +kernel
theorem dL_chain_12 : decode cL_chain 12 = .ok (.ireturn, 1) := by decide +kernel
theorem dL_chain_13 : decode cL_chain 13 = .ok (.astore 4, 2) := by decide +kernel
theorem dL_chain_15 : decode cL_chain 15 = .ok (.ldc 21, 2) := by decide +kernel
theorem dL_chain_17 : decode cL_chain 17 = .ok (.ireturn, 1) := by decide +kernel
set_option maxRecDepth 20000 in
theorem ggL_daughters_X3_daughters : GoodIn wsL_daughters wsX3_daughters := goodIn_ca (goodIn_r _ [7, 8, 9, 10, 11, 6, 12, 13, 14, 15, 16, 17, 18, 19, 20, 21, 22, 23, 24, 25, 26, 27, 28, 29, 30, 31, 32, 33, 34, 35, 36, 37, 38, 39, 40, 41, 42, 43, 44, 45, 46, 47, 48, 49, 50] (by decide +kernel) (by decide +kernel)) (goodIn_sub (fun _ h => List.mem_cons_of_mem _ (List.mem_append_right _ h)) (by decide +kernel))
set_option maxRecDepth 20000 in
theorem gL_daughters_X3_daughters : GoodIn wsL_daughters (wsV RL 63 RX3 yX3_daughters wsX3_daughters) := goodIn_app (goodIn_of _ (by decide +kernel)) ggL_daughters_X3_daughters
theorem dL_daughters_0 : decode cL_daughters 0 = .ok (.aload_n 0, 1) := by decide +kernel
theorem dL_daughters_1 : decode cL_daughters 1 = .ok (.iload_n 1, 1) := by decide +kernel
theorem dL_daughters_2 : decode cL_daughters 2 = .ok (.invokevirtual 63, 3) := by decide +kernel
theorem dL_daughters_5 : decode cL_daughters 5 = .ok (.ireturn, 1) := by decide +kernel
theorem dL_daughters_6 : decode cL_daughters 6 = .ok (.astore_n 2, 1) := by decide +kernel
theorem dL_daughters_7 : decode cL_daughters 7 = .ok (.ldc 18, 2) := by decide +kernel
theorem dL_daughters_9 : decode cL_daughters 9 = .ok (.ireturn, 1) := by decide +kernel
end
section
set_option maxRecDepth 20000 in
theorem ggL_act_L_low : GoodIn wsL_act wsL_low := goodIn_r _ [4, 5] (by decide +kernel) (by decide +kernel)
set_option maxRecDepth 20000 in
theorem gL_act_L_low : GoodIn wsL_act (va_wsS RL 66 yL_low wsL_low) := goodIn_app (goodIn_of _ (by decide +kernel)) ggL_act_L_low
set_option maxRecDepth 20000 in
theorem ggL_act_L_speak : GoodIn wsL_act wsL_speak := goodIn_ca (goodIn_ca (goodIn_r _ [8, 9, 10, 11, 12, 13, 14, 15, 16, 17, 18, 19, 20, 21, 22, 23, 24, 25, 26, 27, 28, 29, 30, 31, 32, 33, 34, 35, 36, 37, 38, 39, 40, 41, 42, 43, 44, 45, 46, 47, 48, 49, 50, 51, 52, 53, 54, 55, 56, 57, 58, 59, 60, 61, 62, 63, 64, 65, 66, 67, 68, 69, 70, 71, 72, 73, 74, 75, 76, 77, 78, 79, 80, 81, 82, 83, 84, 85, 86, 87, 88, 89, 90, 91, 92, 93, 94, 95, 96, 199, 200, 201, 202, 203, 204, 205, 206, 207, 208, 209, 210, 211, 212, 213, 214, 215, 216, 217, 218, 219, 220, 221, 222, 223, 224] (by decide +kernel) (by decide +kernel)) (goodIn_sub (fun _ h => List.mem_cons_of_mem _ (List.mem_append_left _ (List.mem_append_right _ h))) (by decide +kernel))) (goodIn_sub (fun _ h => List.mem_cons_of_mem _ (List.mem_append_right _ h)) (by decide +kernel))
set_option maxRecDepth 20000 in
theorem gL_act_L_speak : GoodIn wsL_act (va_wsS RL 71 yL_speak wsL_speak) := goodIn_app (goodIn_of _ (by decide +kernel)) ggL_act_L_speak
set_option maxRecDepth 20000 in
theorem ggL_act_L_copy : GoodIn wsL_act wsL_copy := goodIn_ca (goodIn_ca (goodIn_r _ [99, 9, 10, 11, 12, 100, 101, 102, 16, 103, 18, 19, 20, 21, 22, 23, 24, 104, 105, 106, 107, 29, 30, 31, 32, 33, 34, 35, 36, 37, 38, 39, 40, 41, 42, 43, 44, 45, 46, 47, 48, 49, 50, 51, 52, 53, 54, 55, 56, 57, 58, 59, 60, 61, 62, 63, 64, 65, 66, 67, 68, 108, 109, 110, 111, 112, 113, 95, 114, 115, 116, 117, 118, 77, 78, 79, 80, 119, 120, 93, 94, 96, 121, 83, 84, 85, 86, 122, 123, 124, 125, 126, 127, 128, 81, 82, 87, 88, 89, 90, 91, 92, 199, 200, 201, 202, 203, 204, 205, 206, 207, 208, 209, 210, 211, 212, 213, 214, 215, 216, 217, 218, 219, 220, 221, 222, 223, 224] (by decide +kernel) (by decide +kernel)) (goodIn_sub (fun _ h => List.mem_cons_of_mem _ (List.mem_append_left _ (List.mem_append_right _ h))) (by decide +kernel))) (goodIn_sub (fun _ h => List.mem_cons_of_mem _ (List.mem_append_right _ h)) (by decide +kernel))
set_option maxRecDepth 20000 in
theorem gL_act_L_copy : GoodIn wsL_act (va_wsS RL 74 yL_copy wsL_copy) := goodIn_app (goodIn_of _ (by decide +kernel)) ggL_act_L_copy
set_option maxRecDepth 20000 in
theorem ggL_act_L_play : GoodIn wsL_act wsL_play := goodIn_ca (goodIn_r _ [131, 9, 11, 132, 133, 134, 16, 135, 18, 19, 20, 21, 22, 23, 24, 31, 32, 33, 34, 35, 36, 37, 38, 39, 40, 41, 42, 43, 44, 45, 46, 47, 48, 49, 50, 51, 52, 53, 54, 55, 56, 57, 58, 59, 60, 61, 62, 63, 64, 65, 66, 67, 68, 136, 137, 138, 139, 140, 94, 95, 96, 77, 78, 79, 80, 199, 200, 201, 202, 203, 204, 205, 206, 207, 208, 209, 210, 211, 212, 213, 214, 215, 216, 217, 218, 219, 220, 221, 222, 223, 224] (by decide +kernel) (by decide +kernel)) (goodIn_sub (fun _ h => List.mem_cons_of_mem _ (List.mem_append_left _ (List.mem_append_right _ h))) (by decide +kernel))
set_option maxRecDepth 20000 in
theorem gL_act_L_play : GoodIn wsL_act (va_wsS RL 77 yL_play wsL_play) := goodIn_app (goodIn_of _ (by decide +kernel)) ggL_act_L_play
set_option maxRecDepth 20000 in
theorem ggL_act_L_shave : GoodIn wsL_act wsL_shave := goodIn_ca (goodIn_r _ [143, 9, 11, 144, 145, 146, 16, 147, 18, 148, 149, 150, 151, 23, 24, 31, 32, 33, 34, 35, 36, 37, 38, 39, 40, 41, 42, 43, 44, 45, 46, 47, 48, 49, 50, 51, 52, 53, 54, 55, 56, 57, 58, 59, 60, 61, 62, 63, 64, 65, 66, 67, 68, 152, 153, 154, 155, 156, 157, 158, 159, 140, 94, 95, 96, 160, 161, 162, 163, 199, 200, 201, 202, 203, 204, 205, 206, 207, 208, 209, 210, 211, 212, 213, 214, 215, 216, 217, 218, 219, 220, 221, 222, 223, 224] (by decide +kernel) (by decide +kernel)) (goodIn_sub (fun _ h => List.mem_cons_of_mem _ (List.mem_append_left _ (List.mem_append_right _ h))) (by decide +kernel))
set_option maxRecDepth 20000 in
theorem gL_act_L_shave : GoodIn wsL_act (va_wsS RL 80 yL_shave wsL_shave) := goodIn_app (goodIn_of _ (by decide +kernel)) ggL_act_L_shave
set_option maxRecDepth 20000 in
theorem ggL_act_L_set : GoodIn wsL_act wsL_set := goodIn_ca (goodIn_r _ [166, 10, 11, 167, 168, 169, 16, 170, 29, 30, 18, 171, 31, 32, 33, 34, 35, 36, 37, 38, 39, 40, 41, 42, 43, 44, 45, 46, 47, 48, 49, 50, 51, 52, 53, 54, 55, 56, 57, 58, 59, 60, 61, 62, 63, 64, 65, 66, 67, 68, 199, 200, 201, 202, 203, 204, 205, 206, 207, 208, 209, 210, 211, 212, 213, 214, 215, 216, 217, 218, 219, 220, 221, 222, 223, 224] (by decide +kernel) (by decide +kernel)) (goodIn_sub (fun _ h => List.mem_cons_of_mem _ (List.mem_append_right _ h)) (by decide +kernel))
set_option maxRecDepth 20000 in
theorem gL_act_L_set : GoodIn wsL_act (va_wsS RL 82 yL_set wsL_set) := goodIn_app (goodIn_of _ (by decide +kernel)) ggL_act_L_set
set_option maxRecDepth 20000 in
theorem ggL_act_L_renew : GoodIn wsL_act wsL_renew := goodIn_ca (goodIn_ca (goodIn_r _ [174, 9, 10, 11, 12, 175, 176, 177, 16, 178, 29, 30, 18, 148, 149, 150, 151, 23, 24, 31, 32, 33, 34, 35, 36, 37, 38, 39, 40, 41, 42, 43, 44, 45, 46, 47, 48, 49, 50, 51, 52, 53, 54, 55, 56, 57, 58, 59, 60, 61, 62, 63, 64, 65, 66, 67, 68, 179, 180, 181, 182, 160, 161, 162, 163, 199, 200, 201, 202, 203, 204, 205, 206, 207, 208, 209, 210, 211, 212, 213, 214, 215, 216, 217, 218, 219, 220, 221, 222, 223, 224] (by decide +kernel) (by decide +kernel)) (goodIn_sub (fun _ h => List.mem_cons_of_mem _ (List.mem_append_right _ h)) (by decide +kernel))) (goodIn_sub (fun _ h => List.mem_cons_of_mem _ (List.mem_append_left _ (List.mem_append_right _ h))) (by decide +kernel))
set_option maxRecDepth 20000 in
theorem gL_act_L_renew : GoodIn wsL_act (va_wsS RL 84 yL_renew wsL_renew) := goodIn_app (goodIn_of _ (by decide +kernel)) ggL_act_L_renew
set_option maxRecDepth 20000 in
theorem ggL_act_X3_sharpen : GoodIn wsL_act wsX3_sharpen := goodIn_r _ [186, 18, 31, 32, 33, 16, 34, 35, 36, 37, 38, 39, 40, 41, 42, 43, 44, 45, 46, 47, 48, 49, 50, 51, 52, 53, 54, 55, 56, 57, 58, 59, 60, 61, 62, 63, 64, 65, 66, 67, 68, 187, 188, 189, 190, 199, 200, 201, 202, 203, 204, 205, 206, 207, 208, 209, 210, 211, 212, 213, 214, 215, 216, 217, 218, 219, 220, 221, 222, 223, 224] (by decide +kernel) (by decide +kernel)
set_option maxRecDepth 20000 in
theorem gL_act_X3_sharpen : GoodIn wsL_act (wsV RL 86 RX3 yX3_sharpen wsX3_sharpen) := goodIn_app (goodIn_of _ (by decide +kernel)) ggL_act_X3_sharpen
set_option maxRecDepth 20000 in
theorem ggL_act_X3_wind : GoodIn wsL_act wsX3_wind := goodIn_r _ [194, 18, 31, 32, 33, 16, 34, 35, 36, 37, 38, 39, 40, 41, 42, 43, 44, 45, 46, 47, 48, 49, 50, 51, 52, 53, 54, 55, 56, 57, 58, 59, 60, 61, 62, 63, 64, 65, 66, 67, 68, 195, 196, 197, 198, 199, 200, 201, 202, 203, 204, 205, 206, 207, 208, 209, 210, 211, 212, 213, 214, 215, 216, 217, 218, 219, 220, 221, 222, 223, 224] (by decide +kernel) (by decide +kernel)
set_option maxRecDepth 20000 in
theorem gL_act_X3_wind : GoodIn wsL_act (wsV RL 89 RX3 yX3_wind wsX3_wind) := goodIn_app (goodIn_of _ (by decide +kernel)) ggL_act_X3_wind
theorem dL_act_0 : decode cL_act 0 = .ok (.iload_n 1, 1) := by decide +kernel
theorem dL_act_1 : decode cL_act 1 = .ok (.iconst 4, 1) := by decide +kernel
theorem dL_act_2 : decode cL_act 2 = .ok (.ishr, 1) := by decide +kernel
theorem dL_act_3 : decode cL_act 3 = .ok (.iload_n 1, 1) := by decide +kernel
theorem dL_act_4 : decode cL_act 4 = .ok (.bipush 12, 2) := by decide +kernel
theorem dL_act_6 : decode cL_act 6 = .ok (.ishr, 1) := by decide +kernel
theorem dL_act_7 : decode cL_act 7 = .ok (.iconst 2, 1) := by decide +kernel
theorem dL_act_8 : decode cL_act 8 = .ok (.invokestatic 66, 3) := by decide +kernel
theorem dL_act_11 : decode cL_act 11 = .ok (.ifCond .ne 8, 3) := by decide +kernel
theorem dL_act_14 : decode cL_act 14 = .ok (.bipush 24, 2) := by decide +kernel
theorem dL_act_16 : decode cL_act 16 = .ok (.goto 5, 3) := by decide +kernel
theorem dL_act_19 : decode cL_act 19 = .ok (.bipush 9, 2) := by decide +kernel
theorem dL_act_21 : decode cL_act 21 = .ok (.invokestatic 66, 3) := by decide +kernel
theorem dL_act_24 : decode cL_act 24 = .ok (.istore_n 3, 1) := by decide +kernel
theorem dL_act_25 : decode cL_act 25 = .ok (.iload_n 1, 1) := by decide +kernel
theorem dL_act_26 : decode cL_act 26 = .ok (.bipush 8, 2) := by decide +kernel
theorem dL_act_28 : decode cL_act 28 = .ok (.ishr, 1) := by decide +kernel
theorem dL_act_29 : decode cL_act 29 = .ok (.bipush 24, 2) := by decide +kernel
theorem dL_act_31 : decode cL_act 31 = .ok (.invokestatic 66, 3) := by decide +kernel
theorem dL_act_34 : decode cL_act 34 = .ok (.istore 4, 2) := by decide +kernel
theorem dL_act_36 : decode cL_act 36 = .ok (.iload_n 1, 1) := by decide +kernel
theorem dL_act_37 : decode cL_act 37 = .ok (.bipush 13, 2) := by decide +kernel
theorem dL_act_39 : decode cL_act 39 = .ok (.invokestatic 66, 3) := by decide +kernel
theorem dL_act_42 : decode cL_act 42 = .ok (.tableswitch 161 0 9 #[54, 54, 54, 68, 68, 68, 68, 83, 89, 125], 54) := by decide +kernel
theorem dL_act_96 : decode cL_act 96 = .ok (.aload_n 0, 1) := by decide +kernel
theorem dL_act_97 : decode cL_act 97 = .ok (.iload_n 3, 1) := by decide +kernel
theorem dL_act_98 : decode cL_act 98 = .ok (.iconst 1, 1) := by decide +kernel
theorem dL_act_99 : decode cL_act 99 = .ok (.iload_n 2, 1) := by decide +kernel
theorem dL_act_100 : decode cL_act 100 = .ok (.bipush 9, 2) := by decide +kernel
theorem dL_act_102 : decode cL_act 102 = .ok (.invokestatic 66, 3) := by decide +kernel
theorem dL_act_105 : decode cL_act 105 = .ok (.iadd, 1) := by decide +kernel
theorem dL_act_106 : decode cL_act 106 = .ok (.invokestatic 71, 3) := by decide +kernel
theorem dL_act_109 : decode cL_act 109 = .ok (.ireturn, 1) := by decide +kernel
theorem dL_act_110 : decode cL_act 110 = .ok (.aload_n 0, 1) := by decide +kernel
theorem dL_act_111 : decode cL_act 111 = .ok (.iload_n 3, 1) := by decide +kernel
theorem dL_act_112 : decode cL_act 112 = .ok (.iload 4, 2) := by decide +kernel
theorem dL_act_114 : decode cL_act 114 = .ok (.iconst 1, 1) := by decide +kernel
theorem dL_act_115 : decode cL_act 115 = .ok (.iload_n 2, 1) := by decide +kernel
theorem dL_act_116 : decode cL_act 116 = .ok (.iconst 3, 1) := by decide +kernel
theorem dL_act_117 : decode cL_act 117 = .ok (.invokestatic 66, 3) := by decide +kernel
theorem dL_act_120 : decode cL_act 120 = .ok (.iadd, 1) := by decide +kernel
theorem dL_act_121 : decode cL_act 121 = .ok (.invokestatic 74, 3) := by decide +kernel
theorem dL_act_124 : decode cL_act 124 = .ok (.ireturn, 1) := by decide +kernel
theorem dL_act_125 : decode cL_act 125 = .ok (.aload_n 0, 1) := by decide +kernel
theorem dL_act_126 : decode cL_act 126 = .ok (.iload_n 3, 1) := by decide +kernel
theorem dL_act_127 : decode cL_act 127 = .ok (.invokestatic 77, 3) := by decide +kernel
theorem dL_act_130 : decode cL_act 130 = .ok (.ireturn, 1) := by decide +kernel
theorem dL_act_131 : decode cL_act 131 = .ok (.iload_n 2, 1) := by decide +kernel
theorem dL_act_132 : decode cL_act 132 = .ok (.iconst 2, 1) := by decide +kernel
theorem dL_act_133 : decode cL_act 133 = .ok (.invokestatic 66, 3) := by decide +kernel
theorem dL_act_136 : decode cL_act 136 = .ok (.ifCond .ne 18, 3) := by decide +kernel
theorem dL_act_139 : decode cL_act 139 = .ok (.aload_n 0, 1) := by decide +kernel
theorem dL_act_140 : decode cL_act 140 = .ok (.iload_n 2, 1) := by decide +kernel
theorem dL_act_141 : decode cL_act 141 = .ok (.iconst 1, 1) := by decide +kernel
theorem dL_act_142 : decode cL_act 142 = .ok (.ishr, 1) := by decide +kernel
theorem dL_act_143 : decode cL_act 143 = .ok (.bipush 6, 2) := by decide +kernel
theorem dL_act_145 : decode cL_act 145 = .ok (.invokestatic 66, 3) := by decide +kernel
theorem dL_act_148 : decode cL_act 148 = .ok (.invokestatic 80, 3) := by decide +kernel
theorem dL_act_151 : decode cL_act 151 = .ok (.goto 15, 3) := by decide +kernel
theorem dL_act_154 : decode cL_act 154 = .ok (.aload_n 0, 1) := by decide +kernel
theorem dL_act_155 : decode cL_act 155 = .ok (.iload_n 2, 1) := by decide +kernel
theorem dL_act_156 : decode cL_act 156 = .ok (.iconst 1, 1) := by decide +kernel
theorem dL_act_157 : decode cL_act 157 = .ok (.ishr, 1) := by decide +kernel
theorem dL_act_158 : decode cL_act 158 = .ok (.bipush 21, 2) := by decide +kernel
theorem dL_act_160 : decode cL_act 160 = .ok (.invokestatic 66, 3) := by decide +kernel
theorem dL_act_163 : decode cL_act 163 = .ok (.invokestatic 82, 3) := by decide +kernel
theorem dL_act_166 : decode cL_act 166 = .ok (.ireturn, 1) := by decide +kernel
theorem dL_act_167 : decode cL_act 167 = .ok (.iload_n 2, 1) := by decide +kernel
theorem dL_act_168 : decode cL_act 168 = .ok (.iconst 2, 1) := by decide +kernel
theorem dL_act_169 : decode cL_act 169 = .ok (.invokestatic 66, 3) := by decide +kernel
theorem dL_act_172 : decode cL_act 172 = .ok (.ifCond .ne 26, 3) := by decide +kernel
theorem dL_act_175 : decode cL_act 175 = .ok (.aload_n 0, 1) := by decide +kernel
theorem dL_act_176 : decode cL_act 176 = .ok (.iload_n 2, 1) := by decide +kernel
theorem dL_act_177 : decode cL_act 177 = .ok (.iconst 1, 1) := by decide +kernel
theorem dL_act_178 : decode cL_act 178 = .ok (.ishr, 1) := by decide +kernel
theorem dL_act_179 : decode cL_act 179 = .ok (.bipush 6, 2) := by decide +kernel
theorem dL_act_181 : decode cL_act 181 = .ok (.invokestatic 66, 3) := by decide +kernel
theorem dL_act_184 : decode cL_act 184 = .ok (.iload_n 2, 1) := by decide +kernel
theorem dL_act_185 : decode cL_act 185 = .ok (.iconst 4, 1) := by decide +kernel
theorem dL_act_186 : decode cL_act 186 = .ok (.ishr, 1) := by decide +kernel
theorem dL_act_187 : decode cL_act 187 = .ok (.bipush 50, 2) := by decide +kernel
theorem dL_act_189 : decode cL_act 189 = .ok (.invokestatic 66, 3) := by decide +kernel
theorem dL_act_192 : decode cL_act 192 = .ok (.invokestatic 84, 3) := by decide +kernel
theorem dL_act_195 : decode cL_act 195 = .ok (.goto 7, 3) := by decide +kernel
theorem dL_act_198 : decode cL_act 198 = .ok (.aload_n 0, 1) := by decide +kernel
theorem dL_act_199 : decode cL_act 199 = .ok (.invokevirtual 86, 3) := by decide +kernel
theorem dL_act_202 : decode cL_act 202 = .ok (.ireturn, 1) := by decide +kernel
theorem dL_act_203 : decode cL_act 203 = .ok (.aload_n 0, 1) := by decide +kernel
theorem dL_act_204 : decode cL_act 204 = .ok (.invokevirtual 89, 3) := by decide +kernel
theorem dL_act_207 : decode cL_act 207 = .ok (.ireturn, 1) := by decide +kernel
set_option maxRecDepth 20000 in
theorem ggL_track_L_trackOf : GoodIn wsL_track wsL_trackOf := goodIn_ca (goodIn_ca (goodIn_r _ [4, 5, 6, 7, 8, 9, 10, 11, 12, 13, 14, 15, 16, 17, 18, 19, 20, 21, 22, 23, 24, 25, 26, 27, 28, 29, 30, 31, 32, 33, 34, 35, 36, 37, 38, 39, 40, 41, 42, 142, 143, 144, 145, 146, 147, 148, 149, 150, 151, 152, 153, 154, 155, 156, 157, 158, 159, 160, 161, 162, 163, 164, 165, 166, 167] (by decide +kernel) (by decide +kernel)) (goodIn_sub (fun _ h => List.mem_cons_of_mem _ (List.mem_append_left _ (List.mem_append_right _ h))) (by decide +kernel))) (goodIn_sub (fun _ h => List.mem_cons_of_mem _ (List.mem_append_right _ h)) (by decide +kernel))
set_option maxRecDepth 20000 in
theorem gL_track_L_trackOf : GoodIn wsL_track (va_wsS RL 92 yL_trackOf wsL_trackOf) := goodIn_app (goodIn_of _ (by decide +kernel)) ggL_track_L_trackOf
set_option maxRecDepth 20000 in
theorem ggL_track_L_chain : GoodIn wsL_track wsL_chain := goodIn_ca (goodIn_ca (goodIn_r _ [45, 5, 6, 7, 8, 46, 47, 48, 12, 49, 25, 26, 14, 50, 51, 52, 53, 15, 16, 17, 18, 19, 20, 21, 22, 23, 24, 54, 40, 41, 30, 42, 32, 55, 56, 57, 58, 59, 60, 61, 62, 63, 64, 65, 66, 67, 68, 69, 70, 71, 72, 73, 74, 75, 76, 77, 78, 79, 80, 81, 82, 83, 84, 85, 86, 87, 88, 89, 90, 91, 92, 93, 94, 95, 142, 143, 144, 145, 146, 147, 148, 149, 150, 151, 152, 153, 154, 155, 156, 157, 158, 159, 160, 161, 162, 163, 164, 165, 166, 167, 168, 169] (by decide +kernel) (by decide +kernel)) (goodIn_sub (fun _ h => List.mem_cons_of_mem _ (List.mem_append_right _ h)) (by decide +kernel))) (goodIn_sub (fun _ h => List.mem_cons_of_mem _ (List.mem_append_left _ (List.mem_append_right _ h))) (by decide +kernel))
set_option maxRecDepth 20000 in
theorem gL_track_L_chain : GoodIn wsL_track (va_wsS RL 94 yL_chain wsL_chain) := goodIn_app (goodIn_of _ (by decide +kernel)) ggL_track_L_chain
set_option maxRecDepth 20000 in
theorem ggL_track_L_whyNot : GoodIn wsL_track wsL_whyNot := goodIn_ca (goodIn_ca (goodIn_r _ [98, 5, 6, 7, 8, 99, 100, 101, 12, 102, 14, 15, 16, 17, 18, 19, 20, 103, 104, 105, 106, 25, 26, 107, 108, 109, 30, 110, 111, 112, 39, 40, 41, 42, 32, 142, 143, 144, 145, 146, 147, 148, 149, 150, 151, 152, 153, 154, 155, 156, 157, 158, 159, 160, 161, 162, 163, 164, 165, 166, 167] (by decide +kernel) (by decide +kernel)) (goodIn_sub (fun _ h => List.mem_cons_of_mem _ (List.mem_append_left _ (List.mem_append_right _ h))) (by decide +kernel))) (goodIn_sub (fun _ h => List.mem_cons_of_mem _ (List.mem_append_right _ h)) (by decide +kernel))
set_option maxRecDepth 20000 in
theorem gL_track_L_whyNot : GoodIn wsL_track (va_wsS RL 96 yL_whyNot wsL_whyNot) := goodIn_app (goodIn_of _ (by decide +kernel)) ggL_track_L_whyNot
set_option maxRecDepth 20000 in
theorem ggL_track_L_cylinderOf : GoodIn wsL_track wsL_cylinderOf := goodIn_ca (goodIn_ca (goodIn_r _ [115, 5, 6, 7, 8, 116, 117, 118, 12, 119, 14, 120, 121, 122, 123, 19, 20, 21, 22, 23, 24, 25, 26, 124, 125, 126, 30, 127, 111, 128, 129, 130, 131, 132, 39, 40, 41, 42, 32, 133, 134, 135, 136, 137, 68, 69, 70, 138, 139, 140, 141, 33, 142, 143, 144, 145, 146, 147, 148, 149, 150, 151, 152, 153, 154, 155, 156, 157, 158, 159, 160, 161, 162, 163, 164, 165, 166, 167] (by decide +kernel) (by decide +kernel)) (goodIn_sub (fun _ h => List.mem_cons_of_mem _ (List.mem_append_left _ (List.mem_append_right _ h))) (by decide +kernel))) (goodIn_sub (fun _ h => List.mem_cons_of_mem _ (List.mem_append_right _ h)) (by decide +kernel))
set_option maxRecDepth 20000 in
theorem gL_track_L_cylinderOf : GoodIn wsL_track (va_wsS RL 98 yL_cylinderOf wsL_cylinderOf) := goodIn_app (goodIn_of _ (by decide +kernel)) ggL_track_L_cylinderOf
theorem dL_track_0 : decode cL_track 0 = .ok (.aload_n 0, 1) := by decide +kernel
theorem dL_track_1 : decode cL_track 1 = .ok (.iload_n 1, 1) := by decide +kernel
theorem dL_track_2 : decode cL_track 2 = .ok (.iconst 0, 1) := by decide +kernel
theorem dL_track_3 : decode cL_track 3 = .ok (.invokestatic 92, 3) := by decide +kernel
theorem dL_track_6 : decode cL_track 6 = .ok (.istore_n 2, 1) := by decide +kernel
theorem dL_track_7 : decode cL_track 7 = .ok (.iload_n 2, 1) := by decide +kernel
theorem dL_track_8 : decode cL_track 8 = .ok (.ifCond .ne 67, 3) := by decide +kernel
theorem dL_track_11 : decode cL_track 11 = .ok (.iconst 1, 1) := by decide +kernel
theorem dL_track_12 : decode cL_track 12 = .ok (.istore_n 3, 1) := by decide +kernel
theorem dL_track_13 : decode cL_track 13 = .ok (.iload_n 3, 1) := by decide +kernel
theorem dL_track_14 : decode cL_track 14 = .ok (.bipush 7, 2) := by decide +kernel
theorem dL_track_16 : decode cL_track 16 = .ok (.if_icmp .ge 21, 3) := by decide +kernel
theorem dL_track_19 : decode cL_track 19 = .ok (.aload_n 0, 1) := by decide +kernel
theorem dL_track_20 : decode cL_track 20 = .ok (.iload_n 1, 1) := by decide +kernel
theorem dL_track_21 : decode cL_track 21 = .ok (.iload_n 3, 1) := by decide +kernel
theorem dL_track_22 : decode cL_track 22 = .ok (.invokestatic 92, 3) := by decide +kernel
theorem dL_track_25 : decode cL_track 25 = .ok (.iconst (-1), 1) := by decide +kernel
theorem dL_track_26 : decode cL_track 26 = .ok (.if_icmp .eq 5, 3) := by decide +kernel
theorem dL_track_29 : decode cL_track 29 = .ok (.iconst 0, 1) := by decide +kernel
theorem dL_track_30 : decode cL_track 30 = .ok (.ireturn, 1) := by decide +kernel
theorem dL_track_31 : decode cL_track 31 = .ok (.iinc 3 1, 3) := by decide +kernel
theorem dL_track_34 : decode cL_track 34 = .ok (.goto (-21), 3) := by decide +kernel
theorem dL_track_37 : decode cL_track 37 = .ok (.aload_n 0, 1) := by decide +kernel
theorem dL_track_38 : decode cL_track 38 = .ok (.iload_n 1, 1) := by decide +kernel
theorem dL_track_39 : decode cL_track 39 = .ok (.iconst 1, 1) := by decide +kernel
theorem dL_track_40 : decode cL_track 40 = .ok (.iconst 0, 1) := by decide +kernel
theorem dL_track_41 : decode cL_track 41 = .ok (.invokestatic 94, 3) := by decide +kernel
theorem dL_track_44 : decode cL_track 44 = .ok (.iconst (-1), 1) := by decide +kernel
theorem dL_track_45 : decode cL_track 45 = .ok (.if_icmp .ne 28, 3) := by decide +kernel
theorem dL_track_48 : decode cL_track 48 = .ok (.aload_n 0, 1) := by decide +kernel
theorem dL_track_49 : decode cL_track 49 = .ok (.iload_n 1, 1) := by decide +kernel
theorem dL_track_50 : decode cL_track 50 = .ok (.iconst 5, 1) := by decide +kernel
theorem dL_track_51 : decode cL_track 51 = .ok (.iconst 1, 1) := by decide +kernel
theorem dL_track_52 : decode cL_track 52 = .ok (.invokestatic 94, 3) := by decide +kernel
theorem dL_track_55 : decode cL_track 55 = .ok (.iconst (-1), 1) := by decide +kernel
theorem dL_track_56 : decode cL_track 56 = .ok (.if_icmp .ne 17, 3) := by decide +kernel
theorem dL_track_59 : decode cL_track 59 = .ok (.aload_n 0, 1) := by decide +kernel
theorem dL_track_60 : decode cL_track 60 = .ok (.iload_n 1, 1) := by decide +kernel
theorem dL_track_61 : decode cL_track 61 = .ok (.iconst 1, 1) := by decide +kernel
theorem dL_track_62 : decode cL_track 62 = .ok (.invokestatic 96, 3) := by decide +kernel
theorem dL_track_65 : decode cL_track 65 = .ok (.iconst 1, 1) := by decide +kernel
theorem dL_track_66 : decode cL_track 66 = .ok (.if_icmp .eq 7, 3) := by decide +kernel
theorem dL_track_69 : decode cL_track 69 = .ok (.iconst 1, 1) := by decide +kernel
theorem dL_track_70 : decode cL_track 70 = .ok (.goto 4, 3) := by decide +kernel
theorem dL_track_73 : decode cL_track 73 = .ok (.iconst 0, 1) := by decide +kernel
theorem dL_track_74 : decode cL_track 74 = .ok (.ireturn, 1) := by decide +kernel
theorem dL_track_75 : decode cL_track 75 = .ok (.aload_n 0, 1) := by decide +kernel
theorem dL_track_76 : decode cL_track 76 = .ok (.iload_n 1, 1) := by decide +kernel
theorem dL_track_77 : decode cL_track 77 = .ok (.iconst 1, 1) := by decide +kernel
theorem dL_track_78 : decode cL_track 78 = .ok (.invokestatic 92, 3) := by decide +kernel
theorem dL_track_81 : decode cL_track 81 = .ok (.istore_n 3, 1) := by decide +kernel
theorem dL_track_82 : decode cL_track 82 = .ok (.aload_n 0, 1) := by decide +kernel
theorem dL_track_83 : decode cL_track 83 = .ok (.iload_n 1, 1) := by decide +kernel
theorem dL_track_84 : decode cL_track 84 = .ok (.iconst 4, 1) := by decide +kernel
theorem dL_track_85 : decode cL_track 85 = .ok (.invokestatic 92, 3) := by decide +kernel
theorem dL_track_88 : decode cL_track 88 = .ok (.istore 4, 2) := by decide +kernel
theorem dL_track_90 : decode cL_track 90 = .ok (.aload_n 0, 1) := by decide +kernel
theorem dL_track_91 : decode cL_track 91 = .ok (.iload_n 1, 1) := by decide +kernel
theorem dL_track_92 : decode cL_track 92 = .ok (.iconst 3, 1) := by decide +kernel
theorem dL_track_93 : decode cL_track 93 = .ok (.invokestatic 92, 3) := by decide +kernel
theorem dL_track_96 : decode cL_track 96 = .ok (.istore 5, 2) := by decide +kernel
theorem dL_track_98 : decode cL_track 98 = .ok (.iload_n 2, 1) := by decide +kernel
theorem dL_track_99 : decode cL_track 99 = .ok (.ifCond .le 130, 3) := by decide +kernel
theorem dL_track_102 : decode cL_track 102 = .ok (.iload_n 2, 1) := by decide +kernel
theorem dL_track_103 : decode cL_track 103 = .ok (.bipush 10, 2) := by decide +kernel
theorem dL_track_105 : decode cL_track 105 = .ok (.if_icmp .ge 124, 3) := by decide +kernel
theorem dL_track_108 : decode cL_track 108 = .ok (.iload_n 3, 1) := by decide +kernel
theorem dL_track_109 : decode cL_track 109 = .ok (.ifCond .lt 120, 3) := by decide +kernel
theorem dL_track_112 : decode cL_track 112 = .ok (.iload_n 3, 1) := by decide +kernel
theorem dL_track_113 : decode cL_track 113 = .ok (.aload_n 0, 1) := by decide +kernel
theorem dL_track_114 : decode cL_track 114 = .ok (.iload_n 1, 1) := by decide +kernel
theorem dL_track_115 : decode cL_track 115 = .ok (.iconst 5, 1) := by decide +kernel
theorem dL_track_116 : decode cL_track 116 = .ok (.invokestatic 92, 3) := by decide +kernel
theorem dL_track_119 : decode cL_track 119 = .ok (.if_icmp .gt 110, 3) := by decide +kernel
theorem dL_track_122 : decode cL_track 122 = .ok (.aload_n 0, 1) := by decide +kernel
theorem dL_track_123 : decode cL_track 123 = .ok (.iload_n 1, 1) := by decide +kernel
theorem dL_track_124 : decode cL_track 124 = .ok (.iconst 5, 1) := by decide +kernel
theorem dL_track_125 : decode cL_track 125 = .ok (.invokestatic 92, 3) := by decide +kernel
theorem dL_track_128 : decode cL_track 128 = .ok (.bipush 100, 2) := by decide +kernel
theorem dL_track_130 : decode cL_track 130 = .ok (.if_icmp .gt 99, 3) := by decide +kernel
theorem dL_track_133 : decode cL_track 133 = .ok (.aload_n 0, 1) := by decide +kernel
theorem dL_track_134 : decode cL_track 134 = .ok (.iload_n 1, 1) := by decide +kernel
theorem dL_track_135 : decode cL_track 135 = .ok (.iconst 2, 1) := by decide +kernel
theorem dL_track_136 : decode cL_track 136 = .ok (.invokestatic 92, 3) := by decide +kernel
theorem dL_track_139 : decode cL_track 139 = .ok (.ifCond .lt 90, 3) := by decide +kernel
theorem dL_track_142 : decode cL_track 142 = .ok (.aload_n 0, 1) := by decide +kernel
theorem dL_track_143 : decode cL_track 143 = .ok (.iload_n 1, 1) := by decide +kernel
theorem dL_track_144 : decode cL_track 144 = .ok (.iconst 2, 1) := by decide +kernel
theorem dL_track_145 : decode cL_track 145 = .ok (.invokestatic 92, 3) := by decide +kernel
theorem dL_track_148 : decode cL_track 148 = .ok (.bipush 20, 2) := by decide +kernel
theorem dL_track_150 : decode cL_track 150 = .ok (.if_icmp .gt 79, 3) := by decide +kernel
theorem dL_track_153 : decode cL_track 153 = .ok (.aload_n 0, 1) := by decide +kernel
theorem dL_track_154 : decode cL_track 154 = .ok (.iload_n 1, 1) := by decide +kernel
theorem dL_track_155 : decode cL_track 155 = .ok (.bipush 6, 2) := by decide +kernel
theorem dL_track_157 : decode cL_track 157 = .ok (.invokestatic 92, 3) := by decide +kernel
theorem dL_track_160 : decode cL_track 160 = .ok (.ifCond .lt 69, 3) := by decide +kernel
theorem dL_track_163 : decode cL_track 163 = .ok (.iload 5, 2) := by decide +kernel
theorem dL_track_165 : decode cL_track 165 = .ok (.ifCond .ne 7, 3) := by decide +kernel
theorem dL_track_168 : decode cL_track 168 = .ok (.iconst 1, 1) := by decide +kernel
theorem dL_track_169 : decode cL_track 169 = .ok (.goto 4, 3) := by decide +kernel
theorem dL_track_172 : decode cL_track 172 = .ok (.iconst 0, 1) := by decide +kernel
theorem dL_track_173 : decode cL_track 173 = .ok (.iload 4, 2) := by decide +kernel
theorem dL_track_175 : decode cL_track 175 = .ok (.iconst (-1), 1) := by decide +kernel
theorem dL_track_176 : decode cL_track 176 = .ok (.if_icmp .ne 7, 3) := by decide +kernel
theorem dL_track_179 : decode cL_track 179 = .ok (.iconst 1, 1) := by decide +kernel
theorem dL_track_180 : decode cL_track 180 = .ok (.goto 4, 3) := by decide +kernel
theorem dL_track_183 : decode cL_track 183 = .ok (.iconst 0, 1) := by decide +kernel
theorem dL_track_184 : decode cL_track 184 = .ok (.if_icmp .ne 45, 3) := by decide +kernel
theorem dL_track_187 : decode cL_track 187 = .ok (.iload 4, 2) := by decide +kernel
theorem dL_track_189 : decode cL_track 189 = .ok (.ifCond .lt 13, 3) := by decide +kernel
theorem dL_track_192 : decode cL_track 192 = .ok (.iload 4, 2) := by decide +kernel
theorem dL_track_194 : decode cL_track 194 = .ok (.iconst 4, 1) := by decide +kernel
theorem dL_track_195 : decode cL_track 195 = .ok (.idiv, 1) := by decide +kernel
theorem dL_track_196 : decode cL_track 196 = .ok (.iload_n 1, 1) := by decide +kernel
theorem dL_track_197 : decode cL_track 197 = .ok (.iconst 4, 1) := by decide +kernel
theorem dL_track_198 : decode cL_track 198 = .ok (.idiv, 1) := by decide +kernel
theorem dL_track_199 : decode cL_track 199 = .ok (.if_icmp .eq 30, 3) := by decide +kernel
theorem dL_track_202 : decode cL_track 202 = .ok (.iload_n 2, 1) := by decide +kernel
theorem dL_track_203 : decode cL_track 203 = .ok (.aload_n 0, 1) := by decide +kernel
theorem dL_track_204 : decode cL_track 204 = .ok (.iload_n 1, 1) := by decide +kernel
theorem dL_track_205 : decode cL_track 205 = .ok (.iconst 4, 1) := by decide +kernel
theorem dL_track_206 : decode cL_track 206 = .ok (.idiv, 1) := by decide +kernel
theorem dL_track_207 : decode cL_track 207 = .ok (.iconst 0, 1) := by decide +kernel
theorem dL_track_208 : decode cL_track 208 = .ok (.invokestatic 98, 3) := by decide +kernel
theorem dL_track_211 : decode cL_track 211 = .ok (.if_icmp .gt 18, 3) := by decide +kernel
theorem dL_track_214 : decode cL_track 214 = .ok (.aload_n 0, 1) := by decide +kernel
theorem dL_track_215 : decode cL_track 215 = .ok (.iload_n 1, 1) := by decide +kernel
theorem dL_track_216 : decode cL_track 216 = .ok (.bipush 9, 2) := by decide +kernel
theorem dL_track_218 : decode cL_track 218 = .ok (.invokestatic 96, 3) := by decide +kernel
theorem dL_track_221 : decode cL_track 221 = .ok (.iconst 1, 1) := by decide +kernel
theorem dL_track_222 : decode cL_track 222 = .ok (.if_icmp .ne 7, 3) := by decide +kernel
theorem dL_track_225 : decode cL_track 225 = .ok (.iconst 1, 1) := by decide +kernel
theorem dL_track_226 : decode cL_track 226 = .ok (.goto 4, 3) := by decide +kernel
theorem dL_track_229 : decode cL_track 229 = .ok (.iconst 0, 1) := by decide +kernel
theorem dL_track_230 : decode cL_track 230 = .ok (.istore 6, 2) := by decide +kernel
theorem dL_track_232 : decode cL_track 232 = .ok (.iload_n 3, 1) := by decide +kernel
theorem dL_track_233 : decode cL_track 233 = .ok (.istore 7, 2) := by decide +kernel
theorem dL_track_235 : decode cL_track 235 = .ok (.iconst 1, 1) := by decide +kernel
theorem dL_track_236 : decode cL_track 236 = .ok (.istore 8, 2) := by decide +kernel
theorem dL_track_238 : decode cL_track 238 = .ok (.iload 8, 2) := by decide +kernel
theorem dL_track_240 : decode cL_track 240 = .ok (.bipush 6, 2) := by decide +kernel
theorem dL_track_242 : decode cL_track 242 = .ok (.if_icmp .ge 66, 3) := by decide +kernel
theorem dL_track_245 : decode cL_track 245 = .ok (.iload 6, 2) := by decide +kernel
theorem dL_track_247 : decode cL_track 247 = .ok (.ifCond .eq 61, 3) := by decide +kernel
theorem dL_track_250 : decode cL_track 250 = .ok (.aload_n 0, 1) := by decide +kernel
theorem dL_track_251 : decode cL_track 251 = .ok (.iload_n 1, 1) := by decide +kernel
theorem dL_track_252 : decode cL_track 252 = .ok (.iload 8, 2) := by decide +kernel
theorem dL_track_254 : decode cL_track 254 = .ok (.iconst 0, 1) := by decide +kernel
theorem dL_track_255 : decode cL_track 255 = .ok (.invokestatic 94, 3) := by decide +kernel
theorem dL_track_258 : decode cL_track 258 = .ok (.istore 9, 2) := by decide +kernel
theorem dL_track_260 : decode cL_track 260 = .ok (.iload 9, 2) := by decide +kernel
theorem dL_track_262 : decode cL_track 262 = .ok (.iload 7, 2) := by decide +kernel
theorem dL_track_264 : decode cL_track 264 = .ok (.if_icmp .gt 31, 3) := by decide +kernel
theorem dL_track_267 : decode cL_track 267 = .ok (.iload 9, 2) := by decide +kernel
theorem dL_track_269 : decode cL_track 269 = .ok (.ifCond .lt 26, 3) := by decide +kernel
theorem dL_track_272 : decode cL_track 272 = .ok (.iload 8, 2) := by decide +kernel
theorem dL_track_274 : decode cL_track 274 = .ok (.iconst 3, 1) := by decide +kernel
theorem dL_track_275 : decode cL_track 275 = .ok (.if_icmp .gt 16, 3) := by decide +kernel
theorem dL_track_278 : decode cL_track 278 = .ok (.iload 9, 2) := by decide +kernel
theorem dL_track_280 : decode cL_track 280 = .ok (.aload_n 0, 1) := by decide +kernel
theorem dL_track_281 : decode cL_track 281 = .ok (.iload_n 1, 1) := by decide +kernel
theorem dL_track_282 : decode cL_track 282 = .ok (.iload 8, 2) := by decide +kernel
theorem dL_track_284 : decode cL_track 284 = .ok (.iconst 1, 1) := by decide +kernel
theorem dL_track_285 : decode cL_track 285 = .ok (.invokestatic 94, 3) := by decide +kernel
theorem dL_track_288 : decode cL_track 288 = .ok (.if_icmp .ne 7, 3) := by decide +kernel
theorem dL_track_291 : decode cL_track 291 = .ok (.iconst 1, 1) := by decide +kernel
theorem dL_track_292 : decode cL_track 292 = .ok (.goto 4, 3) := by decide +kernel
theorem dL_track_295 : decode cL_track 295 = .ok (.iconst 0, 1) := by decide +kernel
theorem dL_track_296 : decode cL_track 296 = .ok (.istore 6, 2) := by decide +kernel
theorem dL_track_298 : decode cL_track 298 = .ok (.iload 9, 2) := by decide +kernel
theorem dL_track_300 : decode cL_track 300 = .ok (.istore 7, 2) := by decide +kernel
theorem dL_track_302 : decode cL_track 302 = .ok (.iinc 8 1, 3) := by decide +kernel
theorem dL_track_305 : decode cL_track 305 = .ok (.goto (-67), 3) := by decide +kernel
theorem dL_track_308 : decode cL_track 308 = .ok (.iload 6, 2) := by decide +kernel
theorem dL_track_310 : decode cL_track 310 = .ok (.ireturn, 1) := by decide +kernel
set_option maxRecDepth 20000 in
theorem ggL_print_X3_setting : GoodIn wsL_print wsX3_setting := goodIn_r _ [7, 8, 9, 116, 117, 118, 119, 120, 121, 122, 123, 124, 125, 126, 127, 128, 129, 130, 131, 132, 133, 134, 135, 136, 137, 138, 139, 140, 141] (by decide +kernel) (by decide +kernel)
set_option maxRecDepth 20000 in
theorem gL_print_X3_setting : GoodIn wsL_print (wsV RL 119 RX3 yX3_setting wsX3_setting) := goodIn_app (goodIn_of _ (by decide +kernel)) ggL_print_X3_setting
set_option maxRecDepth 20000 in
theorem ggL_print_L_count : GoodIn wsL_print wsL_count := goodIn_ca (goodIn_r _ [13, 14, 15, 16, 17, 18, 6, 19, 20, 8, 21, 22, 23, 24, 25, 26, 27, 28, 29, 30, 31, 32, 33, 34, 35, 36, 37, 38, 39, 40, 41, 42, 43, 44, 45, 46, 47, 48, 49, 50, 51, 52, 53, 54, 55, 56, 57, 58, 59, 60, 61, 62, 116, 117, 118, 119, 120, 121, 122, 123, 124, 125, 126, 127, 128, 129, 130, 131, 132, 133, 134, 135, 136, 137, 138, 139, 140, 141] (by decide +kernel) (by decide +kernel)) (goodIn_sub (fun _ h => List.mem_cons_of_mem _ (List.mem_append_left _ (List.mem_append_right _ h))) (by decide +kernel))
set_option maxRecDepth 20000 in
theorem gL_print_L_count : GoodIn wsL_print (va_wsS RL 109 yL_count wsL_count) := goodIn_app (goodIn_of _ (by decide +kernel)) ggL_print_L_count
set_option maxRecDepth 20000 in
theorem ggL_print_L_trackOf : GoodIn wsL_print wsL_trackOf := goodIn_ca (goodIn_ca (goodIn_r _ [65, 66, 14, 15, 67, 68, 69, 70, 6, 71, 8, 72, 73, 74, 75, 76, 77, 21, 22, 23, 24, 25, 26, 78, 79, 80, 30, 81, 57, 82, 83, 84, 85, 86, 87, 53, 54, 55, 56, 116, 117, 118, 119, 120, 121, 122, 123, 124, 125, 126, 127, 128, 129, 130, 131, 132, 133, 134, 135, 136, 137, 138, 139, 140, 141] (by decide +kernel) (by decide +kernel)) (goodIn_sub (fun _ h => List.mem_cons_of_mem _ (List.mem_append_right _ h)) (by decide +kernel))) (goodIn_sub (fun _ h => List.mem_cons_of_mem _ (List.mem_append_left _ (List.mem_append_right _ h))) (by decide +kernel))
set_option maxRecDepth 20000 in
theorem gL_print_L_trackOf : GoodIn wsL_print (va_wsS RL 92 yL_trackOf wsL_trackOf) := goodIn_app (goodIn_of _ (by decide +kernel)) ggL_print_L_trackOf
set_option maxRecDepth 20000 in
theorem ggL_print_L_cylinderOf : GoodIn wsL_print wsL_cylinderOf := goodIn_ca (goodIn_ca (goodIn_r _ [90, 66, 14, 15, 67, 91, 92, 93, 6, 94, 8, 95, 96, 97, 98, 76, 77, 21, 22, 23, 24, 25, 26, 99, 100, 101, 30, 102, 62, 103, 49, 50, 51, 52, 53, 54, 55, 56, 57, 104, 105, 106, 107, 108, 109, 110, 111, 112, 113, 114, 115, 82, 116, 117, 118, 119, 120, 121, 122, 123, 124, 125, 126, 127, 128, 129, 130, 131, 132, 133, 134, 135, 136, 137, 138, 139, 140, 141] (by decide +kernel) (by decide +kernel)) (goodIn_sub (fun _ h => List.mem_cons_of_mem _ (List.mem_append_right _ h)) (by decide +kernel))) (goodIn_sub (fun _ h => List.mem_cons_of_mem _ (List.mem_append_left _ (List.mem_append_right _ h))) (by decide +kernel))
set_option maxRecDepth 20000 in
theorem gL_print_L_cylinderOf : GoodIn wsL_print (va_wsS RL 98 yL_cylinderOf wsL_cylinderOf) := goodIn_app (goodIn_of _ (by decide +kernel)) ggL_print_L_cylinderOf
theorem dL_print_0 : decode cL_print 0 = .ok (.aload_n 0, 1) := by decide +kernel
theorem dL_print_1 : decode cL_print 1 = .ok (.invokevirtual 119, 3) := by decide +kernel
theorem dL_print_4 : decode cL_print 4 = .ok (.i2l, 1) := by decide +kernel
theorem dL_print_5 : decode cL_print 5 = .ok (.lstore_n 1, 1) := by decide +kernel
theorem dL_print_6 : decode cL_print 6 = .ok (.iconst 0, 1) := by decide +kernel
theorem dL_print_7 : decode cL_print 7 = .ok (.istore_n 3, 1) := by decide +kernel
theorem dL_print_8 : decode cL_print 8 = .ok (.iload_n 3, 1) := by decide +kernel
theorem dL_print_9 : decode cL_print 9 = .ok (.bipush 12, 2) := by decide +kernel
theorem dL_print_11 : decode cL_print 11 = .ok (.if_icmp .ge 22, 3) := by decide +kernel
theorem dL_print_14 : decode cL_print 14 = .ok (.ldc2_w 122, 3) := by decide +kernel
theorem dL_print_17 : decode cL_print 17 = .ok (.lload_n 1, 1) := by decide +kernel
theorem dL_print_18 : decode cL_print 18 = .ok (.lmul, 1) := by decide +kernel
theorem dL_print_19 : decode cL_print 19 = .ok (.aload_n 0, 1) := by decide +kernel
theorem dL_print_20 : decode cL_print 20 = .ok (.iload_n 3, 1) := by decide +kernel
theorem dL_print_21 : decode cL_print 21 = .ok (.invokestatic 109, 3) := by decide +kernel
theorem dL_print_24 : decode cL_print 24 = .ok (.i2l, 1) := by decide +kernel
theorem dL_print_25 : decode cL_print 25 = .ok (.ladd, 1) := by decide +kernel
theorem dL_print_26 : decode cL_print 26 = .ok (.lstore_n 1, 1) := by decide +kernel
theorem dL_print_27 : decode cL_print 27 = .ok (.iinc 3 1, 3) := by decide +kernel
theorem dL_print_30 : decode cL_print 30 = .ok (.goto (-22), 3) := by decide +kernel
theorem dL_print_33 : decode cL_print 33 = .ok (.iconst 0, 1) := by decide +kernel
theorem dL_print_34 : decode cL_print 34 = .ok (.istore_n 3, 1) := by decide +kernel
theorem dL_print_35 : decode cL_print 35 = .ok (.iload_n 3, 1) := by decide +kernel
theorem dL_print_36 : decode cL_print 36 = .ok (.sipush 168, 3) := by decide +kernel
theorem dL_print_39 : decode cL_print 39 = .ok (.if_icmp .ge 29, 3) := by decide +kernel
theorem dL_print_42 : decode cL_print 42 = .ok (.ldc2_w 122, 3) := by decide +kernel
theorem dL_print_45 : decode cL_print 45 = .ok (.lload_n 1, 1) := by decide +kernel
theorem dL_print_46 : decode cL_print 46 = .ok (.lmul, 1) := by decide +kernel
theorem dL_print_47 : decode cL_print 47 = .ok (.aload_n 0, 1) := by decide +kernel
theorem dL_print_48 : decode cL_print 48 = .ok (.iload_n 3, 1) := by decide +kernel
theorem dL_print_49 : decode cL_print 49 = .ok (.bipush 7, 2) := by decide +kernel
theorem dL_print_51 : decode cL_print 51 = .ok (.idiv, 1) := by decide +kernel
theorem dL_print_52 : decode cL_print 52 = .ok (.iload_n 3, 1) := by decide +kernel
theorem dL_print_53 : decode cL_print 53 = .ok (.bipush 7, 2) := by decide +kernel
theorem dL_print_55 : decode cL_print 55 = .ok (.irem, 1) := by decide +kernel
theorem dL_print_56 : decode cL_print 56 = .ok (.invokestatic 92, 3) := by decide +kernel
theorem dL_print_59 : decode cL_print 59 = .ok (.i2l, 1) := by decide +kernel
theorem dL_print_60 : decode cL_print 60 = .ok (.ladd, 1) := by decide +kernel
theorem dL_print_61 : decode cL_print 61 = .ok (.lstore_n 1, 1) := by decide +kernel
theorem dL_print_62 : decode cL_print 62 = .ok (.iinc 3 1, 3) := by decide +kernel
theorem dL_print_65 : decode cL_print 65 = .ok (.goto (-30), 3) := by decide +kernel
theorem dL_print_68 : decode cL_print 68 = .ok (.iconst 0, 1) := by decide +kernel
theorem dL_print_69 : decode cL_print 69 = .ok (.istore_n 3, 1) := by decide +kernel
theorem dL_print_70 : decode cL_print 70 = .ok (.iload_n 3, 1) := by decide +kernel
theorem dL_print_71 : decode cL_print 71 = .ok (.bipush 6, 2) := by decide +kernel
theorem dL_print_73 : decode cL_print 73 = .ok (.if_icmp .ge 35, 3) := by decide +kernel
theorem dL_print_76 : decode cL_print 76 = .ok (.ldc2_w 122, 3) := by decide +kernel
theorem dL_print_79 : decode cL_print 79 = .ok (.lload_n 1, 1) := by decide +kernel
theorem dL_print_80 : decode cL_print 80 = .ok (.lmul, 1) := by decide +kernel
theorem dL_print_81 : decode cL_print 81 = .ok (.ldc2_w 124, 3) := by decide +kernel
theorem dL_print_84 : decode cL_print 84 = .ok (.aload_n 0, 1) := by decide +kernel
theorem dL_print_85 : decode cL_print 85 = .ok (.iload_n 3, 1) := by decide +kernel
theorem dL_print_86 : decode cL_print 86 = .ok (.iconst 0, 1) := by decide +kernel
theorem dL_print_87 : decode cL_print 87 = .ok (.invokestatic 98, 3) := by decide +kernel
theorem dL_print_90 : decode cL_print 90 = .ok (.i2l, 1) := by decide +kernel
theorem dL_print_91 : decode cL_print 91 = .ok (.lmul, 1) := by decide +kernel
theorem dL_print_92 : decode cL_print 92 = .ok (.ladd, 1) := by decide +kernel
theorem dL_print_93 : decode cL_print 93 = .ok (.aload_n 0, 1) := by decide +kernel
theorem dL_print_94 : decode cL_print 94 = .ok (.iload_n 3, 1) := by decide +kernel
theorem dL_print_95 : decode cL_print 95 = .ok (.iconst 4, 1) := by decide +kernel
theorem dL_print_96 : decode cL_print 96 = .ok (.invokestatic 98, 3) := by decide +kernel
theorem dL_print_99 : decode cL_print 99 = .ok (.i2l, 1) := by decide +kernel
theorem dL_print_100 : decode cL_print 100 = .ok (.ladd, 1) := by decide +kernel
theorem dL_print_101 : decode cL_print 101 = .ok (.lstore_n 1, 1) := by decide +kernel
theorem dL_print_102 : decode cL_print 102 = .ok (.iinc 3 1, 3) := by decide +kernel
theorem dL_print_105 : decode cL_print 105 = .ok (.goto (-35), 3) := by decide +kernel
theorem dL_print_108 : decode cL_print 108 = .ok (.lload_n 1, 1) := by decide +kernel
theorem dL_print_109 : decode cL_print 109 = .ok (.lreturn, 1) := by decide +kernel
end
section
set_option maxRecDepth 20000 in
theorem ggL_hangs_L_track : GoodIn wsL_hangs wsL_track := goodIn_ca (goodIn_ca (goodIn_r _ [4, 5, 6, 3, 7, 8, 9, 10, 11, 12, 13, 14, 15, 16, 17, 18, 19, 20, 21, 22, 23, 24, 25, 26, 27, 28, 29, 30, 31, 32, 33, 34, 35, 36, 37, 38, 39, 40, 41, 42, 43, 44, 45, 46, 47, 48, 49, 50, 51, 52, 53, 54, 55, 56, 57, 58, 59, 60, 61, 62, 63, 64, 65, 66, 67, 68, 69, 70, 71, 72, 73, 74, 75, 76, 77, 78, 79, 80, 81, 82, 83, 84, 85, 86, 87, 88, 89, 90, 91, 92, 93, 94, 95, 96, 97, 98, 99, 100, 101, 102, 103, 104, 105, 106, 107, 108, 109, 110, 111, 112, 113, 114, 115, 116, 117, 118, 119, 120, 121, 122, 123, 124, 125, 126, 127, 128, 129, 130, 131, 132, 133, 134, 135, 136, 137, 138, 139, 140, 141, 142, 143, 144, 221, 222, 223, 224, 225, 226, 227, 228, 229, 230, 231, 232, 233, 234, 235, 236, 237, 238, 239, 240, 241, 242, 243, 244, 245, 246, 247, 248] (by decide +kernel) (by decide +kernel)) (goodIn_sub (fun _ h => List.mem_cons_of_mem _ (List.mem_append_left _ (List.mem_append_right _ h))) (by decide +kernel))) (goodIn_sub (fun _ h => List.mem_cons_of_mem _ (List.mem_append_right _ h)) (by decide +kernel))
set_option maxRecDepth 20000 in
theorem gL_hangs_L_track : GoodIn wsL_hangs (va_wsS RL 100 yL_track wsL_track) := goodIn_app (goodIn_of _ (by decide +kernel)) ggL_hangs_L_track
set_option maxRecDepth 20000 in
theorem ggL_hangs_L_trackOf : GoodIn wsL_hangs wsL_trackOf := goodIn_ca (goodIn_ca (goodIn_r _ [7, 8, 9, 10, 11, 12, 13, 14, 15, 16, 17, 18, 19, 20, 21, 22, 23, 24, 25, 26, 27, 28, 29, 30, 31, 32, 33, 34, 35, 36, 37, 38, 39, 40, 41, 42, 43, 44, 45, 221, 222, 223, 224, 225, 226, 227, 228, 229, 230, 231, 232, 233, 234, 235, 236, 237, 238, 239, 240, 241, 242, 243, 244, 245, 246] (by decide +kernel) (by decide +kernel)) (goodIn_sub (fun _ h => List.mem_cons_of_mem _ (List.mem_append_left _ (List.mem_append_right _ h))) (by decide +kernel))) (goodIn_sub (fun _ h => List.mem_cons_of_mem _ (List.mem_append_right _ h)) (by decide +kernel))
set_option maxRecDepth 20000 in
theorem gL_hangs_L_trackOf : GoodIn wsL_hangs (va_wsS RL 92 yL_trackOf wsL_trackOf) := goodIn_app (goodIn_of _ (by decide +kernel)) ggL_hangs_L_trackOf
set_option maxRecDepth 20000 in
theorem ggL_hangs_L_daughters : GoodIn wsL_hangs wsL_daughters := goodIn_ca (goodIn_r _ [147, 8, 10, 148, 149, 150, 15, 151, 17, 18, 19, 20, 21, 22, 23, 152, 153, 154, 33, 155, 156, 157, 158, 159, 39, 221, 222, 223, 224, 225, 226, 227, 228, 229, 230, 231, 232, 233, 234, 235, 236, 237, 238, 239, 240, 241, 242, 243, 244, 245, 246] (by decide +kernel) (by decide +kernel)) (goodIn_sub (fun _ h => List.mem_cons_of_mem _ (List.mem_append_left _ (List.mem_append_right _ h))) (by decide +kernel))
set_option maxRecDepth 20000 in
theorem gL_hangs_L_daughters : GoodIn wsL_hangs (va_wsS RL 104 yL_daughters wsL_daughters) := goodIn_app (goodIn_of _ (by decide +kernel)) ggL_hangs_L_daughters
set_option maxRecDepth 20000 in
theorem ggL_hangs_L_cylinderOf : GoodIn wsL_hangs wsL_cylinderOf := goodIn_ca (goodIn_ca (goodIn_r _ [118, 8, 9, 10, 11, 119, 120, 121, 15, 122, 17, 123, 124, 125, 126, 22, 23, 24, 25, 26, 27, 28, 29, 127, 128, 129, 33, 130, 114, 131, 132, 133, 134, 135, 42, 43, 44, 45, 35, 136, 137, 138, 139, 140, 71, 72, 73, 141, 142, 143, 144, 36, 221, 222, 223, 224, 225, 226, 227, 228, 229, 230, 231, 232, 233, 234, 235, 236, 237, 238, 239, 240, 241, 242, 243, 244, 245, 246] (by decide +kernel) (by decide +kernel)) (goodIn_sub (fun _ h => List.mem_cons_of_mem _ (List.mem_append_left _ (List.mem_append_right _ h))) (by decide +kernel))) (goodIn_sub (fun _ h => List.mem_cons_of_mem _ (List.mem_append_right _ h)) (by decide +kernel))
set_option maxRecDepth 20000 in
theorem gL_hangs_L_cylinderOf : GoodIn wsL_hangs (va_wsS RL 98 yL_cylinderOf wsL_cylinderOf) := goodIn_app (goodIn_of _ (by decide +kernel)) ggL_hangs_L_cylinderOf
set_option maxRecDepth 20000 in
theorem ggL_hangs_X3_clearest : GoodIn wsL_hangs wsX3_clearest := goodIn_r _ [163, 17, 164, 165, 166, 33, 167, 42, 43, 44, 45, 35, 168, 169, 170, 171, 36, 37, 221, 222, 223, 224, 225, 226, 227, 228, 229, 230, 231, 232, 233, 234, 235, 236, 237, 238, 239, 240, 241, 242, 243, 244, 245, 246] (by decide +kernel) (by decide +kernel)
set_option maxRecDepth 20000 in
theorem gL_hangs_X3_clearest : GoodIn wsL_hangs (wsV RL 106 RX3 yX3_clearest wsX3_clearest) := goodIn_app (goodIn_of _ (by decide +kernel)) ggL_hangs_X3_clearest
set_option maxRecDepth 20000 in
theorem ggL_hangs_L_count : GoodIn wsL_hangs wsL_count := goodIn_ca (goodIn_r _ [174, 9, 10, 175, 176, 177, 15, 178, 179, 17, 24, 25, 26, 27, 28, 29, 180, 181, 182, 33, 183, 184, 115, 185, 186, 187, 188, 189, 190, 191, 192, 193, 194, 195, 196, 197, 198, 199, 132, 133, 134, 135, 42, 43, 44, 45, 35, 200, 201, 202, 203, 114, 221, 222, 223, 224, 225, 226, 227, 228, 229, 230, 231, 232, 233, 234, 235, 236, 237, 238, 239, 240, 241, 242, 243, 244, 245, 246] (by decide +kernel) (by decide +kernel)) (goodIn_sub (fun _ h => List.mem_cons_of_mem _ (List.mem_append_right _ h)) (by decide +kernel))
set_option maxRecDepth 20000 in
theorem gL_hangs_L_count : GoodIn wsL_hangs (va_wsS RL 109 yL_count wsL_count) := goodIn_app (goodIn_of _ (by decide +kernel)) ggL_hangs_L_count
set_option maxRecDepth 20000 in
theorem ggL_hangs_X3_meanDepth : GoodIn wsL_hangs wsX3_meanDepth := goodIn_r _ [207, 17, 208, 197, 198, 33, 199, 132, 133, 134, 135, 42, 43, 44, 45, 35, 209, 210, 211, 212, 221, 222, 223, 224, 225, 226, 227, 228, 229, 230, 231, 232, 233, 234, 235, 236, 237, 238, 239, 240, 241, 242, 243, 244, 245, 246] (by decide +kernel) (by decide +kernel)
set_option maxRecDepth 20000 in
theorem gL_hangs_X3_meanDepth : GoodIn wsL_hangs (wsV RL 111 RX3 yX3_meanDepth wsX3_meanDepth) := goodIn_app (goodIn_of _ (by decide +kernel)) ggL_hangs_X3_meanDepth
set_option maxRecDepth 20000 in
theorem ggL_hangs_X3_clearShare : GoodIn wsL_hangs wsX3_clearShare := goodIn_r _ [216, 17, 208, 197, 198, 33, 199, 132, 133, 134, 135, 42, 43, 44, 45, 35, 217, 218, 219, 220, 36, 221, 222, 223, 224, 225, 226, 227, 228, 229, 230, 231, 232, 233, 234, 235, 236, 237, 238, 239, 240, 241, 242, 243, 244, 245, 246] (by decide +kernel) (by decide +kernel)
set_option maxRecDepth 20000 in
theorem gL_hangs_X3_clearShare : GoodIn wsL_hangs (wsV RL 115 RX3 yX3_clearShare wsX3_clearShare) := goodIn_app (goodIn_of _ (by decide +kernel)) ggL_hangs_X3_clearShare
theorem dL_hangs_0 : decode cL_hangs 0 = .ok (.iconst 0, 1) := by decide +kernel
theorem dL_hangs_1 : decode cL_hangs 1 = .ok (.istore_n 1, 1) := by decide +kernel
theorem dL_hangs_2 : decode cL_hangs 2 = .ok (.iconst 0, 1) := by decide +kernel
theorem dL_hangs_3 : decode cL_hangs 3 = .ok (.istore_n 2, 1) := by decide +kernel
theorem dL_hangs_4 : decode cL_hangs 4 = .ok (.iconst 0, 1) := by decide +kernel
theorem dL_hangs_5 : decode cL_hangs 5 = .ok (.istore_n 3, 1) := by decide +kernel
theorem dL_hangs_6 : decode cL_hangs 6 = .ok (.iconst 0, 1) := by decide +kernel
theorem dL_hangs_7 : decode cL_hangs 7 = .ok (.istore 4, 2) := by decide +kernel
theorem dL_hangs_9 : decode cL_hangs 9 = .ok (.iconst 0, 1) := by decide +kernel
theorem dL_hangs_10 : decode cL_hangs 10 = .ok (.istore 5, 2) := by decide +kernel
theorem dL_hangs_12 : decode cL_hangs 12 = .ok (.iconst (-1), 1) := by decide +kernel
theorem dL_hangs_13 : decode cL_hangs 13 = .ok (.istore 6, 2) := by decide +kernel
theorem dL_hangs_15 : decode cL_hangs 15 = .ok (.iconst 0, 1) := by decide +kernel
theorem dL_hangs_16 : decode cL_hangs 16 = .ok (.istore 7, 2) := by decide +kernel
theorem dL_hangs_18 : decode cL_hangs 18 = .ok (.iload 7, 2) := by decide +kernel
theorem dL_hangs_20 : decode cL_hangs 20 = .ok (.bipush 24, 2) := by decide +kernel
theorem dL_hangs_22 : decode cL_hangs 22 = .ok (.if_icmp .ge 198, 3) := by decide +kernel
theorem dL_hangs_25 : decode cL_hangs 25 = .ok (.aload_n 0, 1) := by decide +kernel
theorem dL_hangs_26 : decode cL_hangs 26 = .ok (.iload 7, 2) := by decide +kernel
theorem dL_hangs_28 : decode cL_hangs 28 = .ok (.invokestatic 100, 3) := by decide +kernel
theorem dL_hangs_31 : decode cL_hangs 31 = .ok (.ifCond .ne 5, 3) := by decide +kernel
theorem dL_hangs_34 : decode cL_hangs 34 = .ok (.iconst 0, 1) := by decide +kernel
theorem dL_hangs_35 : decode cL_hangs 35 = .ok (.ireturn, 1) := by decide +kernel
theorem dL_hangs_36 : decode cL_hangs 36 = .ok (.aload_n 0, 1) := by decide +kernel
theorem dL_hangs_37 : decode cL_hangs 37 = .ok (.iload 7, 2) := by decide +kernel
theorem dL_hangs_39 : decode cL_hangs 39 = .ok (.iconst 0, 1) := by decide +kernel
theorem dL_hangs_40 : decode cL_hangs 40 = .ok (.invokestatic 92, 3) := by decide +kernel
theorem dL_hangs_43 : decode cL_hangs 43 = .ok (.ifCond .le 7, 3) := by decide +kernel
theorem dL_hangs_46 : decode cL_hangs 46 = .ok (.iconst 1, 1) := by decide +kernel
theorem dL_hangs_47 : decode cL_hangs 47 = .ok (.goto 4, 3) := by decide +kernel
theorem dL_hangs_50 : decode cL_hangs 50 = .ok (.iconst 0, 1) := by decide +kernel
theorem dL_hangs_51 : decode cL_hangs 51 = .ok (.istore 8, 2) := by decide +kernel
theorem dL_hangs_53 : decode cL_hangs 53 = .ok (.iload_n 1, 1) := by decide +kernel
theorem dL_hangs_54 : decode cL_hangs 54 = .ok (.iload 8, 2) := by decide +kernel
theorem dL_hangs_56 : decode cL_hangs 56 = .ok (.ifCond .eq 7, 3) := by decide +kernel
theorem dL_hangs_59 : decode cL_hangs 59 = .ok (.iconst 1, 1) := by decide +kernel
theorem dL_hangs_60 : decode cL_hangs 60 = .ok (.goto 4, 3) := by decide +kernel
theorem dL_hangs_63 : decode cL_hangs 63 = .ok (.iconst 0, 1) := by decide +kernel
theorem dL_hangs_64 : decode cL_hangs 64 = .ok (.iadd, 1) := by decide +kernel
theorem dL_hangs_65 : decode cL_hangs 65 = .ok (.istore_n 1, 1) := by decide +kernel
theorem dL_hangs_66 : decode cL_hangs 66 = .ok (.iload_n 3, 1) := by decide +kernel
theorem dL_hangs_67 : decode cL_hangs 67 = .ok (.aload_n 0, 1) := by decide +kernel
theorem dL_hangs_68 : decode cL_hangs 68 = .ok (.iload 7, 2) := by decide +kernel
theorem dL_hangs_70 : decode cL_hangs 70 = .ok (.iconst 0, 1) := by decide +kernel
theorem dL_hangs_71 : decode cL_hangs 71 = .ok (.invokestatic 92, 3) := by decide +kernel
theorem dL_hangs_74 : decode cL_hangs 74 = .ok (.iadd, 1) := by decide +kernel
theorem dL_hangs_75 : decode cL_hangs 75 = .ok (.istore_n 3, 1) := by decide +kernel
theorem dL_hangs_76 : decode cL_hangs 76 = .ok (.iload 4, 2) := by decide +kernel
theorem dL_hangs_78 : decode cL_hangs 78 = .ok (.iload 8, 2) := by decide +kernel
theorem dL_hangs_80 : decode cL_hangs 80 = .ok (.ifCond .eq 13, 3) := by decide +kernel
theorem dL_hangs_83 : decode cL_hangs 83 = .ok (.aload_n 0, 1) := by decide +kernel
theorem dL_hangs_84 : decode cL_hangs 84 = .ok (.iload 7, 2) := by decide +kernel
theorem dL_hangs_86 : decode cL_hangs 86 = .ok (.iconst 1, 1) := by decide +kernel
theorem dL_hangs_87 : decode cL_hangs 87 = .ok (.invokestatic 92, 3) := by decide +kernel
theorem dL_hangs_90 : decode cL_hangs 90 = .ok (.goto 4, 3) := by decide +kernel
theorem dL_hangs_93 : decode cL_hangs 93 = .ok (.iconst 0, 1) := by decide +kernel
theorem dL_hangs_94 : decode cL_hangs 94 = .ok (.iadd, 1) := by decide +kernel
theorem dL_hangs_95 : decode cL_hangs 95 = .ok (.istore 4, 2) := by decide +kernel
theorem dL_hangs_97 : decode cL_hangs 97 = .ok (.iload 8, 2) := by decide +kernel
theorem dL_hangs_99 : decode cL_hangs 99 = .ok (.ifCond .eq 25, 3) := by decide +kernel
theorem dL_hangs_102 : decode cL_hangs 102 = .ok (.aload_n 0, 1) := by decide +kernel
theorem dL_hangs_103 : decode cL_hangs 103 = .ok (.iload 7, 2) := by decide +kernel
theorem dL_hangs_105 : decode cL_hangs 105 = .ok (.iconst 1, 1) := by decide +kernel
theorem dL_hangs_106 : decode cL_hangs 106 = .ok (.invokestatic 92, 3) := by decide +kernel
theorem dL_hangs_109 : decode cL_hangs 109 = .ok (.iload 6, 2) := by decide +kernel
theorem dL_hangs_111 : decode cL_hangs 111 = .ok (.if_icmp .le 13, 3) := by decide +kernel
theorem dL_hangs_114 : decode cL_hangs 114 = .ok (.aload_n 0, 1) := by decide +kernel
theorem dL_hangs_115 : decode cL_hangs 115 = .ok (.iload 7, 2) := by decide +kernel
theorem dL_hangs_117 : decode cL_hangs 117 = .ok (.iconst 1, 1) := by decide +kernel
theorem dL_hangs_118 : decode cL_hangs 118 = .ok (.invokestatic 92, 3) := by decide +kernel
theorem dL_hangs_121 : decode cL_hangs 121 = .ok (.goto 5, 3) := by decide +kernel
theorem dL_hangs_124 : decode cL_hangs 124 = .ok (.iload 6, 2) := by decide +kernel
theorem dL_hangs_126 : decode cL_hangs 126 = .ok (.istore 6, 2) := by decide +kernel
theorem dL_hangs_128 : decode cL_hangs 128 = .ok (.iconst 0, 1) := by decide +kernel
theorem dL_hangs_129 : decode cL_hangs 129 = .ok (.istore 9, 2) := by decide +kernel
theorem dL_hangs_131 : decode cL_hangs 131 = .ok (.iconst 0, 1) := by decide +kernel
theorem dL_hangs_132 : decode cL_hangs 132 = .ok (.istore 10, 2) := by decide +kernel
theorem dL_hangs_134 : decode cL_hangs 134 = .ok (.iload 10, 2) := by decide +kernel
theorem dL_hangs_136 : decode cL_hangs 136 = .ok (.bipush 24, 2) := by decide +kernel
theorem dL_hangs_138 : decode cL_hangs 138 = .ok (.if_icmp .ge 38, 3) := by decide +kernel
theorem dL_hangs_141 : decode cL_hangs 141 = .ok (.iload 9, 2) := by decide +kernel
theorem dL_hangs_143 : decode cL_hangs 143 = .ok (.iload 10, 2) := by decide +kernel
theorem dL_hangs_145 : decode cL_hangs 145 = .ok (.iload 7, 2) := by decide +kernel
theorem dL_hangs_147 : decode cL_hangs 147 = .ok (.if_icmp .eq 19, 3) := by decide +kernel
theorem dL_hangs_150 : decode cL_hangs 150 = .ok (.aload_n 0, 1) := by decide +kernel
theorem dL_hangs_151 : decode cL_hangs 151 = .ok (.iload 10, 2) := by decide +kernel
theorem dL_hangs_153 : decode cL_hangs 153 = .ok (.iconst 4, 1) := by decide +kernel
theorem dL_hangs_154 : decode cL_hangs 154 = .ok (.invokestatic 92, 3) := by decide +kernel
theorem dL_hangs_157 : decode cL_hangs 157 = .ok (.iload 7, 2) := by decide +kernel
theorem dL_hangs_159 : decode cL_hangs 159 = .ok (.if_icmp .ne 7, 3) := by decide +kernel
theorem dL_hangs_162 : decode cL_hangs 162 = .ok (.iconst 1, 1) := by decide +kernel
theorem dL_hangs_163 : decode cL_hangs 163 = .ok (.goto 4, 3) := by decide +kernel
theorem dL_hangs_166 : decode cL_hangs 166 = .ok (.iconst 0, 1) := by decide +kernel
theorem dL_hangs_167 : decode cL_hangs 167 = .ok (.iadd, 1) := by decide +kernel
theorem dL_hangs_168 : decode cL_hangs 168 = .ok (.istore 9, 2) := by decide +kernel
theorem dL_hangs_170 : decode cL_hangs 170 = .ok (.iinc 10 1, 3) := by decide +kernel
theorem dL_hangs_173 : decode cL_hangs 173 = .ok (.goto (-39), 3) := by decide +kernel
theorem dL_hangs_176 : decode cL_hangs 176 = .ok (.aload_n 0, 1) := by decide +kernel
theorem dL_hangs_177 : decode cL_hangs 177 = .ok (.iload 7, 2) := by decide +kernel
theorem dL_hangs_179 : decode cL_hangs 179 = .ok (.invokestatic 104, 3) := by decide +kernel
theorem dL_hangs_182 : decode cL_hangs 182 = .ok (.iload 9, 2) := by decide +kernel
theorem dL_hangs_184 : decode cL_hangs 184 = .ok (.if_icmp .lt 28, 3) := by decide +kernel
theorem dL_hangs_187 : decode cL_hangs 187 = .ok (.iload 9, 2) := by decide +kernel
theorem dL_hangs_189 : decode cL_hangs 189 = .ok (.ifCond .ne 12, 3) := by decide +kernel
theorem dL_hangs_192 : decode cL_hangs 192 = .ok (.aload_n 0, 1) := by decide +kernel
theorem dL_hangs_193 : decode cL_hangs 193 = .ok (.iload 7, 2) := by decide +kernel
theorem dL_hangs_195 : decode cL_hangs 195 = .ok (.invokestatic 104, 3) := by decide +kernel
theorem dL_hangs_198 : decode cL_hangs 198 = .ok (.ifCond .ne 14, 3) := by decide +kernel
theorem dL_hangs_201 : decode cL_hangs 201 = .ok (.aload_n 0, 1) := by decide +kernel
theorem dL_hangs_202 : decode cL_hangs 202 = .ok (.iload 7, 2) := by decide +kernel
theorem dL_hangs_204 : decode cL_hangs 204 = .ok (.invokestatic 104, 3) := by decide +kernel
theorem dL_hangs_207 : decode cL_hangs 207 = .ok (.bipush 23, 2) := by decide +kernel
theorem dL_hangs_209 : decode cL_hangs 209 = .ok (.if_icmp .le 5, 3) := by decide +kernel
theorem dL_hangs_212 : decode cL_hangs 212 = .ok (.iconst 0, 1) := by decide +kernel
theorem dL_hangs_213 : decode cL_hangs 213 = .ok (.ireturn, 1) := by decide +kernel
theorem dL_hangs_214 : decode cL_hangs 214 = .ok (.iinc 7 1, 3) := by decide +kernel
theorem dL_hangs_217 : decode cL_hangs 217 = .ok (.goto (-199), 3) := by decide +kernel
theorem dL_hangs_220 : decode cL_hangs 220 = .ok (.iconst 0, 1) := by decide +kernel
theorem dL_hangs_221 : decode cL_hangs 221 = .ok (.istore 7, 2) := by decide +kernel
theorem dL_hangs_223 : decode cL_hangs 223 = .ok (.iload 7, 2) := by decide +kernel
theorem dL_hangs_225 : decode cL_hangs 225 = .ok (.bipush 6, 2) := by decide +kernel
theorem dL_hangs_227 : decode cL_hangs 227 = .ok (.if_icmp .ge 189, 3) := by decide +kernel
theorem dL_hangs_230 : decode cL_hangs 230 = .ok (.iconst 0, 1) := by decide +kernel
theorem dL_hangs_231 : decode cL_hangs 231 = .ok (.istore 8, 2) := by decide +kernel
theorem dL_hangs_233 : decode cL_hangs 233 = .ok (.iconst 0, 1) := by decide +kernel
theorem dL_hangs_234 : decode cL_hangs 234 = .ok (.istore 9, 2) := by decide +kernel
theorem dL_hangs_236 : decode cL_hangs 236 = .ok (.iconst 4, 1) := by decide +kernel
theorem dL_hangs_237 : decode cL_hangs 237 = .ok (.iload 7, 2) := by decide +kernel
theorem dL_hangs_239 : decode cL_hangs 239 = .ok (.imul, 1) := by decide +kernel
theorem dL_hangs_240 : decode cL_hangs 240 = .ok (.istore 10, 2) := by decide +kernel
theorem dL_hangs_242 : decode cL_hangs 242 = .ok (.iload 10, 2) := by decide +kernel
theorem dL_hangs_244 : decode cL_hangs 244 = .ok (.iconst 4, 1) := by decide +kernel
theorem dL_hangs_245 : decode cL_hangs 245 = .ok (.iload 7, 2) := by decide +kernel
theorem dL_hangs_247 : decode cL_hangs 247 = .ok (.imul, 1) := by decide +kernel
theorem dL_hangs_248 : decode cL_hangs 248 = .ok (.iconst 4, 1) := by decide +kernel
theorem dL_hangs_249 : decode cL_hangs 249 = .ok (.iadd, 1) := by decide +kernel
theorem dL_hangs_250 : decode cL_hangs 250 = .ok (.if_icmp .ge 55, 3) := by decide +kernel
theorem dL_hangs_253 : decode cL_hangs 253 = .ok (.iload 8, 2) := by decide +kernel
theorem dL_hangs_255 : decode cL_hangs 255 = .ok (.aload_n 0, 1) := by decide +kernel
theorem dL_hangs_256 : decode cL_hangs 256 = .ok (.iload 10, 2) := by decide +kernel
theorem dL_hangs_258 : decode cL_hangs 258 = .ok (.iconst 0, 1) := by decide +kernel
theorem dL_hangs_259 : decode cL_hangs 259 = .ok (.invokestatic 92, 3) := by decide +kernel
theorem dL_hangs_262 : decode cL_hangs 262 = .ok (.ifCond .le 7, 3) := by decide +kernel
theorem dL_hangs_265 : decode cL_hangs 265 = .ok (.iconst 1, 1) := by decide +kernel
theorem dL_hangs_266 : decode cL_hangs 266 = .ok (.goto 4, 3) := by decide +kernel
theorem dL_hangs_269 : decode cL_hangs 269 = .ok (.iconst 0, 1) := by decide +kernel
theorem dL_hangs_270 : decode cL_hangs 270 = .ok (.iadd, 1) := by decide +kernel
theorem dL_hangs_271 : decode cL_hangs 271 = .ok (.istore 8, 2) := by decide +kernel
theorem dL_hangs_273 : decode cL_hangs 273 = .ok (.aload_n 0, 1) := by decide +kernel
theorem dL_hangs_274 : decode cL_hangs 274 = .ok (.iload 10, 2) := by decide +kernel
theorem dL_hangs_276 : decode cL_hangs 276 = .ok (.iconst 0, 1) := by decide +kernel
theorem dL_hangs_277 : decode cL_hangs 277 = .ok (.invokestatic 92, 3) := by decide +kernel
theorem dL_hangs_280 : decode cL_hangs 280 = .ok (.iload 9, 2) := by decide +kernel
theorem dL_hangs_282 : decode cL_hangs 282 = .ok (.if_icmp .le 13, 3) := by decide +kernel
theorem dL_hangs_285 : decode cL_hangs 285 = .ok (.aload_n 0, 1) := by decide +kernel
theorem dL_hangs_286 : decode cL_hangs 286 = .ok (.iload 10, 2) := by decide +kernel
theorem dL_hangs_288 : decode cL_hangs 288 = .ok (.iconst 0, 1) := by decide +kernel
theorem dL_hangs_289 : decode cL_hangs 289 = .ok (.invokestatic 92, 3) := by decide +kernel
theorem dL_hangs_292 : decode cL_hangs 292 = .ok (.goto 5, 3) := by decide +kernel
theorem dL_hangs_295 : decode cL_hangs 295 = .ok (.iload 9, 2) := by decide +kernel
theorem dL_hangs_297 : decode cL_hangs 297 = .ok (.istore 9, 2) := by decide +kernel
theorem dL_hangs_299 : decode cL_hangs 299 = .ok (.iinc 10 1, 3) := by decide +kernel
theorem dL_hangs_302 : decode cL_hangs 302 = .ok (.goto (-60), 3) := by decide +kernel
theorem dL_hangs_305 : decode cL_hangs 305 = .ok (.aload_n 0, 1) := by decide +kernel
theorem dL_hangs_306 : decode cL_hangs 306 = .ok (.iload 7, 2) := by decide +kernel
theorem dL_hangs_308 : decode cL_hangs 308 = .ok (.iconst 3, 1) := by decide +kernel
theorem dL_hangs_309 : decode cL_hangs 309 = .ok (.invokestatic 98, 3) := by decide +kernel
theorem dL_hangs_312 : decode cL_hangs 312 = .ok (.istore 10, 2) := by decide +kernel
theorem dL_hangs_314 : decode cL_hangs 314 = .ok (.iload_n 2, 1) := by decide +kernel
theorem dL_hangs_315 : decode cL_hangs 315 = .ok (.aload_n 0, 1) := by decide +kernel
theorem dL_hangs_316 : decode cL_hangs 316 = .ok (.iload 7, 2) := by decide +kernel
theorem dL_hangs_318 : decode cL_hangs 318 = .ok (.iconst 0, 1) := by decide +kernel
theorem dL_hangs_319 : decode cL_hangs 319 = .ok (.invokestatic 98, 3) := by decide +kernel
theorem dL_hangs_322 : decode cL_hangs 322 = .ok (.iadd, 1) := by decide +kernel
theorem dL_hangs_323 : decode cL_hangs 323 = .ok (.istore_n 2, 1) := by decide +kernel
theorem dL_hangs_324 : decode cL_hangs 324 = .ok (.aload_n 0, 1) := by decide +kernel
theorem dL_hangs_325 : decode cL_hangs 325 = .ok (.iload 7, 2) := by decide +kernel
theorem dL_hangs_327 : decode cL_hangs 327 = .ok (.iconst 1, 1) := by decide +kernel
theorem dL_hangs_328 : decode cL_hangs 328 = .ok (.invokestatic 98, 3) := by decide +kernel
theorem dL_hangs_331 : decode cL_hangs 331 = .ok (.iload 8, 2) := by decide +kernel
theorem dL_hangs_333 : decode cL_hangs 333 = .ok (.if_icmp .ne 75, 3) := by decide +kernel
theorem dL_hangs_336 : decode cL_hangs 336 = .ok (.aload_n 0, 1) := by decide +kernel
theorem dL_hangs_337 : decode cL_hangs 337 = .ok (.iload 7, 2) := by decide +kernel
theorem dL_hangs_339 : decode cL_hangs 339 = .ok (.iconst 2, 1) := by decide +kernel
theorem dL_hangs_340 : decode cL_hangs 340 = .ok (.invokestatic 98, 3) := by decide +kernel
theorem dL_hangs_343 : decode cL_hangs 343 = .ok (.iload 9, 2) := by decide +kernel
theorem dL_hangs_345 : decode cL_hangs 345 = .ok (.if_icmp .ne 63, 3) := by decide +kernel
theorem dL_hangs_348 : decode cL_hangs 348 = .ok (.iload 10, 2) := by decide +kernel
theorem dL_hangs_350 : decode cL_hangs 350 = .ok (.iconst (-1), 1) := by decide +kernel
theorem dL_hangs_351 : decode cL_hangs 351 = .ok (.if_icmp .ne 7, 3) := by decide +kernel
theorem dL_hangs_354 : decode cL_hangs 354 = .ok (.iconst 1, 1) := by decide +kernel
theorem dL_hangs_355 : decode cL_hangs 355 = .ok (.goto 4, 3) := by decide +kernel
theorem dL_hangs_358 : decode cL_hangs 358 = .ok (.iconst 0, 1) := by decide +kernel
theorem dL_hangs_359 : decode cL_hangs 359 = .ok (.iload 8, 2) := by decide +kernel
theorem dL_hangs_361 : decode cL_hangs 361 = .ok (.ifCond .ne 7, 3) := by decide +kernel
theorem dL_hangs_364 : decode cL_hangs 364 = .ok (.iconst 1, 1) := by decide +kernel
theorem dL_hangs_365 : decode cL_hangs 365 = .ok (.goto 4, 3) := by decide +kernel
theorem dL_hangs_368 : decode cL_hangs 368 = .ok (.iconst 0, 1) := by decide +kernel
theorem dL_hangs_369 : decode cL_hangs 369 = .ok (.if_icmp .ne 39, 3) := by decide +kernel
theorem dL_hangs_372 : decode cL_hangs 372 = .ok (.iload 10, 2) := by decide +kernel
theorem dL_hangs_374 : decode cL_hangs 374 = .ok (.ifCond .lt 22, 3) := by decide +kernel
theorem dL_hangs_377 : decode cL_hangs 377 = .ok (.iload 10, 2) := by decide +kernel
theorem dL_hangs_379 : decode cL_hangs 379 = .ok (.iconst 4, 1) := by decide +kernel
theorem dL_hangs_380 : decode cL_hangs 380 = .ok (.idiv, 1) := by decide +kernel
theorem dL_hangs_381 : decode cL_hangs 381 = .ok (.iload 7, 2) := by decide +kernel
theorem dL_hangs_383 : decode cL_hangs 383 = .ok (.if_icmp .ne 25, 3) := by decide +kernel
theorem dL_hangs_386 : decode cL_hangs 386 = .ok (.aload_n 0, 1) := by decide +kernel
theorem dL_hangs_387 : decode cL_hangs 387 = .ok (.iload 10, 2) := by decide +kernel
theorem dL_hangs_389 : decode cL_hangs 389 = .ok (.iconst 0, 1) := by decide +kernel
theorem dL_hangs_390 : decode cL_hangs 390 = .ok (.invokestatic 92, 3) := by decide +kernel
theorem dL_hangs_393 : decode cL_hangs 393 = .ok (.ifCond .eq 15, 3) := by decide +kernel
theorem dL_hangs_396 : decode cL_hangs 396 = .ok (.iload 9, 2) := by decide +kernel
theorem dL_hangs_398 : decode cL_hangs 398 = .ok (.aload_n 0, 1) := by decide +kernel
theorem dL_hangs_399 : decode cL_hangs 399 = .ok (.iload 7, 2) := by decide +kernel
theorem dL_hangs_401 : decode cL_hangs 401 = .ok (.iconst 0, 1) := by decide +kernel
theorem dL_hangs_402 : decode cL_hangs 402 = .ok (.invokestatic 98, 3) := by decide +kernel
theorem dL_hangs_405 : decode cL_hangs 405 = .ok (.if_icmp .le 5, 3) := by decide +kernel
theorem dL_hangs_408 : decode cL_hangs 408 = .ok (.iconst 0, 1) := by decide +kernel
theorem dL_hangs_409 : decode cL_hangs 409 = .ok (.ireturn, 1) := by decide +kernel
theorem dL_hangs_410 : decode cL_hangs 410 = .ok (.iinc 7 1, 3) := by decide +kernel
theorem dL_hangs_413 : decode cL_hangs 413 = .ok (.goto (-190), 3) := by decide +kernel
theorem dL_hangs_416 : decode cL_hangs 416 = .ok (.aload_n 0, 1) := by decide +kernel
theorem dL_hangs_417 : decode cL_hangs 417 = .ok (.invokevirtual 106, 3) := by decide +kernel
theorem dL_hangs_420 : decode cL_hangs 420 = .ok (.istore 7, 2) := by decide +kernel
theorem dL_hangs_422 : decode cL_hangs 422 = .ok (.aload_n 0, 1) := by decide +kernel
theorem dL_hangs_423 : decode cL_hangs 423 = .ok (.iconst 3, 1) := by decide +kernel
theorem dL_hangs_424 : decode cL_hangs 424 = .ok (.invokestatic 109, 3) := by decide +kernel
theorem dL_hangs_427 : decode cL_hangs 427 = .ok (.iload_n 1, 1) := by decide +kernel
theorem dL_hangs_428 : decode cL_hangs 428 = .ok (.if_icmp .ne 101, 3) := by decide +kernel
theorem dL_hangs_431 : decode cL_hangs 431 = .ok (.aload_n 0, 1) := by decide +kernel
theorem dL_hangs_432 : decode cL_hangs 432 = .ok (.bipush 7, 2) := by decide +kernel
theorem dL_hangs_434 : decode cL_hangs 434 = .ok (.invokestatic 109, 3) := by decide +kernel
theorem dL_hangs_437 : decode cL_hangs 437 = .ok (.iload_n 2, 1) := by decide +kernel
theorem dL_hangs_438 : decode cL_hangs 438 = .ok (.if_icmp .ne 91, 3) := by decide +kernel
theorem dL_hangs_441 : decode cL_hangs 441 = .ok (.aload_n 0, 1) := by decide +kernel
theorem dL_hangs_442 : decode cL_hangs 442 = .ok (.bipush 7, 2) := by decide +kernel
theorem dL_hangs_444 : decode cL_hangs 444 = .ok (.invokestatic 109, 3) := by decide +kernel
theorem dL_hangs_447 : decode cL_hangs 447 = .ok (.aload_n 0, 1) := by decide +kernel
theorem dL_hangs_448 : decode cL_hangs 448 = .ok (.bipush 8, 2) := by decide +kernel
theorem dL_hangs_450 : decode cL_hangs 450 = .ok (.invokestatic 109, 3) := by decide +kernel
theorem dL_hangs_453 : decode cL_hangs 453 = .ok (.iadd, 1) := by decide +kernel
theorem dL_hangs_454 : decode cL_hangs 454 = .ok (.aload_n 0, 1) := by decide +kernel
theorem dL_hangs_455 : decode cL_hangs 455 = .ok (.bipush 10, 2) := by decide +kernel
theorem dL_hangs_457 : decode cL_hangs 457 = .ok (.invokestatic 109, 3) := by decide +kernel
theorem dL_hangs_460 : decode cL_hangs 460 = .ok (.iadd, 1) := by decide +kernel
theorem dL_hangs_461 : decode cL_hangs 461 = .ok (.aload_n 0, 1) := by decide +kernel
theorem dL_hangs_462 : decode cL_hangs 462 = .ok (.bipush 9, 2) := by decide +kernel
theorem dL_hangs_464 : decode cL_hangs 464 = .ok (.invokestatic 109, 3) := by decide +kernel
theorem dL_hangs_467 : decode cL_hangs 467 = .ok (.if_icmp .ne 62, 3) := by decide +kernel
theorem dL_hangs_470 : decode cL_hangs 470 = .ok (.aload_n 0, 1) := by decide +kernel
theorem dL_hangs_471 : decode cL_hangs 471 = .ok (.iconst 4, 1) := by decide +kernel
theorem dL_hangs_472 : decode cL_hangs 472 = .ok (.invokestatic 109, 3) := by decide +kernel
theorem dL_hangs_475 : decode cL_hangs 475 = .ok (.aload_n 0, 1) := by decide +kernel
theorem dL_hangs_476 : decode cL_hangs 476 = .ok (.iconst 5, 1) := by decide +kernel
theorem dL_hangs_477 : decode cL_hangs 477 = .ok (.invokestatic 109, 3) := by decide +kernel
theorem dL_hangs_480 : decode cL_hangs 480 = .ok (.iadd, 1) := by decide +kernel
theorem dL_hangs_481 : decode cL_hangs 481 = .ok (.iload_n 1, 1) := by decide +kernel
theorem dL_hangs_482 : decode cL_hangs 482 = .ok (.if_icmp .lt 47, 3) := by decide +kernel
theorem dL_hangs_485 : decode cL_hangs 485 = .ok (.iload 7, 2) := by decide +kernel
theorem dL_hangs_487 : decode cL_hangs 487 = .ok (.iconst (-1), 1) := by decide +kernel
theorem dL_hangs_488 : decode cL_hangs 488 = .ok (.if_icmp .ne 7, 3) := by decide +kernel
theorem dL_hangs_491 : decode cL_hangs 491 = .ok (.iconst 1, 1) := by decide +kernel
theorem dL_hangs_492 : decode cL_hangs 492 = .ok (.goto 4, 3) := by decide +kernel
theorem dL_hangs_495 : decode cL_hangs 495 = .ok (.iconst 0, 1) := by decide +kernel
theorem dL_hangs_496 : decode cL_hangs 496 = .ok (.iload_n 1, 1) := by decide +kernel
theorem dL_hangs_497 : decode cL_hangs 497 = .ok (.ifCond .ne 7, 3) := by decide +kernel
theorem dL_hangs_500 : decode cL_hangs 500 = .ok (.iconst 1, 1) := by decide +kernel
theorem dL_hangs_501 : decode cL_hangs 501 = .ok (.goto 4, 3) := by decide +kernel
theorem dL_hangs_504 : decode cL_hangs 504 = .ok (.iconst 0, 1) := by decide +kernel
theorem dL_hangs_505 : decode cL_hangs 505 = .ok (.if_icmp .ne 24, 3) := by decide +kernel
theorem dL_hangs_508 : decode cL_hangs 508 = .ok (.iload 7, 2) := by decide +kernel
theorem dL_hangs_510 : decode cL_hangs 510 = .ok (.ifCond .lt 15, 3) := by decide +kernel
theorem dL_hangs_513 : decode cL_hangs 513 = .ok (.aload_n 0, 1) := by decide +kernel
theorem dL_hangs_514 : decode cL_hangs 514 = .ok (.iload 7, 2) := by decide +kernel
theorem dL_hangs_516 : decode cL_hangs 516 = .ok (.iconst 1, 1) := by decide +kernel
theorem dL_hangs_517 : decode cL_hangs 517 = .ok (.invokestatic 92, 3) := by decide +kernel
theorem dL_hangs_520 : decode cL_hangs 520 = .ok (.iload 6, 2) := by decide +kernel
theorem dL_hangs_522 : decode cL_hangs 522 = .ok (.if_icmp .ne 7, 3) := by decide +kernel
theorem dL_hangs_525 : decode cL_hangs 525 = .ok (.iconst 1, 1) := by decide +kernel
theorem dL_hangs_526 : decode cL_hangs 526 = .ok (.goto 4, 3) := by decide +kernel
theorem dL_hangs_529 : decode cL_hangs 529 = .ok (.iconst 0, 1) := by decide +kernel
theorem dL_hangs_530 : decode cL_hangs 530 = .ok (.istore 8, 2) := by decide +kernel
theorem dL_hangs_532 : decode cL_hangs 532 = .ok (.iload 8, 2) := by decide +kernel
theorem dL_hangs_534 : decode cL_hangs 534 = .ok (.ifCond .eq 75, 3) := by decide +kernel
theorem dL_hangs_537 : decode cL_hangs 537 = .ok (.aload_n 0, 1) := by decide +kernel
theorem dL_hangs_538 : decode cL_hangs 538 = .ok (.iconst 0, 1) := by decide +kernel
theorem dL_hangs_539 : decode cL_hangs 539 = .ok (.invokestatic 109, 3) := by decide +kernel
theorem dL_hangs_542 : decode cL_hangs 542 = .ok (.ifCond .lt 67, 3) := by decide +kernel
theorem dL_hangs_545 : decode cL_hangs 545 = .ok (.aload_n 0, 1) := by decide +kernel
theorem dL_hangs_546 : decode cL_hangs 546 = .ok (.iconst 0, 1) := by decide +kernel
theorem dL_hangs_547 : decode cL_hangs 547 = .ok (.invokestatic 109, 3) := by decide +kernel
theorem dL_hangs_550 : decode cL_hangs 550 = .ok (.bipush 100, 2) := by decide +kernel
theorem dL_hangs_552 : decode cL_hangs 552 = .ok (.if_icmp .gt 57, 3) := by decide +kernel
theorem dL_hangs_555 : decode cL_hangs 555 = .ok (.aload_n 0, 1) := by decide +kernel
theorem dL_hangs_556 : decode cL_hangs 556 = .ok (.iconst 1, 1) := by decide +kernel
theorem dL_hangs_557 : decode cL_hangs 557 = .ok (.invokestatic 109, 3) := by decide +kernel
theorem dL_hangs_560 : decode cL_hangs 560 = .ok (.ifCond .lt 49, 3) := by decide +kernel
theorem dL_hangs_563 : decode cL_hangs 563 = .ok (.aload_n 0, 1) := by decide +kernel
theorem dL_hangs_564 : decode cL_hangs 564 = .ok (.iconst 1, 1) := by decide +kernel
theorem dL_hangs_565 : decode cL_hangs 565 = .ok (.invokestatic 109, 3) := by decide +kernel
theorem dL_hangs_568 : decode cL_hangs 568 = .ok (.bipush 100, 2) := by decide +kernel
theorem dL_hangs_570 : decode cL_hangs 570 = .ok (.if_icmp .gt 39, 3) := by decide +kernel
theorem dL_hangs_573 : decode cL_hangs 573 = .ok (.aload_n 0, 1) := by decide +kernel
theorem dL_hangs_574 : decode cL_hangs 574 = .ok (.iconst 2, 1) := by decide +kernel
theorem dL_hangs_575 : decode cL_hangs 575 = .ok (.invokestatic 109, 3) := by decide +kernel
theorem dL_hangs_578 : decode cL_hangs 578 = .ok (.aload_n 0, 1) := by decide +kernel
theorem dL_hangs_579 : decode cL_hangs 579 = .ok (.iconst 1, 1) := by decide +kernel
theorem dL_hangs_580 : decode cL_hangs 580 = .ok (.invokestatic 109, 3) := by decide +kernel
theorem dL_hangs_583 : decode cL_hangs 583 = .ok (.bipush 50, 2) := by decide +kernel
theorem dL_hangs_585 : decode cL_hangs 585 = .ok (.if_icmp .ge 16, 3) := by decide +kernel
theorem dL_hangs_588 : decode cL_hangs 588 = .ok (.bipush 50, 2) := by decide +kernel
theorem dL_hangs_590 : decode cL_hangs 590 = .ok (.aload_n 0, 1) := by decide +kernel
theorem dL_hangs_591 : decode cL_hangs 591 = .ok (.iconst 1, 1) := by decide +kernel
theorem dL_hangs_592 : decode cL_hangs 592 = .ok (.invokestatic 109, 3) := by decide +kernel
theorem dL_hangs_595 : decode cL_hangs 595 = .ok (.isub, 1) := by decide +kernel
theorem dL_hangs_596 : decode cL_hangs 596 = .ok (.iconst 5, 1) := by decide +kernel
theorem dL_hangs_597 : decode cL_hangs 597 = .ok (.idiv, 1) := by decide +kernel
theorem dL_hangs_598 : decode cL_hangs 598 = .ok (.goto 4, 3) := by decide +kernel
theorem dL_hangs_601 : decode cL_hangs 601 = .ok (.iconst 0, 1) := by decide +kernel
theorem dL_hangs_602 : decode cL_hangs 602 = .ok (.if_icmp .ne 7, 3) := by decide +kernel
theorem dL_hangs_605 : decode cL_hangs 605 = .ok (.iconst 1, 1) := by decide +kernel
theorem dL_hangs_606 : decode cL_hangs 606 = .ok (.goto 4, 3) := by decide +kernel
theorem dL_hangs_609 : decode cL_hangs 609 = .ok (.iconst 0, 1) := by decide +kernel
theorem dL_hangs_610 : decode cL_hangs 610 = .ok (.istore 8, 2) := by decide +kernel
theorem dL_hangs_612 : decode cL_hangs 612 = .ok (.iload 8, 2) := by decide +kernel
theorem dL_hangs_614 : decode cL_hangs 614 = .ok (.ifCond .eq 53, 3) := by decide +kernel
theorem dL_hangs_617 : decode cL_hangs 617 = .ok (.aload_n 0, 1) := by decide +kernel
theorem dL_hangs_618 : decode cL_hangs 618 = .ok (.invokevirtual 111, 3) := by decide +kernel
theorem dL_hangs_621 : decode cL_hangs 621 = .ok (.iload_n 1, 1) := by decide +kernel
theorem dL_hangs_622 : decode cL_hangs 622 = .ok (.ifCond .ne 7, 3) := by decide +kernel
theorem dL_hangs_625 : decode cL_hangs 625 = .ok (.fconst 0, 1) := by decide +kernel
theorem dL_hangs_626 : decode cL_hangs 626 = .ok (.goto 8, 3) := by decide +kernel
theorem dL_hangs_629 : decode cL_hangs 629 = .ok (.iload_n 3, 1) := by decide +kernel
theorem dL_hangs_630 : decode cL_hangs 630 = .ok (.i2f, 1) := by decide +kernel
theorem dL_hangs_631 : decode cL_hangs 631 = .ok (.iload_n 1, 1) := by decide +kernel
theorem dL_hangs_632 : decode cL_hangs 632 = .ok (.i2f, 1) := by decide +kernel
theorem dL_hangs_633 : decode cL_hangs 633 = .ok (.fdiv, 1) := by decide +kernel
theorem dL_hangs_634 : decode cL_hangs 634 = .ok (.fcmp .l, 1) := by decide +kernel
theorem dL_hangs_635 : decode cL_hangs 635 = .ok (.ifCond .ne 32, 3) := by decide +kernel
theorem dL_hangs_638 : decode cL_hangs 638 = .ok (.aload_n 0, 1) := by decide +kernel
theorem dL_hangs_639 : decode cL_hangs 639 = .ok (.invokevirtual 115, 3) := by decide +kernel
theorem dL_hangs_642 : decode cL_hangs 642 = .ok (.iload_n 1, 1) := by decide +kernel
theorem dL_hangs_643 : decode cL_hangs 643 = .ok (.ifCond .ne 7, 3) := by decide +kernel
theorem dL_hangs_646 : decode cL_hangs 646 = .ok (.dconst 0, 1) := by decide +kernel
theorem dL_hangs_647 : decode cL_hangs 647 = .ok (.goto 12, 3) := by decide +kernel
theorem dL_hangs_650 : decode cL_hangs 650 = .ok (.iload 4, 2) := by decide +kernel
theorem dL_hangs_652 : decode cL_hangs 652 = .ok (.i2d, 1) := by decide +kernel
theorem dL_hangs_653 : decode cL_hangs 653 = .ok (.bipush 100, 2) := by decide +kernel
theorem dL_hangs_655 : decode cL_hangs 655 = .ok (.iload_n 1, 1) := by decide +kernel
theorem dL_hangs_656 : decode cL_hangs 656 = .ok (.imul, 1) := by decide +kernel
theorem dL_hangs_657 : decode cL_hangs 657 = .ok (.i2d, 1) := by decide +kernel
theorem dL_hangs_658 : decode cL_hangs 658 = .ok (.ddiv, 1) := by decide +kernel
theorem dL_hangs_659 : decode cL_hangs 659 = .ok (.dcmp .l, 1) := by decide +kernel
theorem dL_hangs_660 : decode cL_hangs 660 = .ok (.ifCond .ne 7, 3) := by decide +kernel
theorem dL_hangs_663 : decode cL_hangs 663 = .ok (.iconst 1, 1) := by decide +kernel
theorem dL_hangs_664 : decode cL_hangs 664 = .ok (.goto 4, 3) := by decide +kernel
theorem dL_hangs_667 : decode cL_hangs 667 = .ok (.iconst 0, 1) := by decide +kernel
theorem dL_hangs_668 : decode cL_hangs 668 = .ok (.ireturn, 1) := by decide +kernel
end
section
set_option maxRecDepth 20000 in
theorem ggL_copies_L_ifCopied : GoodIn wsL_copies wsL_ifCopied := goodIn_ca (goodIn_ca (goodIn_r _ [4, 5, 6, 7, 8, 9, 10, 11, 12, 13, 14, 15, 16, 17, 18, 19, 20, 21, 22, 23, 24, 25, 26, 27, 28, 29, 30, 31, 32, 33, 34, 35, 36, 37, 38, 39, 40, 41, 42, 43, 44, 45, 46, 47, 48, 49, 50, 51, 52, 53, 54, 55, 56, 57, 58, 59, 60, 61, 62, 212, 213, 214, 215, 216, 217, 218, 219, 220, 221, 222, 223, 224, 225, 226, 227, 228, 229, 230, 231, 232, 233, 234, 235, 236, 237] (by decide +kernel) (by decide +kernel)) (goodIn_sub (fun _ h => List.mem_cons_of_mem _ (List.mem_append_left _ (List.mem_append_left _ (List.mem_append_right _ h)))) (by decide +kernel))) (goodIn_sub (fun _ h => List.mem_cons_of_mem _ (List.mem_append_left _ (List.mem_append_right _ h))) (by decide +kernel))
set_option maxRecDepth 20000 in
theorem gL_copies_L_ifCopied : GoodIn wsL_copies (va_wsS RL 126 yL_ifCopied wsL_ifCopied) := goodIn_app (goodIn_of _ (by decide +kernel)) ggL_copies_L_ifCopied
set_option maxRecDepth 20000 in
theorem ggL_copies_L_daughters : GoodIn wsL_copies wsL_daughters := goodIn_ca (goodIn_r _ [65, 5, 7, 66, 67, 68, 12, 69, 14, 15, 16, 17, 18, 19, 20, 70, 71, 72, 30, 73, 74, 75, 76, 77, 78, 212, 213, 214, 215, 216, 217, 218, 219, 220, 221, 222, 223, 224, 225, 226, 227, 228, 229, 230, 231, 232, 233, 234, 235, 236, 237] (by decide +kernel) (by decide +kernel)) (goodIn_sub (fun _ h => List.mem_cons_of_mem _ (List.mem_append_left _ (List.mem_append_left _ (List.mem_append_right _ h)))) (by decide +kernel))
set_option maxRecDepth 20000 in
theorem gL_copies_L_daughters : GoodIn wsL_copies (va_wsS RL 104 yL_daughters wsL_daughters) := goodIn_app (goodIn_of _ (by decide +kernel)) ggL_copies_L_daughters
set_option maxRecDepth 20000 in
theorem ggL_copies_L_count : GoodIn wsL_copies wsL_count := goodIn_ca (goodIn_r _ [81, 6, 7, 82, 83, 84, 12, 85, 86, 14, 87, 88, 89, 90, 25, 26, 91, 92, 93, 30, 94, 53, 34, 95, 96, 97, 98, 99, 100, 101, 54, 55, 56, 57, 102, 103, 104, 105, 106, 107, 108, 109, 35, 36, 37, 38, 33, 110, 111, 112, 113, 32, 212, 213, 214, 215, 216, 217, 218, 219, 220, 221, 222, 223, 224, 225, 226, 227, 228, 229, 230, 231, 232, 233, 234, 235, 236, 237] (by decide +kernel) (by decide +kernel)) (goodIn_sub (fun _ h => List.mem_cons_of_mem _ (List.mem_append_left _ (List.mem_append_right _ h))) (by decide +kernel))
set_option maxRecDepth 20000 in
theorem gL_copies_L_count : GoodIn wsL_copies (va_wsS RL 109 yL_count wsL_count) := goodIn_app (goodIn_of _ (by decide +kernel)) ggL_copies_L_count
set_option maxRecDepth 20000 in
theorem ggL_copies_L_print : GoodIn wsL_copies wsL_print := goodIn_ca (goodIn_ca (goodIn_r _ [116, 117, 118, 119, 120, 121, 12, 122, 14, 123, 79, 80, 3, 81, 6, 7, 82, 83, 84, 85, 86, 87, 88, 89, 90, 25, 26, 91, 92, 93, 30, 94, 53, 34, 95, 96, 97, 98, 99, 100, 101, 54, 55, 56, 57, 102, 103, 104, 105, 106, 107, 108, 109, 35, 36, 37, 38, 33, 110, 111, 112, 113, 32, 124, 125, 126, 5, 8, 127, 128, 129, 130, 15, 16, 17, 18, 19, 20, 131, 132, 133, 134, 52, 135, 136, 78, 137, 138, 139, 140, 141, 142, 143, 144, 145, 146, 147, 148, 149, 150, 151, 152, 153, 154, 155, 156, 157, 158, 159, 42, 43, 44, 160, 161, 162, 163, 212, 213, 214, 215, 216, 217, 218, 219, 220, 221, 222, 223, 224, 225, 226, 227, 228, 229, 230, 231, 232, 233, 234, 235, 236, 237] (by decide +kernel) (by decide +kernel)) (goodIn_sub (fun _ h => List.mem_cons_of_mem _ (List.mem_append_left _ (List.mem_append_right _ h))) (by decide +kernel))) (goodIn_sub (fun _ h => List.mem_cons_of_mem _ (List.mem_append_left _ (List.mem_append_left _ (List.mem_append_right _ h)))) (by decide +kernel))
set_option maxRecDepth 20000 in
theorem gL_copies_L_print : GoodIn wsL_copies (va_wsS RL 128 yL_print wsL_print) := goodIn_app (goodIn_of _ (by decide +kernel)) ggL_copies_L_print
set_option maxRecDepth 20000 in
theorem ggL_copies_L_copy : GoodIn wsL_copies wsL_copy := goodIn_ca (goodIn_ca (goodIn_r _ [166, 5, 6, 7, 8, 167, 168, 169, 12, 170, 14, 15, 16, 17, 18, 19, 20, 21, 22, 23, 24, 25, 26, 171, 172, 173, 174, 86, 175, 176, 177, 178, 179, 180, 181, 182, 30, 183, 33, 184, 185, 186, 187, 52, 135, 136, 78, 137, 138, 32, 154, 53, 34, 188, 95, 96, 97, 98, 99, 100, 101, 189, 190, 191, 192, 193, 46, 43, 47, 194, 28, 29, 31, 35, 36, 37, 38, 39, 40, 41, 42, 44, 45, 54, 55, 56, 57, 195, 49, 50, 51, 58, 59, 60, 61, 62, 196, 197, 198, 199, 200, 201, 212, 213, 214, 215, 216, 217, 218, 219, 220, 221, 222, 223, 224, 225, 226, 227, 228, 229, 230, 231, 232, 233, 234, 235, 236, 237] (by decide +kernel) (by decide +kernel)) (goodIn_sub (fun _ h => List.mem_cons_of_mem _ (List.mem_append_left _ (List.mem_append_left _ (List.mem_append_right _ h)))) (by decide +kernel))) (goodIn_sub (fun _ h => List.mem_cons_of_mem _ (List.mem_append_left _ (List.mem_append_right _ h))) (by decide +kernel))
set_option maxRecDepth 20000 in
theorem gL_copies_L_copy : GoodIn wsL_copies (va_wsS RL 74 yL_copy wsL_copy) := goodIn_app (goodIn_of _ (by decide +kernel)) ggL_copies_L_copy
set_option maxRecDepth 20000 in
theorem ggL_copies_L_trackOf : GoodIn wsL_copies wsL_trackOf := goodIn_ca (goodIn_ca (goodIn_r _ [126, 5, 6, 7, 8, 127, 128, 129, 12, 130, 14, 15, 16, 17, 18, 19, 20, 87, 88, 89, 90, 25, 26, 131, 132, 133, 30, 134, 33, 52, 135, 136, 78, 137, 138, 35, 36, 37, 38, 212, 213, 214, 215, 216, 217, 218, 219, 220, 221, 222, 223, 224, 225, 226, 227, 228, 229, 230, 231, 232, 233, 234, 235, 236, 237] (by decide +kernel) (by decide +kernel)) (goodIn_sub (fun _ h => List.mem_cons_of_mem _ (List.mem_append_left _ (List.mem_append_left _ (List.mem_append_right _ h)))) (by decide +kernel))) (goodIn_sub (fun _ h => List.mem_cons_of_mem _ (List.mem_append_left _ (List.mem_append_right _ h))) (by decide +kernel))
set_option maxRecDepth 20000 in
theorem gL_copies_L_trackOf : GoodIn wsL_copies (va_wsS RL 92 yL_trackOf wsL_trackOf) := goodIn_app (goodIn_of _ (by decide +kernel)) ggL_copies_L_trackOf
set_option maxRecDepth 20000 in
theorem ggL_copies_L_undo : GoodIn wsL_copies wsL_undo := goodIn_ca (goodIn_r _ [204, 205, 7, 206, 207, 208, 12, 209, 210, 211, 86, 14, 175, 180, 181, 182, 30, 183, 33, 184, 185, 186, 187, 52, 135, 136, 78, 137, 138, 32, 154, 53, 34, 188, 95, 96, 97, 98, 99, 100, 101, 212, 213, 214, 215, 216, 217, 218, 219, 220, 221, 222, 223, 224, 225, 226, 227, 228, 229, 230, 231, 232, 233, 234, 235, 236, 237] (by decide +kernel) (by decide +kernel)) (goodIn_sub (fun _ h => List.mem_cons_of_mem _ (List.mem_append_right _ h)) (by decide +kernel))
set_option maxRecDepth 20000 in
theorem gL_copies_L_undo : GoodIn wsL_copies (va_wsS RL 132 yL_undo wsL_undo) := goodIn_app (goodIn_of _ (by decide +kernel)) ggL_copies_L_undo
theorem dL_copies_0 : decode cL_copies 0 = .ok (.aload_n 0, 1) := by decide +kernel
theorem dL_copies_1 : decode cL_copies 1 = .ok (.iload_n 1, 1) := by decide +kernel
theorem dL_copies_2 : decode cL_copies 2 = .ok (.iload_n 2, 1) := by decide +kernel
theorem dL_copies_3 : decode cL_copies 3 = .ok (.iload_n 3, 1) := by decide +kernel
theorem dL_copies_4 : decode cL_copies 4 = .ok (.invokestatic 126, 3) := by decide +kernel
theorem dL_copies_7 : decode cL_copies 7 = .ok (.istore 4, 2) := by decide +kernel
theorem dL_copies_9 : decode cL_copies 9 = .ok (.aload_n 0, 1) := by decide +kernel
theorem dL_copies_10 : decode cL_copies 10 = .ok (.iload_n 1, 1) := by decide +kernel
theorem dL_copies_11 : decode cL_copies 11 = .ok (.invokestatic 104, 3) := by decide +kernel
theorem dL_copies_14 : decode cL_copies 14 = .ok (.istore 5, 2) := by decide +kernel
theorem dL_copies_16 : decode cL_copies 16 = .ok (.aload_n 0, 1) := by decide +kernel
theorem dL_copies_17 : decode cL_copies 17 = .ok (.bipush 11, 2) := by decide +kernel
theorem dL_copies_19 : decode cL_copies 19 = .ok (.invokestatic 109, 3) := by decide +kernel
theorem dL_copies_22 : decode cL_copies 22 = .ok (.istore 6, 2) := by decide +kernel
theorem dL_copies_24 : decode cL_copies 24 = .ok (.aload_n 0, 1) := by decide +kernel
theorem dL_copies_25 : decode cL_copies 25 = .ok (.iconst 5, 1) := by decide +kernel
theorem dL_copies_26 : decode cL_copies 26 = .ok (.invokestatic 109, 3) := by decide +kernel
theorem dL_copies_29 : decode cL_copies 29 = .ok (.istore 7, 2) := by decide +kernel
theorem dL_copies_31 : decode cL_copies 31 = .ok (.aload_n 0, 1) := by decide +kernel
theorem dL_copies_32 : decode cL_copies 32 = .ok (.invokestatic 128, 3) := by decide +kernel
theorem dL_copies_35 : decode cL_copies 35 = .ok (.lstore 8, 2) := by decide +kernel
theorem dL_copies_37 : decode cL_copies 37 = .ok (.aload_n 0, 1) := by decide +kernel
theorem dL_copies_38 : decode cL_copies 38 = .ok (.iload_n 1, 1) := by decide +kernel
theorem dL_copies_39 : decode cL_copies 39 = .ok (.iload_n 2, 1) := by decide +kernel
theorem dL_copies_40 : decode cL_copies 40 = .ok (.iload_n 3, 1) := by decide +kernel
theorem dL_copies_41 : decode cL_copies 41 = .ok (.invokestatic 74, 3) := by decide +kernel
theorem dL_copies_44 : decode cL_copies 44 = .ok (.istore 10, 2) := by decide +kernel
theorem dL_copies_46 : decode cL_copies 46 = .ok (.iconst 1, 1) := by decide +kernel
theorem dL_copies_47 : decode cL_copies 47 = .ok (.istore 11, 2) := by decide +kernel
theorem dL_copies_49 : decode cL_copies 49 = .ok (.iload 10, 2) := by decide +kernel
theorem dL_copies_51 : decode cL_copies 51 = .ok (.ifCond .ne 101, 3) := by decide +kernel
theorem dL_copies_54 : decode cL_copies 54 = .ok (.iload 4, 2) := by decide +kernel
theorem dL_copies_56 : decode cL_copies 56 = .ok (.ifCond .lt 90, 3) := by decide +kernel
theorem dL_copies_59 : decode cL_copies 59 = .ok (.aload_n 0, 1) := by decide +kernel
theorem dL_copies_60 : decode cL_copies 60 = .ok (.iload_n 2, 1) := by decide +kernel
theorem dL_copies_61 : decode cL_copies 61 = .ok (.iconst 1, 1) := by decide +kernel
theorem dL_copies_62 : decode cL_copies 62 = .ok (.invokestatic 92, 3) := by decide +kernel
theorem dL_copies_65 : decode cL_copies 65 = .ok (.iload 4, 2) := by decide +kernel
theorem dL_copies_67 : decode cL_copies 67 = .ok (.if_icmp .ne 79, 3) := by decide +kernel
theorem dL_copies_70 : decode cL_copies 70 = .ok (.aload_n 0, 1) := by decide +kernel
theorem dL_copies_71 : decode cL_copies 71 = .ok (.iload_n 2, 1) := by decide +kernel
theorem dL_copies_72 : decode cL_copies 72 = .ok (.iconst 4, 1) := by decide +kernel
theorem dL_copies_73 : decode cL_copies 73 = .ok (.invokestatic 92, 3) := by decide +kernel
theorem dL_copies_76 : decode cL_copies 76 = .ok (.iload_n 1, 1) := by decide +kernel
theorem dL_copies_77 : decode cL_copies 77 = .ok (.if_icmp .ne 69, 3) := by decide +kernel
theorem dL_copies_80 : decode cL_copies 80 = .ok (.aload_n 0, 1) := by decide +kernel
theorem dL_copies_81 : decode cL_copies 81 = .ok (.iload_n 2, 1) := by decide +kernel
theorem dL_copies_82 : decode cL_copies 82 = .ok (.iconst 3, 1) := by decide +kernel
theorem dL_copies_83 : decode cL_copies 83 = .ok (.invokestatic 92, 3) := by decide +kernel
theorem dL_copies_86 : decode cL_copies 86 = .ok (.aload_n 0, 1) := by decide +kernel
theorem dL_copies_87 : decode cL_copies 87 = .ok (.iload_n 1, 1) := by decide +kernel
theorem dL_copies_88 : decode cL_copies 88 = .ok (.iconst 3, 1) := by decide +kernel
theorem dL_copies_89 : decode cL_copies 89 = .ok (.invokestatic 92, 3) := by decide +kernel
theorem dL_copies_92 : decode cL_copies 92 = .ok (.iconst 1, 1) := by decide +kernel
theorem dL_copies_93 : decode cL_copies 93 = .ok (.iadd, 1) := by decide +kernel
theorem dL_copies_94 : decode cL_copies 94 = .ok (.if_icmp .ne 52, 3) := by decide +kernel
theorem dL_copies_97 : decode cL_copies 97 = .ok (.aload_n 0, 1) := by decide +kernel
theorem dL_copies_98 : decode cL_copies 98 = .ok (.iconst 5, 1) := by decide +kernel
theorem dL_copies_99 : decode cL_copies 99 = .ok (.invokestatic 109, 3) := by decide +kernel
theorem dL_copies_102 : decode cL_copies 102 = .ok (.iload 7, 2) := by decide +kernel
theorem dL_copies_104 : decode cL_copies 104 = .ok (.iconst 1, 1) := by decide +kernel
theorem dL_copies_105 : decode cL_copies 105 = .ok (.iadd, 1) := by decide +kernel
theorem dL_copies_106 : decode cL_copies 106 = .ok (.if_icmp .ne 40, 3) := by decide +kernel
theorem dL_copies_109 : decode cL_copies 109 = .ok (.aload_n 0, 1) := by decide +kernel
theorem dL_copies_110 : decode cL_copies 110 = .ok (.bipush 11, 2) := by decide +kernel
theorem dL_copies_112 : decode cL_copies 112 = .ok (.invokestatic 109, 3) := by decide +kernel
theorem dL_copies_115 : decode cL_copies 115 = .ok (.iload 6, 2) := by decide +kernel
theorem dL_copies_117 : decode cL_copies 117 = .ok (.if_icmp .ne 29, 3) := by decide +kernel
theorem dL_copies_120 : decode cL_copies 120 = .ok (.aload_n 0, 1) := by decide +kernel
theorem dL_copies_121 : decode cL_copies 121 = .ok (.iload_n 1, 1) := by decide +kernel
theorem dL_copies_122 : decode cL_copies 122 = .ok (.invokestatic 104, 3) := by decide +kernel
theorem dL_copies_125 : decode cL_copies 125 = .ok (.iload 5, 2) := by decide +kernel
theorem dL_copies_127 : decode cL_copies 127 = .ok (.iconst 1, 1) := by decide +kernel
theorem dL_copies_128 : decode cL_copies 128 = .ok (.isub, 1) := by decide +kernel
theorem dL_copies_129 : decode cL_copies 129 = .ok (.if_icmp .le 17, 3) := by decide +kernel
theorem dL_copies_132 : decode cL_copies 132 = .ok (.aload_n 0, 1) := by decide +kernel
theorem dL_copies_133 : decode cL_copies 133 = .ok (.iload_n 2, 1) := by decide +kernel
theorem dL_copies_134 : decode cL_copies 134 = .ok (.bipush 6, 2) := by decide +kernel
theorem dL_copies_136 : decode cL_copies 136 = .ok (.invokestatic 92, 3) := by decide +kernel
theorem dL_copies_139 : decode cL_copies 139 = .ok (.ifCond .ne 7, 3) := by decide +kernel
theorem dL_copies_142 : decode cL_copies 142 = .ok (.iconst 1, 1) := by decide +kernel
theorem dL_copies_143 : decode cL_copies 143 = .ok (.goto 4, 3) := by decide +kernel
theorem dL_copies_146 : decode cL_copies 146 = .ok (.iconst 0, 1) := by decide +kernel
theorem dL_copies_147 : decode cL_copies 147 = .ok (.istore 11, 2) := by decide +kernel
theorem dL_copies_149 : decode cL_copies 149 = .ok (.goto 46, 3) := by decide +kernel
theorem dL_copies_152 : decode cL_copies 152 = .ok (.iload 4, 2) := by decide +kernel
theorem dL_copies_154 : decode cL_copies 154 = .ok (.ifCond .ge 38, 3) := by decide +kernel
theorem dL_copies_157 : decode cL_copies 157 = .ok (.iload 10, 2) := by decide +kernel
theorem dL_copies_159 : decode cL_copies 159 = .ok (.iload 4, 2) := by decide +kernel
theorem dL_copies_161 : decode cL_copies 161 = .ok (.ineg, 1) := by decide +kernel
theorem dL_copies_162 : decode cL_copies 162 = .ok (.if_icmp .ne 30, 3) := by decide +kernel
theorem dL_copies_165 : decode cL_copies 165 = .ok (.aload_n 0, 1) := by decide +kernel
theorem dL_copies_166 : decode cL_copies 166 = .ok (.bipush 11, 2) := by decide +kernel
theorem dL_copies_168 : decode cL_copies 168 = .ok (.invokestatic 109, 3) := by decide +kernel
theorem dL_copies_171 : decode cL_copies 171 = .ok (.iload 6, 2) := by decide +kernel
theorem dL_copies_173 : decode cL_copies 173 = .ok (.iconst 1, 1) := by decide +kernel
theorem dL_copies_174 : decode cL_copies 174 = .ok (.iadd, 1) := by decide +kernel
theorem dL_copies_175 : decode cL_copies 175 = .ok (.if_icmp .ne 17, 3) := by decide +kernel
theorem dL_copies_178 : decode cL_copies 178 = .ok (.aload_n 0, 1) := by decide +kernel
theorem dL_copies_179 : decode cL_copies 179 = .ok (.iconst 5, 1) := by decide +kernel
theorem dL_copies_180 : decode cL_copies 180 = .ok (.invokestatic 109, 3) := by decide +kernel
theorem dL_copies_183 : decode cL_copies 183 = .ok (.iload 7, 2) := by decide +kernel
theorem dL_copies_185 : decode cL_copies 185 = .ok (.if_icmp .ne 7, 3) := by decide +kernel
theorem dL_copies_188 : decode cL_copies 188 = .ok (.iconst 1, 1) := by decide +kernel
theorem dL_copies_189 : decode cL_copies 189 = .ok (.goto 4, 3) := by decide +kernel
theorem dL_copies_192 : decode cL_copies 192 = .ok (.iconst 0, 1) := by decide +kernel
theorem dL_copies_193 : decode cL_copies 193 = .ok (.istore 11, 2) := by decide +kernel
theorem dL_copies_195 : decode cL_copies 195 = .ok (.iload 11, 2) := by decide +kernel
theorem dL_copies_197 : decode cL_copies 197 = .ok (.ifCond .eq 24, 3) := by decide +kernel
theorem dL_copies_200 : decode cL_copies 200 = .ok (.aload_n 0, 1) := by decide +kernel
theorem dL_copies_201 : decode cL_copies 201 = .ok (.invokestatic 132, 3) := by decide +kernel
theorem dL_copies_204 : decode cL_copies 204 = .ok (.ifCond .lt 17, 3) := by decide +kernel
theorem dL_copies_207 : decode cL_copies 207 = .ok (.aload_n 0, 1) := by decide +kernel
theorem dL_copies_208 : decode cL_copies 208 = .ok (.invokestatic 128, 3) := by decide +kernel
theorem dL_copies_211 : decode cL_copies 211 = .ok (.lload 8, 2) := by decide +kernel
theorem dL_copies_213 : decode cL_copies 213 = .ok (.lcmp, 1) := by decide +kernel
theorem dL_copies_214 : decode cL_copies 214 = .ok (.ifCond .ne 7, 3) := by decide +kernel
theorem dL_copies_217 : decode cL_copies 217 = .ok (.iconst 1, 1) := by decide +kernel
theorem dL_copies_218 : decode cL_copies 218 = .ok (.goto 4, 3) := by decide +kernel
theorem dL_copies_221 : decode cL_copies 221 = .ok (.iconst 0, 1) := by decide +kernel
theorem dL_copies_222 : decode cL_copies 222 = .ok (.ireturn, 1) := by decide +kernel
set_option maxRecDepth 20000 in
theorem ggL_speaks_L_whyNot : GoodIn wsL_speaks wsL_whyNot := goodIn_ca (goodIn_ca (goodIn_r _ [4, 5, 6, 7, 8, 9, 10, 11, 12, 13, 14, 15, 16, 17, 18, 19, 20, 21, 22, 23, 24, 25, 26, 27, 28, 29, 30, 31, 32, 33, 34, 35, 36, 37, 38, 183, 184, 185, 186, 187, 188, 189, 190, 191, 192, 193, 194, 195, 196, 197, 198, 199, 200, 201, 202, 203, 204, 205, 206, 207, 208] (by decide +kernel) (by decide +kernel)) (goodIn_sub (fun _ h => List.mem_cons_of_mem _ (List.mem_append_left _ (List.mem_append_left _ (List.mem_append_right _ h)))) (by decide +kernel))) (goodIn_sub (fun _ h => List.mem_cons_of_mem _ (List.mem_append_left _ (List.mem_append_right _ h))) (by decide +kernel))
set_option maxRecDepth 20000 in
theorem gL_speaks_L_whyNot : GoodIn wsL_speaks (va_wsS RL 96 yL_whyNot wsL_whyNot) := goodIn_app (goodIn_of _ (by decide +kernel)) ggL_speaks_L_whyNot
set_option maxRecDepth 20000 in
theorem ggL_speaks_L_print : GoodIn wsL_speaks wsL_print := goodIn_ca (goodIn_ca (goodIn_r _ [41, 42, 43, 44, 45, 46, 12, 47, 14, 48, 49, 50, 3, 51, 6, 7, 52, 53, 54, 55, 56, 57, 58, 59, 60, 25, 26, 61, 62, 63, 30, 64, 65, 33, 66, 67, 68, 69, 70, 71, 72, 73, 74, 75, 76, 77, 78, 79, 80, 81, 82, 83, 84, 34, 35, 36, 37, 38, 85, 86, 87, 88, 32, 89, 90, 91, 5, 8, 92, 93, 94, 95, 15, 16, 17, 18, 19, 20, 96, 97, 98, 99, 100, 101, 102, 103, 104, 105, 106, 107, 108, 109, 110, 111, 112, 113, 114, 115, 116, 117, 118, 119, 120, 121, 122, 123, 124, 125, 126, 127, 128, 129, 130, 131, 132, 133, 183, 184, 185, 186, 187, 188, 189, 190, 191, 192, 193, 194, 195, 196, 197, 198, 199, 200, 201, 202, 203, 204, 205, 206, 207, 208] (by decide +kernel) (by decide +kernel)) (goodIn_sub (fun _ h => List.mem_cons_of_mem _ (List.mem_append_left _ (List.mem_append_right _ h))) (by decide +kernel))) (goodIn_sub (fun _ h => List.mem_cons_of_mem _ (List.mem_append_left _ (List.mem_append_left _ (List.mem_append_right _ h)))) (by decide +kernel))
set_option maxRecDepth 20000 in
theorem gL_speaks_L_print : GoodIn wsL_speaks (va_wsS RL 128 yL_print wsL_print) := goodIn_app (goodIn_of _ (by decide +kernel)) ggL_speaks_L_print
set_option maxRecDepth 20000 in
theorem ggL_speaks_L_count : GoodIn wsL_speaks wsL_count := goodIn_ca (goodIn_r _ [51, 6, 7, 52, 53, 54, 12, 55, 56, 14, 57, 58, 59, 60, 25, 26, 61, 62, 63, 30, 64, 65, 33, 66, 67, 68, 69, 70, 71, 72, 73, 74, 75, 76, 77, 78, 79, 80, 81, 82, 83, 84, 34, 35, 36, 37, 38, 85, 86, 87, 88, 32, 183, 184, 185, 186, 187, 188, 189, 190, 191, 192, 193, 194, 195, 196, 197, 198, 199, 200, 201, 202, 203, 204, 205, 206, 207, 208] (by decide +kernel) (by decide +kernel)) (goodIn_sub (fun _ h => List.mem_cons_of_mem _ (List.mem_append_left _ (List.mem_append_right _ h))) (by decide +kernel))
set_option maxRecDepth 20000 in
theorem gL_speaks_L_count : GoodIn wsL_speaks (va_wsS RL 109 yL_count wsL_count) := goodIn_app (goodIn_of _ (by decide +kernel)) ggL_speaks_L_count
set_option maxRecDepth 20000 in
theorem ggL_speaks_L_speak : GoodIn wsL_speaks wsL_speak := goodIn_ca (goodIn_ca (goodIn_r _ [136, 5, 6, 7, 8, 137, 138, 139, 12, 140, 14, 15, 16, 17, 18, 19, 20, 21, 22, 23, 24, 25, 26, 141, 142, 143, 144, 56, 145, 146, 147, 148, 149, 150, 151, 152, 30, 153, 38, 154, 155, 156, 157, 100, 101, 102, 103, 104, 105, 32, 121, 65, 33, 158, 66, 67, 68, 69, 70, 71, 72, 159, 160, 161, 162, 163, 28, 29, 31, 34, 35, 36, 37, 164, 165, 73, 74, 75, 76, 166, 167, 168, 169, 170, 171, 172, 127, 128, 129, 183, 184, 185, 186, 187, 188, 189, 190, 191, 192, 193, 194, 195, 196, 197, 198, 199, 200, 201, 202, 203, 204, 205, 206, 207, 208] (by decide +kernel) (by decide +kernel)) (goodIn_sub (fun _ h => List.mem_cons_of_mem _ (List.mem_append_left _ (List.mem_append_left _ (List.mem_append_right _ h)))) (by decide +kernel))) (goodIn_sub (fun _ h => List.mem_cons_of_mem _ (List.mem_append_left _ (List.mem_append_right _ h))) (by decide +kernel))
set_option maxRecDepth 20000 in
theorem gL_speaks_L_speak : GoodIn wsL_speaks (va_wsS RL 71 yL_speak wsL_speak) := goodIn_app (goodIn_of _ (by decide +kernel)) ggL_speaks_L_speak
set_option maxRecDepth 20000 in
theorem ggL_speaks_L_trackOf : GoodIn wsL_speaks wsL_trackOf := goodIn_ca (goodIn_ca (goodIn_r _ [91, 5, 6, 7, 8, 92, 93, 94, 12, 95, 14, 15, 16, 17, 18, 19, 20, 57, 58, 59, 60, 25, 26, 96, 97, 98, 30, 99, 38, 100, 101, 102, 103, 104, 105, 34, 35, 36, 37, 183, 184, 185, 186, 187, 188, 189, 190, 191, 192, 193, 194, 195, 196, 197, 198, 199, 200, 201, 202, 203, 204, 205, 206, 207, 208] (by decide +kernel) (by decide +kernel)) (goodIn_sub (fun _ h => List.mem_cons_of_mem _ (List.mem_append_left _ (List.mem_append_left _ (List.mem_append_right _ h)))) (by decide +kernel))) (goodIn_sub (fun _ h => List.mem_cons_of_mem _ (List.mem_append_left _ (List.mem_append_right _ h))) (by decide +kernel))
set_option maxRecDepth 20000 in
theorem gL_speaks_L_trackOf : GoodIn wsL_speaks (va_wsS RL 92 yL_trackOf wsL_trackOf) := goodIn_app (goodIn_of _ (by decide +kernel)) ggL_speaks_L_trackOf
set_option maxRecDepth 20000 in
theorem ggL_speaks_L_undo : GoodIn wsL_speaks wsL_undo := goodIn_ca (goodIn_r _ [175, 176, 7, 177, 178, 179, 12, 180, 181, 182, 56, 14, 145, 150, 151, 152, 30, 153, 38, 154, 155, 156, 157, 100, 101, 102, 103, 104, 105, 32, 121, 65, 33, 158, 66, 67, 68, 69, 70, 71, 72, 183, 184, 185, 186, 187, 188, 189, 190, 191, 192, 193, 194, 195, 196, 197, 198, 199, 200, 201, 202, 203, 204, 205, 206, 207, 208] (by decide +kernel) (by decide +kernel)) (goodIn_sub (fun _ h => List.mem_cons_of_mem _ (List.mem_append_right _ h)) (by decide +kernel))
set_option maxRecDepth 20000 in
theorem gL_speaks_L_undo : GoodIn wsL_speaks (va_wsS RL 132 yL_undo wsL_undo) := goodIn_app (goodIn_of _ (by decide +kernel)) ggL_speaks_L_undo
theorem dL_speaks_0 : decode cL_speaks 0 = .ok (.aload_n 0, 1) := by decide +kernel
theorem dL_speaks_1 : decode cL_speaks 1 = .ok (.iload_n 1, 1) := by decide +kernel
theorem dL_speaks_2 : decode cL_speaks 2 = .ok (.iload_n 2, 1) := by decide +kernel
theorem dL_speaks_3 : decode cL_speaks 3 = .ok (.invokestatic 96, 3) := by decide +kernel
theorem dL_speaks_6 : decode cL_speaks 6 = .ok (.istore_n 3, 1) := by decide +kernel
theorem dL_speaks_7 : decode cL_speaks 7 = .ok (.aload_n 0, 1) := by decide +kernel
theorem dL_speaks_8 : decode cL_speaks 8 = .ok (.invokestatic 128, 3) := by decide +kernel
theorem dL_speaks_11 : decode cL_speaks 11 = .ok (.lstore 4, 2) := by decide +kernel
theorem dL_speaks_13 : decode cL_speaks 13 = .ok (.aload_n 0, 1) := by decide +kernel
theorem dL_speaks_14 : decode cL_speaks 14 = .ok (.iconst 1, 1) := by decide +kernel
theorem dL_speaks_15 : decode cL_speaks 15 = .ok (.invokestatic 109, 3) := by decide +kernel
theorem dL_speaks_18 : decode cL_speaks 18 = .ok (.istore 6, 2) := by decide +kernel
theorem dL_speaks_20 : decode cL_speaks 20 = .ok (.aload_n 0, 1) := by decide +kernel
theorem dL_speaks_21 : decode cL_speaks 21 = .ok (.iload_n 1, 1) := by decide +kernel
theorem dL_speaks_22 : decode cL_speaks 22 = .ok (.iload_n 2, 1) := by decide +kernel
theorem dL_speaks_23 : decode cL_speaks 23 = .ok (.invokestatic 71, 3) := by decide +kernel
theorem dL_speaks_26 : decode cL_speaks 26 = .ok (.iload_n 3, 1) := by decide +kernel
theorem dL_speaks_27 : decode cL_speaks 27 = .ok (.if_icmp .ne 70, 3) := by decide +kernel
theorem dL_speaks_30 : decode cL_speaks 30 = .ok (.iload_n 3, 1) := by decide +kernel
theorem dL_speaks_31 : decode cL_speaks 31 = .ok (.ifCond .le 20, 3) := by decide +kernel
theorem dL_speaks_34 : decode cL_speaks 34 = .ok (.aload_n 0, 1) := by decide +kernel
theorem dL_speaks_35 : decode cL_speaks 35 = .ok (.iload_n 1, 1) := by decide +kernel
theorem dL_speaks_36 : decode cL_speaks 36 = .ok (.iconst 0, 1) := by decide +kernel
theorem dL_speaks_37 : decode cL_speaks 37 = .ok (.invokestatic 92, 3) := by decide +kernel
theorem dL_speaks_40 : decode cL_speaks 40 = .ok (.ifCond .eq 53, 3) := by decide +kernel
theorem dL_speaks_43 : decode cL_speaks 43 = .ok (.iload_n 3, 1) := by decide +kernel
theorem dL_speaks_44 : decode cL_speaks 44 = .ok (.iconst 1, 1) := by decide +kernel
theorem dL_speaks_45 : decode cL_speaks 45 = .ok (.if_icmp .ne 52, 3) := by decide +kernel
theorem dL_speaks_48 : decode cL_speaks 48 = .ok (.goto 45, 3) := by decide +kernel
theorem dL_speaks_51 : decode cL_speaks 51 = .ok (.aload_n 0, 1) := by decide +kernel
theorem dL_speaks_52 : decode cL_speaks 52 = .ok (.iload_n 1, 1) := by decide +kernel
theorem dL_speaks_53 : decode cL_speaks 53 = .ok (.iconst 0, 1) := by decide +kernel
theorem dL_speaks_54 : decode cL_speaks 54 = .ok (.invokestatic 92, 3) := by decide +kernel
theorem dL_speaks_57 : decode cL_speaks 57 = .ok (.iload_n 2, 1) := by decide +kernel
theorem dL_speaks_58 : decode cL_speaks 58 = .ok (.if_icmp .ne 39, 3) := by decide +kernel
theorem dL_speaks_61 : decode cL_speaks 61 = .ok (.aload_n 0, 1) := by decide +kernel
theorem dL_speaks_62 : decode cL_speaks 62 = .ok (.iload_n 1, 1) := by decide +kernel
theorem dL_speaks_63 : decode cL_speaks 63 = .ok (.iconst 3, 1) := by decide +kernel
theorem dL_speaks_64 : decode cL_speaks 64 = .ok (.invokestatic 92, 3) := by decide +kernel
theorem dL_speaks_67 : decode cL_speaks 67 = .ok (.ifCond .ne 30, 3) := by decide +kernel
theorem dL_speaks_70 : decode cL_speaks 70 = .ok (.aload_n 0, 1) := by decide +kernel
theorem dL_speaks_71 : decode cL_speaks 71 = .ok (.iconst 1, 1) := by decide +kernel
theorem dL_speaks_72 : decode cL_speaks 72 = .ok (.invokestatic 109, 3) := by decide +kernel
theorem dL_speaks_75 : decode cL_speaks 75 = .ok (.iload 6, 2) := by decide +kernel
theorem dL_speaks_77 : decode cL_speaks 77 = .ok (.bipush 10, 2) := by decide +kernel
theorem dL_speaks_79 : decode cL_speaks 79 = .ok (.isub, 1) := by decide +kernel
theorem dL_speaks_80 : decode cL_speaks 80 = .ok (.if_icmp .ne 17, 3) := by decide +kernel
theorem dL_speaks_83 : decode cL_speaks 83 = .ok (.aload_n 0, 1) := by decide +kernel
theorem dL_speaks_84 : decode cL_speaks 84 = .ok (.iload_n 1, 1) := by decide +kernel
theorem dL_speaks_85 : decode cL_speaks 85 = .ok (.iload_n 2, 1) := by decide +kernel
theorem dL_speaks_86 : decode cL_speaks 86 = .ok (.invokestatic 96, 3) := by decide +kernel
theorem dL_speaks_89 : decode cL_speaks 89 = .ok (.iconst 1, 1) := by decide +kernel
theorem dL_speaks_90 : decode cL_speaks 90 = .ok (.if_icmp .ne 7, 3) := by decide +kernel
theorem dL_speaks_93 : decode cL_speaks 93 = .ok (.iconst 1, 1) := by decide +kernel
theorem dL_speaks_94 : decode cL_speaks 94 = .ok (.goto 4, 3) := by decide +kernel
theorem dL_speaks_97 : decode cL_speaks 97 = .ok (.iconst 0, 1) := by decide +kernel
theorem dL_speaks_98 : decode cL_speaks 98 = .ok (.istore 7, 2) := by decide +kernel
theorem dL_speaks_100 : decode cL_speaks 100 = .ok (.iload 7, 2) := by decide +kernel
theorem dL_speaks_102 : decode cL_speaks 102 = .ok (.ifCond .eq 24, 3) := by decide +kernel
theorem dL_speaks_105 : decode cL_speaks 105 = .ok (.aload_n 0, 1) := by decide +kernel
theorem dL_speaks_106 : decode cL_speaks 106 = .ok (.invokestatic 132, 3) := by decide +kernel
theorem dL_speaks_109 : decode cL_speaks 109 = .ok (.ifCond .lt 17, 3) := by decide +kernel
theorem dL_speaks_112 : decode cL_speaks 112 = .ok (.aload_n 0, 1) := by decide +kernel
theorem dL_speaks_113 : decode cL_speaks 113 = .ok (.invokestatic 128, 3) := by decide +kernel
theorem dL_speaks_116 : decode cL_speaks 116 = .ok (.lload 4, 2) := by decide +kernel
theorem dL_speaks_118 : decode cL_speaks 118 = .ok (.lcmp, 1) := by decide +kernel
theorem dL_speaks_119 : decode cL_speaks 119 = .ok (.ifCond .ne 7, 3) := by decide +kernel
theorem dL_speaks_122 : decode cL_speaks 122 = .ok (.iconst 1, 1) := by decide +kernel
theorem dL_speaks_123 : decode cL_speaks 123 = .ok (.goto 4, 3) := by decide +kernel
theorem dL_speaks_126 : decode cL_speaks 126 = .ok (.iconst 0, 1) := by decide +kernel
theorem dL_speaks_127 : decode cL_speaks 127 = .ok (.ireturn, 1) := by decide +kernel
set_option maxRecDepth 20000 in
theorem ggL_steps_L_chain : GoodIn wsL_steps wsL_chain := goodIn_ca (goodIn_ca (goodIn_r _ [4, 5, 6, 7, 8, 9, 10, 11, 12, 13, 14, 15, 16, 17, 18, 19, 20, 21, 22, 23, 24, 25, 26, 27, 28, 29, 30, 31, 32, 33, 34, 35, 36, 37, 38, 39, 40, 41, 42, 43, 44, 45, 46, 47, 48, 49, 50, 51, 52, 53, 54, 55, 56, 57, 58, 59, 60, 61, 62, 63, 64, 65, 66, 67, 68, 69, 70, 71, 72, 73, 74, 75, 76, 77, 239, 240, 241, 242, 243, 244, 245, 246, 247, 248, 249, 250, 251, 252, 253, 254, 255, 256, 257, 258, 259, 260, 261, 262, 263, 264, 265, 266] (by decide +kernel) (by decide +kernel)) (goodIn_sub (fun _ h => List.mem_cons_of_mem _ (List.mem_append_left _ (List.mem_append_left _ (List.mem_append_right _ h)))) (by decide +kernel))) (goodIn_sub (fun _ h => List.mem_cons_of_mem _ (List.mem_append_left _ (List.mem_append_right _ h))) (by decide +kernel))
set_option maxRecDepth 20000 in
theorem gL_steps_L_chain : GoodIn wsL_steps (va_wsS RL 94 yL_chain wsL_chain) := goodIn_app (goodIn_of _ (by decide +kernel)) ggL_steps_L_chain
set_option maxRecDepth 20000 in
theorem ggL_steps_L_print : GoodIn wsL_steps wsL_print := goodIn_ca (goodIn_ca (goodIn_r _ [80, 81, 82, 83, 84, 85, 12, 86, 16, 87, 88, 89, 3, 90, 6, 7, 91, 92, 93, 94, 95, 27, 28, 29, 30, 14, 15, 96, 97, 98, 34, 99, 100, 101, 102, 103, 104, 105, 106, 107, 108, 109, 110, 111, 112, 113, 114, 115, 116, 117, 118, 119, 120, 121, 32, 33, 35, 36, 122, 123, 124, 125, 126, 127, 128, 129, 5, 8, 130, 131, 132, 133, 21, 22, 23, 24, 25, 26, 134, 135, 136, 137, 138, 139, 140, 141, 142, 143, 144, 145, 146, 147, 148, 149, 150, 151, 152, 153, 154, 155, 156, 157, 158, 159, 160, 161, 162, 163, 164, 50, 51, 52, 165, 166, 167, 168, 239, 240, 241, 242, 243, 244, 245, 246, 247, 248, 249, 250, 251, 252, 253, 254, 255, 256, 257, 258, 259, 260, 261, 262, 263, 264] (by decide +kernel) (by decide +kernel)) (goodIn_sub (fun _ h => List.mem_cons_of_mem _ (List.mem_append_left _ (List.mem_append_left _ (List.mem_append_right _ h)))) (by decide +kernel))) (goodIn_sub (fun _ h => List.mem_cons_of_mem _ (List.mem_append_left _ (List.mem_append_right _ h))) (by decide +kernel))
set_option maxRecDepth 20000 in
theorem gL_steps_L_print : GoodIn wsL_steps (va_wsS RL 128 yL_print wsL_print) := goodIn_app (goodIn_of _ (by decide +kernel)) ggL_steps_L_print
set_option maxRecDepth 20000 in
theorem ggL_steps_L_renew : GoodIn wsL_steps wsL_renew := goodIn_ca (goodIn_ca (goodIn_r _ [171, 5, 6, 7, 8, 172, 173, 174, 12, 175, 14, 15, 16, 151, 152, 153, 154, 25, 26, 176, 177, 178, 179, 95, 180, 181, 182, 183, 184, 185, 186, 187, 34, 188, 36, 189, 190, 191, 192, 138, 139, 140, 141, 142, 143, 126, 159, 100, 101, 193, 102, 103, 104, 105, 106, 107, 108, 194, 195, 196, 197, 198, 199, 200, 201, 239, 240, 241, 242, 243, 244, 245, 246, 247, 248, 249, 250, 251, 252, 253, 254, 255, 256, 257, 258, 259, 260, 261, 262, 263, 264] (by decide +kernel) (by decide +kernel)) (goodIn_sub (fun _ h => List.mem_cons_of_mem _ (List.mem_append_left _ (List.mem_append_left _ (List.mem_append_right _ h)))) (by decide +kernel))) (goodIn_sub (fun _ h => List.mem_cons_of_mem _ (List.mem_append_left _ (List.mem_append_right _ h))) (by decide +kernel))
set_option maxRecDepth 20000 in
theorem gL_steps_L_renew : GoodIn wsL_steps (va_wsS RL 84 yL_renew wsL_renew) := goodIn_app (goodIn_of _ (by decide +kernel)) ggL_steps_L_renew
set_option maxRecDepth 20000 in
theorem ggL_steps_X3_wind : GoodIn wsL_steps wsX3_wind := goodIn_r _ [205, 16, 176, 177, 178, 12, 179, 95, 180, 181, 182, 183, 184, 185, 186, 187, 34, 188, 36, 189, 190, 191, 192, 138, 139, 140, 141, 142, 143, 126, 159, 100, 101, 193, 102, 103, 104, 105, 106, 107, 108, 206, 207, 208, 209, 239, 240, 241, 242, 243, 244, 245, 246, 247, 248, 249, 250, 251, 252, 253, 254, 255, 256, 257, 258, 259, 260, 261, 262, 263, 264] (by decide +kernel) (by decide +kernel)
set_option maxRecDepth 20000 in
theorem gL_steps_X3_wind : GoodIn wsL_steps (wsV RL 89 RX3 yX3_wind wsX3_wind) := goodIn_app (goodIn_of _ (by decide +kernel)) ggL_steps_X3_wind
set_option maxRecDepth 20000 in
theorem ggL_steps_L_ifCopied : GoodIn wsL_steps wsL_ifCopied := goodIn_ca (goodIn_ca (goodIn_r _ [212, 5, 6, 7, 8, 213, 214, 215, 12, 216, 16, 21, 22, 23, 24, 25, 26, 217, 218, 219, 220, 14, 15, 221, 222, 223, 34, 224, 126, 36, 101, 121, 32, 33, 35, 58, 59, 49, 50, 51, 52, 60, 61, 62, 225, 226, 227, 228, 138, 100, 109, 110, 111, 112, 63, 64, 65, 66, 67, 239, 240, 241, 242, 243, 244, 245, 246, 247, 248, 249, 250, 251, 252, 253, 254, 255, 256, 257, 258, 259, 260, 261, 262, 263, 264] (by decide +kernel) (by decide +kernel)) (goodIn_sub (fun _ h => List.mem_cons_of_mem _ (List.mem_append_left _ (List.mem_append_right _ h))) (by decide +kernel))) (goodIn_sub (fun _ h => List.mem_cons_of_mem _ (List.mem_append_left _ (List.mem_append_left _ (List.mem_append_right _ h)))) (by decide +kernel))
set_option maxRecDepth 20000 in
theorem gL_steps_L_ifCopied : GoodIn wsL_steps (va_wsS RL 126 yL_ifCopied wsL_ifCopied) := goodIn_app (goodIn_of _ (by decide +kernel)) ggL_steps_L_ifCopied
set_option maxRecDepth 20000 in
theorem ggL_steps_L_undo : GoodIn wsL_steps wsL_undo := goodIn_ca (goodIn_r _ [231, 232, 7, 233, 234, 235, 12, 236, 237, 238, 95, 16, 180, 185, 186, 187, 34, 188, 36, 189, 190, 191, 192, 138, 139, 140, 141, 142, 143, 126, 159, 100, 101, 193, 102, 103, 104, 105, 106, 107, 108, 239, 240, 241, 242, 243, 244, 245, 246, 247, 248, 249, 250, 251, 252, 253, 254, 255, 256, 257, 258, 259, 260, 261, 262, 263, 264] (by decide +kernel) (by decide +kernel)) (goodIn_sub (fun _ h => List.mem_cons_of_mem _ (List.mem_append_right _ h)) (by decide +kernel))
set_option maxRecDepth 20000 in
theorem gL_steps_L_undo : GoodIn wsL_steps (va_wsS RL 132 yL_undo wsL_undo) := goodIn_app (goodIn_of _ (by decide +kernel)) ggL_steps_L_undo
theorem dL_steps_0 : decode cL_steps 0 = .ok (.aload_n 0, 1) := by decide +kernel
theorem dL_steps_1 : decode cL_steps 1 = .ok (.iload_n 1, 1) := by decide +kernel
theorem dL_steps_2 : decode cL_steps 2 = .ok (.iconst 1, 1) := by decide +kernel
theorem dL_steps_3 : decode cL_steps 3 = .ok (.iconst 1, 1) := by decide +kernel
theorem dL_steps_4 : decode cL_steps 4 = .ok (.invokestatic 94, 3) := by decide +kernel
theorem dL_steps_7 : decode cL_steps 7 = .ok (.istore_n 2, 1) := by decide +kernel
theorem dL_steps_8 : decode cL_steps 8 = .ok (.aload_n 0, 1) := by decide +kernel
theorem dL_steps_9 : decode cL_steps 9 = .ok (.invokestatic 128, 3) := by decide +kernel
theorem dL_steps_12 : decode cL_steps 12 = .ok (.lstore_n 3, 1) := by decide +kernel
theorem dL_steps_13 : decode cL_steps 13 = .ok (.iload_n 1, 1) := by decide +kernel
theorem dL_steps_14 : decode cL_steps 14 = .ok (.iconst 4, 1) := by decide +kernel
theorem dL_steps_15 : decode cL_steps 15 = .ok (.idiv, 1) := by decide +kernel
theorem dL_steps_16 : decode cL_steps 16 = .ok (.iconst 1, 1) := by decide +kernel
theorem dL_steps_17 : decode cL_steps 17 = .ok (.iadd, 1) := by decide +kernel
theorem dL_steps_18 : decode cL_steps 18 = .ok (.bipush 6, 2) := by decide +kernel
theorem dL_steps_20 : decode cL_steps 20 = .ok (.irem, 1) := by decide +kernel
theorem dL_steps_21 : decode cL_steps 21 = .ok (.istore 5, 2) := by decide +kernel
theorem dL_steps_23 : decode cL_steps 23 = .ok (.aload_n 0, 1) := by decide +kernel
theorem dL_steps_24 : decode cL_steps 24 = .ok (.iload 5, 2) := by decide +kernel
theorem dL_steps_26 : decode cL_steps 26 = .ok (.bipush 100, 2) := by decide +kernel
theorem dL_steps_28 : decode cL_steps 28 = .ok (.invokestatic 84, 3) := by decide +kernel
theorem dL_steps_31 : decode cL_steps 31 = .ok (.istore 6, 2) := by decide +kernel
theorem dL_steps_33 : decode cL_steps 33 = .ok (.aload_n 0, 1) := by decide +kernel
theorem dL_steps_34 : decode cL_steps 34 = .ok (.invokevirtual 89, 3) := by decide +kernel
theorem dL_steps_37 : decode cL_steps 37 = .ok (.istore 7, 2) := by decide +kernel
theorem dL_steps_39 : decode cL_steps 39 = .ok (.iconst (-1), 1) := by decide +kernel
theorem dL_steps_40 : decode cL_steps 40 = .ok (.istore 8, 2) := by decide +kernel
theorem dL_steps_42 : decode cL_steps 42 = .ok (.iconst 1, 1) := by decide +kernel
theorem dL_steps_43 : decode cL_steps 43 = .ok (.istore 9, 2) := by decide +kernel
theorem dL_steps_45 : decode cL_steps 45 = .ok (.iload 9, 2) := by decide +kernel
theorem dL_steps_47 : decode cL_steps 47 = .ok (.iconst 4, 1) := by decide +kernel
theorem dL_steps_48 : decode cL_steps 48 = .ok (.if_icmp .ge 38, 3) := by decide +kernel
theorem dL_steps_51 : decode cL_steps 51 = .ok (.aload_n 0, 1) := by decide +kernel
theorem dL_steps_52 : decode cL_steps 52 = .ok (.iload_n 1, 1) := by decide +kernel
theorem dL_steps_53 : decode cL_steps 53 = .ok (.iconst 4, 1) := by decide +kernel
theorem dL_steps_54 : decode cL_steps 54 = .ok (.iload 5, 2) := by decide +kernel
theorem dL_steps_56 : decode cL_steps 56 = .ok (.imul, 1) := by decide +kernel
theorem dL_steps_57 : decode cL_steps 57 = .ok (.iload 9, 2) := by decide +kernel
theorem dL_steps_59 : decode cL_steps 59 = .ok (.invokestatic 126, 3) := by decide +kernel
theorem dL_steps_62 : decode cL_steps 62 = .ok (.istore 10, 2) := by decide +kernel
theorem dL_steps_64 : decode cL_steps 64 = .ok (.iload 10, 2) := by decide +kernel
theorem dL_steps_66 : decode cL_steps 66 = .ok (.iload 8, 2) := by decide +kernel
theorem dL_steps_68 : decode cL_steps 68 = .ok (.if_icmp .le 8, 3) := by decide +kernel
theorem dL_steps_71 : decode cL_steps 71 = .ok (.iload 10, 2) := by decide +kernel
theorem dL_steps_73 : decode cL_steps 73 = .ok (.goto 5, 3) := by decide +kernel
theorem dL_steps_76 : decode cL_steps 76 = .ok (.iload 8, 2) := by decide +kernel
theorem dL_steps_78 : decode cL_steps 78 = .ok (.istore 8, 2) := by decide +kernel
theorem dL_steps_80 : decode cL_steps 80 = .ok (.iinc 9 1, 3) := by decide +kernel
theorem dL_steps_83 : decode cL_steps 83 = .ok (.goto (-38), 3) := by decide +kernel
theorem dL_steps_86 : decode cL_steps 86 = .ok (.iload 6, 2) := by decide +kernel
theorem dL_steps_88 : decode cL_steps 88 = .ok (.ifCond .lt 18, 3) := by decide +kernel
theorem dL_steps_91 : decode cL_steps 91 = .ok (.iload 7, 2) := by decide +kernel
theorem dL_steps_93 : decode cL_steps 93 = .ok (.ifCond .lt 13, 3) := by decide +kernel
theorem dL_steps_96 : decode cL_steps 96 = .ok (.iload 8, 2) := by decide +kernel
theorem dL_steps_98 : decode cL_steps 98 = .ok (.iload_n 2, 1) := by decide +kernel
theorem dL_steps_99 : decode cL_steps 99 = .ok (.if_icmp .ne 7, 3) := by decide +kernel
theorem dL_steps_102 : decode cL_steps 102 = .ok (.iconst 1, 1) := by decide +kernel
theorem dL_steps_103 : decode cL_steps 103 = .ok (.goto 4, 3) := by decide +kernel
theorem dL_steps_106 : decode cL_steps 106 = .ok (.iconst 0, 1) := by decide +kernel
theorem dL_steps_107 : decode cL_steps 107 = .ok (.istore 9, 2) := by decide +kernel
theorem dL_steps_109 : decode cL_steps 109 = .ok (.iload 9, 2) := by decide +kernel
theorem dL_steps_111 : decode cL_steps 111 = .ok (.ifCond .eq 30, 3) := by decide +kernel
theorem dL_steps_114 : decode cL_steps 114 = .ok (.aload_n 0, 1) := by decide +kernel
theorem dL_steps_115 : decode cL_steps 115 = .ok (.invokestatic 132, 3) := by decide +kernel
theorem dL_steps_118 : decode cL_steps 118 = .ok (.ifCond .lt 23, 3) := by decide +kernel
theorem dL_steps_121 : decode cL_steps 121 = .ok (.aload_n 0, 1) := by decide +kernel
theorem dL_steps_122 : decode cL_steps 122 = .ok (.invokestatic 132, 3) := by decide +kernel
theorem dL_steps_125 : decode cL_steps 125 = .ok (.ifCond .lt 16, 3) := by decide +kernel
theorem dL_steps_128 : decode cL_steps 128 = .ok (.aload_n 0, 1) := by decide +kernel
theorem dL_steps_129 : decode cL_steps 129 = .ok (.invokestatic 128, 3) := by decide +kernel
theorem dL_steps_132 : decode cL_steps 132 = .ok (.lload_n 3, 1) := by decide +kernel
theorem dL_steps_133 : decode cL_steps 133 = .ok (.lcmp, 1) := by decide +kernel
theorem dL_steps_134 : decode cL_steps 134 = .ok (.ifCond .ne 7, 3) := by decide +kernel
theorem dL_steps_137 : decode cL_steps 137 = .ok (.iconst 1, 1) := by decide +kernel
theorem dL_steps_138 : decode cL_steps 138 = .ok (.goto 4, 3) := by decide +kernel
theorem dL_steps_141 : decode cL_steps 141 = .ok (.iconst 0, 1) := by decide +kernel
theorem dL_steps_142 : decode cL_steps 142 = .ok (.ireturn, 1) := by decide +kernel
set_option maxRecDepth 20000 in
theorem ggL_shaves_L_cylinderOf : GoodIn wsL_shaves wsL_cylinderOf := goodIn_ca (goodIn_ca (goodIn_r _ [4, 5, 6, 7, 8, 9, 10, 11, 12, 13, 14, 15, 16, 17, 18, 19, 20, 21, 22, 23, 24, 25, 26, 27, 28, 29, 30, 31, 32, 33, 34, 35, 36, 37, 38, 39, 40, 41, 42, 43, 44, 45, 46, 47, 48, 49, 50, 51, 52, 53, 54, 55, 162, 163, 164, 165, 166, 167, 168, 169, 170, 171, 172, 173, 174, 175, 176, 177, 178, 179, 180, 181, 182, 183, 184, 185, 186, 187] (by decide +kernel) (by decide +kernel)) (goodIn_sub (fun _ h => List.mem_cons_of_mem _ (List.mem_append_left _ (List.mem_append_left _ (List.mem_append_right _ h)))) (by decide +kernel))) (goodIn_sub (fun _ h => List.mem_cons_of_mem _ (List.mem_append_left _ (List.mem_append_right _ h))) (by decide +kernel))
set_option maxRecDepth 20000 in
theorem gL_shaves_L_cylinderOf : GoodIn wsL_shaves (va_wsS RL 98 yL_cylinderOf wsL_cylinderOf) := goodIn_app (goodIn_of _ (by decide +kernel)) ggL_shaves_L_cylinderOf
set_option maxRecDepth 20000 in
theorem ggL_shaves_L_count : GoodIn wsL_shaves wsL_count := goodIn_ca (goodIn_r _ [58, 6, 7, 59, 60, 61, 12, 62, 63, 14, 21, 22, 23, 24, 25, 26, 64, 65, 66, 30, 67, 68, 69, 70, 71, 72, 73, 74, 75, 76, 77, 78, 79, 80, 81, 82, 83, 84, 34, 35, 36, 37, 38, 39, 40, 41, 42, 85, 86, 87, 88, 32, 162, 163, 164, 165, 166, 167, 168, 169, 170, 171, 172, 173, 174, 175, 176, 177, 178, 179, 180, 181, 182, 183, 184, 185, 186, 187] (by decide +kernel) (by decide +kernel)) (goodIn_sub (fun _ h => List.mem_cons_of_mem _ (List.mem_append_left _ (List.mem_append_right _ h))) (by decide +kernel))
set_option maxRecDepth 20000 in
theorem gL_shaves_L_count : GoodIn wsL_shaves (va_wsS RL 109 yL_count wsL_count) := goodIn_app (goodIn_of _ (by decide +kernel)) ggL_shaves_L_count
set_option maxRecDepth 20000 in
theorem ggL_shaves_L_print : GoodIn wsL_shaves wsL_print := goodIn_ca (goodIn_ca (goodIn_r _ [91, 92, 93, 94, 95, 96, 12, 97, 14, 98, 56, 57, 3, 58, 6, 7, 59, 60, 61, 62, 63, 21, 22, 23, 24, 25, 26, 64, 65, 66, 30, 67, 68, 69, 70, 71, 72, 73, 74, 75, 76, 77, 78, 79, 80, 81, 82, 83, 84, 34, 35, 36, 37, 38, 39, 40, 41, 42, 85, 86, 87, 88, 32, 99, 100, 101, 5, 8, 102, 103, 104, 105, 106, 107, 108, 109, 19, 20, 110, 111, 112, 113, 55, 114, 115, 116, 117, 118, 1, 2, 4, 9, 10, 11, 13, 15, 16, 17, 18, 27, 28, 29, 31, 33, 43, 44, 45, 46, 47, 48, 49, 50, 51, 52, 53, 54, 162, 163, 164, 165, 166, 167, 168, 169, 170, 171, 172, 173, 174, 175, 176, 177, 178, 179, 180, 181, 182, 183, 184, 185, 186, 187] (by decide +kernel) (by decide +kernel)) (goodIn_sub (fun _ h => List.mem_cons_of_mem _ (List.mem_append_left _ (List.mem_append_right _ h))) (by decide +kernel))) (goodIn_sub (fun _ h => List.mem_cons_of_mem _ (List.mem_append_left _ (List.mem_append_left _ (List.mem_append_right _ h)))) (by decide +kernel))
set_option maxRecDepth 20000 in
theorem gL_shaves_L_print : GoodIn wsL_shaves (va_wsS RL 128 yL_print wsL_print) := goodIn_app (goodIn_of _ (by decide +kernel)) ggL_shaves_L_print
set_option maxRecDepth 20000 in
theorem ggL_shaves_L_shave : GoodIn wsL_shaves wsL_shave := goodIn_ca (goodIn_r _ [121, 5, 7, 122, 123, 124, 12, 125, 14, 15, 16, 17, 18, 19, 20, 126, 127, 128, 129, 63, 130, 131, 132, 133, 134, 135, 136, 137, 30, 138, 42, 139, 140, 141, 142, 55, 114, 115, 116, 117, 118, 32, 33, 68, 69, 143, 70, 71, 72, 73, 74, 75, 76, 144, 145, 146, 147, 43, 44, 45, 46, 47, 48, 49, 50, 148, 149, 150, 151, 162, 163, 164, 165, 166, 167, 168, 169, 170, 171, 172, 173, 174, 175, 176, 177, 178, 179, 180, 181, 182, 183, 184, 185, 186, 187] (by decide +kernel) (by decide +kernel)) (goodIn_sub (fun _ h => List.mem_cons_of_mem _ (List.mem_append_left _ (List.mem_append_left _ (List.mem_append_right _ h)))) (by decide +kernel))
set_option maxRecDepth 20000 in
theorem gL_shaves_L_shave : GoodIn wsL_shaves (va_wsS RL 80 yL_shave wsL_shave) := goodIn_app (goodIn_of _ (by decide +kernel)) ggL_shaves_L_shave
set_option maxRecDepth 20000 in
theorem ggL_shaves_L_undo : GoodIn wsL_shaves wsL_undo := goodIn_ca (goodIn_r _ [154, 155, 7, 156, 157, 158, 12, 159, 160, 161, 63, 14, 130, 135, 136, 137, 30, 138, 42, 139, 140, 141, 142, 55, 114, 115, 116, 117, 118, 32, 33, 68, 69, 143, 70, 71, 72, 73, 74, 75, 76, 162, 163, 164, 165, 166, 167, 168, 169, 170, 171, 172, 173, 174, 175, 176, 177, 178, 179, 180, 181, 182, 183, 184, 185, 186, 187] (by decide +kernel) (by decide +kernel)) (goodIn_sub (fun _ h => List.mem_cons_of_mem _ (List.mem_append_right _ h)) (by decide +kernel))
set_option maxRecDepth 20000 in
theorem gL_shaves_L_undo : GoodIn wsL_shaves (va_wsS RL 132 yL_undo wsL_undo) := goodIn_app (goodIn_of _ (by decide +kernel)) ggL_shaves_L_undo
theorem dL_shaves_0 : decode cL_shaves 0 = .ok (.aload_n 0, 1) := by decide +kernel
theorem dL_shaves_1 : decode cL_shaves 1 = .ok (.iload_n 1, 1) := by decide +kernel
theorem dL_shaves_2 : decode cL_shaves 2 = .ok (.iconst 2, 1) := by decide +kernel
theorem dL_shaves_3 : decode cL_shaves 3 = .ok (.invokestatic 98, 3) := by decide +kernel
theorem dL_shaves_6 : decode cL_shaves 6 = .ok (.istore_n 2, 1) := by decide +kernel
theorem dL_shaves_7 : decode cL_shaves 7 = .ok (.aload_n 0, 1) := by decide +kernel
theorem dL_shaves_8 : decode cL_shaves 8 = .ok (.iload_n 1, 1) := by decide +kernel
theorem dL_shaves_9 : decode cL_shaves 9 = .ok (.iconst 0, 1) := by decide +kernel
theorem dL_shaves_10 : decode cL_shaves 10 = .ok (.invokestatic 98, 3) := by decide +kernel
theorem dL_shaves_13 : decode cL_shaves 13 = .ok (.istore_n 3, 1) := by decide +kernel
theorem dL_shaves_14 : decode cL_shaves 14 = .ok (.aload_n 0, 1) := by decide +kernel
theorem dL_shaves_15 : decode cL_shaves 15 = .ok (.bipush 8, 2) := by decide +kernel
theorem dL_shaves_17 : decode cL_shaves 17 = .ok (.invokestatic 109, 3) := by decide +kernel
theorem dL_shaves_20 : decode cL_shaves 20 = .ok (.istore 4, 2) := by decide +kernel
theorem dL_shaves_22 : decode cL_shaves 22 = .ok (.aload_n 0, 1) := by decide +kernel
theorem dL_shaves_23 : decode cL_shaves 23 = .ok (.invokestatic 128, 3) := by decide +kernel
theorem dL_shaves_26 : decode cL_shaves 26 = .ok (.lstore 5, 2) := by decide +kernel
theorem dL_shaves_28 : decode cL_shaves 28 = .ok (.aload_n 0, 1) := by decide +kernel
theorem dL_shaves_29 : decode cL_shaves 29 = .ok (.iload_n 1, 1) := by decide +kernel
theorem dL_shaves_30 : decode cL_shaves 30 = .ok (.invokestatic 80, 3) := by decide +kernel
theorem dL_shaves_33 : decode cL_shaves 33 = .ok (.istore 7, 2) := by decide +kernel
theorem dL_shaves_35 : decode cL_shaves 35 = .ok (.iload 7, 2) := by decide +kernel
theorem dL_shaves_37 : decode cL_shaves 37 = .ok (.iload_n 2, 1) := by decide +kernel
theorem dL_shaves_38 : decode cL_shaves 38 = .ok (.ifCond .ne 7, 3) := by decide +kernel
theorem dL_shaves_41 : decode cL_shaves 41 = .ok (.iconst (-1), 1) := by decide +kernel
theorem dL_shaves_42 : decode cL_shaves 42 = .ok (.goto 4, 3) := by decide +kernel
theorem dL_shaves_45 : decode cL_shaves 45 = .ok (.iload_n 2, 1) := by decide +kernel
theorem dL_shaves_46 : decode cL_shaves 46 = .ok (.if_icmp .ne 41, 3) := by decide +kernel
theorem dL_shaves_49 : decode cL_shaves 49 = .ok (.aload_n 0, 1) := by decide +kernel
theorem dL_shaves_50 : decode cL_shaves 50 = .ok (.iload_n 1, 1) := by decide +kernel
theorem dL_shaves_51 : decode cL_shaves 51 = .ok (.iconst 0, 1) := by decide +kernel
theorem dL_shaves_52 : decode cL_shaves 52 = .ok (.invokestatic 98, 3) := by decide +kernel
theorem dL_shaves_55 : decode cL_shaves 55 = .ok (.iload_n 3, 1) := by decide +kernel
theorem dL_shaves_56 : decode cL_shaves 56 = .ok (.iload_n 2, 1) := by decide +kernel
theorem dL_shaves_57 : decode cL_shaves 57 = .ok (.isub, 1) := by decide +kernel
theorem dL_shaves_58 : decode cL_shaves 58 = .ok (.if_icmp .ne 29, 3) := by decide +kernel
theorem dL_shaves_61 : decode cL_shaves 61 = .ok (.aload_n 0, 1) := by decide +kernel
theorem dL_shaves_62 : decode cL_shaves 62 = .ok (.bipush 8, 2) := by decide +kernel
theorem dL_shaves_64 : decode cL_shaves 64 = .ok (.invokestatic 109, 3) := by decide +kernel
theorem dL_shaves_67 : decode cL_shaves 67 = .ok (.iload 4, 2) := by decide +kernel
theorem dL_shaves_69 : decode cL_shaves 69 = .ok (.iload_n 2, 1) := by decide +kernel
theorem dL_shaves_70 : decode cL_shaves 70 = .ok (.iadd, 1) := by decide +kernel
theorem dL_shaves_71 : decode cL_shaves 71 = .ok (.if_icmp .ne 16, 3) := by decide +kernel
theorem dL_shaves_74 : decode cL_shaves 74 = .ok (.aload_n 0, 1) := by decide +kernel
theorem dL_shaves_75 : decode cL_shaves 75 = .ok (.iload_n 1, 1) := by decide +kernel
theorem dL_shaves_76 : decode cL_shaves 76 = .ok (.iconst 1, 1) := by decide +kernel
theorem dL_shaves_77 : decode cL_shaves 77 = .ok (.invokestatic 98, 3) := by decide +kernel
theorem dL_shaves_80 : decode cL_shaves 80 = .ok (.ifCond .ne 7, 3) := by decide +kernel
theorem dL_shaves_83 : decode cL_shaves 83 = .ok (.iconst 1, 1) := by decide +kernel
theorem dL_shaves_84 : decode cL_shaves 84 = .ok (.goto 4, 3) := by decide +kernel
theorem dL_shaves_87 : decode cL_shaves 87 = .ok (.iconst 0, 1) := by decide +kernel
theorem dL_shaves_88 : decode cL_shaves 88 = .ok (.istore 8, 2) := by decide +kernel
theorem dL_shaves_90 : decode cL_shaves 90 = .ok (.iload 8, 2) := by decide +kernel
theorem dL_shaves_92 : decode cL_shaves 92 = .ok (.ifCond .eq 24, 3) := by decide +kernel
theorem dL_shaves_95 : decode cL_shaves 95 = .ok (.aload_n 0, 1) := by decide +kernel
theorem dL_shaves_96 : decode cL_shaves 96 = .ok (.invokestatic 132, 3) := by decide +kernel
theorem dL_shaves_99 : decode cL_shaves 99 = .ok (.ifCond .lt 17, 3) := by decide +kernel
theorem dL_shaves_102 : decode cL_shaves 102 = .ok (.aload_n 0, 1) := by decide +kernel
theorem dL_shaves_103 : decode cL_shaves 103 = .ok (.invokestatic 128, 3) := by decide +kernel
theorem dL_shaves_106 : decode cL_shaves 106 = .ok (.lload 5, 2) := by decide +kernel
theorem dL_shaves_108 : decode cL_shaves 108 = .ok (.lcmp, 1) := by decide +kernel
theorem dL_shaves_109 : decode cL_shaves 109 = .ok (.ifCond .ne 7, 3) := by decide +kernel
theorem dL_shaves_112 : decode cL_shaves 112 = .ok (.iconst 1, 1) := by decide +kernel
theorem dL_shaves_113 : decode cL_shaves 113 = .ok (.goto 4, 3) := by decide +kernel
theorem dL_shaves_116 : decode cL_shaves 116 = .ok (.iconst 0, 1) := by decide +kernel
theorem dL_shaves_117 : decode cL_shaves 117 = .ok (.ireturn, 1) := by decide +kernel
end
section
set_option maxRecDepth 20000 in
theorem ggL_law_X3_init : GoodIn wsL_law wsX3_init := goodIn_r _ [5, 6, 7, 8, 9, 10, 11, 12, 13, 14, 15, 16, 17, 18, 19, 20, 21, 22, 23, 24, 25, 26, 27, 28, 29, 30, 31, 32, 33, 34, 35, 36, 37, 38, 39, 40, 41, 42, 43, 44, 45, 46, 47, 48, 49, 50, 51, 52, 53, 54, 55, 56, 57, 58, 59, 60, 61, 435, 436, 437, 438, 439, 440, 441, 442, 443, 444, 445, 446, 447, 448, 449, 450, 451, 452, 453, 428, 429, 430, 431, 432, 433, 434, 454, 455, 456, 457] (by decide +kernel) (by decide +kernel)
set_option maxRecDepth 20000 in
theorem gL_law_X3_init : GoodIn wsL_law (wsX3_init) := ggL_law_X3_init
set_option maxRecDepth 20000 in
theorem ggL_law_L_hangs : GoodIn wsL_law wsL_hangs := goodIn_ca (goodIn_ca (goodIn_r _ [65, 66, 67, 64, 68, 69, 70, 71, 72, 73, 74, 75, 76, 77, 78, 2, 79, 12, 80, 81, 82, 83, 84, 85, 86, 87, 88, 89, 90, 91, 92, 93, 94, 11, 95, 31, 32, 33, 34, 35, 36, 37, 96, 97, 98, 99, 100, 101, 102, 103, 104, 105, 106, 107, 108, 25, 109, 110, 111, 112, 113, 24, 114, 60, 61, 115, 116, 117, 118, 119, 120, 121, 122, 123, 124, 125, 126, 127, 128, 129, 130, 131, 132, 133, 134, 135, 136, 137, 138, 139, 140, 141, 142, 143, 144, 145, 146, 147, 148, 149, 150, 151, 152, 153, 154, 155, 156, 157, 158, 159, 160, 161, 162, 163, 38, 41, 164, 165, 166, 167, 168, 169, 170, 171, 172, 173, 174, 175, 176, 177, 178, 39, 179, 180, 181, 182, 183, 184, 185, 186, 187, 188, 189, 190, 191, 192, 193, 194, 195, 196, 197, 198, 199, 200, 201, 202, 203, 204, 205, 206, 207, 208, 209, 210, 211, 212, 213, 214, 215, 216, 217, 218, 219, 220, 221, 222, 223, 224, 225, 17, 226, 227, 228, 229, 40, 43, 44, 45, 46, 47, 48, 49, 230, 231, 232, 233, 234, 235, 236, 237, 238, 239, 240, 241, 242, 243, 244, 245, 246, 247, 248, 249, 250, 251, 252, 253, 254, 255, 256, 257, 258, 428, 429, 430, 431, 432, 433, 434, 435, 436, 437, 438, 439, 440, 441, 442, 443, 444, 445, 446, 447, 448, 449, 450, 451, 452, 453, 456, 457] (by decide +kernel) (by decide +kernel)) (goodIn_sub (fun _ h => List.mem_append_left _ (List.mem_append_left _ (List.mem_append_right _ h))) (by decide +kernel))) (goodIn_sub (fun _ h => List.mem_append_left _ (List.mem_append_right _ h)) (by decide +kernel))
set_option maxRecDepth 20000 in
theorem gL_law_L_hangs : GoodIn wsL_law (va_wsS RL 136 yL_hangs wsL_hangs) := goodIn_app (goodIn_of _ (by decide +kernel)) ggL_law_L_hangs
set_option maxRecDepth 20000 in
theorem ggL_law_L_at : GoodIn wsL_law wsL_at := goodIn_r _ [261, 262, 263] (by decide +kernel) (by decide +kernel)
set_option maxRecDepth 20000 in
theorem gL_law_L_at : GoodIn wsL_law (va_wsS RL 140 yL_at wsL_at) := goodIn_app (goodIn_of _ (by decide +kernel)) ggL_law_L_at
set_option maxRecDepth 20000 in
theorem ggL_law_L_count : GoodIn wsL_law wsL_count := goodIn_ca (goodIn_r _ [221, 73, 74, 222, 223, 224, 2, 225, 17, 12, 86, 87, 88, 89, 90, 91, 226, 227, 228, 11, 229, 40, 41, 43, 44, 45, 46, 47, 48, 49, 230, 231, 232, 233, 234, 235, 236, 237, 179, 180, 181, 182, 96, 97, 98, 99, 31, 238, 239, 240, 241, 38, 428, 429, 430, 431, 432, 433, 434, 435, 436, 437, 438, 439, 440, 441, 442, 443, 444, 445, 446, 447, 448, 449, 450, 451, 452, 453] (by decide +kernel) (by decide +kernel)) (goodIn_sub (fun _ h => List.mem_append_left _ (List.mem_append_right _ h)) (by decide +kernel))
set_option maxRecDepth 20000 in
theorem gL_law_L_count : GoodIn wsL_law (va_wsS RL 109 yL_count wsL_count) := goodIn_app (goodIn_of _ (by decide +kernel)) ggL_law_L_count
set_option maxRecDepth 20000 in
theorem ggL_law_L_print : GoodIn wsL_law wsL_print := goodIn_ca (goodIn_ca (goodIn_r _ [266, 267, 268, 269, 270, 271, 2, 272, 12, 273, 219, 220, 64, 221, 73, 74, 222, 223, 224, 225, 17, 86, 87, 88, 89, 90, 91, 226, 227, 228, 11, 229, 40, 41, 43, 44, 45, 46, 47, 48, 49, 230, 231, 232, 233, 234, 235, 236, 237, 179, 180, 181, 182, 96, 97, 98, 99, 31, 238, 239, 240, 241, 38, 69, 70, 71, 72, 75, 76, 77, 78, 79, 80, 81, 82, 83, 84, 85, 92, 93, 94, 95, 32, 33, 34, 35, 36, 37, 164, 165, 166, 167, 168, 169, 170, 171, 172, 173, 174, 175, 176, 177, 178, 39, 183, 184, 185, 186, 187, 121, 122, 123, 188, 189, 190, 191, 428, 429, 430, 431, 432, 433, 434, 435, 436, 437, 438, 439, 440, 441, 442, 443, 444, 445, 446, 447, 448, 449, 450, 451, 452, 453] (by decide +kernel) (by decide +kernel)) (goodIn_sub (fun _ h => List.mem_append_left _ (List.mem_append_right _ h)) (by decide +kernel))) (goodIn_sub (fun _ h => List.mem_append_left _ (List.mem_append_left _ (List.mem_append_right _ h))) (by decide +kernel))
set_option maxRecDepth 20000 in
theorem gL_law_L_print : GoodIn wsL_law (va_wsS RL 128 yL_print wsL_print) := goodIn_app (goodIn_of _ (by decide +kernel)) ggL_law_L_print
set_option maxRecDepth 20000 in
theorem ggL_law_L_act : GoodIn wsL_law wsL_act := goodIn_ca (goodIn_ca (goodIn_r _ [276, 277, 278, 64, 279, 280, 281, 282, 283, 72, 73, 74, 75, 284, 285, 286, 2, 287, 12, 80, 81, 82, 83, 84, 85, 156, 157, 158, 159, 90, 91, 288, 289, 290, 291, 17, 16, 292, 293, 294, 295, 296, 297, 298, 11, 299, 31, 300, 301, 302, 303, 32, 33, 34, 35, 36, 37, 38, 39, 40, 41, 42, 43, 44, 45, 46, 47, 48, 49, 304, 305, 306, 307, 308, 161, 162, 163, 96, 97, 98, 99, 137, 138, 230, 231, 232, 233, 309, 310, 311, 312, 118, 119, 120, 121, 122, 123, 313, 314, 315, 316, 317, 318, 319, 320, 321, 322, 323, 324, 325, 326, 327, 328, 132, 133, 329, 330, 331, 332, 129, 130, 131, 333, 334, 335, 336, 134, 135, 136, 337, 338, 339, 340, 341, 342, 343, 344, 345, 346, 347, 187, 348, 349, 350, 351, 352, 353, 354, 171, 172, 173, 174, 355, 356, 357, 358, 183, 184, 185, 186, 359, 360, 361, 362, 363, 364, 365, 366, 367, 368, 369, 273, 370, 371, 372, 373, 374, 375, 376, 377, 378, 379, 380, 381, 382, 383, 384, 385, 386, 387, 388, 389, 390, 391, 392, 393, 394, 395, 396, 428, 429, 430, 431, 432, 433, 434, 435, 436, 437, 438, 439, 440, 441, 442, 443, 444, 445, 446, 447, 448, 449, 450, 451, 452, 453] (by decide +kernel) (by decide +kernel)) (goodIn_sub (fun _ h => List.mem_append_left _ (List.mem_append_left _ (List.mem_append_right _ h))) (by decide +kernel))) (goodIn_sub (fun _ h => List.mem_append_left _ (List.mem_append_right _ h)) (by decide +kernel))
set_option maxRecDepth 20000 in
theorem gL_law_L_act : GoodIn wsL_law (va_wsS RL 144 yL_act wsL_act) := goodIn_app (goodIn_of _ (by decide +kernel)) ggL_law_L_act
set_option maxRecDepth 20000 in
theorem ggL_law_L_low : GoodIn wsL_law wsL_low := goodIn_r _ [279, 280] (by decide +kernel) (by decide +kernel)
set_option maxRecDepth 20000 in
theorem gL_law_L_low : GoodIn wsL_law (va_wsS RL 66 yL_low wsL_low) := goodIn_app (goodIn_of _ (by decide +kernel)) ggL_law_L_low
set_option maxRecDepth 20000 in
theorem ggL_law_L_undo : GoodIn wsL_law wsL_undo := goodIn_ca (goodIn_r _ [399, 400, 74, 401, 402, 403, 2, 404, 405, 406, 17, 12, 16, 296, 297, 298, 11, 299, 31, 300, 301, 302, 303, 32, 33, 34, 35, 36, 37, 38, 39, 40, 41, 42, 43, 44, 45, 46, 47, 48, 49, 428, 429, 430, 431, 432, 433, 434, 435, 436, 437, 438, 439, 440, 441, 442, 443, 444, 445, 446, 447, 448, 449, 450, 451, 452, 453] (by decide +kernel) (by decide +kernel)) (goodIn_sub (fun _ h => List.mem_append_right _ h) (by decide +kernel))
set_option maxRecDepth 20000 in
theorem gL_law_L_undo : GoodIn wsL_law (va_wsS RL 132 yL_undo wsL_undo) := goodIn_app (goodIn_of _ (by decide +kernel)) ggL_law_L_undo
set_option maxRecDepth 20000 in
theorem ggL_law_L_copies : GoodIn wsL_law wsL_copies := goodIn_ca (goodIn_ca (goodIn_ca (goodIn_r _ [409, 410, 411, 64, 412, 72, 73, 74, 75, 413, 414, 415, 2, 416, 12, 80, 81, 82, 83, 84, 85, 320, 321, 322, 323, 90, 91, 417, 330, 331, 11, 332, 38, 31, 41, 96, 97, 98, 99, 129, 130, 120, 121, 122, 123, 131, 132, 133, 418, 334, 335, 336, 32, 40, 230, 231, 232, 233, 134, 135, 136, 137, 138, 192, 193, 194, 195, 196, 197, 198, 199, 200, 201, 202, 203, 204, 205, 206, 35, 219, 220, 221, 222, 223, 224, 225, 17, 86, 87, 88, 89, 226, 227, 228, 229, 43, 44, 45, 46, 47, 48, 49, 234, 235, 236, 237, 179, 180, 181, 182, 238, 239, 240, 241, 264, 265, 266, 267, 268, 269, 270, 271, 272, 273, 69, 70, 71, 76, 77, 78, 79, 92, 93, 94, 95, 33, 34, 36, 37, 164, 165, 166, 167, 168, 169, 170, 171, 172, 173, 174, 175, 176, 177, 178, 39, 183, 184, 185, 186, 187, 188, 189, 190, 191, 313, 314, 315, 316, 317, 318, 319, 288, 289, 290, 291, 16, 292, 293, 294, 295, 296, 297, 298, 299, 300, 301, 302, 303, 42, 324, 325, 326, 327, 328, 329, 333, 309, 310, 311, 312, 118, 119, 397, 398, 399, 400, 401, 402, 403, 404, 405, 406, 428, 429, 430, 431, 432, 433, 434, 435, 436, 437, 438, 439, 440, 441, 442, 443, 444, 445, 446, 447, 448, 449, 450, 451, 452, 453] (by decide +kernel) (by decide +kernel)) (goodIn_sub (fun _ h => List.mem_append_left _ (List.mem_append_left _ (List.mem_append_right _ h))) (by decide +kernel))) (goodIn_sub (fun _ h => List.mem_append_left _ (List.mem_append_right _ h)) (by decide +kernel))) (goodIn_sub (fun _ h => List.mem_append_right _ h) (by decide +kernel))
set_option maxRecDepth 20000 in
theorem gL_law_L_copies : GoodIn wsL_law (va_wsS RL 147 yL_copies wsL_copies) := goodIn_app (goodIn_of _ (by decide +kernel)) ggL_law_L_copies
set_option maxRecDepth 20000 in
theorem ggL_law_L_speaks : GoodIn wsL_law wsL_speaks := goodIn_ca (goodIn_ca (goodIn_ca (goodIn_r _ [421, 149, 150, 64, 151, 72, 73, 74, 75, 152, 153, 154, 2, 155, 12, 80, 81, 82, 83, 84, 85, 156, 157, 158, 159, 90, 91, 160, 161, 162, 11, 163, 38, 41, 96, 97, 98, 99, 31, 264, 265, 266, 267, 268, 269, 270, 271, 272, 273, 219, 220, 221, 222, 223, 224, 225, 17, 86, 87, 88, 89, 226, 227, 228, 229, 40, 43, 44, 45, 46, 47, 48, 49, 230, 231, 232, 233, 234, 235, 236, 237, 179, 180, 181, 182, 238, 239, 240, 241, 69, 70, 71, 76, 77, 78, 79, 92, 93, 94, 95, 32, 33, 34, 35, 36, 37, 164, 165, 166, 167, 168, 169, 170, 171, 172, 173, 174, 175, 176, 177, 178, 39, 183, 184, 185, 186, 187, 121, 122, 123, 188, 189, 190, 191, 281, 282, 283, 284, 285, 286, 287, 288, 289, 290, 291, 16, 292, 293, 294, 295, 296, 297, 298, 299, 300, 301, 302, 303, 42, 304, 305, 306, 307, 308, 137, 138, 309, 310, 311, 312, 118, 119, 120, 397, 398, 399, 400, 401, 402, 403, 404, 405, 406, 428, 429, 430, 431, 432, 433, 434, 435, 436, 437, 438, 439, 440, 441, 442, 443, 444, 445, 446, 447, 448, 449, 450, 451, 452, 453] (by decide +kernel) (by decide +kernel)) (goodIn_sub (fun _ h => List.mem_append_left _ (List.mem_append_left _ (List.mem_append_right _ h))) (by decide +kernel))) (goodIn_sub (fun _ h => List.mem_append_left _ (List.mem_append_right _ h)) (by decide +kernel))) (goodIn_sub (fun _ h => List.mem_append_right _ h) (by decide +kernel))
set_option maxRecDepth 20000 in
theorem gL_law_L_speaks : GoodIn wsL_law (va_wsS RL 151 yL_speaks wsL_speaks) := goodIn_app (goodIn_of _ (by decide +kernel)) ggL_law_L_speaks
set_option maxRecDepth 20000 in
theorem ggL_law_L_steps : GoodIn wsL_law wsL_steps := goodIn_ca (goodIn_ca (goodIn_ca (goodIn_r _ [424, 100, 101, 64, 102, 72, 73, 74, 75, 103, 104, 105, 2, 106, 90, 91, 12, 107, 108, 25, 109, 80, 81, 82, 83, 84, 85, 86, 87, 88, 89, 110, 97, 98, 11, 99, 31, 111, 112, 113, 24, 114, 60, 61, 115, 116, 117, 118, 119, 120, 121, 122, 123, 124, 125, 126, 127, 128, 129, 130, 131, 132, 133, 134, 135, 136, 137, 138, 139, 140, 141, 142, 143, 144, 145, 146, 147, 148, 264, 265, 266, 267, 268, 269, 270, 271, 272, 273, 219, 220, 221, 222, 223, 224, 225, 17, 226, 227, 228, 229, 40, 41, 43, 44, 45, 46, 47, 48, 49, 230, 231, 232, 233, 234, 235, 236, 237, 179, 180, 181, 182, 96, 238, 239, 240, 241, 38, 69, 70, 71, 76, 77, 78, 79, 92, 93, 94, 95, 32, 33, 34, 35, 36, 37, 164, 165, 166, 167, 168, 169, 170, 171, 172, 173, 174, 175, 176, 177, 178, 39, 183, 184, 185, 186, 187, 188, 189, 190, 191, 370, 371, 372, 373, 374, 375, 376, 288, 289, 290, 291, 16, 292, 293, 294, 295, 296, 297, 298, 299, 300, 301, 302, 303, 42, 377, 378, 379, 380, 359, 360, 361, 362, 389, 390, 391, 392, 393, 394, 395, 396, 410, 411, 412, 413, 414, 415, 416, 320, 321, 322, 323, 417, 330, 331, 332, 418, 334, 335, 336, 397, 398, 399, 400, 401, 402, 403, 404, 405, 406, 428, 429, 430, 431, 432, 433, 434, 435, 436, 437, 438, 439, 440, 441, 442, 443, 444, 445, 446, 447, 448, 449, 450, 451, 452, 453, 456, 457] (by decide +kernel) (by decide +kernel)) (goodIn_sub (fun _ h => List.mem_append_left _ (List.mem_append_right _ h)) (by decide +kernel))) (goodIn_sub (fun _ h => List.mem_append_left _ (List.mem_append_left _ (List.mem_append_right _ h))) (by decide +kernel))) (goodIn_sub (fun _ h => List.mem_append_right _ h) (by decide +kernel))
set_option maxRecDepth 20000 in
theorem gL_law_L_steps : GoodIn wsL_law (va_wsS RL 155 yL_steps wsL_steps) := goodIn_app (goodIn_of _ (by decide +kernel)) ggL_law_L_steps
set_option maxRecDepth 20000 in
theorem ggL_law_L_shaves : GoodIn wsL_law wsL_shaves := goodIn_ca (goodIn_ca (goodIn_ca (goodIn_r _ [427, 164, 165, 64, 166, 72, 73, 74, 75, 167, 168, 169, 2, 170, 12, 171, 172, 173, 174, 84, 85, 86, 87, 88, 89, 90, 91, 175, 176, 177, 11, 178, 38, 39, 179, 180, 181, 182, 96, 97, 98, 99, 31, 183, 184, 185, 186, 187, 121, 122, 123, 188, 189, 190, 191, 32, 219, 220, 221, 222, 223, 224, 225, 17, 226, 227, 228, 229, 40, 41, 43, 44, 45, 46, 47, 48, 49, 230, 231, 232, 233, 234, 235, 236, 237, 238, 239, 240, 241, 264, 265, 266, 267, 268, 269, 270, 271, 272, 273, 69, 70, 71, 76, 77, 78, 79, 80, 81, 82, 83, 92, 93, 94, 95, 33, 34, 35, 36, 37, 348, 349, 350, 351, 352, 353, 354, 288, 289, 290, 291, 16, 292, 293, 294, 295, 296, 297, 298, 299, 300, 301, 302, 303, 42, 355, 356, 357, 358, 359, 360, 361, 362, 397, 398, 399, 400, 401, 402, 403, 404, 405, 406, 428, 429, 430, 431, 432, 433, 434, 435, 436, 437, 438, 439, 440, 441, 442, 443, 444, 445, 446, 447, 448, 449, 450, 451, 452, 453] (by decide +kernel) (by decide +kernel)) (goodIn_sub (fun _ h => List.mem_append_left _ (List.mem_append_left _ (List.mem_append_right _ h))) (by decide +kernel))) (goodIn_sub (fun _ h => List.mem_append_left _ (List.mem_append_right _ h)) (by decide +kernel))) (goodIn_sub (fun _ h => List.mem_append_right _ h) (by decide +kernel))
set_option maxRecDepth 20000 in
theorem gL_law_L_shaves : GoodIn wsL_law (va_wsS RL 158 yL_shaves wsL_shaves) := goodIn_app (goodIn_of _ (by decide +kernel)) ggL_law_L_shaves
theorem dL_law_0 : decode cL_law 0 = .ok (.new 11, 3) := by decide +kernel
theorem dL_law_3 : decode cL_law 3 = .ok (.dup, 1) := by decide +kernel
theorem dL_law_4 : decode cL_law 4 = .ok (.invokespecial 135, 3) := by decide +kernel
theorem dL_law_7 : decode cL_law 7 = .ok (.astore_n 1, 1) := by decide +kernel
theorem dL_law_8 : decode cL_law 8 = .ok (.aload_n 1, 1) := by decide +kernel
theorem dL_law_9 : decode cL_law 9 = .ok (.invokestatic 136, 3) := by decide +kernel
theorem dL_law_12 : decode cL_law 12 = .ok (.istore_n 2, 1) := by decide +kernel
theorem dL_law_13 : decode cL_law 13 = .ok (.iconst 0, 1) := by decide +kernel
theorem dL_law_14 : decode cL_law 14 = .ok (.istore_n 3, 1) := by decide +kernel
theorem dL_law_15 : decode cL_law 15 = .ok (.iload_n 3, 1) := by decide +kernel
theorem dL_law_16 : decode cL_law 16 = .ok (.bipush 40, 2) := by decide +kernel
theorem dL_law_18 : decode cL_law 18 = .ok (.if_icmp .ge 275, 3) := by decide +kernel
theorem dL_law_21 : decode cL_law 21 = .ok (.iload_n 2, 1) := by decide +kernel
theorem dL_law_22 : decode cL_law 22 = .ok (.ifCond .eq 271, 3) := by decide +kernel
theorem dL_law_25 : decode cL_law 25 = .ok (.aload_n 0, 1) := by decide +kernel
theorem dL_law_26 : decode cL_law 26 = .ok (.iconst 2, 1) := by decide +kernel
theorem dL_law_27 : decode cL_law 27 = .ok (.iload_n 3, 1) := by decide +kernel
theorem dL_law_28 : decode cL_law 28 = .ok (.imul, 1) := by decide +kernel
theorem dL_law_29 : decode cL_law 29 = .ok (.invokestatic 140, 3) := by decide +kernel
theorem dL_law_32 : decode cL_law 32 = .ok (.istore 4, 2) := by decide +kernel
theorem dL_law_34 : decode cL_law 34 = .ok (.aload_n 0, 1) := by decide +kernel
theorem dL_law_35 : decode cL_law 35 = .ok (.iconst 2, 1) := by decide +kernel
theorem dL_law_36 : decode cL_law 36 = .ok (.iload_n 3, 1) := by decide +kernel
theorem dL_law_37 : decode cL_law 37 = .ok (.imul, 1) := by decide +kernel
theorem dL_law_38 : decode cL_law 38 = .ok (.iconst 1, 1) := by decide +kernel
theorem dL_law_39 : decode cL_law 39 = .ok (.iadd, 1) := by decide +kernel
theorem dL_law_40 : decode cL_law 40 = .ok (.invokestatic 140, 3) := by decide +kernel
theorem dL_law_43 : decode cL_law 43 = .ok (.istore 5, 2) := by decide +kernel
theorem dL_law_45 : decode cL_law 45 = .ok (.aload_n 1, 1) := by decide +kernel
theorem dL_law_46 : decode cL_law 46 = .ok (.bipush 12, 2) := by decide +kernel
theorem dL_law_48 : decode cL_law 48 = .ok (.invokestatic 109, 3) := by decide +kernel
theorem dL_law_51 : decode cL_law 51 = .ok (.istore 6, 2) := by decide +kernel
theorem dL_law_53 : decode cL_law 53 = .ok (.aload_n 1, 1) := by decide +kernel
theorem dL_law_54 : decode cL_law 54 = .ok (.invokestatic 128, 3) := by decide +kernel
theorem dL_law_57 : decode cL_law 57 = .ok (.lstore 7, 2) := by decide +kernel
theorem dL_law_59 : decode cL_law 59 = .ok (.aload_n 1, 1) := by decide +kernel
theorem dL_law_60 : decode cL_law 60 = .ok (.iload 4, 2) := by decide +kernel
theorem dL_law_62 : decode cL_law 62 = .ok (.iload 5, 2) := by decide +kernel
theorem dL_law_64 : decode cL_law 64 = .ok (.invokestatic 144, 3) := by decide +kernel
theorem dL_law_67 : decode cL_law 67 = .ok (.istore 9, 2) := by decide +kernel
theorem dL_law_69 : decode cL_law 69 = .ok (.iload 9, 2) := by decide +kernel
theorem dL_law_71 : decode cL_law 71 = .ok (.bipush (-2), 2) := by decide +kernel
theorem dL_law_73 : decode cL_law 73 = .ok (.if_icmp .le 32, 3) := by decide +kernel
theorem dL_law_76 : decode cL_law 76 = .ok (.aload_n 1, 1) := by decide +kernel
theorem dL_law_77 : decode cL_law 77 = .ok (.bipush 12, 2) := by decide +kernel
theorem dL_law_79 : decode cL_law 79 = .ok (.invokestatic 109, 3) := by decide +kernel
theorem dL_law_82 : decode cL_law 82 = .ok (.iload 6, 2) := by decide +kernel
theorem dL_law_84 : decode cL_law 84 = .ok (.bipush 6, 2) := by decide +kernel
theorem dL_law_86 : decode cL_law 86 = .ok (.if_icmp .ge 10, 3) := by decide +kernel
theorem dL_law_89 : decode cL_law 89 = .ok (.iload 6, 2) := by decide +kernel
theorem dL_law_91 : decode cL_law 91 = .ok (.iconst 1, 1) := by decide +kernel
theorem dL_law_92 : decode cL_law 92 = .ok (.iadd, 1) := by decide +kernel
theorem dL_law_93 : decode cL_law 93 = .ok (.goto 5, 3) := by decide +kernel
theorem dL_law_96 : decode cL_law 96 = .ok (.bipush 6, 2) := by decide +kernel
theorem dL_law_98 : decode cL_law 98 = .ok (.if_icmp .ne 7, 3) := by decide +kernel
theorem dL_law_101 : decode cL_law 101 = .ok (.iconst 1, 1) := by decide +kernel
theorem dL_law_102 : decode cL_law 102 = .ok (.goto 4, 3) := by decide +kernel
theorem dL_law_105 : decode cL_law 105 = .ok (.iconst 0, 1) := by decide +kernel
theorem dL_law_106 : decode cL_law 106 = .ok (.istore_n 2, 1) := by decide +kernel
theorem dL_law_107 : decode cL_law 107 = .ok (.iload_n 2, 1) := by decide +kernel
theorem dL_law_108 : decode cL_law 108 = .ok (.ifCond .eq 59, 3) := by decide +kernel
theorem dL_law_111 : decode cL_law 111 = .ok (.iload 6, 2) := by decide +kernel
theorem dL_law_113 : decode cL_law 113 = .ok (.bipush 6, 2) := by decide +kernel
theorem dL_law_115 : decode cL_law 115 = .ok (.if_icmp .ge 52, 3) := by decide +kernel
theorem dL_law_118 : decode cL_law 118 = .ok (.iload 5, 2) := by decide +kernel
theorem dL_law_120 : decode cL_law 120 = .ok (.iconst 5, 1) := by decide +kernel
theorem dL_law_121 : decode cL_law 121 = .ok (.ishr, 1) := by decide +kernel
theorem dL_law_122 : decode cL_law 122 = .ok (.iconst 3, 1) := by decide +kernel
theorem dL_law_123 : decode cL_law 123 = .ok (.invokestatic 66, 3) := by decide +kernel
theorem dL_law_126 : decode cL_law 126 = .ok (.ifCond .ne 41, 3) := by decide +kernel
theorem dL_law_129 : decode cL_law 129 = .ok (.aload_n 1, 1) := by decide +kernel
theorem dL_law_130 : decode cL_law 130 = .ok (.invokestatic 132, 3) := by decide +kernel
theorem dL_law_133 : decode cL_law 133 = .ok (.iload 6, 2) := by decide +kernel
theorem dL_law_135 : decode cL_law 135 = .ok (.if_icmp .ne 30, 3) := by decide +kernel
theorem dL_law_138 : decode cL_law 138 = .ok (.aload_n 1, 1) := by decide +kernel
theorem dL_law_139 : decode cL_law 139 = .ok (.invokestatic 128, 3) := by decide +kernel
theorem dL_law_142 : decode cL_law 142 = .ok (.lload 7, 2) := by decide +kernel
theorem dL_law_144 : decode cL_law 144 = .ok (.lcmp, 1) := by decide +kernel
theorem dL_law_145 : decode cL_law 145 = .ok (.ifCond .ne 20, 3) := by decide +kernel
theorem dL_law_148 : decode cL_law 148 = .ok (.aload_n 1, 1) := by decide +kernel
theorem dL_law_149 : decode cL_law 149 = .ok (.iload 4, 2) := by decide +kernel
theorem dL_law_151 : decode cL_law 151 = .ok (.iload 5, 2) := by decide +kernel
theorem dL_law_153 : decode cL_law 153 = .ok (.invokestatic 144, 3) := by decide +kernel
theorem dL_law_156 : decode cL_law 156 = .ok (.iload 9, 2) := by decide +kernel
theorem dL_law_158 : decode cL_law 158 = .ok (.if_icmp .ne 7, 3) := by decide +kernel
theorem dL_law_161 : decode cL_law 161 = .ok (.iconst 1, 1) := by decide +kernel
theorem dL_law_162 : decode cL_law 162 = .ok (.goto 4, 3) := by decide +kernel
theorem dL_law_165 : decode cL_law 165 = .ok (.iconst 0, 1) := by decide +kernel
theorem dL_law_166 : decode cL_law 166 = .ok (.istore_n 2, 1) := by decide +kernel
theorem dL_law_167 : decode cL_law 167 = .ok (.iload_n 2, 1) := by decide +kernel
theorem dL_law_168 : decode cL_law 168 = .ok (.ifCond .eq 117, 3) := by decide +kernel
theorem dL_law_171 : decode cL_law 171 = .ok (.iload_n 3, 1) := by decide +kernel
theorem dL_law_172 : decode cL_law 172 = .ok (.iconst 3, 1) := by decide +kernel
theorem dL_law_173 : decode cL_law 173 = .ok (.irem, 1) := by decide +kernel
theorem dL_law_174 : decode cL_law 174 = .ok (.ifCond .gt 10, 3) := by decide +kernel
theorem dL_law_177 : decode cL_law 177 = .ok (.aload_n 1, 1) := by decide +kernel
theorem dL_law_178 : decode cL_law 178 = .ok (.invokestatic 136, 3) := by decide +kernel
theorem dL_law_181 : decode cL_law 181 = .ok (.ifCond .eq 104, 3) := by decide +kernel
theorem dL_law_184 : decode cL_law 184 = .ok (.aload_n 1, 1) := by decide +kernel
theorem dL_law_185 : decode cL_law 185 = .ok (.iload 4, 2) := by decide +kernel
theorem dL_law_187 : decode cL_law 187 = .ok (.iconst 3, 1) := by decide +kernel
theorem dL_law_188 : decode cL_law 188 = .ok (.ishr, 1) := by decide +kernel
theorem dL_law_189 : decode cL_law 189 = .ok (.bipush 12, 2) := by decide +kernel
theorem dL_law_191 : decode cL_law 191 = .ok (.invokestatic 66, 3) := by decide +kernel
theorem dL_law_194 : decode cL_law 194 = .ok (.iload 5, 2) := by decide +kernel
theorem dL_law_196 : decode cL_law 196 = .ok (.iconst 4, 1) := by decide +kernel
theorem dL_law_197 : decode cL_law 197 = .ok (.ishr, 1) := by decide +kernel
theorem dL_law_198 : decode cL_law 198 = .ok (.bipush 24, 2) := by decide +kernel
theorem dL_law_200 : decode cL_law 200 = .ok (.invokestatic 66, 3) := by decide +kernel
theorem dL_law_203 : decode cL_law 203 = .ok (.iconst 1, 1) := by decide +kernel
theorem dL_law_204 : decode cL_law 204 = .ok (.iload 4, 2) := by decide +kernel
theorem dL_law_206 : decode cL_law 206 = .ok (.bipush 7, 2) := by decide +kernel
theorem dL_law_208 : decode cL_law 208 = .ok (.ishr, 1) := by decide +kernel
theorem dL_law_209 : decode cL_law 209 = .ok (.iconst 3, 1) := by decide +kernel
theorem dL_law_210 : decode cL_law 210 = .ok (.invokestatic 66, 3) := by decide +kernel
theorem dL_law_213 : decode cL_law 213 = .ok (.iadd, 1) := by decide +kernel
theorem dL_law_214 : decode cL_law 214 = .ok (.invokestatic 147, 3) := by decide +kernel
theorem dL_law_217 : decode cL_law 217 = .ok (.ifCond .eq 68, 3) := by decide +kernel
theorem dL_law_220 : decode cL_law 220 = .ok (.aload_n 1, 1) := by decide +kernel
theorem dL_law_221 : decode cL_law 221 = .ok (.iload 5, 2) := by decide +kernel
theorem dL_law_223 : decode cL_law 223 = .ok (.bipush 6, 2) := by decide +kernel
theorem dL_law_225 : decode cL_law 225 = .ok (.ishr, 1) := by decide +kernel
theorem dL_law_226 : decode cL_law 226 = .ok (.bipush 24, 2) := by decide +kernel
theorem dL_law_228 : decode cL_law 228 = .ok (.invokestatic 66, 3) := by decide +kernel
theorem dL_law_231 : decode cL_law 231 = .ok (.iconst 1, 1) := by decide +kernel
theorem dL_law_232 : decode cL_law 232 = .ok (.iload 4, 2) := by decide +kernel
theorem dL_law_234 : decode cL_law 234 = .ok (.bipush 9, 2) := by decide +kernel
theorem dL_law_236 : decode cL_law 236 = .ok (.ishr, 1) := by decide +kernel
theorem dL_law_237 : decode cL_law 237 = .ok (.bipush 9, 2) := by decide +kernel
theorem dL_law_239 : decode cL_law 239 = .ok (.invokestatic 66, 3) := by decide +kernel
theorem dL_law_242 : decode cL_law 242 = .ok (.iadd, 1) := by decide +kernel
theorem dL_law_243 : decode cL_law 243 = .ok (.invokestatic 151, 3) := by decide +kernel
theorem dL_law_246 : decode cL_law 246 = .ok (.ifCond .eq 39, 3) := by decide +kernel
theorem dL_law_249 : decode cL_law 249 = .ok (.aload_n 1, 1) := by decide +kernel
theorem dL_law_250 : decode cL_law 250 = .ok (.iload 4, 2) := by decide +kernel
theorem dL_law_252 : decode cL_law 252 = .ok (.iconst 5, 1) := by decide +kernel
theorem dL_law_253 : decode cL_law 253 = .ok (.ishr, 1) := by decide +kernel
theorem dL_law_254 : decode cL_law 254 = .ok (.bipush 12, 2) := by decide +kernel
theorem dL_law_256 : decode cL_law 256 = .ok (.invokestatic 66, 3) := by decide +kernel
theorem dL_law_259 : decode cL_law 259 = .ok (.invokestatic 155, 3) := by decide +kernel
theorem dL_law_262 : decode cL_law 262 = .ok (.ifCond .eq 23, 3) := by decide +kernel
theorem dL_law_265 : decode cL_law 265 = .ok (.aload_n 1, 1) := by decide +kernel
theorem dL_law_266 : decode cL_law 266 = .ok (.iload 5, 2) := by decide +kernel
theorem dL_law_268 : decode cL_law 268 = .ok (.iconst 2, 1) := by decide +kernel
theorem dL_law_269 : decode cL_law 269 = .ok (.ishr, 1) := by decide +kernel
theorem dL_law_270 : decode cL_law 270 = .ok (.bipush 6, 2) := by decide +kernel
theorem dL_law_272 : decode cL_law 272 = .ok (.invokestatic 66, 3) := by decide +kernel
theorem dL_law_275 : decode cL_law 275 = .ok (.invokestatic 158, 3) := by decide +kernel
theorem dL_law_278 : decode cL_law 278 = .ok (.ifCond .eq 7, 3) := by decide +kernel
theorem dL_law_281 : decode cL_law 281 = .ok (.iconst 1, 1) := by decide +kernel
theorem dL_law_282 : decode cL_law 282 = .ok (.goto 4, 3) := by decide +kernel
theorem dL_law_285 : decode cL_law 285 = .ok (.iconst 0, 1) := by decide +kernel
theorem dL_law_286 : decode cL_law 286 = .ok (.istore_n 2, 1) := by decide +kernel
theorem dL_law_287 : decode cL_law 287 = .ok (.iinc 3 1, 3) := by decide +kernel
theorem dL_law_290 : decode cL_law 290 = .ok (.goto (-275), 3) := by decide +kernel
theorem dL_law_293 : decode cL_law 293 = .ok (.iload_n 2, 1) := by decide +kernel
theorem dL_law_294 : decode cL_law 294 = .ok (.ifCond .eq 14, 3) := by decide +kernel
theorem dL_law_297 : decode cL_law 297 = .ok (.aload_n 1, 1) := by decide +kernel
theorem dL_law_298 : decode cL_law 298 = .ok (.invokestatic 136, 3) := by decide +kernel
theorem dL_law_301 : decode cL_law 301 = .ok (.ifCond .eq 7, 3) := by decide +kernel
theorem dL_law_304 : decode cL_law 304 = .ok (.iconst 1, 1) := by decide +kernel
theorem dL_law_305 : decode cL_law 305 = .ok (.goto 4, 3) := by decide +kernel
theorem dL_law_308 : decode cL_law 308 = .ok (.iconst 0, 1) := by decide +kernel
theorem dL_law_309 : decode cL_law 309 = .ok (.ireturn, 1) := by decide +kernel
end
section
/-! THE CLAIM OUT OF ONE WALK OF THE LAW'S BODY. Your part is whole_start (and what it stands on); all else here is the same for every law, but numbers. -/
def R_law : String := "WaxCopiesLaw"
def lw_P (b : Addr) (xs : List Int32) (args : Array Value) (s : State) : Prop := args = #[.ref b] ∧ s.IntsAt b xs ∧ xs.length ≤ 260 ∧ (Jvm.Cond.and given_1 narrow_1).before args s = true
/-- what a walk over the start with the record d0 says of its end, said of the start itself -/
theorem lw_closed {s t : State} {o : Outcome} {d0 : Drawn} {L : List Loc} {k n : Nat} (hd0 : s.drawn.sameBut d0 lw_cs) (hv : ∃ v, o = .returned v) (hW : (s.setDrawn d0).WarmedH t.vm) (hs : (s.setDrawn d0).sameButNew ({ t with vm := s.vm } : State) L k n) : State.butDraws s t lw_cs (fun t1 => Framed s o t1 L k n) := by
  have h2 : t.drawn = d0 := congrArg State.drawn hs.1
  refine ⟨⟨hv, hW, State.sameButNew.setDrawn hs s.drawn⟩, ?_, by decide⟩
  rw [h2]
  exact hd0
def lw_Q (_ : Array Value) (s : State) (o : Outcome) (t : State) : Prop := o = .returned (some (.int 1)) ∧ State.butDraws s t lw_cs (fun t1 => Framed s o t1 [] 600130 7301080)
def lw_Z (below : List Frame) (a : Array Value) (s : State) : State → Prop := fun t => ∃ o, t.status = .running ∧ Ended t below o ∧ lw_Q a s o t
/-- the law's own end, with 1 on the stack, nothing written that was there before, its room as the claim has it; d0: the record of draws at this point (at the entry s.drawn: begin with 'refine W.base ?_' and 'have hd0 := Drawn.sameBut.refl s.drawn lw_cs') -/
theorem lw_ret {p : Program} {l : Launch} {e : Env} {s : State} {m : MethodId} {below : List Frame} {meth : Method} {c : Code} {b : Nat} {d0 : Drawn} (hd0 : s.drawn.sameBut d0 lw_cs) (hx : p.tables.exec = Jvm.exec) (hb : c.code = code) (hr : meth.sig.returnType = ret) (hlocks : meth.locks = false) {pc : Nat} {H : Heap} {ls : Array Slot} (hdg : decode code pc = .ok (.ireturn, 1)) : W p l e room_1 (s.setDrawn d0) m #[Value.ref b] below meth c H [] 600130 7301080 (lw_Z below #[Value.ref b] s) (F0 m pc ls [.int 1]) := by
  intro T hT X
  obtain ⟨fs, hret, hrun, hended, hW, hframe⟩ := X.leave (v := some (.int 1)) (hlocks := hlocks) (fun h => by rw [hr] at h; cases h)
  have hmeth' : T.vm.method? m = some meth := X.method'
  refine ⟨T.setFrames fs, ?_, .returned (some (.int 1)), hrun, hended, rfl, lw_closed hd0 ⟨_, rfl⟩ hW hframe⟩
  jvm_step X.here [X.here.top, hx, hb, hdg, hmeth', hr, ret, narrow_b1]
  (try refine ⟨rfl, ?_⟩); (try refine ⟨rfl, ?_⟩)
  first | (intro acts; rw [hret _ acts rfl rfl rfl]) | rw [hret _ _ rfl rfl rfl]
  exact Steps.refl _
/-- what holds at the law's entry: the machine, the code, the tables' words (any of lw_tbl by 'hts w (by decide +kernel)'), the script of L ints xs at the cell b, what the Statement gives of the start (any of its parts by flat_of_before) -/
def lw_At (p : Program) (s : State) (m : MethodId) (meth : Method) (c : Code) (b L : Nat) (xs : Nat → Int32) : Prop :=
  p.tables.exec = Jvm.exec ∧ c.code = code ∧ meth.sig.returnType = ret ∧ c.maxLocals = 10 ∧ s.vm.findClass R_law = some m.cls ∧ (∀ w ∈ lw_tbl, w.before #[Value.ref b] s = true) ∧ va_X b L xs s s.heap ∧ b < s.heap.size ∧ meth.locks = false ∧ (Jvm.Cond.and given_1 narrow_1).before #[Value.ref b] s = true
end
section
abbrev vwCl : List vw_C := [(RX0, TX0, 2), (RX1, TX1, 2), (RX2, TX2, 19), (RX3, TX3, 7)]
/-! THE BASE: the class is ONE world of 119 cells, numbered; what they hold is one memory of ints (a reference that moves is held as its cell's number). Rows of the kit over that world. -/
abbrev Mm : Type := Nat → Nat → Int32
def z_up (μ : Mm) (k j : Nat) (v : Int32) : Mm := fun a => if a = k then upd (μ k) j v else μ a
def z_row (μ : Mm) (k : Nat) (r : Nat → Int32) : Mm := fun a => if a = k then r else μ a
def z_cp (μ : Mm) (k1 k0 n : Nat) : Mm := z_row μ k1 (va_cpy (μ k0) (μ k1) 0 0 n)
theorem z_up_s (μ : Mm) (k j : Nat) (v : Int32) : z_up μ k j v k = upd (μ k) j v := if_pos rfl
theorem z_up_n (μ : Mm) {k a : Nat} (j : Nat) (v : Int32) (h : a ≠ k) : z_up μ k j v a = μ a := if_neg h
theorem z_row_s (μ : Mm) (k : Nat) (r : Nat → Int32) : z_row μ k r k = r := if_pos rfl
theorem z_row_n (μ : Mm) {k a : Nat} (r : Nat → Int32) (h : a ≠ k) : z_row μ k r a = μ a := if_neg h
def z_rf (x : Int32) : Nat := x.toNatClampNeg
def z_F : Nat := 1200
/-- the parameters of the world: classes and slots, the cells' addresses, the classes of rows, the addresses of the text constants and of their bytes -/
abbrev zG : Type := va_G × (Nat → Nat) × (Nat → ClassId) × (Nat → Nat) × (Nat → Nat)
/-- a cell by its number, with its ints -/
def z_E (G : zG) (r : Nat → Int32) (k : Nat) : va_E :=
  if k < 90 then
    (if k % 10 = 0 then .inr (2, [.ref (G.2.1 (k + 1)), .ref (G.2.1 (k + 2)), .ref (G.2.1 (k + 3)), .ref (G.2.1 (k + 4)), .ref (G.2.1 (k + 5)), .ref (G.2.1 (k + 6)), .ref (G.2.1 (k + 7)), .ref (G.2.1 (k + 8)), .ref (G.2.1 (k + 9)), .int (r 9), .int (r 10), .int (r 11), .int (r 12), .int (r 13), .int (r 14), .int (r 15), .int (r 16), .int (r 17), .int (r 18)])
     else .inl (G.2.2.1 0, (if k % 10 < 8 then 24 else 6), .inl r))
  else if 99 ≤ k ∧ k < 119 then .inl (G.2.2.1 0, 101, .inl r)
  else if k = 90 then .inr (3, [.ref (G.2.1 0), .ref (G.2.1 91), .ref (G.2.1 92), .ref (G.2.1 93), .int (r 4), .ref (G.2.1 94), .ref (G.2.1 96)])
  else if k = 91 then .inl (G.2.2.1 4, 2, .inr (.inr (.inr (.inr (fun j => some (G.2.1 (10 * (1 + j))))))))
  else if k = 92 then .inl (G.2.2.1 1, 2, .inl r)
  else if k = 93 then .inl (G.2.2.1 4, 6, .inr (.inr (.inr (.inr (fun j => some (G.2.1 (z_rf (r j))))))))
  else if k = 94 then .inr (0, [.ref (G.2.1 95), .int (r 1)])
  else if k = 95 then .inl (G.2.2.1 2, 60, .inl r)
  else if k = 96 then .inr (1, [.ref (G.2.1 (z_rf (r 0))), .ref (G.2.1 (z_rf (r 1)))])
  else if k = 97 then .inl (G.2.2.1 5, 10, .inr (.inr (.inr (.inr (fun j => some (G.2.1 (99 + 10 * (97 - 97) + j)))))))
  else .inl (G.2.2.1 5, 10, .inr (.inr (.inr (.inr (fun j => some (G.2.1 (99 + 10 * (98 - 97) + j)))))))
def z_W (G : zG) (μ : Mm) : va_W := (List.range 119).map (fun k => (G.2.1 k, z_E G (μ k) k))
theorem z_W_at {G : zG} {μ : Mm} {k : Nat} (hk : k < 119) : (z_W G μ)[k]? = some (G.2.1 k, z_E G (μ k) k) := by
  unfold z_W
  rw [List.getElem?_map, List.getElem?_range hk]
  rfl
theorem z_W_inv {G : zG} {μ : Mm} {k : Nat} {q : Nat × va_E} (h : (z_W G μ)[k]? = some q) : k < 119 ∧ q = (G.2.1 k, z_E G (μ k) k) := by
  have hk : k < 119 := by
    have := (List.getElem?_eq_some_iff.mp h).1
    simpa [z_W] using this
  rw [z_W_at hk] at h
  exact ⟨hk, (Option.some.inj h).symm⟩
theorem z_W_set {G : zG} {μ μ' : Mm} {k : Nat} {e : va_E} (he : z_E G (μ' k) k = e) (ho : ∀ a, a ≠ k → μ' a = μ a) : (z_W G μ).set k (G.2.1 k, e) = z_W G μ' := by
  apply List.ext_getElem?
  intro i
  by_cases hi : i < 119
  · by_cases hik : i = k
    · subst hik
      rw [List.getElem?_set_self (by simpa [z_W] using hi), z_W_at hi, he]
    · rw [List.getElem?_set_ne (Ne.symm hik), z_W_at hi, z_W_at hi, ho i hik]
  · rw [List.getElem?_eq_none (by simpa [z_W] using hi), List.getElem?_eq_none (by simpa [z_W] using hi)]
def z_T (G : zG) : List (ClassId × FieldType) := [(G.2.2.1 0, .int), (G.2.2.1 1, .boolean), (G.2.2.1 2, .char), (G.2.2.1 2, .char), (G.2.2.1 4, .object RX2), (G.2.2.1 5, .array .int)]
def z_P (G : zG) (μ : Mm) (H : Heap) : Prop := va_P G.1 vwCl (z_W G μ) H
/-- the cells that a method may change: the world's, and what is made behind sz -/
def z_A (G : zG) (sz : Nat) : Nat → Prop := fun q => (∃ k, k < 119 ∧ q = G.2.1 k) ∨ sz ≤ q
def z_mln : List (String × Nat × MethodName) := [(RX1, 23, yX3_sharpnessAfter), (RX1, 34, yX3_copiedDepth), (RX1, 37, yX3_copiedClearness), (RX2, 84, yX3_bluntness), (RX2, 96, yX3_copiedDepth), (RX2, 99, yX3_copiedClearness), (RX2, 115, yX3_sharpnessAfter)]
/-- what stays as it is: words of the tables -/
def z_St (_ : zG) (_ : Nat → Prop) (U : State) (_ : Heap) : Prop := (∀ q ∈ z_mln, va_Nw (.methodLinkNest q.1 q.2.1 q.2.2 "WaxCopies") U) ∧ True
theorem z_St.moved {G : zG} {A : Nat → Prop} {s U : State} {H : Heap} (hW : s.WarmedH U.vm) (h : z_St G A s H) : z_St G A U H := ⟨fun q hq => (h.1 q hq).warmM hW, trivial⟩
theorem z_St.kept {G : zG} {A : Nat → Prop} {U : State} {H H1 : Heap} (h : z_St G A U H) (_ : ∀ a : Nat, a < H.size → ¬ A a → H1[a]? = H[a]?) : z_St G A U H1 := h
theorem z_St.narrow {G : zG} {A B : Nat → Prop} {U : State} {H : Heap} (h : z_St G A U H) (_ : ∀ q, B q → A q) : z_St G B U H := h
/-- all that stays through a method's walk: tables, addresses apart, statics -/
def z_Z (G : zG) (A : Nat → Prop) (s : State) : Prop :=
  va_K G.1 vwCl (z_T G) s ∧ (∀ i j, i < 119 → j < 119 → G.2.1 i = G.2.1 j → i = j) ∧ (∀ k, k < 119 → A (G.2.1 k)) ∧ (∀ q : Nat, s.heap.size ≤ q → A q) ∧ z_St G A s s.heap
theorem z_D {G : zG} {A : Nat → Prop} {s : State} (Z : z_Z G A s) (μ : Mm) : va_D A (z_W G μ) := by
  refine ⟨fun i j p q hi hj h => ?_, fun k q h => ?_⟩
  · obtain ⟨h1, rfl⟩ := z_W_inv hi
    obtain ⟨h2, rfl⟩ := z_W_inv hj
    exact Z.2.1 i j h1 h2 h
  · obtain ⟨h1, rfl⟩ := z_W_inv h
    exact Z.2.2.1 k h1
def z_Pre (G : zG) (μ : Mm) (av : List Value) (sz : Nat) : Array Value → State → Prop := va_Pc av (fun U => U.heap.size = sz ∧ z_P G μ U.heap ∧ z_Z G (z_A G sz) U)
theorem z_Z.calling {G : zG} {A : Nat → Prop} {U : State} {g : JFrame} {mk : MethodId} {a : Array Value} (h : z_Z G A U) : z_Z G A (U.calling g mk a) :=
  ⟨va_K.moved (u := U) (U := U.calling g mk a) (Vm.Alike.refl U.vm) h.1, h.2.1, h.2.2.1, h.2.2.2.1, h.2.2.2.2.moved (s := U) (U := U.calling g mk a) (State.WarmedH.refl U)⟩
theorem z_blind {G : zG} {μ : Mm} {av : List Value} {sz : Nat} : FrameBlind (z_Pre G μ av sz) := fun _ _ _ _ q => ⟨q.1, q.2.1, q.2.2.1, q.2.2.2.calling⟩
theorem z_Asub {G : zG} {a b : Nat} (h : a ≤ b) : ∀ q, z_A G b q → z_A G a q := fun _ hq => hq.elim Or.inl (fun h2 => Or.inr (Nat.le_trans h h2))
theorem z_preS {G : zG} {μ : Mm} {s : State} {H : Heap} {locs : List Loc} {As : List Value} (Z : z_Z G (z_A G s.heap.size) s) (hS : va_S (z_A G s.heap.size) s.heap H locs) (hP : z_P G μ H) : PreS s H (z_Pre G μ As H.size) As := by
  refine ⟨z_blind, fun U hU hW => ⟨rfl, by rw [hU], by rw [hU]; exact hP, va_K.moved hW.alike Z.1, Z.2.1, fun k hk => Or.inl ⟨k, hk, rfl⟩, fun q hq => Or.inr (by rw [← hU]; exact hq), ?_⟩⟩
  rw [hU]
  exact ((Z.2.2.2.2.kept hS.2.1).narrow (z_Asub hS.1)).moved hW
theorem z_preV {G : zG} {μ : Mm} {s : State} {H : Heap} {locs : List Loc} {As : List Value} {C : String} {k ci : Nat} {q : vw_C} {fs : List Value} (Z : z_Z G (z_A G s.heap.size) s) (hS : va_S (z_A G s.heap.size) s.heap H locs) (hP : z_P G μ H)
    (hk : k < 119) (he : z_E G (μ k) k = .inr (ci, fs)) (hc : vwCl[ci]? = some q) (hC : q.1 = C) : PreV s H C (G.2.1 k) (z_Pre G μ (.ref (G.2.1 k) :: As) H.size) As := by
  refine ⟨z_blind, ?_, (z_preS Z hS hP).2⟩
  rw [← hC]
  exact va_recv Z.1 hP hc (q0 := k) (by rw [z_W_at hk, he])
section ZR
variable {p : Program} {l : Launch} {e : Env} {R : Room} {s : State} {m : MethodId} {args : Array Value} {below : List Frame} {meth : Method} {c : Code} {H : Heap} {locs : List Loc} {cells slots : Nat} {Q : State → Prop}
variable {cc : ByteArray} {pc nL : Nat} {ls : Array Slot} {rest : List Value} {G : zG} {A : Nat → Prop} {μ : Mm} {Ts : List Cond} {own : String}
theorem z_get (C : CallFix p m c cc nL s args Ts own) (Z : z_Z G A s) (hP : z_P G μ H) {k ci N j index : Nat} {Cn : String} {T : u_T} {fs : List Value} {v : Value} (hk : k < 119) (he : z_E G (μ k) k = .inr (ci, fs)) (hc : vwCl[ci]? = some (Cn, T, N)) (hin : ∀ w ∈ u_ws Cn T N, w ∈ Ts) (hj : j < N)
    (hl : Cond.fieldLink own index (T j).1 (T j).2.1 (T j).2.2.1 ∈ Ts) (hv : fs[j]? = some v) (hdg : decode cc pc = .ok (.getfield index, 3))
    (kk : W p l e R s m args below meth c H locs cells slots Q (F0 m (pc + 3) ls (v :: rest))) : W p l e R s m args below meth c H locs cells slots Q (F0 m pc ls (.ref (G.2.1 k) :: rest)) :=
  va_get C.1 C.2.1 C.2.2.2.2 hin C.2.2.2.1 Z.1 hP k (by rw [z_W_at hk, he]) hc j hj (C.2.2.2.2 _ hl) (fun _ h => h) hv hdg kk
theorem z_put (C : CallFix p m c cc nL s args Ts own) (Z : z_Z G A s) (hP : z_P G μ H) (hS : va_S A s.heap H locs) {k ci N j index : Nat} {Cn : String} {T : u_T} {fs : List Value} {v : Value} {x : Int32} {ty0 : Nat → FieldType} {ty : FieldType} (hk : k < 119) (he : z_E G (μ k) k = .inr (ci, fs)) (hc : vwCl[ci]? = some (Cn, T, N)) (hin : ∀ w ∈ u_ws Cn T N, w ∈ Ts)
    (hty : ∀ k, k < N → parseFieldDescriptor (T k).2.2.1 = some (ty0 k)) (hnm : ∀ a, a < N → ∀ b, b < N → a ≠ b → (T a).2.1 ≠ (T b).2.1) (hj : j < N) (hl : Cond.fieldLink own index (T j).1 (T j).2.1 (T j).2.2.1 ∈ Ts) (hfin : (T j).2.2.2 = false) (hd : parseFieldDescriptor (T j).2.2.1 = some ty) (hn : narrow ty v = v) (hfit : fits ty v = true) (hlen : j < fs.length)
    (hset : z_E G (upd (μ k) j x) k = .inr (ci, fs.set j v)) (hdg : decode cc pc = .ok (.putfield index, 3))
    (kk : ∀ (H1 : Heap) (locs1 : List Loc), z_P G (z_up μ k j x) H1 → va_S A s.heap H1 locs1 → W p l e R s m args below meth c H1 locs1 cells slots Q (F0 m (pc + 3) ls rest)) : W p l e R s m args below meth c H locs cells slots Q (F0 m pc ls (v :: .ref (G.2.1 k) :: rest)) := by
  refine va_put C.1 C.2.1 C.2.2.2.2 hin ty0 hty hnm C.2.2.2.1 Z.1 hP (z_D Z μ) hS k (by rw [z_W_at hk, he]) hc j hj (C.2.2.2.2 _ hl) (fun _ h => h) hfin hd hn hfit hlen hdg fun H1 locs1 hP1 _ hS1 => kk H1 locs1 ?_ hS1
  rw [z_W_set (μ' := z_up μ k j x) (by rw [z_up_s]; exact hset) (fun a ha => z_up_n μ j x ha)] at hP1
  exact hP1
theorem z_iald (C : CallFix p m c cc nL s args Ts own) (Z : z_Z G A s) (hP : z_P G μ H) {k n j : Nat} {i : Int32} (hk : k < 119) (he : z_E G (μ k) k = .inl (G.2.2.1 0, n, .inl (μ k))) (hin : vp_in i n) (hj : i.toNatClampNeg = j) (hdg : decode cc pc = .ok (.iaload, 1))
    (kk : W p l e R s m args below meth c H locs cells slots Q (F0 m (pc + 1) ls (.int (μ k j) :: rest))) : W p l e R s m args below meth c H locs cells slots Q (F0 m pc ls (.int i :: .ref (G.2.1 k) :: rest)) := by
  subst hj
  exact va_iald C.1 C.2.1 Z.1 hP k 0 (by rw [z_W_at hk, he]) rfl hin hdg kk
theorem z_zald (C : CallFix p m c cc nL s args Ts own) (Z : z_Z G A s) (hP : z_P G μ H) {k n j : Nat} {i : Int32} (hk : k < 119) (he : z_E G (μ k) k = .inl (G.2.2.1 1, n, .inl (μ k))) (hin : vp_in i n) (hj : i.toNatClampNeg = j) (hdg : decode cc pc = .ok (.baload, 1))
    (kk : W p l e R s m args below meth c H locs cells slots Q (F0 m (pc + 1) ls (.int (μ k j) :: rest))) : W p l e R s m args below meth c H locs cells slots Q (F0 m pc ls (.int i :: .ref (G.2.1 k) :: rest)) := by
  subst hj
  exact va_zald C.1 C.2.1 Z.1 hP k 1 (by rw [z_W_at hk, he]) rfl hin hdg kk
theorem z_cald (C : CallFix p m c cc nL s args Ts own) (Z : z_Z G A s) (hP : z_P G μ H) {k n j : Nat} {i : Int32} (hk : k < 119) (he : z_E G (μ k) k = .inl (G.2.2.1 2, n, .inl (μ k))) (hin : vp_in i n) (hj : i.toNatClampNeg = j) (hdg : decode cc pc = .ok (.caload, 1))
    (kk : W p l e R s m args below meth c H locs cells slots Q (F0 m (pc + 1) ls (.int (μ k j) :: rest))) : W p l e R s m args below meth c H locs cells slots Q (F0 m pc ls (.int i :: .ref (G.2.1 k) :: rest)) := by
  subst hj
  exact va_cald C.1 C.2.1 Z.1 hP k 2 (by rw [z_W_at hk, he]) rfl hin hdg kk
theorem z_iast (C : CallFix p m c cc nL s args Ts own) (Z : z_Z G A s) (hP : z_P G μ H) (hS : va_S A s.heap H locs) {k n j : Nat} {i x : Int32} (hk : k < 119) (he : ∀ r, z_E G r k = .inl (G.2.2.1 0, n, .inl r)) (hin : vp_in i n) (hj : i.toNatClampNeg = j) (hdg : decode cc pc = .ok (.iastore, 1))
    (kk : ∀ (H1 : Heap) (locs1 : List Loc), z_P G (z_up μ k j x) H1 → va_S A s.heap H1 locs1 → W p l e R s m args below meth c H1 locs1 cells slots Q (F0 m (pc + 1) ls rest)) : W p l e R s m args below meth c H locs cells slots Q (F0 m pc ls (.int x :: .int i :: .ref (G.2.1 k) :: rest)) := by
  subst hj
  refine va_iast C.1 C.2.1 Z.1 hP (z_D Z μ) hS k 0 (by rw [z_W_at hk, he]) rfl hin hdg fun H1 locs1 hP1 _ hS1 => kk H1 locs1 ?_ hS1
  rw [z_W_set (μ' := z_up μ k i.toNatClampNeg x) (by rw [z_up_s]; exact he _) (fun a ha => z_up_n μ _ x ha)] at hP1
  exact hP1
theorem z_zast (C : CallFix p m c cc nL s args Ts own) (Z : z_Z G A s) (hP : z_P G μ H) (hS : va_S A s.heap H locs) {k n j : Nat} {i x : Int32} (hk : k < 119) (he : ∀ r, z_E G r k = .inl (G.2.2.1 1, n, .inl r)) (hin : vp_in i n) (hj : i.toNatClampNeg = j) (hdg : decode cc pc = .ok (.bastore, 1))
    (kk : ∀ (H1 : Heap) (locs1 : List Loc), z_P G (z_up μ k j (vp_nar .boolean x)) H1 → va_S A s.heap H1 locs1 → W p l e R s m args below meth c H1 locs1 cells slots Q (F0 m (pc + 1) ls rest)) : W p l e R s m args below meth c H locs cells slots Q (F0 m pc ls (.int x :: .int i :: .ref (G.2.1 k) :: rest)) := by
  subst hj
  refine va_zast C.1 C.2.1 Z.1 hP (z_D Z μ) hS k 1 (by rw [z_W_at hk, he]) rfl hin hdg fun H1 locs1 hP1 _ hS1 => kk H1 locs1 ?_ hS1
  rw [z_W_set (μ' := z_up μ k i.toNatClampNeg (vp_nar .boolean x)) (by rw [z_up_s]; exact he _) (fun a ha => z_up_n μ _ _ ha)] at hP1
  exact hP1
theorem z_cast_ (C : CallFix p m c cc nL s args Ts own) (Z : z_Z G A s) (hP : z_P G μ H) (hS : va_S A s.heap H locs) {k n j : Nat} {i x : Int32} (hk : k < 119) (he : ∀ r, z_E G r k = .inl (G.2.2.1 2, n, .inl r)) (hin : vp_in i n) (hj : i.toNatClampNeg = j) (hdg : decode cc pc = .ok (.castore, 1))
    (kk : ∀ (H1 : Heap) (locs1 : List Loc), z_P G (z_up μ k j (vp_nar .char x)) H1 → va_S A s.heap H1 locs1 → W p l e R s m args below meth c H1 locs1 cells slots Q (F0 m (pc + 1) ls rest)) : W p l e R s m args below meth c H locs cells slots Q (F0 m pc ls (.int x :: .int i :: .ref (G.2.1 k) :: rest)) := by
  subst hj
  refine va_cast C.1 C.2.1 Z.1 hP (z_D Z μ) hS k 2 (by rw [z_W_at hk, he]) rfl hin hdg fun H1 locs1 hP1 _ hS1 => kk H1 locs1 ?_ hS1
  rw [z_W_set (μ' := z_up μ k i.toNatClampNeg (vp_nar .char x)) (by rw [z_up_s]; exact he _) (fun a ha => z_up_n μ _ _ ha)] at hP1
  exact hP1
/-- a row of rows is read -/
theorem z_aldA (C : CallFix p m c cc nL s args Ts own) (Z : z_Z G A s) (hP : z_P G μ H) {k n b : Nat} {f : Nat → Option Nat} {i : Int32} (hk : k < 119) (he : z_E G (μ k) k = .inl (G.2.2.1 5, n, .inr (.inr (.inr (.inr f))))) (hin : vp_in i n) (hf : f i.toNatClampNeg = some b) (hdg : decode cc pc = .ok (.aaload, 1))
    (kk : W p l e R s m args below meth c H locs cells slots Q (F0 m (pc + 1) ls (.ref b :: rest))) : W p l e R s m args below meth c H locs cells slots Q (F0 m pc ls (.int i :: .ref (G.2.1 k) :: rest)) := by
  have hlt : i.toNatClampNeg < n := Nat.not_le.mp fun q => hin (Or.inr q)
  have ha : (z_W G μ)[k]? = some (G.2.1 k, .inl (G.2.2.1 5, n, .inr (.inr (.inr (.inr f))))) := by rw [z_W_at hk, he]
  have ht : (z_T G)[5]? = some (G.2.2.1 5, .array .int) := rfl
  refine W.aald (v := va_rf (f i.toNatClampNeg)) (ty := .array .int) C.1 C.2.1 (hP k _ ha) ((Z.1.2 5 _ ht).1 n (fun j => va_rf (f j))) rfl (fun q => by cases q) (by show ¬ (i < 0 ∨ (arrV _ _ _).slots.size ≤ _); rw [arrV_size]; exact hin) (by show (arrV _ _ _).slots[_]? = _; rw [arrV_read _ _ hlt]) rfl rfl hdg ?_
  rw [hf]
  exact kk
theorem z_aldq (C : CallFix p m c cc nL s args Ts own) (Z : z_Z G A s) (hP : z_P G μ H) {k n b : Nat} {f : Nat → Option Nat} {i : Int32} (hk : k < 119) (he : z_E G (μ k) k = .inl (G.2.2.1 4, n, .inr (.inr (.inr (.inr f))))) (hin : vp_in i n) (hf : f i.toNatClampNeg = some b) (hdg : decode cc pc = .ok (.aaload, 1))
    (kk : W p l e R s m args below meth c H locs cells slots Q (F0 m (pc + 1) ls (.ref b :: rest))) : W p l e R s m args below meth c H locs cells slots Q (F0 m pc ls (.int i :: .ref (G.2.1 k) :: rest)) := by
  refine va_aldq C.1 C.2.1 Z.1 hP k 4 (C := RX2) (by rw [z_W_at hk, he]) rfl hin hdg ?_
  rw [hf]
  exact kk
/-- a cell of kind 2 is put into the row of saved states -/
theorem z_astq (C : CallFix p m c cc nL s args Ts own) (Z : z_Z G A s) (hP : z_P G μ H) (hS : va_S A s.heap H locs) {v j : Nat} {vs : List Value} {i : Int32} (hv : v < 119) (hev : z_E G (μ v) v = .inr (2, vs)) (hin : vp_in i 6) (hj : i.toNatClampNeg = j) (hdg : decode cc pc = .ok (.aastore, 1))
    (kk : ∀ (H1 : Heap) (locs1 : List Loc), z_P G (z_up μ 93 j (nI v)) H1 → va_S A s.heap H1 locs1 → W p l e R s m args below meth c H1 locs1 cells slots Q (F0 m (pc + 1) ls rest)) : W p l e R s m args below meth c H locs cells slots Q (F0 m pc ls (.ref (G.2.1 v) :: .int i :: .ref (G.2.1 93) :: rest)) := by
  subst hj
  refine va_astq C.1 C.2.1 Z.1 hP (z_D Z μ) hS 93 4 v 2 (r := (RX2, TX2, 19)) (f := fun j => some (G.2.1 (z_rf (μ 93 j)))) (n := 6) (by rw [z_W_at (by decide)]; rfl) rfl (by rw [z_W_at hv, hev]) rfl hin hdg fun H1 locs1 hP1 _ hS1 => kk H1 locs1 ?_ hS1
  have e : z_E G (z_up μ 93 i.toNatClampNeg (nI v) 93) 93 = .inl (G.2.2.1 4, 6, .inr (.inr (.inr (.inr (va_up (fun j => some (G.2.1 (z_rf (μ 93 j)))) i.toNatClampNeg (some (G.2.1 v))))))) := by
    rw [z_up_s]
    show (.inl (G.2.2.1 4, 6, .inr (.inr (.inr (.inr (fun j => some (G.2.1 (z_rf (upd (μ 93) i.toNatClampNeg (nI v) j))))))))  : va_E) = _
    congr 7
    funext j
    by_cases hj : j = i.toNatClampNeg
    · subst hj
      have e1 : z_rf (nI v) = v := nI_clamp (by omega)
      simp [upd, va_up, e1]
    · simp [upd, va_up, hj]
  rw [z_W_set (μ' := z_up μ 93 i.toNatClampNeg (nI v)) e (fun a ha => z_up_n μ _ _ ha)] at hP1
  exact hP1
/-- a whole row is copied -/
theorem z_acopy (C : CallFix p m c cc nL s args Ts own) (Z : z_Z G A s) (hP : z_P G μ H) (hS : va_S A s.heap H locs) {index k0 k1 n : Nat} {z : Int32} (hsz : ls.size = nL) (hl : Cond.methodLink own index arraycopyName ∈ Ts) (hnat : Cond.native arraycopyName ∈ Ts) (hstat : Cond.static arraycopyName ∈ Ts) (hini : Cond.initialized "java/lang/System" ∈ Ts)
    (h0 : k0 < 119) (h1 : k1 < 119) (e0 : ∀ r, z_E G r k0 = .inl (G.2.2.1 0, n, .inl r)) (e1 : ∀ r, z_E G r k1 = .inl (G.2.2.1 0, n, .inl r)) (hz : ¬ z < 0) (hn : z.toNatClampNeg = n)
    (hframes : 1 ≤ R.frames) (hlocals : (rest.map fun v => v.category).sum + (nativeFrameWords "java/lang/System" "arraycopy" 5 + 11) ≤ R.locals) (hdg : decode cc pc = .ok (.invokestatic index, 3))
    (kk : ∀ (H1 : Heap) (locs1 : List Loc), z_P G (z_cp μ k1 k0 n) H1 → va_S A s.heap H1 locs1 → W p l e R s m args below meth c H1 locs1 cells slots Q (F0 m (pc + 3) ls rest)) : W p l e R s m args below meth c H locs cells slots Q (F0 m pc ls (.int z :: .int 0 :: .ref (G.2.1 k1) :: .int 0 :: .ref (G.2.1 k0) :: rest)) := by
  subst hn
  refine va_copyi C.1 C.2.1 (C.2.2.1.trans hsz.symm) C.2.2.2.1 (C.2.2.2.2 _ hl) (C.2.2.2.2 _ hnat) (C.2.2.2.2 _ hstat) (C.2.2.2.2 _ hini) Z.1 hP (z_D Z μ) hS k0 k1 0 0 (by rw [z_W_at h0, e0]) (by rw [z_W_at h1, e1]) rfl rfl rfl (by decide) (by decide) hz (by show 0 + _ ≤ _; omega) (by show 0 + _ ≤ _; omega) (fun _ _ => rfl) hframes hlocals hdg fun H1 locs1 hP1 _ hS1 => kk H1 locs1 ?_ hS1
  have hP2 : va_P G.1 vwCl ((z_W G μ).set k1 (G.2.1 k1, .inl (G.2.2.1 0, z.toNatClampNeg, .inl (va_cpy (μ k0) (μ k1) 0 0 z.toNatClampNeg)))) H1 := hP1
  rw [z_W_set (μ' := z_row μ k1 (va_cpy (μ k0) (μ k1) 0 0 z.toNatClampNeg)) (by rw [z_row_s]; exact e1 _) (fun a ha => z_row_n μ _ ha)] at hP2
  exact hP2
/-- a call that answers an int -/
theorem z_calli {st0 : List Value} {mu1 : Mm} {r0 : Int32} {a : Array Value} (hS : va_S (z_A G s.heap.size) s.heap H locs)
    (hr : va_Run p l e R s m args below meth c H locs cells slots 0 0 (F0 m pc ls st0) rest (va_Qi (fun r u => r = r0 ∧ u = mu1) (fun u t => z_P G u t.heap) (z_A G H.size) a) (z_A G H.size))
    (kk : ∀ (H1 : Heap) (locs1 : List Loc), z_P G mu1 H1 → va_S (z_A G s.heap.size) s.heap H1 locs1 → W p l e R s m args below meth c H1 locs1 cells slots Q (F0 m (pc + 3) ls (.int r0 :: rest))) : W p l e R s m args below meth c H locs cells slots Q (F0 m pc ls st0) :=
  va_calli hr hS (fun q _ h => z_Asub hS.1 q h) (z_Asub hS.1) fun r u t H1 locs1 ht _ hp hB _ _ hS1 => by
    obtain ⟨rfl, rfl⟩ := hp
    exact kk H1 locs1 (by rw [← ht]; exact hB) hS1
theorem z_calll {st0 : List Value} {mu1 : Mm} {r0 : Int64} {a : Array Value} (hS : va_S (z_A G s.heap.size) s.heap H locs)
    (hr : va_Run p l e R s m args below meth c H locs cells slots 0 0 (F0 m pc ls st0) rest (va_Ql (fun r u => r = r0 ∧ u = mu1) (fun u t => z_P G u t.heap) (z_A G H.size) a) (z_A G H.size))
    (kk : ∀ (H1 : Heap) (locs1 : List Loc), z_P G mu1 H1 → va_S (z_A G s.heap.size) s.heap H1 locs1 → W p l e R s m args below meth c H1 locs1 cells slots Q (F0 m (pc + 3) ls (.long r0 :: rest))) : W p l e R s m args below meth c H locs cells slots Q (F0 m pc ls st0) :=
  va_calll hr hS (fun q _ h => z_Asub hS.1 q h) (z_Asub hS.1) fun r u t H1 locs1 ht _ hp hB _ _ hS1 => by
    obtain ⟨rfl, rfl⟩ := hp
    exact kk H1 locs1 (by rw [← ht]; exact hB) hS1
theorem z_callf {st0 : List Value} {mu1 : Mm} {r0 : UInt32} {a : Array Value} (hS : va_S (z_A G s.heap.size) s.heap H locs)
    (hr : va_Run p l e R s m args below meth c H locs cells slots 0 0 (F0 m pc ls st0) rest (va_Qf (fun r u => r = r0 ∧ u = mu1) (fun u t => z_P G u t.heap) (z_A G H.size) a) (z_A G H.size))
    (kk : ∀ (H1 : Heap) (locs1 : List Loc), z_P G mu1 H1 → va_S (z_A G s.heap.size) s.heap H1 locs1 → W p l e R s m args below meth c H1 locs1 cells slots Q (F0 m (pc + 3) ls (.float r0 :: rest))) : W p l e R s m args below meth c H locs cells slots Q (F0 m pc ls st0) :=
  va_callf hr hS (fun q _ h => z_Asub hS.1 q h) (z_Asub hS.1) fun r u t H1 locs1 ht _ hp hB _ _ hS1 => by
    obtain ⟨rfl, rfl⟩ := hp
    exact kk H1 locs1 (by rw [← ht]; exact hB) hS1
theorem z_calld {st0 : List Value} {mu1 : Mm} {r0 : UInt64} {a : Array Value} (hS : va_S (z_A G s.heap.size) s.heap H locs)
    (hr : va_Run p l e R s m args below meth c H locs cells slots 0 0 (F0 m pc ls st0) rest (va_Qd (fun r u => r = r0 ∧ u = mu1) (fun u t => z_P G u t.heap) (z_A G H.size) a) (z_A G H.size))
    (kk : ∀ (H1 : Heap) (locs1 : List Loc), z_P G mu1 H1 → va_S (z_A G s.heap.size) s.heap H1 locs1 → W p l e R s m args below meth c H1 locs1 cells slots Q (F0 m (pc + 3) ls (.double r0 :: rest))) : W p l e R s m args below meth c H locs cells slots Q (F0 m pc ls st0) :=
  va_calld hr hS (fun q _ h => z_Asub hS.1 q h) (z_Asub hS.1) fun r u t H1 locs1 ht _ hp hB _ _ hS1 => by
    obtain ⟨rfl, rfl⟩ := hp
    exact kk H1 locs1 (by rw [← ht]; exact hB) hS1
theorem z_callv {st0 : List Value} {mu1 : Mm} {a : Array Value} (hS : va_S (z_A G s.heap.size) s.heap H locs)
    (hr : va_Run p l e R s m args below meth c H locs cells slots 0 0 (F0 m pc ls st0) rest (va_Qv (fun u => u = mu1) (fun u t => z_P G u t.heap) (z_A G H.size) a) (z_A G H.size))
    (kk : ∀ (H1 : Heap) (locs1 : List Loc), z_P G mu1 H1 → va_S (z_A G s.heap.size) s.heap H1 locs1 → W p l e R s m args below meth c H1 locs1 cells slots Q (F0 m (pc + 3) ls rest)) : W p l e R s m args below meth c H locs cells slots Q (F0 m pc ls st0) :=
  va_callv hr hS (fun q _ h => z_Asub hS.1 q h) (z_Asub hS.1) fun u t H1 locs1 ht _ hp hB _ _ hS1 => by
    subst hp
    exact kk H1 locs1 (by rw [← ht]; exact hB) hS1
theorem z_callr {st0 : List Value} {mu1 : Mm} {r0 : Nat} {a : Array Value} (hS : va_S (z_A G s.heap.size) s.heap H locs)
    (hr : va_Run p l e R s m args below meth c H locs cells slots 0 0 (F0 m pc ls st0) rest (va_Qr (fun u => u = mu1) (fun u x t => x = r0 ∧ z_P G u t.heap) (z_A G H.size) a) (z_A G H.size))
    (kk : ∀ (H1 : Heap) (locs1 : List Loc), z_P G mu1 H1 → va_S (z_A G s.heap.size) s.heap H1 locs1 → W p l e R s m args below meth c H1 locs1 cells slots Q (F0 m (pc + 3) ls (.ref r0 :: rest))) : W p l e R s m args below meth c H locs cells slots Q (F0 m pc ls st0) :=
  va_callr hr hS (fun q _ h => z_Asub hS.1 q h) (z_Asub hS.1) fun x u t H1 locs1 ht _ hp hB _ _ hS1 => by
    subst hp
    obtain ⟨rfl, hB⟩ := hB
    exact kk H1 locs1 (by rw [← ht]; exact hB) hS1
end ZR
/-! cells, one by one -/
theorem z_E_0 {G : zG} (r : Nat → Int32) : z_E G r 0 = .inr (2, [.ref (G.2.1 1), .ref (G.2.1 2), .ref (G.2.1 3), .ref (G.2.1 4), .ref (G.2.1 5), .ref (G.2.1 6), .ref (G.2.1 7), .ref (G.2.1 8), .ref (G.2.1 9), .int (r 9), .int (r 10), .int (r 11), .int (r 12), .int (r 13), .int (r 14), .int (r 15), .int (r 16), .int (r 17), .int (r 18)]) := rfl
theorem z_E_1 {G : zG} (r : Nat → Int32) : z_E G r 1 = .inl (G.2.2.1 0, 24, .inl r) := rfl
theorem z_E_2 {G : zG} (r : Nat → Int32) : z_E G r 2 = .inl (G.2.2.1 0, 24, .inl r) := rfl
theorem z_E_3 {G : zG} (r : Nat → Int32) : z_E G r 3 = .inl (G.2.2.1 0, 24, .inl r) := rfl
theorem z_E_4 {G : zG} (r : Nat → Int32) : z_E G r 4 = .inl (G.2.2.1 0, 24, .inl r) := rfl
theorem z_E_5 {G : zG} (r : Nat → Int32) : z_E G r 5 = .inl (G.2.2.1 0, 24, .inl r) := rfl
theorem z_E_6 {G : zG} (r : Nat → Int32) : z_E G r 6 = .inl (G.2.2.1 0, 24, .inl r) := rfl
theorem z_E_7 {G : zG} (r : Nat → Int32) : z_E G r 7 = .inl (G.2.2.1 0, 24, .inl r) := rfl
theorem z_E_8 {G : zG} (r : Nat → Int32) : z_E G r 8 = .inl (G.2.2.1 0, 6, .inl r) := rfl
theorem z_E_9 {G : zG} (r : Nat → Int32) : z_E G r 9 = .inl (G.2.2.1 0, 6, .inl r) := rfl
theorem z_E_90 {G : zG} (r : Nat → Int32) : z_E G r 90 = .inr (3, [.ref (G.2.1 0), .ref (G.2.1 91), .ref (G.2.1 92), .ref (G.2.1 93), .int (r 4), .ref (G.2.1 94), .ref (G.2.1 96)]) := rfl
theorem z_E_91 {G : zG} (r : Nat → Int32) : z_E G r 91 = .inl (G.2.2.1 4, 2, .inr (.inr (.inr (.inr (fun j => some (G.2.1 (10 * (1 + j)))))))) := rfl
theorem z_E_92 {G : zG} (r : Nat → Int32) : z_E G r 92 = .inl (G.2.2.1 1, 2, .inl r) := rfl
theorem z_E_93 {G : zG} (r : Nat → Int32) : z_E G r 93 = .inl (G.2.2.1 4, 6, .inr (.inr (.inr (.inr (fun j => some (G.2.1 (z_rf (r j)))))))) := rfl
theorem z_E_94 {G : zG} (r : Nat → Int32) : z_E G r 94 = .inr (0, [.ref (G.2.1 95), .int (r 1)]) := rfl
theorem z_E_95 {G : zG} (r : Nat → Int32) : z_E G r 95 = .inl (G.2.2.1 2, 60, .inl r) := rfl
theorem z_E_96 {G : zG} (r : Nat → Int32) : z_E G r 96 = .inr (1, [.ref (G.2.1 (z_rf (r 0))), .ref (G.2.1 (z_rf (r 1)))]) := rfl
theorem z_E_wax {G : zG} {k : Nat} (h : k % 10 = 0 ∧ k < 90) (r : Nat → Int32) : z_E G r k = .inr (2, [.ref (G.2.1 (k + 1)), .ref (G.2.1 (k + 2)), .ref (G.2.1 (k + 3)), .ref (G.2.1 (k + 4)), .ref (G.2.1 (k + 5)), .ref (G.2.1 (k + 6)), .ref (G.2.1 (k + 7)), .ref (G.2.1 (k + 8)), .ref (G.2.1 (k + 9)), .int (r 9), .int (r 10), .int (r 11), .int (r 12), .int (r 13), .int (r 14), .int (r 15), .int (r 16), .int (r 17), .int (r 18)]) := by
  unfold z_E
  rw [if_pos h.2, if_pos h.1]
theorem z_E_wa {G : zG} {k : Nat} (i : Nat) (h : k % 10 = 0 ∧ k < 90) (hi : 0 < i ∧ i < 8) (r : Nat → Int32) : z_E G r (k + i) = .inl (G.2.2.1 0, 24, .inl r) := by
  unfold z_E
  rw [if_pos (show k + i < 90 by omega), if_neg (show ¬ (k + i) % 10 = 0 by omega), if_pos (show (k + i) % 10 < 8 by omega)]
theorem z_E_wb {G : zG} {k : Nat} (i : Nat) (h : k % 10 = 0 ∧ k < 90) (hi : i = 8 ∨ i = 9) (r : Nat → Int32) : z_E G r (k + i) = .inl (G.2.2.1 0, 6, .inl r) := by
  unfold z_E
  rw [if_pos (show k + i < 90 by omega), if_neg (show ¬ (k + i) % 10 = 0 by omega), if_neg (show ¬ (k + i) % 10 < 8 by omega)]
theorem z_E_row {G : zG} {k : Nat} (h : 99 ≤ k ∧ k < 119) (r : Nat → Int32) : z_E G r k = .inl (G.2.2.1 0, 101, .inl r) := by
  unfold z_E
  rw [if_neg (show ¬ k < 90 by omega), if_pos h]
theorem z_E_out {G : zG} {k : Nat} (h : k = 97 ∨ k = 98) (r : Nat → Int32) : z_E G r k = .inl (G.2.2.1 5, 10, .inr (.inr (.inr (.inr (fun j => some (G.2.1 (99 + 10 * (k - 97) + j))))))) := by
  rcases h with rfl | rfl <;> rfl
theorem z_S_wax {G : zG} {k : Nat} (h : k % 10 = 0 ∧ k < 90) (r : Nat → Int32) (x : Int32) (j : Nat) (hj : 9 ≤ j ∧ j < 19) : z_E G (upd r j x) k = .inr (2, ([.ref (G.2.1 (k + 1)), .ref (G.2.1 (k + 2)), .ref (G.2.1 (k + 3)), .ref (G.2.1 (k + 4)), .ref (G.2.1 (k + 5)), .ref (G.2.1 (k + 6)), .ref (G.2.1 (k + 7)), .ref (G.2.1 (k + 8)), .ref (G.2.1 (k + 9)), .int (r 9), .int (r 10), .int (r 11), .int (r 12), .int (r 13), .int (r 14), .int (r 15), .int (r 16), .int (r 17), .int (r 18)]).set j (.int x)) := by
  rw [z_E_wax h]
  rcases (show j = 9 ∨ j = 10 ∨ j = 11 ∨ j = 12 ∨ j = 13 ∨ j = 14 ∨ j = 15 ∨ j = 16 ∨ j = 17 ∨ j = 18 by omega) with rfl | rfl | rfl | rfl | rfl | rfl | rfl | rfl | rfl | rfl <;> rfl
theorem z_S_0_9 {G : zG} (r : Nat → Int32) (x : Int32) : z_E G (upd r 9 x) 0 = .inr (2, ([.ref (G.2.1 1), .ref (G.2.1 2), .ref (G.2.1 3), .ref (G.2.1 4), .ref (G.2.1 5), .ref (G.2.1 6), .ref (G.2.1 7), .ref (G.2.1 8), .ref (G.2.1 9), .int (r 9), .int (r 10), .int (r 11), .int (r 12), .int (r 13), .int (r 14), .int (r 15), .int (r 16), .int (r 17), .int (r 18)]).set 9 (.int x)) := rfl
theorem z_S_0_10 {G : zG} (r : Nat → Int32) (x : Int32) : z_E G (upd r 10 x) 0 = .inr (2, ([.ref (G.2.1 1), .ref (G.2.1 2), .ref (G.2.1 3), .ref (G.2.1 4), .ref (G.2.1 5), .ref (G.2.1 6), .ref (G.2.1 7), .ref (G.2.1 8), .ref (G.2.1 9), .int (r 9), .int (r 10), .int (r 11), .int (r 12), .int (r 13), .int (r 14), .int (r 15), .int (r 16), .int (r 17), .int (r 18)]).set 10 (.int x)) := rfl
theorem z_S_0_11 {G : zG} (r : Nat → Int32) (x : Int32) : z_E G (upd r 11 x) 0 = .inr (2, ([.ref (G.2.1 1), .ref (G.2.1 2), .ref (G.2.1 3), .ref (G.2.1 4), .ref (G.2.1 5), .ref (G.2.1 6), .ref (G.2.1 7), .ref (G.2.1 8), .ref (G.2.1 9), .int (r 9), .int (r 10), .int (r 11), .int (r 12), .int (r 13), .int (r 14), .int (r 15), .int (r 16), .int (r 17), .int (r 18)]).set 11 (.int x)) := rfl
theorem z_S_0_12 {G : zG} (r : Nat → Int32) (x : Int32) : z_E G (upd r 12 x) 0 = .inr (2, ([.ref (G.2.1 1), .ref (G.2.1 2), .ref (G.2.1 3), .ref (G.2.1 4), .ref (G.2.1 5), .ref (G.2.1 6), .ref (G.2.1 7), .ref (G.2.1 8), .ref (G.2.1 9), .int (r 9), .int (r 10), .int (r 11), .int (r 12), .int (r 13), .int (r 14), .int (r 15), .int (r 16), .int (r 17), .int (r 18)]).set 12 (.int x)) := rfl
theorem z_S_0_13 {G : zG} (r : Nat → Int32) (x : Int32) : z_E G (upd r 13 x) 0 = .inr (2, ([.ref (G.2.1 1), .ref (G.2.1 2), .ref (G.2.1 3), .ref (G.2.1 4), .ref (G.2.1 5), .ref (G.2.1 6), .ref (G.2.1 7), .ref (G.2.1 8), .ref (G.2.1 9), .int (r 9), .int (r 10), .int (r 11), .int (r 12), .int (r 13), .int (r 14), .int (r 15), .int (r 16), .int (r 17), .int (r 18)]).set 13 (.int x)) := rfl
theorem z_S_0_14 {G : zG} (r : Nat → Int32) (x : Int32) : z_E G (upd r 14 x) 0 = .inr (2, ([.ref (G.2.1 1), .ref (G.2.1 2), .ref (G.2.1 3), .ref (G.2.1 4), .ref (G.2.1 5), .ref (G.2.1 6), .ref (G.2.1 7), .ref (G.2.1 8), .ref (G.2.1 9), .int (r 9), .int (r 10), .int (r 11), .int (r 12), .int (r 13), .int (r 14), .int (r 15), .int (r 16), .int (r 17), .int (r 18)]).set 14 (.int x)) := rfl
theorem z_S_0_15 {G : zG} (r : Nat → Int32) (x : Int32) : z_E G (upd r 15 x) 0 = .inr (2, ([.ref (G.2.1 1), .ref (G.2.1 2), .ref (G.2.1 3), .ref (G.2.1 4), .ref (G.2.1 5), .ref (G.2.1 6), .ref (G.2.1 7), .ref (G.2.1 8), .ref (G.2.1 9), .int (r 9), .int (r 10), .int (r 11), .int (r 12), .int (r 13), .int (r 14), .int (r 15), .int (r 16), .int (r 17), .int (r 18)]).set 15 (.int x)) := rfl
theorem z_S_0_16 {G : zG} (r : Nat → Int32) (x : Int32) : z_E G (upd r 16 x) 0 = .inr (2, ([.ref (G.2.1 1), .ref (G.2.1 2), .ref (G.2.1 3), .ref (G.2.1 4), .ref (G.2.1 5), .ref (G.2.1 6), .ref (G.2.1 7), .ref (G.2.1 8), .ref (G.2.1 9), .int (r 9), .int (r 10), .int (r 11), .int (r 12), .int (r 13), .int (r 14), .int (r 15), .int (r 16), .int (r 17), .int (r 18)]).set 16 (.int x)) := rfl
theorem z_S_0_17 {G : zG} (r : Nat → Int32) (x : Int32) : z_E G (upd r 17 x) 0 = .inr (2, ([.ref (G.2.1 1), .ref (G.2.1 2), .ref (G.2.1 3), .ref (G.2.1 4), .ref (G.2.1 5), .ref (G.2.1 6), .ref (G.2.1 7), .ref (G.2.1 8), .ref (G.2.1 9), .int (r 9), .int (r 10), .int (r 11), .int (r 12), .int (r 13), .int (r 14), .int (r 15), .int (r 16), .int (r 17), .int (r 18)]).set 17 (.int x)) := rfl
theorem z_S_0_18 {G : zG} (r : Nat → Int32) (x : Int32) : z_E G (upd r 18 x) 0 = .inr (2, ([.ref (G.2.1 1), .ref (G.2.1 2), .ref (G.2.1 3), .ref (G.2.1 4), .ref (G.2.1 5), .ref (G.2.1 6), .ref (G.2.1 7), .ref (G.2.1 8), .ref (G.2.1 9), .int (r 9), .int (r 10), .int (r 11), .int (r 12), .int (r 13), .int (r 14), .int (r 15), .int (r 16), .int (r 17), .int (r 18)]).set 18 (.int x)) := rfl
theorem z_S_90_4 {G : zG} (r : Nat → Int32) (x : Int32) : z_E G (upd r 4 x) 90 = .inr (3, ([.ref (G.2.1 0), .ref (G.2.1 91), .ref (G.2.1 92), .ref (G.2.1 93), .int (r 4), .ref (G.2.1 94), .ref (G.2.1 96)]).set 4 (.int x)) := rfl
theorem z_S_94_1 {G : zG} (r : Nat → Int32) (x : Int32) : z_E G (upd r 1 x) 94 = .inr (0, ([.ref (G.2.1 95), .int (r 1)]).set 1 (.int x)) := rfl
theorem z_S_96_0 {G : zG} (r : Nat → Int32) (x : Int32) : z_E G (upd r 0 x) 96 = .inr (1, ([.ref (G.2.1 (z_rf (r 0))), .ref (G.2.1 (z_rf (r 1)))]).set 0 (.ref (G.2.1 (z_rf x)))) := rfl
theorem z_S_96_1 {G : zG} (r : Nat → Int32) (x : Int32) : z_E G (upd r 1 x) 96 = .inr (1, ([.ref (G.2.1 (z_rf (r 0))), .ref (G.2.1 (z_rf (r 1)))]).set 1 (.ref (G.2.1 (z_rf x)))) := rfl
/-! starts, ends, pure binds -/
theorem z_start {l : Launch} {G : zG} {y : MethodName} {ws ws' : List Cond} {rm : Room} {cc : ByteArray} {maxL : Nat} {ret : Option FieldType} {own : String} {μ : Mm} {av : List Value} {Qc : Nat → Array Value → State → Outcome → State → Prop}
    (hy : plainName y.cls = true) (hown : y.cls = own) (hw : ws = Cond.code y cc maxL ret :: ws') (hle : (lg_sl av).length ≤ maxL)
    (body : ∀ (p : Program) (e : Env) (s : State) (m : MethodId) (args : Array Value) (below : List Frame) (meth : Method) (c : Code), CallFix p m c cc maxL s args ws own → meth.sig.returnType = ret → meth.locks = false → z_Z G (z_A G s.heap.size) s → z_P G μ s.heap → ∀ ls : Array Slot, lv_has ls maxL (lv_args 0 av) →
      W p l e rm s m args below meth c s.heap [] 0 0 (MQ below (Qc s.heap.size) args s 0 0 (z_A G s.heap.size)) (F0 m 0 ls [])) (sz : Nat) : Met l y ws rm (z_Pre G μ av sz) (Qc sz) 0 0 (z_A G sz) := by
  refine Met.ofW (cc := cc) (maxL := maxL) (ret := ret) hy hw ?_
  intro p e s m args below meth c s₁ B hml hv
  obtain ⟨rfl, hsz, hP, Z⟩ := hv
  subst hsz
  have hl := lv_entry av (n := maxL) hle
  rw [lg_entry_eq]
  exact body p e s m _ below meth c ⟨B.exec, B.bytes, hml, by rw [← hown]; exact findClass_of_methodNamed B.named, atoms_spec (ws := ws) B.pre⟩ B.returns B.notSynchronized Z hP _ hl
theorem z_startF {l : Launch} {G : zG} {y : MethodName} {ws ws' : List Cond} {rm : Room} {cc : ByteArray} {maxL : Nat} {ret : Option FieldType} {own : String} {μ : Mm} {av : List Value} {Qc : Nat → Array Value → State → Outcome → State → Prop}
    (hy : plainFor y = true) (hown : y.cls = own) (hw : ws = Cond.code y cc maxL ret :: ws') (hle : (lg_sl av).length ≤ maxL)
    (body : ∀ (p : Program) (e : Env) (s : State) (m : MethodId) (args : Array Value) (below : List Frame) (meth : Method) (c : Code), CallFix p m c cc maxL s args ws own → meth.sig.returnType = ret → meth.locks = false → z_Z G (z_A G s.heap.size) s → z_P G μ s.heap → ∀ ls : Array Slot, lv_has ls maxL (lv_args 0 av) →
      W p l e rm s m args below meth c s.heap [] 0 0 (MQ below (Qc s.heap.size) args s 0 0 (z_A G s.heap.size)) (F0 m 0 ls [])) (sz : Nat) : Met l y ws rm (z_Pre G μ av sz) (Qc sz) 0 0 (z_A G sz) := by
  refine va_MetF (cc := cc) (maxL := maxL) (ret := ret) hy hw ?_
  intro p e s m args below meth c s₁ B hml hv
  obtain ⟨rfl, hsz, hP, Z⟩ := hv
  subst hsz
  have hl := lv_entry av (n := maxL) hle
  rw [lg_entry_eq]
  exact body p e s m _ below meth c ⟨B.exec, B.bytes, hml, by rw [← hown]; exact findClass_of_methodNamed B.named, atoms_spec (ws := ws) B.pre⟩ B.returns B.notSynchronized Z hP _ hl
def z_Qi (G : zG) (r0 : Int32) (mu1 : Mm) (sz : Nat) : Array Value → State → Outcome → State → Prop := va_Qi (fun r u => r = r0 ∧ u = mu1) (fun u t => z_P G u t.heap) (z_A G sz)
def z_Ql (G : zG) (r0 : Int64) (mu1 : Mm) (sz : Nat) : Array Value → State → Outcome → State → Prop := va_Ql (fun r u => r = r0 ∧ u = mu1) (fun u t => z_P G u t.heap) (z_A G sz)
def z_Qf (G : zG) (r0 : UInt32) (mu1 : Mm) (sz : Nat) : Array Value → State → Outcome → State → Prop := va_Qf (fun r u => r = r0 ∧ u = mu1) (fun u t => z_P G u t.heap) (z_A G sz)
def z_Qd (G : zG) (r0 : UInt64) (mu1 : Mm) (sz : Nat) : Array Value → State → Outcome → State → Prop := va_Qd (fun r u => r = r0 ∧ u = mu1) (fun u t => z_P G u t.heap) (z_A G sz)
def z_Qv (G : zG) (r0 : Unit) (mu1 : Mm) (sz : Nat) : Array Value → State → Outcome → State → Prop := va_Qv (fun u => u = mu1) (fun u t => z_P G u t.heap) (z_A G sz)
def z_Qr (G : zG) (r0 : Nat) (mu1 : Mm) (sz : Nat) : Array Value → State → Outcome → State → Prop := va_Qr (fun u => u = mu1) (fun u x t => x = G.2.2.2.1 r0 ∧ z_P G u t.heap) (z_A G sz)
section ZE
variable {p : Program} {l : Launch} {e : Env} {R : Room} {s : State} {m : MethodId} {args : Array Value} {below : List Frame} {meth : Method} {c : Code} {H : Heap} {locs : List Loc}
variable {cc : ByteArray} {pc nL : Nat} {ls : Array Slot} {G : zG} {mu1 : Mm} {Ts : List Cond} {own : String}
theorem z_reti {v : Int32} (C : CallFix p m c cc nL s args Ts own) (hr : meth.sig.returnType = some .int) (hlk : meth.locks = false) (hP : z_P G mu1 H) (hS : va_S (z_A G s.heap.size) s.heap H locs) (hdg : decode cc pc = .ok (.ireturn, 1)) :
    W p l e R s m args below meth c H locs 0 0 (MQ below (z_Qi G v mu1 s.heap.size) args s 0 0 (z_A G s.heap.size)) (F0 m pc ls [.int v]) :=
  W.iret C.1 C.2.1 hr (fun t ht _ => ⟨⟨v, mu1, rfl, ⟨rfl, rfl⟩, (show z_P G mu1 t.heap by rw [ht]; exact hP)⟩, hS.F ht⟩) hS.2.2 hdg hlk
theorem z_retz {v : Int32} {ty : FieldType} (C : CallFix p m c cc nL s args Ts own) (hr : meth.sig.returnType = some ty) (hlk : meth.locks = false) (hn : narrow ty (.int v) = .int v) (hP : z_P G mu1 H) (hS : va_S (z_A G s.heap.size) s.heap H locs) (hdg : decode cc pc = .ok (.ireturn, 1)) :
    W p l e R s m args below meth c H locs 0 0 (MQ below (z_Qi G v mu1 s.heap.size) args s 0 0 (z_A G s.heap.size)) (F0 m pc ls [.int v]) :=
  W.zret C.1 C.2.1 hr hn (fun t ht _ => ⟨⟨v, mu1, rfl, ⟨rfl, rfl⟩, (show z_P G mu1 t.heap by rw [ht]; exact hP)⟩, hS.F ht⟩) hS.2.2 hdg hlk
theorem z_retl {v : Int64} (C : CallFix p m c cc nL s args Ts own) (hr : meth.sig.returnType = some .long) (hlk : meth.locks = false) (hP : z_P G mu1 H) (hS : va_S (z_A G s.heap.size) s.heap H locs) (hdg : decode cc pc = .ok (.lreturn, 1)) :
    W p l e R s m args below meth c H locs 0 0 (MQ below (z_Ql G v mu1 s.heap.size) args s 0 0 (z_A G s.heap.size)) (F0 m pc ls [.long v]) :=
  W.lret C.1 C.2.1 hr (fun t ht _ => ⟨⟨v, mu1, rfl, ⟨rfl, rfl⟩, (show z_P G mu1 t.heap by rw [ht]; exact hP)⟩, hS.F ht⟩) hS.2.2 hdg hlk
theorem z_retf {v : UInt32} (C : CallFix p m c cc nL s args Ts own) (hr : meth.sig.returnType = some .float) (hlk : meth.locks = false) (hP : z_P G mu1 H) (hS : va_S (z_A G s.heap.size) s.heap H locs) (hdg : decode cc pc = .ok (.freturn, 1)) :
    W p l e R s m args below meth c H locs 0 0 (MQ below (z_Qf G v mu1 s.heap.size) args s 0 0 (z_A G s.heap.size)) (F0 m pc ls [.float v]) :=
  W.fret C.1 C.2.1 hr (fun t ht _ => ⟨⟨v, mu1, rfl, ⟨rfl, rfl⟩, (show z_P G mu1 t.heap by rw [ht]; exact hP)⟩, hS.F ht⟩) hS.2.2 hdg hlk
theorem z_retd {v : UInt64} (C : CallFix p m c cc nL s args Ts own) (hr : meth.sig.returnType = some .double) (hlk : meth.locks = false) (hP : z_P G mu1 H) (hS : va_S (z_A G s.heap.size) s.heap H locs) (hdg : decode cc pc = .ok (.dreturn, 1)) :
    W p l e R s m args below meth c H locs 0 0 (MQ below (z_Qd G v mu1 s.heap.size) args s 0 0 (z_A G s.heap.size)) (F0 m pc ls [.double v]) :=
  W.dret C.1 C.2.1 hr (fun t ht _ => ⟨⟨v, mu1, rfl, ⟨rfl, rfl⟩, (show z_P G mu1 t.heap by rw [ht]; exact hP)⟩, hS.F ht⟩) hS.2.2 hdg hlk
theorem z_retv {v : Unit} (C : CallFix p m c cc nL s args Ts own) (hr : meth.sig.returnType = none) (hlk : meth.locks = false) (hP : z_P G mu1 H) (hS : va_S (z_A G s.heap.size) s.heap H locs) (hdg : decode cc pc = .ok (.return_, 1)) :
    W p l e R s m args below meth c H locs 0 0 (MQ below (z_Qv G v mu1 s.heap.size) args s 0 0 (z_A G s.heap.size)) (F0 m pc ls []) :=
  W.vret C.1 C.2.1 hr (fun t ht _ => ⟨⟨mu1, rfl, rfl, (show z_P G mu1 t.heap by rw [ht]; exact hP)⟩, hS.F ht⟩) hS.2.2 hdg hlk
theorem z_retr {v : Nat} {n : String} (C : CallFix p m c cc nL s args Ts own) (hr : meth.sig.returnType = some (.object n)) (hlk : meth.locks = false) (hP : z_P G mu1 H) (hS : va_S (z_A G s.heap.size) s.heap H locs) (hdg : decode cc pc = .ok (.areturn, 1)) :
    W p l e R s m args below meth c H locs 0 0 (MQ below (z_Qr G v mu1 s.heap.size) args s 0 0 (z_A G s.heap.size)) (F0 m pc ls [.ref (G.2.2.2.1 v)]) :=
  W.aret C.1 C.2.1 hr (Or.inl ⟨n, rfl⟩) (Or.inr ⟨_, rfl⟩) (fun t ht _ => ⟨⟨mu1, G.2.2.2.1 v, rfl, rfl, rfl, (show z_P G mu1 t.heap by rw [ht]; exact hP)⟩, hS.F ht⟩) hS.2.2 hdg hlk
end ZE
def zb {α β : Type} (o : Option (α × Mm)) (f : α → Mm → Option β) : Option β := match o with
  | none => none
  | some q => f q.1 q.2
theorem zb_some {α β : Type} {o : Option (α × Mm)} {f : α → Mm → Option β} {r : β} (h : zb o f = some r) : ∃ (a : α) (μ : Mm), o = some (a, μ) ∧ f a μ = some r := by
  cases o with
  | none => cases h
  | some q => exact ⟨q.1, q.2, rfl, h⟩
theorem zb_of {α β : Type} {o : Option (α × Mm)} {f : α → Mm → Option β} {a : α} {μ : Mm} (h : o = some (a, μ)) : zb o f = f a μ := by rw [h]; rfl
/-- a call that may throw: the exception's class goes on -/
def zbx {α β : Type} (o : Option ((String ⊕ α) × Mm)) (f : α → Mm → Option ((String ⊕ β) × Mm)) : Option ((String ⊕ β) × Mm) := match o with
  | none => none
  | some (.inl E, μ) => some (.inl E, μ)
  | some (.inr a, μ) => f a μ
theorem zbx_r {α β : Type} {o : Option ((String ⊕ α) × Mm)} {f : α → Mm → Option ((String ⊕ β) × Mm)} {r : β} {mu1 : Mm} (h : zbx o f = some (.inr r, mu1)) : ∃ (a : α) (μ : Mm), o = some (.inr a, μ) ∧ f a μ = some (.inr r, mu1) := by
  rcases o with _ | ⟨E | a, μ⟩
  · cases h
  · cases h
  · exact ⟨a, μ, rfl, h⟩
theorem zbx_l {α β : Type} {o : Option ((String ⊕ α) × Mm)} {f : α → Mm → Option ((String ⊕ β) × Mm)} {E : String} {mu1 : Mm} (h : zbx o f = some (.inl E, mu1)) : o = some (.inl E, mu1) ∨ ∃ (a : α) (μ : Mm), o = some (.inr a, μ) ∧ f a μ = some (.inl E, mu1) := by
  rcases o with _ | ⟨E' | a, μ⟩
  · cases h
  · cases h; exact Or.inl rfl
  · exact Or.inr ⟨a, μ, rfl, h⟩
theorem zbx_of {α β : Type} {o : Option ((String ⊕ α) × Mm)} {f : α → Mm → Option ((String ⊕ β) × Mm)} {a : α} {μ : Mm} (h : o = some (.inr a, μ)) : zbx o f = f a μ := by rw [h]; rfl
theorem zbx_ofl {α β : Type} {o : Option ((String ⊕ α) × Mm)} {f : α → Mm → Option ((String ⊕ β) × Mm)} {E : String} {μ : Mm} (h : o = some (.inl E, μ)) : zbx o f = some (.inl E, μ) := by rw [h]; rfl
/-- a call of what may throw where it never does -/
def zbn {α β : Type} (o : Option ((String ⊕ α) × Mm)) (f : α → Mm → Option β) : Option β := match o with
  | some (.inr a, μ) => f a μ
  | _ => none
theorem zbn_some {α β : Type} {o : Option ((String ⊕ α) × Mm)} {f : α → Mm → Option β} {r : β} (h : zbn o f = some r) : ∃ (a : α) (μ : Mm), o = some (.inr a, μ) ∧ f a μ = some r := by
  rcases o with _ | ⟨E | a, μ⟩
  · cases h
  · cases h
  · exact ⟨a, μ, rfl, h⟩
theorem zbn_of {α β : Type} {o : Option ((String ⊕ α) × Mm)} {f : α → Mm → Option β} {a : α} {μ : Mm} (h : o = some (.inr a, μ)) : zbn o f = f a μ := by rw [h]; rfl
theorem z_ip {c : Prop} [Decidable c] {α : Type} {a b r : α} (hc : c) (h : (if c then a else b) = r) : a = r := by rw [if_pos hc] at h; exact h
theorem z_in {c : Prop} [Decidable c] {α : Type} {a b r : α} (hc : ¬ c) (h : (if c then a else b) = r) : b = r := by rw [if_neg hc] at h; exact h
theorem z_g {c : Prop} [Decidable c] {α : Type} {a : Option α} {r : α} (h : (if c then a else none) = some r) : c ∧ a = some r := by
  by_cases hc : c
  · rw [if_pos hc] at h; exact ⟨hc, h⟩
  · rw [if_neg hc] at h; cases h
abbrev z_ix (i : Int32) (n : Nat) : Prop := ¬ (i < 0 ∨ n ≤ i.toNatClampNeg)
theorem z_ixlt {i : Int32} {n : Nat} (h : z_ix i n) : i.toNatClampNeg < n := Nat.not_le.mp fun q => h (Or.inr q)
theorem z_rowin {K n : Nat} {i : Int32} (h : K = 97 ∨ K = 98) (hi : z_ix i 10) (hn : i.toNatClampNeg = n) : 99 ≤ 99 + 10 * (K - 97) + n ∧ 99 + 10 * (K - 97) + n < 119 := by
  have := z_ixlt hi
  omega
theorem z_slotin {n : Nat} {i : Int32} (hi : z_ix i 2) (hn : i.toNatClampNeg = n) : (10 * (1 + n)) % 10 = 0 ∧ 10 * (1 + n) < 90 := by
  have := z_ixlt hi
  omega
def zm {α β : Type} (e : α) (f : α → Option β) : Option β := f e
theorem zm_some {α β : Type} {e : α} {f : α → Option β} {r : β} (h : zm e f = some r) : ∃ m, m = e ∧ f m = some r := ⟨e, rfl, h⟩
abbrev z_n32 (r : UInt32) : Prop := r &&& 0x7fffffff ≤ 0x7f800000
abbrev z_n64 (r : UInt64) : Prop := r &&& 0x7fffffffffffffff ≤ 0x7ff0000000000000
theorem z_startW {l : Launch} {G : zG} {y : MethodName} {ws ws' : List Cond} {rm : Room} {cc : ByteArray} {maxL : Nat} {ret : Option FieldType} {own : String} {hh : List (Nat × Nat × Nat × Nat)} {μ : Mm} {av : List Value} {Qc : Nat → Array Value → State → Outcome → State → Prop}
    (hy : plainName y.cls = true) (hown : y.cls = own) (hw : ws = Cond.codeWith y cc maxL ret hh :: ws') (hle : (lg_sl av).length ≤ maxL)
    (body : ∀ (p : Program) (e : Env) (s : State) (m : MethodId) (args : Array Value) (below : List Frame) (meth : Method) (c : Code), CallFix p m c cc maxL s args ws own → meth.sig.returnType = ret → meth.locks = false → z_Z G (z_A G s.heap.size) s → z_P G μ s.heap → ∀ ls : Array Slot, lv_has ls maxL (lv_args 0 av) →
      W p l e rm s m args below meth c s.heap [] 0 0 (MQ below (Qc s.heap.size) args s 0 0 (z_A G s.heap.size)) (F0 m 0 ls [])) (sz : Nat) : Met l y ws rm (z_Pre G μ av sz) (Qc sz) 0 0 (z_A G sz) := by
  refine va_MetW (cc := cc) (maxL := maxL) (ret := ret) (hh := hh) hy hw ?_
  intro p e s m args below meth c s₁ B hml hv
  obtain ⟨rfl, hsz, hP, Z⟩ := hv
  subst hsz
  have hl := lv_entry av (n := maxL) hle
  rw [lg_entry_eq]
  have hts := atoms_spec (ws := ws) B.pre
  exact body p e s m _ below meth c ⟨B.exec, B.bytes, hml, by rw [← hown]; exact findClass_of_methodNamed B.named, hts⟩ B.returns B.notSynchronized Z hP _ hl
end
