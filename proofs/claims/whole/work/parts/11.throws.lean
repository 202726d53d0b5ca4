/-! METHODS THAT THROW: where the pure function says the exception's class -/
def z_XC (G : zG) (E : String) (mu1 : Mm) (sz : Nat) : String → State → State → Prop := vx_X (fun u => u = mu1) (fun E' u t => E' = E ∧ z_P G u t.heap) (z_A G sz)
def z_Fi (G : zG) (sz : Nat) : Array Value → State → Outcome → State → Prop := va_Qi (fun _ (_ : Mm) => False) (fun _ _ => True) (z_A G sz)
def z_Fv (G : zG) (sz : Nat) : Array Value → State → Outcome → State → Prop := va_Qv (fun (_ : Mm) => False) (fun _ _ => True) (z_A G sz)
abbrev z_nm : List String := ["java/lang/RuntimeException", "java/lang/Exception"]
def z_xb (cls : String) : List Cond := [.declares ⟨"java/lang/RuntimeException", "<init>", "(Ljava/lang/String;)V"⟩, .declares ⟨"java/lang/Exception", "<init>", "(Ljava/lang/String;)V"⟩, .declares ⟨"java/lang/Throwable", "<init>", "(Ljava/lang/String;)V"⟩, .castable cls cls]
theorem z_startX {l : Launch} {G : zG} {y : MethodName} {ws ws' : List Cond} {rm : Room} {cc : ByteArray} {maxL : Nat} {ret : Option FieldType} {own : String} {μ : Mm} {av : List Value} {Qc : Nat → Array Value → State → Outcome → State → Prop} {XC : Nat → String → State → State → Prop}
    (hy : plainName y.cls = true) (hown : y.cls = own) (hw : ws = Cond.code y cc maxL ret :: ws') (hle : (lg_sl av).length ≤ maxL)
    (body : ∀ (p : Program) (e : Env) (s : State) (m : MethodId) (args : Array Value) (below : List Frame) (meth : Method) (c : Code), CallFix p m c cc maxL s args ws own → (∀ x ∈ c.exceptionTable.toList, False) → meth.locks = false → z_Z G (z_A G s.heap.size) s → z_P G μ s.heap → ∀ ls : Array Slot, lv_has ls maxL (lv_args 0 av) →
      W p l e rm s m args below meth c s.heap [] 0 0 (vx_MQ below (Qc s.heap.size) (XC s.heap.size) args s 1 6 (z_A G s.heap.size)) (F0 m 0 ls [])) (sz : Nat) : vx_Met l y ws rm (z_Pre G μ av sz) (Qc sz) (XC sz) 1 6 (z_A G sz) := by
  refine vx_ofW (cc := cc) (maxL := maxL) (ret := ret) hy hw ?_
  intro p e s m args below meth c s₁ B hml ht hv
  obtain ⟨rfl, hsz, hP, Z⟩ := hv
  subst hsz
  have hl := lv_entry av (n := maxL) hle
  rw [lg_entry_eq]
  exact body p e s m _ below meth c ⟨B.exec, B.bytes, hml, by rw [← hown]; exact findClass_of_methodNamed B.named, atoms_spec (ws := ws) B.pre⟩ ht B.notSynchronized Z hP _ hl
theorem z_ckit {ic : Nat} {cls : String} {Ts : List Cond} {args : Array Value} {s : State} (hts : ∀ w ∈ Ts, w.before args s = true) (hat : ∀ w ∈ (vx_atS RX3 ic cls z_nm).filter goodWord, w ∈ Ts) (hB : ∀ w ∈ (vx_atS RX3 ic cls z_nm).filter (fun w => !goodWord w), w ∈ z_xb cls) {G : zG} {A : Nat → Prop} (Z : z_Z G A s) (hcls : cls ∈ z_cast) : ∀ w ∈ vx_atS RX3 ic cls z_nm, w.before args s = true := by
  have hd := Z.2.2.2.2.2.1
  refine vx_hat (B := z_xb cls) (fun w h => hts w (hat w h)) hB ?_
  exact vx_c (va_Nw.use rfl (hd _ (by simp [z_decl]))) (vx_c (va_Nw.use rfl (hd _ (by simp [z_decl]))) (vx_c (va_Nw.use rfl (hd _ (by simp [z_decl]))) (vx_c (va_Nw.use rfl (Z.2.2.2.2.2.2.1.1 cls hcls)) vx_n)))
theorem z_xB_o : ∀ w ∈ (vx_atS RX3 261 "java/lang/IndexOutOfBoundsException" z_nm).filter (fun w => !goodWord w), w ∈ z_xb "java/lang/IndexOutOfBoundsException" := by decide +kernel
theorem z_xB_a : ∀ w ∈ (vx_atS RX3 87 "java/lang/IllegalArgumentException" z_nm).filter (fun w => !goodWord w), w ∈ z_xb "java/lang/IllegalArgumentException" := by decide +kernel
theorem z_xB_s : ∀ w ∈ (vx_atS RX3 108 "java/lang/IllegalStateException" z_nm).filter (fun w => !goodWord w), w ∈ z_xb "java/lang/IllegalStateException" := by decide +kernel
theorem z_xG_o {ik : Nat} : ∀ w ∈ Cond.classLink RX3 ik "java/lang/IndexOutOfBoundsException" :: Cond.initialized "java/lang/IndexOutOfBoundsException" :: vx_atS RX3 261 "java/lang/IndexOutOfBoundsException" z_nm, vx_ot w = true := List.forall_mem_cons.mpr ⟨rfl, List.forall_mem_cons.mpr ⟨rfl, by decide +kernel⟩⟩
theorem z_xG_a {ik : Nat} : ∀ w ∈ Cond.classLink RX3 ik "java/lang/IllegalArgumentException" :: Cond.initialized "java/lang/IllegalArgumentException" :: vx_atS RX3 87 "java/lang/IllegalArgumentException" z_nm, vx_ot w = true := List.forall_mem_cons.mpr ⟨rfl, List.forall_mem_cons.mpr ⟨rfl, by decide +kernel⟩⟩
theorem z_xG_s {ik : Nat} : ∀ w ∈ Cond.classLink RX3 ik "java/lang/IllegalStateException" :: Cond.initialized "java/lang/IllegalStateException" :: vx_atS RX3 108 "java/lang/IllegalStateException" z_nm, vx_ot w = true := List.forall_mem_cons.mpr ⟨rfl, List.forall_mem_cons.mpr ⟨rfl, by decide +kernel⟩⟩
section ZX
variable {p : Program} {l : Launch} {e : Env} {R : Room} {s : State} {m : MethodId} {args : Array Value} {below : List Frame} {meth : Method} {c : Code} {H : Heap} {locs : List Loc} {cells slots : Nat} {Q : State → Prop}
variable {cc : ByteArray} {pc nL : Nat} {ls : Array Slot} {rest : List Value} {G : zG} {mu1 : Mm} {Ts : List Cond}
variable {Qc : Array Value → State → Outcome → State → Prop}
theorem z_xc {E : String} (hP : z_P G mu1 H) (hS : va_S (z_A G s.heap.size) s.heap H locs) {t : State} (hz : H.size ≤ t.heap.size) (hk : ∀ q : Nat, q < H.size → t.heap[q]? = H[q]?) : z_XC G E mu1 s.heap.size E s t := by
  refine ⟨mu1, rfl, ⟨rfl, va_P.kept hP (fun k q h => hk q.1 ((hP k q h).lt))⟩, Nat.le_trans hS.1 hz, fun q h1 h2 => ?_⟩
  rw [hk q (Nat.lt_of_lt_of_le h1 hS.1)]
  exact hS.2.1 q h1 h2
theorem z_throw (C : CallFix p m c cc nL s args Ts RX3) (Z : z_Z G (z_A G s.heap.size) s) (hst : l.stackTraces = false) (ht : ∀ x ∈ c.exceptionTable.toList, False) (hlk : meth.locks = false) (hP : z_P G mu1 H) (hS : va_S (z_A G s.heap.size) s.heap H locs) (hls : ls.size = nL)
    {cls text : String} {ik is ic : Nat} (hcls : Bundle.fit cls = true) (hk : Cond.classLink RX3 ik cls ∈ Ts) (hini : Cond.initialized cls ∈ Ts) (htx : (is, text) ∈ z_tx) (hcst : cls ∈ z_cast)
    (hat : ∀ w ∈ (vx_atS RX3 ic cls z_nm).filter goodWord, w ∈ Ts) (hB : ∀ w ∈ (vx_atS RX3 ic cls z_nm).filter (fun w => !goodWord w), w ∈ z_xb cls) (hgood : ∀ w ∈ Cond.classLink RX3 ik cls :: Cond.initialized cls :: vx_atS RX3 ic cls z_nm, vx_ot w = true)
    (d0 : decode cc pc = .ok (.new ik, 3)) (d3 : decode cc (pc + 3) = .ok (.dup, 1)) (d4 : decode cc (pc + 4) = .ok (.ldc is, 2)) (d6 : decode cc (pc + 6) = .ok (.invokespecial ic, 3)) (d9 : decode cc (pc + 9) = .ok (.athrow, 1))
    (hRf : 5 < R.frames) (hRl : (rest.map fun v => v.category).sum + 82 ≤ R.locals) (hRc : 1 ≤ R.cells) (hRs : 6 ≤ R.slots) :
    W p l e R s m args below meth c H locs 0 0 (vx_MQ below Qc (z_XC G cls mu1 s.heap.size) args s 1 6 (z_A G s.heap.size)) (F0 m pc ls rest) := by
  obtain ⟨sa, hsa⟩ := Z.2.2.2.2.2.2.2.1 _ htx
  exact vx_throwS C.1 C.2.1 hst C.2.2.2.1 hcls (by decide) (C.2.2.2.2 _ hk) (C.2.2.2.2 _ hini) hsa (z_ckit C.2.2.2.2 hat hB Z hcst) hgood Z.2.2.2.2.2.2.2.2.2.2.2.2.1 Z.2.2.2.2.2.2.2.2.2.2.2.2.2 hS (hls.trans C.2.2.1.symm) d0 d3 d4 d6 d9 (fun x hx => (ht x hx).elim) hRf hRl (by omega) (by omega) hlk
    (fun t _ hz hk => z_xc hP hS hz hk) hS.2.2 (by omega) (by omega)
theorem z_throwW (C : CallFix p m c cc nL s args Ts RX3) (Z : z_Z G (z_A G s.heap.size) s) (hst : l.stackTraces = false) (ht : ∀ x ∈ c.exceptionTable.toList, False) (hlk : meth.locks = false) (hP : z_P G mu1 H) (hS : va_S (z_A G s.heap.size) s.heap H locs) (hls : ls.size = nL)
    {cls text : String} {ik is ic : Nat} (hcls : Bundle.fit cls = true) (hk : Cond.classLink RX3 ik cls ∈ Ts) (hini : Cond.initialized cls ∈ Ts) (htx : (is, text) ∈ z_tx) (hcst : cls ∈ z_cast)
    (hat : ∀ w ∈ (vx_atS RX3 ic cls z_nm).filter goodWord, w ∈ Ts) (hB : ∀ w ∈ (vx_atS RX3 ic cls z_nm).filter (fun w => !goodWord w), w ∈ z_xb cls) (hgood : ∀ w ∈ Cond.classLink RX3 ik cls :: Cond.initialized cls :: vx_atS RX3 ic cls z_nm, vx_ot w = true)
    (d0 : decode cc pc = .ok (.new ik, 3)) (d3 : decode cc (pc + 3) = .ok (.dup, 1)) (d4 : decode cc (pc + 4) = .ok (.ldc_w is, 3)) (d7 : decode cc (pc + 7) = .ok (.invokespecial ic, 3)) (d10 : decode cc (pc + 10) = .ok (.athrow, 1))
    (hRf : 5 < R.frames) (hRl : (rest.map fun v => v.category).sum + 82 ≤ R.locals) (hRc : 1 ≤ R.cells) (hRs : 6 ≤ R.slots) :
    W p l e R s m args below meth c H locs 0 0 (vx_MQ below Qc (z_XC G cls mu1 s.heap.size) args s 1 6 (z_A G s.heap.size)) (F0 m pc ls rest) := by
  obtain ⟨sa, hsa⟩ := Z.2.2.2.2.2.2.2.1 _ htx
  exact vx_throwSW C.1 C.2.1 hst C.2.2.2.1 hcls (by decide) (C.2.2.2.2 _ hk) (C.2.2.2.2 _ hini) hsa (z_ckit C.2.2.2.2 hat hB Z hcst) hgood Z.2.2.2.2.2.2.2.2.2.2.2.2.1 Z.2.2.2.2.2.2.2.2.2.2.2.2.2 hS (hls.trans C.2.2.1.symm) d0 d3 d4 d7 d10 (fun x hx => (ht x hx).elim) hRf hRl (by omega) (by omega) hlk
    (fun t _ hz hk => z_xc hP hS hz hk) hS.2.2 (by omega) (by omega)
theorem z_xcallv {st0 : List Value} {E : String} {a : Array Value} (hS : va_S (z_A G s.heap.size) s.heap H locs)
    (hr : vx_Run p l e R s m args below meth c H locs cells slots 1 6 (F0 m pc ls st0) rest (z_Fv G H.size a) (z_XC G E mu1 H.size) (z_A G H.size))
    (kx : ∀ (ce : Cell) (q9 : Addr) (H1 : Heap) (locs1 : List Loc), z_P G mu1 H1 → va_S (z_A G s.heap.size) s.heap H1 locs1 → H1[q9]? = some ce → ce.vm = .none → s.vm.findClass E = some ce.cls → vx_W p l e R s m args below meth c H1 locs1 (cells + 1) (slots + 6) Q (F0 m pc ls rest) q9) : W p l e R s m args below meth c H locs cells slots Q (F0 m pc ls st0) :=
  vx_callv hr hS (fun q _ h => z_Asub hS.1 q h) (z_Asub hS.1) (fun q _ h => z_Asub hS.1 q h)
    (fun E' ce q9 u t H1 locs1 ht _ hp hB _ _ hS1 h1 h2 h3 => by
      subst hp
      obtain ⟨rfl, hB⟩ := hB
      exact kx ce q9 H1 locs1 (by rw [← ht]; exact hB) hS1 h1 h2 h3)
    (fun u t H1 locs1 _ _ hp => hp.elim)
theorem z_xcalli {st0 : List Value} {E : String} {a : Array Value} (hS : va_S (z_A G s.heap.size) s.heap H locs)
    (hr : vx_Run p l e R s m args below meth c H locs cells slots 1 6 (F0 m pc ls st0) rest (z_Fi G H.size a) (z_XC G E mu1 H.size) (z_A G H.size))
    (kx : ∀ (ce : Cell) (q9 : Addr) (H1 : Heap) (locs1 : List Loc), z_P G mu1 H1 → va_S (z_A G s.heap.size) s.heap H1 locs1 → H1[q9]? = some ce → ce.vm = .none → s.vm.findClass E = some ce.cls → vx_W p l e R s m args below meth c H1 locs1 (cells + 1) (slots + 6) Q (F0 m pc ls rest) q9) : W p l e R s m args below meth c H locs cells slots Q (F0 m pc ls st0) :=
  vx_calli hr hS (fun q _ h => z_Asub hS.1 q h) (z_Asub hS.1) (fun q _ h => z_Asub hS.1 q h)
    (fun E' ce q9 u t H1 locs1 ht _ hp hB _ _ hS1 h1 h2 h3 => by
      subst hp
      obtain ⟨rfl, hB⟩ := hB
      exact kx ce q9 H1 locs1 (by rw [← ht]; exact hB) hS1 h1 h2 h3)
    (fun r u t H1 locs1 _ _ hp => hp.elim)
theorem z_xout {E : String} {ce : Cell} {q : Addr} (ht : ∀ x ∈ c.exceptionTable.toList, False) (hlk : meth.locks = false) (hP : z_P G mu1 H) (hS : va_S (z_A G s.heap.size) s.heap H locs) (hcell : H[q]? = some ce) (hv : ce.vm = .none) (hcl : s.vm.findClass E = some ce.cls) :
    vx_W p l e R s m args below meth c H locs (0 + 1) (0 + 6) (vx_MQ below Qc (z_XC G E mu1 s.heap.size) args s 1 6 (z_A G s.heap.size)) (F0 m pc ls rest) q :=
  vx_out (fun x hx => (ht x hx).elim) hlk hcell hv hcl (fun t h _ => ⟨mu1, rfl, ⟨rfl, by rw [h]; exact hP⟩, hS.F h⟩) hS.2.2 (Nat.le_refl _) (Nat.le_refl _)
end ZX
/-! THE LAW'S OWN CALLERS: they catch, and answer which -/
def zw (o : Option ((String ⊕ Int32) × Mm)) (es : List (String × Int32)) : Option (Int32 × Mm) := match o with
  | none => none
  | some (.inr r, m) => some (0, z_up m 125 0 r)
  | some (.inl E, m) => (es.lookup E).map (fun k => (k, m))
theorem zw_some {o : Option ((String ⊕ Int32) × Mm)} {es : List (String × Int32)} {r : Int32} {mu1 : Mm} (h : zw o es = some (r, mu1)) : (∃ (r0 : Int32) (m : Mm), o = some (.inr r0, m) ∧ r = 0 ∧ mu1 = z_up m 125 0 r0) ∨ ∃ E : String, o = some (.inl E, mu1) ∧ es.lookup E = some r := by
  rcases o with _ | ⟨E | r0, m⟩
  · cases h
  · refine Or.inr ⟨E, ?_⟩
    have h2 : (es.lookup E).map (fun k => (k, m)) = some (r, mu1) := h
    cases hk : es.lookup E with
    | none => rw [hk] at h2; cases h2
    | some k => rw [hk] at h2; cases h2; exact ⟨rfl, rfl⟩
  · cases h
    exact Or.inl ⟨r0, m, rfl, rfl, rfl⟩
theorem zw_l1 {E a : String} {x r : Int32} (h : List.lookup E [(a, x)] = some r) : E = a ∧ r = x := by
  simp only [List.lookup] at h
  split at h
  · next q => exact ⟨by simpa using q, (Option.some.inj h).symm⟩
  · cases h
theorem zw_l2 {E a b : String} {x y r : Int32} (h : List.lookup E [(a, x), (b, y)] = some r) : (E = a ∧ r = x) ∨ (E = b ∧ r = y) := by
  rw [List.lookup] at h
  split at h
  · next q => exact Or.inl ⟨by simpa using q, (Option.some.inj h).symm⟩
  · exact Or.inr (zw_l1 h)
theorem z_startW {l : Launch} {G : zG} {y : MethodName} {ws ws' : List Cond} {rm : Room} {cc : ByteArray} {maxL : Nat} {ret : Option FieldType} {own : String} {hh : List (Nat × Nat × Nat × Nat)} {μ : Mm} {av : List Value} {Qc : Nat → Array Value → State → Outcome → State → Prop}
    (hy : plainName y.cls = true) (hown : y.cls = own) (hw : ws = Cond.codeWith y cc maxL ret hh :: ws') (hle : (lg_sl av).length ≤ maxL)
    (body : ∀ (p : Program) (e : Env) (s : State) (m : MethodId) (args : Array Value) (below : List Frame) (meth : Method) (c : Code), CallFix p m c cc maxL s args ws own → meth.sig.returnType = ret → c.exceptionTable.toList = tableOf hh → meth.locks = false → z_Z G (z_A G s.heap.size) s → z_P G μ s.heap → ∀ ls : Array Slot, lv_has ls maxL (lv_args 0 av) →
      W p l e rm s m args below meth c s.heap [] 0 0 (MQ below (Qc s.heap.size) args s 1 6 (z_A G s.heap.size)) (F0 m 0 ls [])) (sz : Nat) : Met l y ws rm (z_Pre G μ av sz) (Qc sz) 1 6 (z_A G sz) := by
  refine va_MetW (cc := cc) (maxL := maxL) (ret := ret) (hh := hh) hy hw ?_
  intro p e s m args below meth c s₁ B hml hv
  obtain ⟨rfl, hsz, hP, Z⟩ := hv
  subst hsz
  have hl := lv_entry av (n := maxL) hle
  rw [lg_entry_eq]
  have hts := atoms_spec (ws := ws) B.pre
  exact body p e s m _ below meth c ⟨B.exec, B.bytes, hml, by rw [← hown]; exact findClass_of_methodNamed B.named, hts⟩ B.returns (vx_table (x := y) B (hts _ (by rw [hw]; exact List.mem_cons_self))) B.notSynchronized Z hP _ hl
section ZW
variable {p : Program} {l : Launch} {e : Env} {R : Room} {s : State} {m : MethodId} {args : Array Value} {below : List Frame} {meth : Method} {c : Code} {H : Heap} {locs : List Loc} {cells slots : Nat} {Q : State → Prop}
variable {cc : ByteArray} {pc nL : Nat} {ls : Array Slot} {rest : List Value} {G : zG} {A : Nat → Prop} {μ mu1 : Mm} {Ts : List Cond} {own : String}
theorem z_calliK {st0 : List Value} {r0 : Int32} {a : Array Value} {mc ms : Nat} (hS : va_S (z_A G s.heap.size) s.heap H locs)
    (hr : va_Run p l e R s m args below meth c H locs cells slots mc ms (F0 m pc ls st0) rest (va_Qi (fun r u => r = r0 ∧ u = mu1) (fun u t => z_P G u t.heap) (z_A G H.size) a) (z_A G H.size))
    (kk : ∀ (H1 : Heap) (locs1 : List Loc), z_P G mu1 H1 → va_S (z_A G s.heap.size) s.heap H1 locs1 → W p l e R s m args below meth c H1 locs1 (cells + mc) (slots + ms) Q (F0 m (pc + 3) ls (.int r0 :: rest))) : W p l e R s m args below meth c H locs cells slots Q (F0 m pc ls st0) :=
  va_calli hr hS (fun q _ h => z_Asub hS.1 q h) (z_Asub hS.1) fun r u t H1 locs1 ht _ hp hB _ _ hS1 => by
    obtain ⟨rfl, rfl⟩ := hp
    exact kk H1 locs1 (by rw [← ht]; exact hB) hS1
theorem z_retiK {v : Int32} (C : CallFix p m c cc nL s args Ts own) (hr : meth.sig.returnType = some .int) (hlk : meth.locks = false) (hP : z_P G mu1 H) (hS : va_S (z_A G s.heap.size) s.heap H locs) (hdg : decode cc pc = .ok (.ireturn, 1)) :
    W p l e R s m args below meth c H locs cells slots (MQ below (z_Qi G v mu1 s.heap.size) args s cells slots (z_A G s.heap.size)) (F0 m pc ls [.int v]) :=
  W.iret C.1 C.2.1 hr (fun t ht _ => ⟨⟨v, mu1, rfl, ⟨rfl, rfl⟩, (show z_P G mu1 t.heap by rw [ht]; exact hP)⟩, hS.F ht⟩) hS.2.2 hdg hlk
theorem z_last (C : CallFix p m c cc nL s args Ts own) (Z : z_Z G A s) (hP : z_P G μ H) (hS : va_S A s.heap H locs) {x : Int32} (hdg : decode cc pc = .ok (.lastore, 1))
    (kk : ∀ (H1 : Heap) (locs1 : List Loc), z_P G (z_up μ 125 0 x) H1 → va_S A s.heap H1 locs1 → W p l e R s m args below meth c H1 locs1 cells slots Q (F0 m (pc + 1) ls rest)) : W p l e R s m args below meth c H locs cells slots Q (F0 m pc ls (.long x.toInt64 :: .int 0 :: .ref (G.2.1 125) :: rest)) := by
  refine va_last C.1 C.2.1 Z.1 hP (z_D Z μ) hS 125 3 (n := 1) (f := fun j => (μ 125 j).toInt64) (by rw [z_W_at (by decide), z_E_125]) rfl (show z_ix 0 1 by decide) hdg fun H1 locs1 hP1 _ hS1 => kk H1 locs1 ?_ hS1
  have e : z_E G (z_up μ 125 0 x 125) 125 = .inl (G.2.2.1 3, 1, .inr (.inl (vp_updL (fun j => (μ 125 j).toInt64) (0 : Int32).toNatClampNeg x.toInt64))) := by
    rw [z_up_s, z_E_125]
    congr 5
    funext j
    by_cases hj : j = 0
    · subst hj; simp [upd, vp_updL]
    · have h0 : ¬ j = (0 : Int32).toNatClampNeg := hj
      simp [upd, vp_updL, hj]
  rw [z_W_set (μ' := z_up μ 125 0 x) e (fun a ha => z_up_n μ _ _ ha)] at hP1
  exact hP1
theorem z_lald (C : CallFix p m c cc nL s args Ts own) (Z : z_Z G A s) (hP : z_P G μ H) (hdg : decode cc pc = .ok (.laload, 1))
    (kk : W p l e R s m args below meth c H locs cells slots Q (F0 m (pc + 1) ls (.long (μ 125 0).toInt64 :: rest))) : W p l e R s m args below meth c H locs cells slots Q (F0 m pc ls (.int 0 :: .ref (G.2.1 125) :: rest)) :=
  va_lald C.1 C.2.1 Z.1 hP 125 3 (n := 1) (f := fun j => (μ 125 j).toInt64) (by rw [z_W_at (by decide), z_E_125]) rfl (show z_ix 0 1 by decide) hdg kk
end ZW
