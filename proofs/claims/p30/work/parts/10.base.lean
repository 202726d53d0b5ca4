abbrev vwCl : List vw_C := [(RX0, TX0, 2), (RX1, TX1, 2), (RX2, TX2, 19), (RX3, TX3, 7)]
/-! THE BASE: the class is ONE world of 119 cells, numbered; what they hold is one memory of ints (a reference that moves is held as its cell's number). Rows of the kit over that world. -/
abbrev Mm : Type := Nat → Nat → Int32
def z_up (μ : Mm) (k j : Nat) (v : Int32) : Mm := fun a => if a = k then upd (μ k) j v else μ a
def z_row (μ : Mm) (k : Nat) (r : Nat → Int32) : Mm := fun a => if a = k then r else μ a
def z_cp (μ : Mm) (k1 k0 n : Nat) : Mm := z_row μ k1 (va_cpy (μ k0) (μ k1) 0 0 n)
theorem z_up_s (μ : Mm) (k j : Nat) (v : Int32) : z_up μ k j v k = upd (μ k) j v := if_pos rfl
theorem z_up_n (μ : Mm) {k a : Nat} (j : Nat) (v : Int32) (h : a ≠ k) : z_up μ k j v a = μ a := if_neg h
theorem z_row_s (μ : Mm) (k : Nat) (r : Nat → Int32) : z_row μ k r k = r := if_pos rfl
theorem z_row_n (μ : Mm) {k a : Nat} (r : Nat → Int32) (h : a ≠ k) : z_row μ k r a = μ a := if_neg h
def z_rf (x : Int32) : Nat := x.toNatClampNeg
def z_F : Nat := 1200
/-- the parameters of the world: classes and slots, the cells' addresses, the classes of rows, the addresses of the text constants and of their bytes -/
abbrev zG : Type := va_G × (Nat → Nat) × (Nat → ClassId) × (Nat → Nat) × (Nat → Nat)
/-- a cell by its number, with its ints -/
def z_E (G : zG) (r : Nat → Int32) (k : Nat) : va_E :=
  if k < 90 then
    (if k % 10 = 0 then .inr (2, [.ref (G.2.1 (k + 1)), .ref (G.2.1 (k + 2)), .ref (G.2.1 (k + 3)), .ref (G.2.1 (k + 4)), .ref (G.2.1 (k + 5)), .ref (G.2.1 (k + 6)), .ref (G.2.1 (k + 7)), .ref (G.2.1 (k + 8)), .ref (G.2.1 (k + 9)), .int (r 9), .int (r 10), .int (r 11), .int (r 12), .int (r 13), .int (r 14), .int (r 15), .int (r 16), .int (r 17), .int (r 18)])
     else .inl (G.2.2.1 0, (if k % 10 < 8 then 24 else 6), .inl r))
  else if 99 ≤ k ∧ k < 119 then .inl (G.2.2.1 0, 101, .inl r)
  else if k = 90 then .inr (3, [.ref (G.2.1 0), .ref (G.2.1 91), .ref (G.2.1 92), .ref (G.2.1 93), .int (r 4), .ref (G.2.1 94), .ref (G.2.1 96)])
  else if k = 91 then .inl (G.2.2.1 4, 2, .inr (.inr (.inr (.inr (fun j => some (G.2.1 (10 * (1 + j))))))))
  else if k = 92 then .inl (G.2.2.1 1, 2, .inl r)
  else if k = 93 then .inl (G.2.2.1 4, 6, .inr (.inr (.inr (.inr (fun j => some (G.2.1 (z_rf (r j))))))))
  else if k = 94 then .inr (0, [.ref (G.2.1 95), .int (r 1)])
  else if k = 95 then .inl (G.2.2.1 2, 60, .inl r)
  else if k = 96 then .inr (1, [.ref (G.2.1 (z_rf (r 0))), .ref (G.2.1 (z_rf (r 1)))])
  else if k = 97 then .inl (G.2.2.1 5, 10, .inr (.inr (.inr (.inr (fun j => some (G.2.1 (99 + 10 * (97 - 97) + j)))))))
  else .inl (G.2.2.1 5, 10, .inr (.inr (.inr (.inr (fun j => some (G.2.1 (99 + 10 * (98 - 97) + j)))))))
def z_W (G : zG) (μ : Mm) : va_W := (List.range 119).map (fun k => (G.2.1 k, z_E G (μ k) k))
theorem z_W_at {G : zG} {μ : Mm} {k : Nat} (hk : k < 119) : (z_W G μ)[k]? = some (G.2.1 k, z_E G (μ k) k) := by
  unfold z_W
  rw [List.getElem?_map, List.getElem?_range hk]
  rfl
theorem z_W_inv {G : zG} {μ : Mm} {k : Nat} {q : Nat × va_E} (h : (z_W G μ)[k]? = some q) : k < 119 ∧ q = (G.2.1 k, z_E G (μ k) k) := by
  have hk : k < 119 := by
    have := (List.getElem?_eq_some_iff.mp h).1
    simpa [z_W] using this
  rw [z_W_at hk] at h
  exact ⟨hk, (Option.some.inj h).symm⟩
theorem z_W_set {G : zG} {μ μ' : Mm} {k : Nat} {e : va_E} (he : z_E G (μ' k) k = e) (ho : ∀ a, a ≠ k → μ' a = μ a) : (z_W G μ).set k (G.2.1 k, e) = z_W G μ' := by
  apply List.ext_getElem?
  intro i
  by_cases hi : i < 119
  · by_cases hik : i = k
    · subst hik
      rw [List.getElem?_set_self (by simpa [z_W] using hi), z_W_at hi, he]
    · rw [List.getElem?_set_ne (Ne.symm hik), z_W_at hi, z_W_at hi, ho i hik]
  · rw [List.getElem?_eq_none (by simpa [z_W] using hi), List.getElem?_eq_none (by simpa [z_W] using hi)]
def z_T (G : zG) : List (ClassId × FieldType) := [(G.2.2.1 0, .int), (G.2.2.1 1, .boolean), (G.2.2.1 2, .char), (G.2.2.1 2, .char), (G.2.2.1 4, .object RX2), (G.2.2.1 5, .array .int)]
def z_P (G : zG) (μ : Mm) (H : Heap) : Prop := va_P G.1 vwCl (z_W G μ) H
/-- the cells that a method may change: the world's, and what is made behind sz -/
def z_A (G : zG) (sz : Nat) : Nat → Prop := fun q => (∃ k, k < 119 ∧ q = G.2.1 k) ∨ sz ≤ q
def z_mln : List (String × Nat × MethodName) := [(RX1, 23, yX3_sharpnessAfter), (RX1, 34, yX3_copiedDepth), (RX1, 37, yX3_copiedClearness), (RX2, 84, yX3_bluntness), (RX2, 96, yX3_copiedDepth), (RX2, 99, yX3_copiedClearness), (RX2, 115, yX3_sharpnessAfter)]
/-- what stays as it is: words of the tables -/
def z_St (_ : zG) (_ : Nat → Prop) (U : State) (_ : Heap) : Prop := (∀ q ∈ z_mln, va_Nw (.methodLinkNest q.1 q.2.1 q.2.2 "WaxCopies") U) ∧ True
theorem z_St.moved {G : zG} {A : Nat → Prop} {s U : State} {H : Heap} (hW : s.WarmedH U.vm) (h : z_St G A s H) : z_St G A U H := ⟨fun q hq => (h.1 q hq).warmM hW, trivial⟩
theorem z_St.kept {G : zG} {A : Nat → Prop} {U : State} {H H1 : Heap} (h : z_St G A U H) (_ : ∀ a : Nat, a < H.size → ¬ A a → H1[a]? = H[a]?) : z_St G A U H1 := h
theorem z_St.narrow {G : zG} {A B : Nat → Prop} {U : State} {H : Heap} (h : z_St G A U H) (_ : ∀ q, B q → A q) : z_St G B U H := h
/-- all that stays through a method's walk: tables, addresses apart, statics -/
def z_Z (G : zG) (A : Nat → Prop) (s : State) : Prop :=
  va_K G.1 vwCl (z_T G) s ∧ (∀ i j, i < 119 → j < 119 → G.2.1 i = G.2.1 j → i = j) ∧ (∀ k, k < 119 → A (G.2.1 k)) ∧ (∀ q : Nat, s.heap.size ≤ q → A q) ∧ z_St G A s s.heap
theorem z_D {G : zG} {A : Nat → Prop} {s : State} (Z : z_Z G A s) (μ : Mm) : va_D A (z_W G μ) := by
  refine ⟨fun i j p q hi hj h => ?_, fun k q h => ?_⟩
  · obtain ⟨h1, rfl⟩ := z_W_inv hi
    obtain ⟨h2, rfl⟩ := z_W_inv hj
    exact Z.2.1 i j h1 h2 h
  · obtain ⟨h1, rfl⟩ := z_W_inv h
    exact Z.2.2.1 k h1
def z_Pre (G : zG) (μ : Mm) (av : List Value) (sz : Nat) : Array Value → State → Prop := va_Pc av (fun U => U.heap.size = sz ∧ z_P G μ U.heap ∧ z_Z G (z_A G sz) U)
theorem z_Z.calling {G : zG} {A : Nat → Prop} {U : State} {g : JFrame} {mk : MethodId} {a : Array Value} (h : z_Z G A U) : z_Z G A (U.calling g mk a) :=
  ⟨va_K.moved (u := U) (U := U.calling g mk a) (Vm.Alike.refl U.vm) h.1, h.2.1, h.2.2.1, h.2.2.2.1, h.2.2.2.2.moved (s := U) (U := U.calling g mk a) (State.WarmedH.refl U)⟩
theorem z_blind {G : zG} {μ : Mm} {av : List Value} {sz : Nat} : FrameBlind (z_Pre G μ av sz) := fun _ _ _ _ q => ⟨q.1, q.2.1, q.2.2.1, q.2.2.2.calling⟩
theorem z_Asub {G : zG} {a b : Nat} (h : a ≤ b) : ∀ q, z_A G b q → z_A G a q := fun _ hq => hq.elim Or.inl (fun h2 => Or.inr (Nat.le_trans h h2))
theorem z_preS {G : zG} {μ : Mm} {s : State} {H : Heap} {locs : List Loc} {As : List Value} (Z : z_Z G (z_A G s.heap.size) s) (hS : va_S (z_A G s.heap.size) s.heap H locs) (hP : z_P G μ H) : PreS s H (z_Pre G μ As H.size) As := by
  refine ⟨z_blind, fun U hU hW => ⟨rfl, by rw [hU], by rw [hU]; exact hP, va_K.moved hW.alike Z.1, Z.2.1, fun k hk => Or.inl ⟨k, hk, rfl⟩, fun q hq => Or.inr (by rw [← hU]; exact hq), ?_⟩⟩
  rw [hU]
  exact ((Z.2.2.2.2.kept hS.2.1).narrow (z_Asub hS.1)).moved hW
theorem z_preV {G : zG} {μ : Mm} {s : State} {H : Heap} {locs : List Loc} {As : List Value} {C : String} {k ci : Nat} {q : vw_C} {fs : List Value} (Z : z_Z G (z_A G s.heap.size) s) (hS : va_S (z_A G s.heap.size) s.heap H locs) (hP : z_P G μ H)
    (hk : k < 119) (he : z_E G (μ k) k = .inr (ci, fs)) (hc : vwCl[ci]? = some q) (hC : q.1 = C) : PreV s H C (G.2.1 k) (z_Pre G μ (.ref (G.2.1 k) :: As) H.size) As := by
  refine ⟨z_blind, ?_, (z_preS Z hS hP).2⟩
  rw [← hC]
  exact va_recv Z.1 hP hc (q0 := k) (by rw [z_W_at hk, he])
section ZR
variable {p : Program} {l : Launch} {e : Env} {R : Room} {s : State} {m : MethodId} {args : Array Value} {below : List Frame} {meth : Method} {c : Code} {H : Heap} {locs : List Loc} {cells slots : Nat} {Q : State → Prop}
variable {cc : ByteArray} {pc nL : Nat} {ls : Array Slot} {rest : List Value} {G : zG} {A : Nat → Prop} {μ : Mm} {Ts : List Cond} {own : String}
theorem z_get (C : CallFix p m c cc nL s args Ts own) (Z : z_Z G A s) (hP : z_P G μ H) {k ci N j index : Nat} {Cn : String} {T : u_T} {fs : List Value} {v : Value} (hk : k < 119) (he : z_E G (μ k) k = .inr (ci, fs)) (hc : vwCl[ci]? = some (Cn, T, N)) (hin : ∀ w ∈ u_ws Cn T N, w ∈ Ts) (hj : j < N)
    (hl : Cond.fieldLink own index (T j).1 (T j).2.1 (T j).2.2.1 ∈ Ts) (hv : fs[j]? = some v) (hdg : decode cc pc = .ok (.getfield index, 3))
    (kk : W p l e R s m args below meth c H locs cells slots Q (F0 m (pc + 3) ls (v :: rest))) : W p l e R s m args below meth c H locs cells slots Q (F0 m pc ls (.ref (G.2.1 k) :: rest)) :=
  va_get C.1 C.2.1 C.2.2.2.2 hin C.2.2.2.1 Z.1 hP k (by rw [z_W_at hk, he]) hc j hj (C.2.2.2.2 _ hl) (fun _ h => h) hv hdg kk
theorem z_put (C : CallFix p m c cc nL s args Ts own) (Z : z_Z G A s) (hP : z_P G μ H) (hS : va_S A s.heap H locs) {k ci N j index : Nat} {Cn : String} {T : u_T} {fs : List Value} {v : Value} {x : Int32} {ty0 : Nat → FieldType} {ty : FieldType} (hk : k < 119) (he : z_E G (μ k) k = .inr (ci, fs)) (hc : vwCl[ci]? = some (Cn, T, N)) (hin : ∀ w ∈ u_ws Cn T N, w ∈ Ts)
    (hty : ∀ k, k < N → parseFieldDescriptor (T k).2.2.1 = some (ty0 k)) (hnm : ∀ a, a < N → ∀ b, b < N → a ≠ b → (T a).2.1 ≠ (T b).2.1) (hj : j < N) (hl : Cond.fieldLink own index (T j).1 (T j).2.1 (T j).2.2.1 ∈ Ts) (hfin : (T j).2.2.2 = false) (hd : parseFieldDescriptor (T j).2.2.1 = some ty) (hn : narrow ty v = v) (hfit : fits ty v = true) (hlen : j < fs.length)
    (hset : z_E G (upd (μ k) j x) k = .inr (ci, fs.set j v)) (hdg : decode cc pc = .ok (.putfield index, 3))
    (kk : ∀ (H1 : Heap) (locs1 : List Loc), z_P G (z_up μ k j x) H1 → va_S A s.heap H1 locs1 → W p l e R s m args below meth c H1 locs1 cells slots Q (F0 m (pc + 3) ls rest)) : W p l e R s m args below meth c H locs cells slots Q (F0 m pc ls (v :: .ref (G.2.1 k) :: rest)) := by
  refine va_put C.1 C.2.1 C.2.2.2.2 hin ty0 hty hnm C.2.2.2.1 Z.1 hP (z_D Z μ) hS k (by rw [z_W_at hk, he]) hc j hj (C.2.2.2.2 _ hl) (fun _ h => h) hfin hd hn hfit hlen hdg fun H1 locs1 hP1 _ hS1 => kk H1 locs1 ?_ hS1
  rw [z_W_set (μ' := z_up μ k j x) (by rw [z_up_s]; exact hset) (fun a ha => z_up_n μ j x ha)] at hP1
  exact hP1
theorem z_iald (C : CallFix p m c cc nL s args Ts own) (Z : z_Z G A s) (hP : z_P G μ H) {k n j : Nat} {i : Int32} (hk : k < 119) (he : z_E G (μ k) k = .inl (G.2.2.1 0, n, .inl (μ k))) (hin : vp_in i n) (hj : i.toNatClampNeg = j) (hdg : decode cc pc = .ok (.iaload, 1))
    (kk : W p l e R s m args below meth c H locs cells slots Q (F0 m (pc + 1) ls (.int (μ k j) :: rest))) : W p l e R s m args below meth c H locs cells slots Q (F0 m pc ls (.int i :: .ref (G.2.1 k) :: rest)) := by
  subst hj
  exact va_iald C.1 C.2.1 Z.1 hP k 0 (by rw [z_W_at hk, he]) rfl hin hdg kk
theorem z_zald (C : CallFix p m c cc nL s args Ts own) (Z : z_Z G A s) (hP : z_P G μ H) {k n j : Nat} {i : Int32} (hk : k < 119) (he : z_E G (μ k) k = .inl (G.2.2.1 1, n, .inl (μ k))) (hin : vp_in i n) (hj : i.toNatClampNeg = j) (hdg : decode cc pc = .ok (.baload, 1))
    (kk : W p l e R s m args below meth c H locs cells slots Q (F0 m (pc + 1) ls (.int (μ k j) :: rest))) : W p l e R s m args below meth c H locs cells slots Q (F0 m pc ls (.int i :: .ref (G.2.1 k) :: rest)) := by
  subst hj
  exact va_zald C.1 C.2.1 Z.1 hP k 1 (by rw [z_W_at hk, he]) rfl hin hdg kk
theorem z_cald (C : CallFix p m c cc nL s args Ts own) (Z : z_Z G A s) (hP : z_P G μ H) {k n j : Nat} {i : Int32} (hk : k < 119) (he : z_E G (μ k) k = .inl (G.2.2.1 2, n, .inl (μ k))) (hin : vp_in i n) (hj : i.toNatClampNeg = j) (hdg : decode cc pc = .ok (.caload, 1))
    (kk : W p l e R s m args below meth c H locs cells slots Q (F0 m (pc + 1) ls (.int (μ k j) :: rest))) : W p l e R s m args below meth c H locs cells slots Q (F0 m pc ls (.int i :: .ref (G.2.1 k) :: rest)) := by
  subst hj
  exact va_cald C.1 C.2.1 Z.1 hP k 2 (by rw [z_W_at hk, he]) rfl hin hdg kk
theorem z_iast (C : CallFix p m c cc nL s args Ts own) (Z : z_Z G A s) (hP : z_P G μ H) (hS : va_S A s.heap H locs) {k n j : Nat} {i x : Int32} (hk : k < 119) (he : ∀ r, z_E G r k = .inl (G.2.2.1 0, n, .inl r)) (hin : vp_in i n) (hj : i.toNatClampNeg = j) (hdg : decode cc pc = .ok (.iastore, 1))
    (kk : ∀ (H1 : Heap) (locs1 : List Loc), z_P G (z_up μ k j x) H1 → va_S A s.heap H1 locs1 → W p l e R s m args below meth c H1 locs1 cells slots Q (F0 m (pc + 1) ls rest)) : W p l e R s m args below meth c H locs cells slots Q (F0 m pc ls (.int x :: .int i :: .ref (G.2.1 k) :: rest)) := by
  subst hj
  refine va_iast C.1 C.2.1 Z.1 hP (z_D Z μ) hS k 0 (by rw [z_W_at hk, he]) rfl hin hdg fun H1 locs1 hP1 _ hS1 => kk H1 locs1 ?_ hS1
  rw [z_W_set (μ' := z_up μ k i.toNatClampNeg x) (by rw [z_up_s]; exact he _) (fun a ha => z_up_n μ _ x ha)] at hP1
  exact hP1
theorem z_zast (C : CallFix p m c cc nL s args Ts own) (Z : z_Z G A s) (hP : z_P G μ H) (hS : va_S A s.heap H locs) {k n j : Nat} {i x : Int32} (hk : k < 119) (he : ∀ r, z_E G r k = .inl (G.2.2.1 1, n, .inl r)) (hin : vp_in i n) (hj : i.toNatClampNeg = j) (hdg : decode cc pc = .ok (.bastore, 1))
    (kk : ∀ (H1 : Heap) (locs1 : List Loc), z_P G (z_up μ k j (vp_nar .boolean x)) H1 → va_S A s.heap H1 locs1 → W p l e R s m args below meth c H1 locs1 cells slots Q (F0 m (pc + 1) ls rest)) : W p l e R s m args below meth c H locs cells slots Q (F0 m pc ls (.int x :: .int i :: .ref (G.2.1 k) :: rest)) := by
  subst hj
  refine va_zast C.1 C.2.1 Z.1 hP (z_D Z μ) hS k 1 (by rw [z_W_at hk, he]) rfl hin hdg fun H1 locs1 hP1 _ hS1 => kk H1 locs1 ?_ hS1
  rw [z_W_set (μ' := z_up μ k i.toNatClampNeg (vp_nar .boolean x)) (by rw [z_up_s]; exact he _) (fun a ha => z_up_n μ _ _ ha)] at hP1
  exact hP1
theorem z_cast_ (C : CallFix p m c cc nL s args Ts own) (Z : z_Z G A s) (hP : z_P G μ H) (hS : va_S A s.heap H locs) {k n j : Nat} {i x : Int32} (hk : k < 119) (he : ∀ r, z_E G r k = .inl (G.2.2.1 2, n, .inl r)) (hin : vp_in i n) (hj : i.toNatClampNeg = j) (hdg : decode cc pc = .ok (.castore, 1))
    (kk : ∀ (H1 : Heap) (locs1 : List Loc), z_P G (z_up μ k j (vp_nar .char x)) H1 → va_S A s.heap H1 locs1 → W p l e R s m args below meth c H1 locs1 cells slots Q (F0 m (pc + 1) ls rest)) : W p l e R s m args below meth c H locs cells slots Q (F0 m pc ls (.int x :: .int i :: .ref (G.2.1 k) :: rest)) := by
  subst hj
  refine va_cast C.1 C.2.1 Z.1 hP (z_D Z μ) hS k 2 (by rw [z_W_at hk, he]) rfl hin hdg fun H1 locs1 hP1 _ hS1 => kk H1 locs1 ?_ hS1
  rw [z_W_set (μ' := z_up μ k i.toNatClampNeg (vp_nar .char x)) (by rw [z_up_s]; exact he _) (fun a ha => z_up_n μ _ _ ha)] at hP1
  exact hP1
/-- a row of rows is read -/
theorem z_aldA (C : CallFix p m c cc nL s args Ts own) (Z : z_Z G A s) (hP : z_P G μ H) {k n b : Nat} {f : Nat → Option Nat} {i : Int32} (hk : k < 119) (he : z_E G (μ k) k = .inl (G.2.2.1 5, n, .inr (.inr (.inr (.inr f))))) (hin : vp_in i n) (hf : f i.toNatClampNeg = some b) (hdg : decode cc pc = .ok (.aaload, 1))
    (kk : W p l e R s m args below meth c H locs cells slots Q (F0 m (pc + 1) ls (.ref b :: rest))) : W p l e R s m args below meth c H locs cells slots Q (F0 m pc ls (.int i :: .ref (G.2.1 k) :: rest)) := by
  have hlt : i.toNatClampNeg < n := Nat.not_le.mp fun q => hin (Or.inr q)
  have ha : (z_W G μ)[k]? = some (G.2.1 k, .inl (G.2.2.1 5, n, .inr (.inr (.inr (.inr f))))) := by rw [z_W_at hk, he]
  have ht : (z_T G)[5]? = some (G.2.2.1 5, .array .int) := rfl
  refine W.aald (v := va_rf (f i.toNatClampNeg)) (ty := .array .int) C.1 C.2.1 (hP k _ ha) ((Z.1.2 5 _ ht).1 n (fun j => va_rf (f j))) rfl (fun q => by cases q) (by show ¬ (i < 0 ∨ (arrV _ _ _).slots.size ≤ _); rw [arrV_size]; exact hin) (by show (arrV _ _ _).slots[_]? = _; rw [arrV_read _ _ hlt]) rfl rfl hdg ?_
  rw [hf]
  exact kk
theorem z_aldq (C : CallFix p m c cc nL s args Ts own) (Z : z_Z G A s) (hP : z_P G μ H) {k n b : Nat} {f : Nat → Option Nat} {i : Int32} (hk : k < 119) (he : z_E G (μ k) k = .inl (G.2.2.1 4, n, .inr (.inr (.inr (.inr f))))) (hin : vp_in i n) (hf : f i.toNatClampNeg = some b) (hdg : decode cc pc = .ok (.aaload, 1))
    (kk : W p l e R s m args below meth c H locs cells slots Q (F0 m (pc + 1) ls (.ref b :: rest))) : W p l e R s m args below meth c H locs cells slots Q (F0 m pc ls (.int i :: .ref (G.2.1 k) :: rest)) := by
  refine va_aldq C.1 C.2.1 Z.1 hP k 4 (C := RX2) (by rw [z_W_at hk, he]) rfl hin hdg ?_
  rw [hf]
  exact kk
/-- a cell of kind 2 is put into the row of saved states -/
theorem z_astq (C : CallFix p m c cc nL s args Ts own) (Z : z_Z G A s) (hP : z_P G μ H) (hS : va_S A s.heap H locs) {v j : Nat} {vs : List Value} {i : Int32} (hv : v < 119) (hev : z_E G (μ v) v = .inr (2, vs)) (hin : vp_in i 6) (hj : i.toNatClampNeg = j) (hdg : decode cc pc = .ok (.aastore, 1))
    (kk : ∀ (H1 : Heap) (locs1 : List Loc), z_P G (z_up μ 93 j (nI v)) H1 → va_S A s.heap H1 locs1 → W p l e R s m args below meth c H1 locs1 cells slots Q (F0 m (pc + 1) ls rest)) : W p l e R s m args below meth c H locs cells slots Q (F0 m pc ls (.ref (G.2.1 v) :: .int i :: .ref (G.2.1 93) :: rest)) := by
  subst hj
  refine va_astq C.1 C.2.1 Z.1 hP (z_D Z μ) hS 93 4 v 2 (r := (RX2, TX2, 19)) (f := fun j => some (G.2.1 (z_rf (μ 93 j)))) (n := 6) (by rw [z_W_at (by decide)]; rfl) rfl (by rw [z_W_at hv, hev]) rfl hin hdg fun H1 locs1 hP1 _ hS1 => kk H1 locs1 ?_ hS1
  have e : z_E G (z_up μ 93 i.toNatClampNeg (nI v) 93) 93 = .inl (G.2.2.1 4, 6, .inr (.inr (.inr (.inr (va_up (fun j => some (G.2.1 (z_rf (μ 93 j)))) i.toNatClampNeg (some (G.2.1 v))))))) := by
    rw [z_up_s]
    show (.inl (G.2.2.1 4, 6, .inr (.inr (.inr (.inr (fun j => some (G.2.1 (z_rf (upd (μ 93) i.toNatClampNeg (nI v) j))))))))  : va_E) = _
    congr 7
    funext j
    by_cases hj : j = i.toNatClampNeg
    · subst hj
      have e1 : z_rf (nI v) = v := nI_clamp (by omega)
      simp [upd, va_up, e1]
    · simp [upd, va_up, hj]
  rw [z_W_set (μ' := z_up μ 93 i.toNatClampNeg (nI v)) e (fun a ha => z_up_n μ _ _ ha)] at hP1
  exact hP1
/-- a whole row is copied -/
theorem z_acopy (C : CallFix p m c cc nL s args Ts own) (Z : z_Z G A s) (hP : z_P G μ H) (hS : va_S A s.heap H locs) {index k0 k1 n : Nat} {z : Int32} (hsz : ls.size = nL) (hl : Cond.methodLink own index arraycopyName ∈ Ts) (hnat : Cond.native arraycopyName ∈ Ts) (hstat : Cond.static arraycopyName ∈ Ts) (hini : Cond.initialized "java/lang/System" ∈ Ts)
    (h0 : k0 < 119) (h1 : k1 < 119) (e0 : ∀ r, z_E G r k0 = .inl (G.2.2.1 0, n, .inl r)) (e1 : ∀ r, z_E G r k1 = .inl (G.2.2.1 0, n, .inl r)) (hz : ¬ z < 0) (hn : z.toNatClampNeg = n)
    (hframes : 1 ≤ R.frames) (hlocals : (rest.map fun v => v.category).sum + (nativeFrameWords "java/lang/System" "arraycopy" 5 + 11) ≤ R.locals) (hdg : decode cc pc = .ok (.invokestatic index, 3))
    (kk : ∀ (H1 : Heap) (locs1 : List Loc), z_P G (z_cp μ k1 k0 n) H1 → va_S A s.heap H1 locs1 → W p l e R s m args below meth c H1 locs1 cells slots Q (F0 m (pc + 3) ls rest)) : W p l e R s m args below meth c H locs cells slots Q (F0 m pc ls (.int z :: .int 0 :: .ref (G.2.1 k1) :: .int 0 :: .ref (G.2.1 k0) :: rest)) := by
  subst hn
  refine va_copyi C.1 C.2.1 (C.2.2.1.trans hsz.symm) C.2.2.2.1 (C.2.2.2.2 _ hl) (C.2.2.2.2 _ hnat) (C.2.2.2.2 _ hstat) (C.2.2.2.2 _ hini) Z.1 hP (z_D Z μ) hS k0 k1 0 0 (by rw [z_W_at h0, e0]) (by rw [z_W_at h1, e1]) rfl rfl rfl (by decide) (by decide) hz (by show 0 + _ ≤ _; omega) (by show 0 + _ ≤ _; omega) (fun _ _ => rfl) hframes hlocals hdg fun H1 locs1 hP1 _ hS1 => kk H1 locs1 ?_ hS1
  have hP2 : va_P G.1 vwCl ((z_W G μ).set k1 (G.2.1 k1, .inl (G.2.2.1 0, z.toNatClampNeg, .inl (va_cpy (μ k0) (μ k1) 0 0 z.toNatClampNeg)))) H1 := hP1
  rw [z_W_set (μ' := z_row μ k1 (va_cpy (μ k0) (μ k1) 0 0 z.toNatClampNeg)) (by rw [z_row_s]; exact e1 _) (fun a ha => z_row_n μ _ ha)] at hP2
  exact hP2
/-- a call that answers an int -/
theorem z_calli {st0 : List Value} {mu1 : Mm} {r0 : Int32} {a : Array Value} (hS : va_S (z_A G s.heap.size) s.heap H locs)
    (hr : va_Run p l e R s m args below meth c H locs cells slots 0 0 (F0 m pc ls st0) rest (va_Qi (fun r u => r = r0 ∧ u = mu1) (fun u t => z_P G u t.heap) (z_A G H.size) a) (z_A G H.size))
    (kk : ∀ (H1 : Heap) (locs1 : List Loc), z_P G mu1 H1 → va_S (z_A G s.heap.size) s.heap H1 locs1 → W p l e R s m args below meth c H1 locs1 cells slots Q (F0 m (pc + 3) ls (.int r0 :: rest))) : W p l e R s m args below meth c H locs cells slots Q (F0 m pc ls st0) :=
  va_calli hr hS (fun q _ h => z_Asub hS.1 q h) (z_Asub hS.1) fun r u t H1 locs1 ht _ hp hB _ _ hS1 => by
    obtain ⟨rfl, rfl⟩ := hp
    exact kk H1 locs1 (by rw [← ht]; exact hB) hS1
theorem z_calll {st0 : List Value} {mu1 : Mm} {r0 : Int64} {a : Array Value} (hS : va_S (z_A G s.heap.size) s.heap H locs)
    (hr : va_Run p l e R s m args below meth c H locs cells slots 0 0 (F0 m pc ls st0) rest (va_Ql (fun r u => r = r0 ∧ u = mu1) (fun u t => z_P G u t.heap) (z_A G H.size) a) (z_A G H.size))
    (kk : ∀ (H1 : Heap) (locs1 : List Loc), z_P G mu1 H1 → va_S (z_A G s.heap.size) s.heap H1 locs1 → W p l e R s m args below meth c H1 locs1 cells slots Q (F0 m (pc + 3) ls (.long r0 :: rest))) : W p l e R s m args below meth c H locs cells slots Q (F0 m pc ls st0) :=
  va_calll hr hS (fun q _ h => z_Asub hS.1 q h) (z_Asub hS.1) fun r u t H1 locs1 ht _ hp hB _ _ hS1 => by
    obtain ⟨rfl, rfl⟩ := hp
    exact kk H1 locs1 (by rw [← ht]; exact hB) hS1
theorem z_callf {st0 : List Value} {mu1 : Mm} {r0 : UInt32} {a : Array Value} (hS : va_S (z_A G s.heap.size) s.heap H locs)
    (hr : va_Run p l e R s m args below meth c H locs cells slots 0 0 (F0 m pc ls st0) rest (va_Qf (fun r u => r = r0 ∧ u = mu1) (fun u t => z_P G u t.heap) (z_A G H.size) a) (z_A G H.size))
    (kk : ∀ (H1 : Heap) (locs1 : List Loc), z_P G mu1 H1 → va_S (z_A G s.heap.size) s.heap H1 locs1 → W p l e R s m args below meth c H1 locs1 cells slots Q (F0 m (pc + 3) ls (.float r0 :: rest))) : W p l e R s m args below meth c H locs cells slots Q (F0 m pc ls st0) :=
  va_callf hr hS (fun q _ h => z_Asub hS.1 q h) (z_Asub hS.1) fun r u t H1 locs1 ht _ hp hB _ _ hS1 => by
    obtain ⟨rfl, rfl⟩ := hp
    exact kk H1 locs1 (by rw [← ht]; exact hB) hS1
theorem z_calld {st0 : List Value} {mu1 : Mm} {r0 : UInt64} {a : Array Value} (hS : va_S (z_A G s.heap.size) s.heap H locs)
    (hr : va_Run p l e R s m args below meth c H locs cells slots 0 0 (F0 m pc ls st0) rest (va_Qd (fun r u => r = r0 ∧ u = mu1) (fun u t => z_P G u t.heap) (z_A G H.size) a) (z_A G H.size))
    (kk : ∀ (H1 : Heap) (locs1 : List Loc), z_P G mu1 H1 → va_S (z_A G s.heap.size) s.heap H1 locs1 → W p l e R s m args below meth c H1 locs1 cells slots Q (F0 m (pc + 3) ls (.double r0 :: rest))) : W p l e R s m args below meth c H locs cells slots Q (F0 m pc ls st0) :=
  va_calld hr hS (fun q _ h => z_Asub hS.1 q h) (z_Asub hS.1) fun r u t H1 locs1 ht _ hp hB _ _ hS1 => by
    obtain ⟨rfl, rfl⟩ := hp
    exact kk H1 locs1 (by rw [← ht]; exact hB) hS1
theorem z_callv {st0 : List Value} {mu1 : Mm} {a : Array Value} (hS : va_S (z_A G s.heap.size) s.heap H locs)
    (hr : va_Run p l e R s m args below meth c H locs cells slots 0 0 (F0 m pc ls st0) rest (va_Qv (fun u => u = mu1) (fun u t => z_P G u t.heap) (z_A G H.size) a) (z_A G H.size))
    (kk : ∀ (H1 : Heap) (locs1 : List Loc), z_P G mu1 H1 → va_S (z_A G s.heap.size) s.heap H1 locs1 → W p l e R s m args below meth c H1 locs1 cells slots Q (F0 m (pc + 3) ls rest)) : W p l e R s m args below meth c H locs cells slots Q (F0 m pc ls st0) :=
  va_callv hr hS (fun q _ h => z_Asub hS.1 q h) (z_Asub hS.1) fun u t H1 locs1 ht _ hp hB _ _ hS1 => by
    subst hp
    exact kk H1 locs1 (by rw [← ht]; exact hB) hS1
theorem z_callr {st0 : List Value} {mu1 : Mm} {r0 : Nat} {a : Array Value} (hS : va_S (z_A G s.heap.size) s.heap H locs)
    (hr : va_Run p l e R s m args below meth c H locs cells slots 0 0 (F0 m pc ls st0) rest (va_Qr (fun u => u = mu1) (fun u x t => x = r0 ∧ z_P G u t.heap) (z_A G H.size) a) (z_A G H.size))
    (kk : ∀ (H1 : Heap) (locs1 : List Loc), z_P G mu1 H1 → va_S (z_A G s.heap.size) s.heap H1 locs1 → W p l e R s m args below meth c H1 locs1 cells slots Q (F0 m (pc + 3) ls (.ref r0 :: rest))) : W p l e R s m args below meth c H locs cells slots Q (F0 m pc ls st0) :=
  va_callr hr hS (fun q _ h => z_Asub hS.1 q h) (z_Asub hS.1) fun x u t H1 locs1 ht _ hp hB _ _ hS1 => by
    subst hp
    obtain ⟨rfl, hB⟩ := hB
    exact kk H1 locs1 (by rw [← ht]; exact hB) hS1
end ZR
/-! cells, one by one -/
theorem z_E_0 {G : zG} (r : Nat → Int32) : z_E G r 0 = .inr (2, [.ref (G.2.1 1), .ref (G.2.1 2), .ref (G.2.1 3), .ref (G.2.1 4), .ref (G.2.1 5), .ref (G.2.1 6), .ref (G.2.1 7), .ref (G.2.1 8), .ref (G.2.1 9), .int (r 9), .int (r 10), .int (r 11), .int (r 12), .int (r 13), .int (r 14), .int (r 15), .int (r 16), .int (r 17), .int (r 18)]) := rfl
theorem z_E_1 {G : zG} (r : Nat → Int32) : z_E G r 1 = .inl (G.2.2.1 0, 24, .inl r) := rfl
theorem z_E_2 {G : zG} (r : Nat → Int32) : z_E G r 2 = .inl (G.2.2.1 0, 24, .inl r) := rfl
theorem z_E_3 {G : zG} (r : Nat → Int32) : z_E G r 3 = .inl (G.2.2.1 0, 24, .inl r) := rfl
theorem z_E_4 {G : zG} (r : Nat → Int32) : z_E G r 4 = .inl (G.2.2.1 0, 24, .inl r) := rfl
theorem z_E_5 {G : zG} (r : Nat → Int32) : z_E G r 5 = .inl (G.2.2.1 0, 24, .inl r) := rfl
theorem z_E_6 {G : zG} (r : Nat → Int32) : z_E G r 6 = .inl (G.2.2.1 0, 24, .inl r) := rfl
theorem z_E_7 {G : zG} (r : Nat → Int32) : z_E G r 7 = .inl (G.2.2.1 0, 24, .inl r) := rfl
theorem z_E_8 {G : zG} (r : Nat → Int32) : z_E G r 8 = .inl (G.2.2.1 0, 6, .inl r) := rfl
theorem z_E_9 {G : zG} (r : Nat → Int32) : z_E G r 9 = .inl (G.2.2.1 0, 6, .inl r) := rfl
theorem z_E_90 {G : zG} (r : Nat → Int32) : z_E G r 90 = .inr (3, [.ref (G.2.1 0), .ref (G.2.1 91), .ref (G.2.1 92), .ref (G.2.1 93), .int (r 4), .ref (G.2.1 94), .ref (G.2.1 96)]) := rfl
theorem z_E_91 {G : zG} (r : Nat → Int32) : z_E G r 91 = .inl (G.2.2.1 4, 2, .inr (.inr (.inr (.inr (fun j => some (G.2.1 (10 * (1 + j)))))))) := rfl
theorem z_E_92 {G : zG} (r : Nat → Int32) : z_E G r 92 = .inl (G.2.2.1 1, 2, .inl r) := rfl
theorem z_E_93 {G : zG} (r : Nat → Int32) : z_E G r 93 = .inl (G.2.2.1 4, 6, .inr (.inr (.inr (.inr (fun j => some (G.2.1 (z_rf (r j)))))))) := rfl
theorem z_E_94 {G : zG} (r : Nat → Int32) : z_E G r 94 = .inr (0, [.ref (G.2.1 95), .int (r 1)]) := rfl
theorem z_E_95 {G : zG} (r : Nat → Int32) : z_E G r 95 = .inl (G.2.2.1 2, 60, .inl r) := rfl
theorem z_E_96 {G : zG} (r : Nat → Int32) : z_E G r 96 = .inr (1, [.ref (G.2.1 (z_rf (r 0))), .ref (G.2.1 (z_rf (r 1)))]) := rfl
theorem z_E_wax {G : zG} {k : Nat} (h : k % 10 = 0 ∧ k < 90) (r : Nat → Int32) : z_E G r k = .inr (2, [.ref (G.2.1 (k + 1)), .ref (G.2.1 (k + 2)), .ref (G.2.1 (k + 3)), .ref (G.2.1 (k + 4)), .ref (G.2.1 (k + 5)), .ref (G.2.1 (k + 6)), .ref (G.2.1 (k + 7)), .ref (G.2.1 (k + 8)), .ref (G.2.1 (k + 9)), .int (r 9), .int (r 10), .int (r 11), .int (r 12), .int (r 13), .int (r 14), .int (r 15), .int (r 16), .int (r 17), .int (r 18)]) := by
  unfold z_E
  rw [if_pos h.2, if_pos h.1]
theorem z_E_wa {G : zG} {k : Nat} (i : Nat) (h : k % 10 = 0 ∧ k < 90) (hi : 0 < i ∧ i < 8) (r : Nat → Int32) : z_E G r (k + i) = .inl (G.2.2.1 0, 24, .inl r) := by
  unfold z_E
  rw [if_pos (show k + i < 90 by omega), if_neg (show ¬ (k + i) % 10 = 0 by omega), if_pos (show (k + i) % 10 < 8 by omega)]
theorem z_E_wb {G : zG} {k : Nat} (i : Nat) (h : k % 10 = 0 ∧ k < 90) (hi : i = 8 ∨ i = 9) (r : Nat → Int32) : z_E G r (k + i) = .inl (G.2.2.1 0, 6, .inl r) := by
  unfold z_E
  rw [if_pos (show k + i < 90 by omega), if_neg (show ¬ (k + i) % 10 = 0 by omega), if_neg (show ¬ (k + i) % 10 < 8 by omega)]
theorem z_E_row {G : zG} {k : Nat} (h : 99 ≤ k ∧ k < 119) (r : Nat → Int32) : z_E G r k = .inl (G.2.2.1 0, 101, .inl r) := by
  unfold z_E
  rw [if_neg (show ¬ k < 90 by omega), if_pos h]
theorem z_E_out {G : zG} {k : Nat} (h : k = 97 ∨ k = 98) (r : Nat → Int32) : z_E G r k = .inl (G.2.2.1 5, 10, .inr (.inr (.inr (.inr (fun j => some (G.2.1 (99 + 10 * (k - 97) + j))))))) := by
  rcases h with rfl | rfl <;> rfl
theorem z_S_wax {G : zG} {k : Nat} (h : k % 10 = 0 ∧ k < 90) (r : Nat → Int32) (x : Int32) (j : Nat) (hj : 9 ≤ j ∧ j < 19) : z_E G (upd r j x) k = .inr (2, ([.ref (G.2.1 (k + 1)), .ref (G.2.1 (k + 2)), .ref (G.2.1 (k + 3)), .ref (G.2.1 (k + 4)), .ref (G.2.1 (k + 5)), .ref (G.2.1 (k + 6)), .ref (G.2.1 (k + 7)), .ref (G.2.1 (k + 8)), .ref (G.2.1 (k + 9)), .int (r 9), .int (r 10), .int (r 11), .int (r 12), .int (r 13), .int (r 14), .int (r 15), .int (r 16), .int (r 17), .int (r 18)]).set j (.int x)) := by
  rw [z_E_wax h]
  rcases (show j = 9 ∨ j = 10 ∨ j = 11 ∨ j = 12 ∨ j = 13 ∨ j = 14 ∨ j = 15 ∨ j = 16 ∨ j = 17 ∨ j = 18 by omega) with rfl | rfl | rfl | rfl | rfl | rfl | rfl | rfl | rfl | rfl <;> rfl
theorem z_S_0_9 {G : zG} (r : Nat → Int32) (x : Int32) : z_E G (upd r 9 x) 0 = .inr (2, ([.ref (G.2.1 1), .ref (G.2.1 2), .ref (G.2.1 3), .ref (G.2.1 4), .ref (G.2.1 5), .ref (G.2.1 6), .ref (G.2.1 7), .ref (G.2.1 8), .ref (G.2.1 9), .int (r 9), .int (r 10), .int (r 11), .int (r 12), .int (r 13), .int (r 14), .int (r 15), .int (r 16), .int (r 17), .int (r 18)]).set 9 (.int x)) := rfl
theorem z_S_0_10 {G : zG} (r : Nat → Int32) (x : Int32) : z_E G (upd r 10 x) 0 = .inr (2, ([.ref (G.2.1 1), .ref (G.2.1 2), .ref (G.2.1 3), .ref (G.2.1 4), .ref (G.2.1 5), .ref (G.2.1 6), .ref (G.2.1 7), .ref (G.2.1 8), .ref (G.2.1 9), .int (r 9), .int (r 10), .int (r 11), .int (r 12), .int (r 13), .int (r 14), .int (r 15), .int (r 16), .int (r 17), .int (r 18)]).set 10 (.int x)) := rfl
theorem z_S_0_11 {G : zG} (r : Nat → Int32) (x : Int32) : z_E G (upd r 11 x) 0 = .inr (2, ([.ref (G.2.1 1), .ref (G.2.1 2), .ref (G.2.1 3), .ref (G.2.1 4), .ref (G.2.1 5), .ref (G.2.1 6), .ref (G.2.1 7), .ref (G.2.1 8), .ref (G.2.1 9), .int (r 9), .int (r 10), .int (r 11), .int (r 12), .int (r 13), .int (r 14), .int (r 15), .int (r 16), .int (r 17), .int (r 18)]).set 11 (.int x)) := rfl
theorem z_S_0_12 {G : zG} (r : Nat → Int32) (x : Int32) : z_E G (upd r 12 x) 0 = .inr (2, ([.ref (G.2.1 1), .ref (G.2.1 2), .ref (G.2.1 3), .ref (G.2.1 4), .ref (G.2.1 5), .ref (G.2.1 6), .ref (G.2.1 7), .ref (G.2.1 8), .ref (G.2.1 9), .int (r 9), .int (r 10), .int (r 11), .int (r 12), .int (r 13), .int (r 14), .int (r 15), .int (r 16), .int (r 17), .int (r 18)]).set 12 (.int x)) := rfl
theorem z_S_0_13 {G : zG} (r : Nat → Int32) (x : Int32) : z_E G (upd r 13 x) 0 = .inr (2, ([.ref (G.2.1 1), .ref (G.2.1 2), .ref (G.2.1 3), .ref (G.2.1 4), .ref (G.2.1 5), .ref (G.2.1 6), .ref (G.2.1 7), .ref (G.2.1 8), .ref (G.2.1 9), .int (r 9), .int (r 10), .int (r 11), .int (r 12), .int (r 13), .int (r 14), .int (r 15), .int (r 16), .int (r 17), .int (r 18)]).set 13 (.int x)) := rfl
theorem z_S_0_14 {G : zG} (r : Nat → Int32) (x : Int32) : z_E G (upd r 14 x) 0 = .inr (2, ([.ref (G.2.1 1), .ref (G.2.1 2), .ref (G.2.1 3), .ref (G.2.1 4), .ref (G.2.1 5), .ref (G.2.1 6), .ref (G.2.1 7), .ref (G.2.1 8), .ref (G.2.1 9), .int (r 9), .int (r 10), .int (r 11), .int (r 12), .int (r 13), .int (r 14), .int (r 15), .int (r 16), .int (r 17), .int (r 18)]).set 14 (.int x)) := rfl
theorem z_S_0_15 {G : zG} (r : Nat → Int32) (x : Int32) : z_E G (upd r 15 x) 0 = .inr (2, ([.ref (G.2.1 1), .ref (G.2.1 2), .ref (G.2.1 3), .ref (G.2.1 4), .ref (G.2.1 5), .ref (G.2.1 6), .ref (G.2.1 7), .ref (G.2.1 8), .ref (G.2.1 9), .int (r 9), .int (r 10), .int (r 11), .int (r 12), .int (r 13), .int (r 14), .int (r 15), .int (r 16), .int (r 17), .int (r 18)]).set 15 (.int x)) := rfl
theorem z_S_0_16 {G : zG} (r : Nat → Int32) (x : Int32) : z_E G (upd r 16 x) 0 = .inr (2, ([.ref (G.2.1 1), .ref (G.2.1 2), .ref (G.2.1 3), .ref (G.2.1 4), .ref (G.2.1 5), .ref (G.2.1 6), .ref (G.2.1 7), .ref (G.2.1 8), .ref (G.2.1 9), .int (r 9), .int (r 10), .int (r 11), .int (r 12), .int (r 13), .int (r 14), .int (r 15), .int (r 16), .int (r 17), .int (r 18)]).set 16 (.int x)) := rfl
theorem z_S_0_17 {G : zG} (r : Nat → Int32) (x : Int32) : z_E G (upd r 17 x) 0 = .inr (2, ([.ref (G.2.1 1), .ref (G.2.1 2), .ref (G.2.1 3), .ref (G.2.1 4), .ref (G.2.1 5), .ref (G.2.1 6), .ref (G.2.1 7), .ref (G.2.1 8), .ref (G.2.1 9), .int (r 9), .int (r 10), .int (r 11), .int (r 12), .int (r 13), .int (r 14), .int (r 15), .int (r 16), .int (r 17), .int (r 18)]).set 17 (.int x)) := rfl
theorem z_S_0_18 {G : zG} (r : Nat → Int32) (x : Int32) : z_E G (upd r 18 x) 0 = .inr (2, ([.ref (G.2.1 1), .ref (G.2.1 2), .ref (G.2.1 3), .ref (G.2.1 4), .ref (G.2.1 5), .ref (G.2.1 6), .ref (G.2.1 7), .ref (G.2.1 8), .ref (G.2.1 9), .int (r 9), .int (r 10), .int (r 11), .int (r 12), .int (r 13), .int (r 14), .int (r 15), .int (r 16), .int (r 17), .int (r 18)]).set 18 (.int x)) := rfl
theorem z_S_90_4 {G : zG} (r : Nat → Int32) (x : Int32) : z_E G (upd r 4 x) 90 = .inr (3, ([.ref (G.2.1 0), .ref (G.2.1 91), .ref (G.2.1 92), .ref (G.2.1 93), .int (r 4), .ref (G.2.1 94), .ref (G.2.1 96)]).set 4 (.int x)) := rfl
theorem z_S_94_1 {G : zG} (r : Nat → Int32) (x : Int32) : z_E G (upd r 1 x) 94 = .inr (0, ([.ref (G.2.1 95), .int (r 1)]).set 1 (.int x)) := rfl
theorem z_S_96_0 {G : zG} (r : Nat → Int32) (x : Int32) : z_E G (upd r 0 x) 96 = .inr (1, ([.ref (G.2.1 (z_rf (r 0))), .ref (G.2.1 (z_rf (r 1)))]).set 0 (.ref (G.2.1 (z_rf x)))) := rfl
theorem z_S_96_1 {G : zG} (r : Nat → Int32) (x : Int32) : z_E G (upd r 1 x) 96 = .inr (1, ([.ref (G.2.1 (z_rf (r 0))), .ref (G.2.1 (z_rf (r 1)))]).set 1 (.ref (G.2.1 (z_rf x)))) := rfl
/-! starts, ends, pure binds -/
theorem z_start {l : Launch} {G : zG} {y : MethodName} {ws ws' : List Cond} {rm : Room} {cc : ByteArray} {maxL : Nat} {ret : Option FieldType} {own : String} {μ : Mm} {av : List Value} {Qc : Nat → Array Value → State → Outcome → State → Prop}
    (hy : plainName y.cls = true) (hown : y.cls = own) (hw : ws = Cond.code y cc maxL ret :: ws') (hle : (lg_sl av).length ≤ maxL)
    (body : ∀ (p : Program) (e : Env) (s : State) (m : MethodId) (args : Array Value) (below : List Frame) (meth : Method) (c : Code), CallFix p m c cc maxL s args ws own → meth.sig.returnType = ret → meth.locks = false → z_Z G (z_A G s.heap.size) s → z_P G μ s.heap → ∀ ls : Array Slot, lv_has ls maxL (lv_args 0 av) →
      W p l e rm s m args below meth c s.heap [] 0 0 (MQ below (Qc s.heap.size) args s 0 0 (z_A G s.heap.size)) (F0 m 0 ls [])) (sz : Nat) : Met l y ws rm (z_Pre G μ av sz) (Qc sz) 0 0 (z_A G sz) := by
  refine Met.ofW (cc := cc) (maxL := maxL) (ret := ret) hy hw ?_
  intro p e s m args below meth c s₁ B hml hv
  obtain ⟨rfl, hsz, hP, Z⟩ := hv
  subst hsz
  have hl := lv_entry av (n := maxL) hle
  rw [lg_entry_eq]
  exact body p e s m _ below meth c ⟨B.exec, B.bytes, hml, by rw [← hown]; exact findClass_of_methodNamed B.named, atoms_spec (ws := ws) B.pre⟩ B.returns B.notSynchronized Z hP _ hl
theorem z_startF {l : Launch} {G : zG} {y : MethodName} {ws ws' : List Cond} {rm : Room} {cc : ByteArray} {maxL : Nat} {ret : Option FieldType} {own : String} {μ : Mm} {av : List Value} {Qc : Nat → Array Value → State → Outcome → State → Prop}
    (hy : plainFor y = true) (hown : y.cls = own) (hw : ws = Cond.code y cc maxL ret :: ws') (hle : (lg_sl av).length ≤ maxL)
    (body : ∀ (p : Program) (e : Env) (s : State) (m : MethodId) (args : Array Value) (below : List Frame) (meth : Method) (c : Code), CallFix p m c cc maxL s args ws own → meth.sig.returnType = ret → meth.locks = false → z_Z G (z_A G s.heap.size) s → z_P G μ s.heap → ∀ ls : Array Slot, lv_has ls maxL (lv_args 0 av) →
      W p l e rm s m args below meth c s.heap [] 0 0 (MQ below (Qc s.heap.size) args s 0 0 (z_A G s.heap.size)) (F0 m 0 ls [])) (sz : Nat) : Met l y ws rm (z_Pre G μ av sz) (Qc sz) 0 0 (z_A G sz) := by
  refine va_MetF (cc := cc) (maxL := maxL) (ret := ret) hy hw ?_
  intro p e s m args below meth c s₁ B hml hv
  obtain ⟨rfl, hsz, hP, Z⟩ := hv
  subst hsz
  have hl := lv_entry av (n := maxL) hle
  rw [lg_entry_eq]
  exact body p e s m _ below meth c ⟨B.exec, B.bytes, hml, by rw [← hown]; exact findClass_of_methodNamed B.named, atoms_spec (ws := ws) B.pre⟩ B.returns B.notSynchronized Z hP _ hl
def z_Qi (G : zG) (r0 : Int32) (mu1 : Mm) (sz : Nat) : Array Value → State → Outcome → State → Prop := va_Qi (fun r u => r = r0 ∧ u = mu1) (fun u t => z_P G u t.heap) (z_A G sz)
def z_Ql (G : zG) (r0 : Int64) (mu1 : Mm) (sz : Nat) : Array Value → State → Outcome → State → Prop := va_Ql (fun r u => r = r0 ∧ u = mu1) (fun u t => z_P G u t.heap) (z_A G sz)
def z_Qf (G : zG) (r0 : UInt32) (mu1 : Mm) (sz : Nat) : Array Value → State → Outcome → State → Prop := va_Qf (fun r u => r = r0 ∧ u = mu1) (fun u t => z_P G u t.heap) (z_A G sz)
def z_Qd (G : zG) (r0 : UInt64) (mu1 : Mm) (sz : Nat) : Array Value → State → Outcome → State → Prop := va_Qd (fun r u => r = r0 ∧ u = mu1) (fun u t => z_P G u t.heap) (z_A G sz)
def z_Qv (G : zG) (r0 : Unit) (mu1 : Mm) (sz : Nat) : Array Value → State → Outcome → State → Prop := va_Qv (fun u => u = mu1) (fun u t => z_P G u t.heap) (z_A G sz)
def z_Qr (G : zG) (r0 : Nat) (mu1 : Mm) (sz : Nat) : Array Value → State → Outcome → State → Prop := va_Qr (fun u => u = mu1) (fun u x t => x = G.2.2.2.1 r0 ∧ z_P G u t.heap) (z_A G sz)
section ZE
variable {p : Program} {l : Launch} {e : Env} {R : Room} {s : State} {m : MethodId} {args : Array Value} {below : List Frame} {meth : Method} {c : Code} {H : Heap} {locs : List Loc}
variable {cc : ByteArray} {pc nL : Nat} {ls : Array Slot} {G : zG} {mu1 : Mm} {Ts : List Cond} {own : String}
theorem z_reti {v : Int32} (C : CallFix p m c cc nL s args Ts own) (hr : meth.sig.returnType = some .int) (hlk : meth.locks = false) (hP : z_P G mu1 H) (hS : va_S (z_A G s.heap.size) s.heap H locs) (hdg : decode cc pc = .ok (.ireturn, 1)) :
    W p l e R s m args below meth c H locs 0 0 (MQ below (z_Qi G v mu1 s.heap.size) args s 0 0 (z_A G s.heap.size)) (F0 m pc ls [.int v]) :=
  W.iret C.1 C.2.1 hr (fun t ht _ => ⟨⟨v, mu1, rfl, ⟨rfl, rfl⟩, (show z_P G mu1 t.heap by rw [ht]; exact hP)⟩, hS.F ht⟩) hS.2.2 hdg hlk
theorem z_retz {v : Int32} {ty : FieldType} (C : CallFix p m c cc nL s args Ts own) (hr : meth.sig.returnType = some ty) (hlk : meth.locks = false) (hn : narrow ty (.int v) = .int v) (hP : z_P G mu1 H) (hS : va_S (z_A G s.heap.size) s.heap H locs) (hdg : decode cc pc = .ok (.ireturn, 1)) :
    W p l e R s m args below meth c H locs 0 0 (MQ below (z_Qi G v mu1 s.heap.size) args s 0 0 (z_A G s.heap.size)) (F0 m pc ls [.int v]) :=
  W.zret C.1 C.2.1 hr hn (fun t ht _ => ⟨⟨v, mu1, rfl, ⟨rfl, rfl⟩, (show z_P G mu1 t.heap by rw [ht]; exact hP)⟩, hS.F ht⟩) hS.2.2 hdg hlk
theorem z_retl {v : Int64} (C : CallFix p m c cc nL s args Ts own) (hr : meth.sig.returnType = some .long) (hlk : meth.locks = false) (hP : z_P G mu1 H) (hS : va_S (z_A G s.heap.size) s.heap H locs) (hdg : decode cc pc = .ok (.lreturn, 1)) :
    W p l e R s m args below meth c H locs 0 0 (MQ below (z_Ql G v mu1 s.heap.size) args s 0 0 (z_A G s.heap.size)) (F0 m pc ls [.long v]) :=
  W.lret C.1 C.2.1 hr (fun t ht _ => ⟨⟨v, mu1, rfl, ⟨rfl, rfl⟩, (show z_P G mu1 t.heap by rw [ht]; exact hP)⟩, hS.F ht⟩) hS.2.2 hdg hlk
theorem z_retf {v : UInt32} (C : CallFix p m c cc nL s args Ts own) (hr : meth.sig.returnType = some .float) (hlk : meth.locks = false) (hP : z_P G mu1 H) (hS : va_S (z_A G s.heap.size) s.heap H locs) (hdg : decode cc pc = .ok (.freturn, 1)) :
    W p l e R s m args below meth c H locs 0 0 (MQ below (z_Qf G v mu1 s.heap.size) args s 0 0 (z_A G s.heap.size)) (F0 m pc ls [.float v]) :=
  W.fret C.1 C.2.1 hr (fun t ht _ => ⟨⟨v, mu1, rfl, ⟨rfl, rfl⟩, (show z_P G mu1 t.heap by rw [ht]; exact hP)⟩, hS.F ht⟩) hS.2.2 hdg hlk
theorem z_retd {v : UInt64} (C : CallFix p m c cc nL s args Ts own) (hr : meth.sig.returnType = some .double) (hlk : meth.locks = false) (hP : z_P G mu1 H) (hS : va_S (z_A G s.heap.size) s.heap H locs) (hdg : decode cc pc = .ok (.dreturn, 1)) :
    W p l e R s m args below meth c H locs 0 0 (MQ below (z_Qd G v mu1 s.heap.size) args s 0 0 (z_A G s.heap.size)) (F0 m pc ls [.double v]) :=
  W.dret C.1 C.2.1 hr (fun t ht _ => ⟨⟨v, mu1, rfl, ⟨rfl, rfl⟩, (show z_P G mu1 t.heap by rw [ht]; exact hP)⟩, hS.F ht⟩) hS.2.2 hdg hlk
theorem z_retv {v : Unit} (C : CallFix p m c cc nL s args Ts own) (hr : meth.sig.returnType = none) (hlk : meth.locks = false) (hP : z_P G mu1 H) (hS : va_S (z_A G s.heap.size) s.heap H locs) (hdg : decode cc pc = .ok (.return_, 1)) :
    W p l e R s m args below meth c H locs 0 0 (MQ below (z_Qv G v mu1 s.heap.size) args s 0 0 (z_A G s.heap.size)) (F0 m pc ls []) :=
  W.vret C.1 C.2.1 hr (fun t ht _ => ⟨⟨mu1, rfl, rfl, (show z_P G mu1 t.heap by rw [ht]; exact hP)⟩, hS.F ht⟩) hS.2.2 hdg hlk
theorem z_retr {v : Nat} {n : String} (C : CallFix p m c cc nL s args Ts own) (hr : meth.sig.returnType = some (.object n)) (hlk : meth.locks = false) (hP : z_P G mu1 H) (hS : va_S (z_A G s.heap.size) s.heap H locs) (hdg : decode cc pc = .ok (.areturn, 1)) :
    W p l e R s m args below meth c H locs 0 0 (MQ below (z_Qr G v mu1 s.heap.size) args s 0 0 (z_A G s.heap.size)) (F0 m pc ls [.ref (G.2.2.2.1 v)]) :=
  W.aret C.1 C.2.1 hr (Or.inl ⟨n, rfl⟩) (Or.inr ⟨_, rfl⟩) (fun t ht _ => ⟨⟨mu1, G.2.2.2.1 v, rfl, rfl, rfl, (show z_P G mu1 t.heap by rw [ht]; exact hP)⟩, hS.F ht⟩) hS.2.2 hdg hlk
end ZE
def zb {α β : Type} (o : Option (α × Mm)) (f : α → Mm → Option β) : Option β := match o with
  | none => none
  | some q => f q.1 q.2
theorem zb_some {α β : Type} {o : Option (α × Mm)} {f : α → Mm → Option β} {r : β} (h : zb o f = some r) : ∃ (a : α) (μ : Mm), o = some (a, μ) ∧ f a μ = some r := by
  cases o with
  | none => cases h
  | some q => exact ⟨q.1, q.2, rfl, h⟩
theorem zb_of {α β : Type} {o : Option (α × Mm)} {f : α → Mm → Option β} {a : α} {μ : Mm} (h : o = some (a, μ)) : zb o f = f a μ := by rw [h]; rfl
/-- a call that may throw: the exception's class goes on -/
def zbx {α β : Type} (o : Option ((String ⊕ α) × Mm)) (f : α → Mm → Option ((String ⊕ β) × Mm)) : Option ((String ⊕ β) × Mm) := match o with
  | none => none
  | some (.inl E, μ) => some (.inl E, μ)
  | some (.inr a, μ) => f a μ
theorem zbx_r {α β : Type} {o : Option ((String ⊕ α) × Mm)} {f : α → Mm → Option ((String ⊕ β) × Mm)} {r : β} {mu1 : Mm} (h : zbx o f = some (.inr r, mu1)) : ∃ (a : α) (μ : Mm), o = some (.inr a, μ) ∧ f a μ = some (.inr r, mu1) := by
  rcases o with _ | ⟨E | a, μ⟩
  · cases h
  · cases h
  · exact ⟨a, μ, rfl, h⟩
theorem zbx_l {α β : Type} {o : Option ((String ⊕ α) × Mm)} {f : α → Mm → Option ((String ⊕ β) × Mm)} {E : String} {mu1 : Mm} (h : zbx o f = some (.inl E, mu1)) : o = some (.inl E, mu1) ∨ ∃ (a : α) (μ : Mm), o = some (.inr a, μ) ∧ f a μ = some (.inl E, mu1) := by
  rcases o with _ | ⟨E' | a, μ⟩
  · cases h
  · cases h; exact Or.inl rfl
  · exact Or.inr ⟨a, μ, rfl, h⟩
theorem zbx_of {α β : Type} {o : Option ((String ⊕ α) × Mm)} {f : α → Mm → Option ((String ⊕ β) × Mm)} {a : α} {μ : Mm} (h : o = some (.inr a, μ)) : zbx o f = f a μ := by rw [h]; rfl
theorem zbx_ofl {α β : Type} {o : Option ((String ⊕ α) × Mm)} {f : α → Mm → Option ((String ⊕ β) × Mm)} {E : String} {μ : Mm} (h : o = some (.inl E, μ)) : zbx o f = some (.inl E, μ) := by rw [h]; rfl
/-- a call of what may throw where it never does -/
def zbn {α β : Type} (o : Option ((String ⊕ α) × Mm)) (f : α → Mm → Option β) : Option β := match o with
  | some (.inr a, μ) => f a μ
  | _ => none
theorem zbn_some {α β : Type} {o : Option ((String ⊕ α) × Mm)} {f : α → Mm → Option β} {r : β} (h : zbn o f = some r) : ∃ (a : α) (μ : Mm), o = some (.inr a, μ) ∧ f a μ = some r := by
  rcases o with _ | ⟨E | a, μ⟩
  · cases h
  · cases h
  · exact ⟨a, μ, rfl, h⟩
theorem zbn_of {α β : Type} {o : Option ((String ⊕ α) × Mm)} {f : α → Mm → Option β} {a : α} {μ : Mm} (h : o = some (.inr a, μ)) : zbn o f = f a μ := by rw [h]; rfl
theorem z_ip {c : Prop} [Decidable c] {α : Type} {a b r : α} (hc : c) (h : (if c then a else b) = r) : a = r := by rw [if_pos hc] at h; exact h
theorem z_in {c : Prop} [Decidable c] {α : Type} {a b r : α} (hc : ¬ c) (h : (if c then a else b) = r) : b = r := by rw [if_neg hc] at h; exact h
theorem z_g {c : Prop} [Decidable c] {α : Type} {a : Option α} {r : α} (h : (if c then a else none) = some r) : c ∧ a = some r := by
  by_cases hc : c
  · rw [if_pos hc] at h; exact ⟨hc, h⟩
  · rw [if_neg hc] at h; cases h
abbrev z_ix (i : Int32) (n : Nat) : Prop := ¬ (i < 0 ∨ n ≤ i.toNatClampNeg)
theorem z_ixlt {i : Int32} {n : Nat} (h : z_ix i n) : i.toNatClampNeg < n := Nat.not_le.mp fun q => h (Or.inr q)
theorem z_rowin {K n : Nat} {i : Int32} (h : K = 97 ∨ K = 98) (hi : z_ix i 10) (hn : i.toNatClampNeg = n) : 99 ≤ 99 + 10 * (K - 97) + n ∧ 99 + 10 * (K - 97) + n < 119 := by
  have := z_ixlt hi
  omega
theorem z_slotin {n : Nat} {i : Int32} (hi : z_ix i 2) (hn : i.toNatClampNeg = n) : (10 * (1 + n)) % 10 = 0 ∧ 10 * (1 + n) < 90 := by
  have := z_ixlt hi
  omega
def zm {α β : Type} (e : α) (f : α → Option β) : Option β := f e
theorem zm_some {α β : Type} {e : α} {f : α → Option β} {r : β} (h : zm e f = some r) : ∃ m, m = e ∧ f m = some r := ⟨e, rfl, h⟩
abbrev z_n32 (r : UInt32) : Prop := r &&& 0x7fffffff ≤ 0x7f800000
abbrev z_n64 (r : UInt64) : Prop := r &&& 0x7fffffffffffffff ≤ 0x7ff0000000000000
theorem z_startW {l : Launch} {G : zG} {y : MethodName} {ws ws' : List Cond} {rm : Room} {cc : ByteArray} {maxL : Nat} {ret : Option FieldType} {own : String} {hh : List (Nat × Nat × Nat × Nat)} {μ : Mm} {av : List Value} {Qc : Nat → Array Value → State → Outcome → State → Prop}
    (hy : plainName y.cls = true) (hown : y.cls = own) (hw : ws = Cond.codeWith y cc maxL ret hh :: ws') (hle : (lg_sl av).length ≤ maxL)
    (body : ∀ (p : Program) (e : Env) (s : State) (m : MethodId) (args : Array Value) (below : List Frame) (meth : Method) (c : Code), CallFix p m c cc maxL s args ws own → meth.sig.returnType = ret → meth.locks = false → z_Z G (z_A G s.heap.size) s → z_P G μ s.heap → ∀ ls : Array Slot, lv_has ls maxL (lv_args 0 av) →
      W p l e rm s m args below meth c s.heap [] 0 0 (MQ below (Qc s.heap.size) args s 0 0 (z_A G s.heap.size)) (F0 m 0 ls [])) (sz : Nat) : Met l y ws rm (z_Pre G μ av sz) (Qc sz) 0 0 (z_A G sz) := by
  refine va_MetW (cc := cc) (maxL := maxL) (ret := ret) (hh := hh) hy hw ?_
  intro p e s m args below meth c s₁ B hml hv
  obtain ⟨rfl, hsz, hP, Z⟩ := hv
  subst hsz
  have hl := lv_entry av (n := maxL) hle
  rw [lg_entry_eq]
  have hts := atoms_spec (ws := ws) B.pre
  exact body p e s m _ below meth c ⟨B.exec, B.bytes, hml, by rw [← hown]; exact findClass_of_methodNamed B.named, hts⟩ B.returns B.notSynchronized Z hP _ hl
