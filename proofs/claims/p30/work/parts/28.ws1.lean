/-! THE LAW FROM ITS ENTRY: what the start gives -/
theorem z_arrC {args : Array Value} {s : State} {ty : FieldType} (h : (Cond.arrayClass ty).before args s = true) : ∃ cA : ClassId, ArrOfT s cA ty ∧ s.vm.findClass ("[" ++ ty.toString) = some cA := by
  obtain ⟨c, k, comp, h1, h2, h3⟩ := Cond.arrayClass_spec h
  exact ⟨c, fun n z => ⟨fun k h => (by cases h), k, h2, comp, h3⟩, h1⟩
theorem z_arrO {args : Array Value} {s : State} {C : String} (h : (Cond.arrayOver (.object C)).before args s = true) : ∃ cA : ClassId, ArrOfT s cA (.object C) ∧ va_RA s cA (.object C) := by
  obtain ⟨comp, c, k, h1, h2, h3, h4, h5⟩ := Cond.arrayOver_spec h
  exact ⟨c, fun n z => ⟨fun k h => (by cases h), k, h3, comp, h4⟩, k, comp, h3, h4, h1, h5⟩
theorem z_arrA {args : Array Value} {s : State} {t : FieldType} (h : (Cond.arrayOver (.array t)).before args s = true) : ∃ cA : ClassId, ArrOfT s cA (.array t) ∧ s.vm.findClass ("[" ++ (FieldType.array t).toString) = some cA := by
  obtain ⟨comp, c, k, h1, h2, h3, h4, h5⟩ := arrayOver_specB h
  exact ⟨c, fun n z => ⟨fun k h => (by cases h), k, h3, comp, h4⟩, h5⟩
theorem z_Kof {args : Array Value} {s : State} (hts : ∀ w ∈ lw_tbl, w.before args s = true) : ∃ (D : va_G) (ac : Nat → ClassId), ∀ (ad adK adV : Nat → Nat), va_K D vwCl (z_T (D, ad, ac, adK, adV)) s := by
  obtain ⟨c0, iS0, h0⟩ := u_known (C := RX0) (T := TX0) (N := 2) (n := 2) hts inX0 (hts (.instantiable RX0 2) (by decide +kernel))
  obtain ⟨c1, iS1, h1⟩ := u_known (C := RX1) (T := TX1) (N := 2) (n := 2) hts inX1 (hts (.instantiable RX1 2) (by decide +kernel))
  obtain ⟨c2, iS2, h2⟩ := u_known (C := RX2) (T := TX2) (N := 19) (n := 19) hts inX2 (hts (.instantiable RX2 19) (by decide +kernel))
  obtain ⟨c3, iS3, h3⟩ := u_known (C := RX3) (T := TX3) (N := 7) (n := 7) hts inX3 (hts (.instantiable RX3 7) (by decide +kernel))
  obtain ⟨a0, a0a, a0b⟩ := z_arrC (hts (.arrayClass .int) (by decide +kernel))
  obtain ⟨a1, a1a, a1b⟩ := z_arrC (hts (.arrayClass .boolean) (by decide +kernel))
  obtain ⟨a2, a2a, a2b⟩ := z_arrC (hts (.arrayClass .char) (by decide +kernel))
  obtain ⟨a4, a4a, a4b⟩ := z_arrO (hts (.arrayOver (.object RX2)) (by decide +kernel))
  obtain ⟨a5, a5a, a5b⟩ := z_arrA (hts (.arrayOver (.array .int)) (by decide +kernel))
  refine ⟨(fun k => ([c0, c1, c2, c3] : List ClassId).getD k c0, fun k => ([iS0, iS1, iS2, iS3] : List (Nat → Nat)).getD k iS0), fun k => ([a0, a1, a2, a2, a4, a5] : List ClassId).getD k a0, fun ad adK adV => ⟨?_, ?_⟩⟩
  · intro k q hq
    match k, hq with
    | 0, hq => cases hq; exact h0
    | 1, hq => cases hq; exact h1
    | 2, hq => cases hq; exact h2
    | 3, hq => cases hq; exact h3
    | k + 4, hq => simp [vwCl] at hq
  · intro k q hq
    match k, hq with
    | 0, hq => cases hq; exact ⟨a0a, a0b⟩
    | 1, hq => cases hq; exact ⟨a1a, a1b⟩
    | 2, hq => cases hq; exact ⟨a2a, a2b⟩
    | 3, hq => cases hq; exact ⟨a2a, a2b⟩
    | 4, hq => cases hq; exact ⟨a4a, a4b⟩
    | 5, hq => cases hq; exact ⟨a5a, a5b⟩
    | k + 6, hq => simp [z_T] at hq
theorem zs_mln : ∀ q ∈ z_mln, Cond.methodLinkNest q.1 q.2.1 q.2.2 "WaxCopies" ∈ lw_tbl := by decide +kernel
theorem z_ex3.warm {s U : State} (hW : s.WarmedH U.vm) (h : z_ex3 s) : z_ex3 U := ⟨va_AOA.moved hW.alike h.1, va_AO.moved hW.alike h.2.1, va_Nw.warmM hW h.2.2.1, va_Nw.warmM hW h.2.2.2⟩
theorem z_ex3.calling {U : State} {g : JFrame} {mk : MethodId} {a : Array Value} (h : z_ex3 U) : z_ex3 (U.calling g mk a) := ⟨va_AOA.moved (u := U) (U := U.calling g mk a) (Vm.Alike.refl U.vm) h.1, va_AO.moved (u := U) (U := U.calling g mk a) (Vm.Alike.refl U.vm) h.2.1, va_Nw.same rfl (u := U) (U := U.calling g mk a) rfl h.2.2.1, va_Nw.same rfl (u := U) (U := U.calling g mk a) rfl h.2.2.2⟩
set_option maxHeartbeats 8000000 in
set_option maxRecDepth 100000 in
/-- the law from its entry, if the pure law says some () -/
theorem whole_start0 {p : Program} {e : Env} {s : State} {m : MethodId} {below : List Frame} {meth : Method} {c : Code} (l : Launch) {b L : Nat} {xs : Nat → Int32} (hpure : f_L_law_b8 L xs z_mu0 = some ()) (C0 : lw_At p s m meth c b L xs) : W p l e room_1 s m #[Value.ref b] below meth c s.heap [] 0 0 (lw_Z below #[Value.ref b] s) (entryFrame m ([Value.ref b] : List Value).toArray 10) := by
  obtain ⟨hx, hb, hrt, hml, hown, hts0, hX, hbl, hlocks, hgv⟩ := id C0
  have hts : ∀ w ∈ wsL_law, w.before #[Value.ref b] s = true := fun w h => hts0 w (wsL_law_in w h)
  have C : CallFix p m c code 10 s #[Value.ref b] wsL_law RL := ⟨hx, hb, hml, hown, hts⟩
  obtain ⟨D, ac, hKa⟩ := z_Kof hts0
  obtain ⟨G0, hG0⟩ : ∃ G0 : zG, G0 = (D, id, ac, id, id) := ⟨_, rfl⟩
  have hK : va_K G0.1 vwCl (z_T G0) s := by rw [hG0]; exact hKa id id id
  have hA : ∀ q : Nat, s.heap.size ≤ q → (fun q : Nat => s.heap.size ≤ q) q := fun _ h => h
  have hS : va_S (fun q : Nat => s.heap.size ≤ q) s.heap s.heap [] := va_S.rf
  have hP : va_P G0.1 vwCl ([] : va_W) s.heap := fun k q h => by simp at h
  have hD : va_D (fun q : Nat => s.heap.size ≤ q) ([] : va_W) := ⟨fun i j p q h => by simp at h, fun k q h => by simp at h⟩
  have hE : z_ex3 s := ⟨hts0 (.arrayOver (.array .int)) (by decide +kernel), hts0 (.arrayOver (.object RX2)) (by decide +kernel), va_Nw.of rfl (hts0 (.methodLinkNest RX3 33 yX0_init "WaxCopies") (by decide +kernel)), va_Nw.of rfl (hts0 (.methodLinkNest RX3 40 yX1_init "WaxCopies") (by decide +kernel))⟩
  have hl := lv_entry ([.ref b]) (n := 10) (Nat.le_of_ble_eq_true rfl)
  rw [lg_entry_eq]
  generalize (lg_sl ([.ref b]) ++ List.replicate (10 - (lg_sl ([.ref b])).length) Slot.unset).toArray = ls at hl ⊢
  have hl : lv_has ls 10 [(0, .ref b)] := hl
  refine va_new (D := G0.1) (ci := 3) (C := RX3) (T := TX3) (N := 7) (fs := [.null, .null, .null, .null, .int 0, .null, .null]) hx hb hts inlX3 tyX3 tyX3_ok hown (hts0 (.classLink RL 11 RX3) (by decide +kernel)) (hts0 (.instantiable RX3 7) (by decide +kernel)) (hts0 (.initialized RX3) (by decide +kernel)) hK hP hD hS hA rfl (by decide +kernel) (Nat.le_of_ble_eq_true rfl) (Nat.le_of_ble_eq_true rfl) dL_law_0 (fun h3v H hP hD hS => ?_)
  refine lv_dup hx hb dL_law_3 rfl ?_
  refine z_ctor (X := []) (q := h3v) (w1 := fun u => z_c3 G0 u) (va_runI (As := []) (rest := [.ref h3v]) C (k_X3_init l G0 h3v H.size) (cwI 0 hts gL_law_X3_init rfl rfl rfl (hts0 (.initialized RX3) (by decide +kernel)) (hts0 (.methodLink RL 135 yX3_init) (by decide +kernel)) (hts0 (.instanceMethod yX3_init) (by decide +kernel)) rfl (by decide +kernel) ⟨(Nat.le_of_ble_eq_true rfl), (Nat.le_of_ble_eq_true rfl)⟩) (z_preC (X := []) hK hP hD (fun U hW => hE.warm hW) (fun U g mk a h => h.calling)) rfl rfl hl.1 rfl (lv_room (Nat.le_of_ble_eq_true rfl)) dL_law_4 ⟨(Nat.le_of_ble_eq_true rfl), (Nat.le_of_ble_eq_true rfl)⟩) hP hD hS hA (fun u H locs hu hP hD hS => ?_)
  refine lv_astore_n (lv' := [(1, .ref h3v), (0, .ref b)]) hx hb dL_law_7 rfl hl (by decide) rfl (fun ls hl => ?_)
  rw [List.nil_append] at hP hD
  obtain ⟨G, hG⟩ : ∃ G : zG, G = (G0.1, u, G0.2.2) := ⟨_, rfl⟩
  have hPG : z_P G z_mu0 H := by rw [hG]; exact hP
  have hDG : va_D (fun q : Nat => s.heap.size ≤ q) (z_W G z_mu0) := by rw [hG]; exact hD
  have e90 : h3v = G.2.1 90 := by rw [hG]; exact hu.symm
  have hge : ∀ k, k < 119 → s.heap.size ≤ G.2.1 k := fun k hk => hDG.2 k _ (z_W_at hk)
  have hAe : z_A G s.heap.size = fun q : Nat => s.heap.size ≤ q := funext fun a => propext ⟨fun h => h.elim (fun ⟨k, hk, e⟩ => by rw [e]; exact hge k hk) id, Or.inr⟩
  have hKG : va_K G.1 vwCl (z_T G) s := by rw [hG]; exact hK
  have Z : z_Z G (z_A G s.heap.size) s := ⟨hKG, fun i j hi hj h => hDG.1 i j _ _ (z_W_at hi) (z_W_at hj) h, fun k hk => Or.inl ⟨k, hk, rfl⟩, fun a h => Or.inr h, fun q hq => va_Nw.of rfl (hts0 _ (zs_mln q hq)), trivial⟩
  rw [e90] at hl
  exact L_L_law_b8 (Nat.le_of_ble_eq_true rfl) (Nat.le_of_ble_eq_true rfl) C0 Z (fun a h => by rw [hAe] at h; exact h) z_mu0 hpure H _ hPG (by rw [hAe]; exact hS) ls (lv_sub hl [1, 0] rfl)
