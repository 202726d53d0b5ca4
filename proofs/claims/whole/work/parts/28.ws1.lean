/-! THE LAW FROM ITS ENTRY: what the start gives -/
theorem z_arrC {args : Array Value} {s : State} {ty : FieldType} (h : (Cond.arrayClass ty).before args s = true) : ∃ cA : ClassId, ArrOfT s cA ty ∧ s.vm.findClass ("[" ++ ty.toString) = some cA := by
  obtain ⟨c, k, comp, h1, h2, h3⟩ := Cond.arrayClass_spec h
  exact ⟨c, fun n z => ⟨fun k h => (by cases h), k, h2, comp, h3⟩, h1⟩
theorem z_arrO {args : Array Value} {s : State} {C : String} (h : (Cond.arrayOver (.object C)).before args s = true) : ∃ cA : ClassId, ArrOfT s cA (.object C) ∧ va_RA s cA (.object C) := by
  obtain ⟨comp, c, k, h1, h2, h3, h4, h5⟩ := Cond.arrayOver_spec h
  exact ⟨c, fun n z => ⟨fun k h => (by cases h), k, h3, comp, h4⟩, k, comp, h3, h4, h1, h5⟩
theorem z_arrA {args : Array Value} {s : State} {t : FieldType} (h : (Cond.arrayOver (.array t)).before args s = true) : ∃ cA : ClassId, ArrOfT s cA (.array t) ∧ s.vm.findClass ("[" ++ (FieldType.array t).toString) = some cA := by
  obtain ⟨comp, c, k, h1, h2, h3, h4, h5⟩ := arrayOver_specB h
  exact ⟨c, fun n z => ⟨fun k h => (by cases h), k, h3, comp, h4⟩, h5⟩
theorem z_Kof {args : Array Value} {s : State} (hts : ∀ w ∈ lw_tbl, w.before args s = true) : ∃ (D : va_G) (ac : Nat → ClassId), ∀ (ad adK adV : Nat → Nat), va_K D vwCl (z_T (D, ad, ac, adK, adV)) s := by
  obtain ⟨c0, iS0, h0⟩ := u_known (C := RX0) (T := TX0) (N := 2) (n := 2) hts inX0 (hts (.instantiable RX0 2) (by decide +kernel))
  obtain ⟨c1, iS1, h1⟩ := u_known (C := RX1) (T := TX1) (N := 2) (n := 2) hts inX1 (hts (.instantiable RX1 2) (by decide +kernel))
  obtain ⟨c2, iS2, h2⟩ := u_known (C := RX2) (T := TX2) (N := 19) (n := 19) hts inX2 (hts (.instantiable RX2 19) (by decide +kernel))
  obtain ⟨c3, iS3, h3⟩ := u_known (C := RX3) (T := TX3) (N := 7) (n := 7) hts inX3 (hts (.instantiable RX3 7) (by decide +kernel))
  obtain ⟨c4, iS4, h4⟩ := u_known (C := RX4) (T := TX4) (N := 12) (n := 12) hts inX4 (hts (.instantiable RX4 12) (by decide +kernel))
  obtain ⟨a0, a0a, a0b⟩ := z_arrC (hts (.arrayClass .int) (by decide +kernel))
  obtain ⟨a1, a1a, a1b⟩ := z_arrC (hts (.arrayClass .boolean) (by decide +kernel))
  obtain ⟨a2, a2a, a2b⟩ := z_arrC (hts (.arrayClass .char) (by decide +kernel))
  obtain ⟨a3, a3a, a3b⟩ := z_arrC (hts (.arrayClass .long) (by decide +kernel))
  obtain ⟨a4, a4a, a4b⟩ := z_arrO (hts (.arrayOver (.object RX2)) (by decide +kernel))
  obtain ⟨a5, a5a, a5b⟩ := z_arrA (hts (.arrayOver (.array .int)) (by decide +kernel))
  refine ⟨(fun k => ([c0, c1, c2, c3, c4] : List ClassId).getD k c0, fun k => ([iS0, iS1, iS2, iS3, iS4] : List (Nat → Nat)).getD k iS0), fun k => ([a0, a1, a2, a3, a4, a5] : List ClassId).getD k a0, fun ad adK adV => ⟨?_, ?_⟩⟩
  · intro k q hq
    match k, hq with
    | 0, hq => cases hq; exact h0
    | 1, hq => cases hq; exact h1
    | 2, hq => cases hq; exact h2
    | 3, hq => cases hq; exact h3
    | 4, hq => cases hq; exact h4
    | k + 5, hq => simp [vwCl] at hq
  · intro k q hq
    match k, hq with
    | 0, hq => cases hq; exact ⟨a0a, a0b⟩
    | 1, hq => cases hq; exact ⟨a1a, a1b⟩
    | 2, hq => cases hq; exact ⟨a2a, a2b⟩
    | 3, hq => cases hq; exact ⟨a3a, a3b⟩
    | 4, hq => cases hq; exact ⟨a4a, a4b⟩
    | 5, hq => cases hq; exact ⟨a5a, a5b⟩
    | k + 6, hq => simp [z_T] at hq
abbrev z_flat : List Cond := flatC (Jvm.Cond.and given_1 narrow_1)
abbrev z_tm (i : Nat) : Term := Term.string RX0 (z_tk.getD i (0, "")).1
abbrev z_tv (i : Nat) : Term := Term.field (z_tm i) "java/lang/String" "value" "[B"
theorem zs_ex : ∀ i, i < 6 → Cond.exactly (z_tm i) "java/lang/String" ∈ z_flat := by decide +kernel
theorem zs_co : ∀ i, i < 6 → Cond.eq (.field (z_tm i) "java/lang/String" "coder" "B") (.int 0) ∈ z_flat := by decide +kernel
theorem zs_ar : ∀ i, i < 6 → Cond.arrayOf (z_tv i) .byte ∈ z_flat := by decide +kernel
theorem zs_le : ∀ i, i < 6 → Cond.eq (.length (z_tv i)) (.int (Int32.ofNat (z_len.getD i 0))) ∈ z_flat := by decide +kernel
theorem zs_el : ∀ i, i < 6 → ∀ j, j < z_len.getD i 0 → Cond.eq (.elem (z_tv i) (.int (Int32.ofNat j))) (.int ((z_byt.getD i []).getD j 0)) ∈ z_flat := by decide +kernel
theorem zs_ne : ∀ i, i < 6 → ∀ j, j < 6 → i ≠ j → Cond.not (Cond.eq (z_tm i) (z_tm j)) ∈ z_flat ∨ Cond.not (Cond.eq (z_tm j) (z_tm i)) ∈ z_flat := by decide +kernel
theorem zs_sr : ∀ i, i < 6 → Cond.stringRef RX0 (z_tk.getD i (0, "")).1 (z_tk.getD i (0, "")).2 ∈ lw_tbl := by decide +kernel
theorem zs_tx : ∀ q ∈ z_tx, Cond.stringRef RX3 q.1 q.2 ∈ lw_tbl := by decide +kernel
theorem zs_mln : ∀ q ∈ z_mln, Cond.methodLinkNest q.1 q.2.1 q.2.2 "WaxCopies" ∈ lw_tbl := by decide +kernel
theorem zs_decl : ∀ q ∈ z_decl, Cond.declares q ∈ lw_tbl := by decide +kernel
theorem zs_cast : ∀ q ∈ z_cast, Cond.castable q q ∈ lw_tbl := by decide +kernel
theorem zs_nc : ∀ q ∈ z_nc, Cond.not (.castable q.1 q.2) ∈ z_flat := by decide +kernel
theorem zs_a : Cond.eq (.static "java/lang/String" "COMPACT_STRINGS" "Z") (.int 1) ∈ z_flat := by decide +kernel
theorem zs_b : Cond.isRef (.static "jdk/internal/util/Preconditions" "SIOOBE_FORMATTER" "Ljava/util/function/BiFunction;") ∈ z_flat := by decide +kernel
theorem zs_c : Cond.isRef (.static Bundle.tN "UNASSIGNED_STACK" Bundle.steD) ∈ z_flat := by decide +kernel
theorem zs_d : Cond.isRef (.static Bundle.tN "SUPPRESSED_SENTINEL" Bundle.listD) ∈ z_flat := by decide +kernel
theorem z_stOf {args : Array Value} {s : State} (hts : ∀ w ∈ lw_tbl, w.before args s = true) (hgv : (Jvm.Cond.and given_1 narrow_1).before args s = true) {c3 : ClassId} (h3 : s.vm.findClass RX3 = some c3) :
    ∃ adK adV : Nat → Nat, ∀ (D : va_G) (ad : Nat → Nat) (ac : Nat → ClassId), z_St (D, ad, ac, adK, adV) (fun q => s.heap.size ≤ q) s s.heap := by
  have hg : ∀ w ∈ z_flat, w.before args s = true := flat_of_before _ hgv
  have hA : ∀ a : Nat, a < s.heap.size → ¬ (fun q : Nat => s.heap.size ≤ q) a := fun a h h2 => absurd h (Nat.not_lt.mpr h2)
  obtain ⟨adK, adV, hS, hE⟩ := vk_Sof (N := 6) (tm := z_tm) (len := z_len) (byt := z_byt) (A := fun q => s.heap.size ≤ q) (args := args) (s := s) (by decide) (fun i hi => hg _ (zs_ex i hi)) (fun i hi => hg _ (zs_co i hi)) (fun i hi => hg _ (zs_ar i hi)) (fun i hi => hg _ (zs_le i hi)) (fun i hi j hj => hg _ (zs_el i hi j hj))
    (fun i j hi hj hij => (zs_ne i hi j hj hij).elim (fun h => Or.inl (hg _ h)) (fun h => Or.inr (hg _ h))) hA
  refine ⟨adK, adV, fun D ad ac => ⟨fun q hq => va_Nw.of rfl (hts _ (zs_mln q hq)), fun q hq => va_Nw.of rfl (hts _ (zs_decl q hq)), ⟨fun q hq => va_Nw.of rfl (hts _ (zs_cast q hq)), fun q hq => va_Nc.of (hg _ (zs_nc q hq))⟩, fun q hq => ?_, fun i hi => ?_, hS, ?_, ?_, ?_, ?_⟩⟩
  · obtain ⟨-, -, -, sa, -, -, -, -, -, hev⟩ := Cond.stringRef_spec h3 (hts _ (zs_tx q hq))
    exact ⟨sa, vk_R.of (hts _ (zs_tx q hq)) hev⟩
  · exact vk_R.of (hts _ (zs_sr i hi)) (hE i hi)
  · exact va_Zof (hts _ (by decide +kernel)) (hts _ (by decide +kernel)) (va_eqi (hg _ zs_a)) hA
  · exact va_Zqof (hts _ (by decide +kernel)) (hts _ (by decide +kernel)) (hg _ zs_b) hA
  · exact vx_Zqof (hts _ (by decide +kernel)) (hts _ (by decide +kernel)) (hg _ zs_c) hA
  · exact vx_Zqof (hts _ (by decide +kernel)) (hts _ (by decide +kernel)) (hg _ zs_d) hA
