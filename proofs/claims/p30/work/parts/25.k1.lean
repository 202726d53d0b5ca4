theorem va_AOA.moved {ty : FieldType} {u U : State} (hvm : u.vm.Alike U.vm) (h : va_AOA ty u) : va_AOA ty U :=
  arrayOver_alikeB (s := u) (U := U) hvm h
def z_rows (cI : ClassId) (r : Nat → Nat) : va_W := (List.range 10).map (fun i => (r i, .inl (cI, 101, .inl (fun _ => 0))))
def z_out (cII : ClassId) (r : Nat → Nat) : va_E := .inl (cII, 10, .inr (.inr (.inr (.inr (fun i => if i < 10 then some (r i) else none)))))
theorem z_plrows {cI : ClassId} {r : Nat → Nat} {f : Nat → va_E} : va_pl ([] ++ (List.range 10).map r) (vr_up f ((List.range 10).map r) (.inl (cI, 101, .inl (fun _ => 0)))) = z_rows cI r := by
  unfold va_pl z_rows
  rw [List.nil_append, List.map_map]
  apply List.map_congr_left
  intro i hi
  show (r i, _) = _
  rw [vr_up_in (List.mem_map.mpr ⟨i, hi, rfl⟩)]
set_option maxRecDepth 100000 in
/-- new int[10][101], its class known -/
theorem z_mna {p : Program} {l : Launch} {e : Env} {R : Room} {s : State} {m : MethodId} {args : Array Value} {below : List Frame} {meth : Method} {c : Code} {H : Heap} {locs : List Loc} {cells slots : Nat} {Q : State → Prop} {cc : ByteArray} {pc : Nat} {ls : Array Slot} {rest : List Value} {G : zG} {A : Nat → Prop} {H0 : Heap} {X : va_W}
    (hexec : p.tables.exec = Jvm.exec) (hb : c.code = cc) {own : String} {index : Nat} (hown : s.vm.findClass own = some m.cls) (hclink : (Cond.classLink own index "[[I").before args s = true) (hover : va_AOA .int s) (harr : (Cond.arrayClass .int).before args s = true)
    (hK : va_K G.1 vwCl (z_T G) s) (hP : va_P G.1 vwCl X H) (hD : va_D A X) (hS : va_S A H0 H locs) (hA : ∀ q, H0.size ≤ q → A q) (hcells : cells + 11 ≤ R.cells) (hslots : slots + 1020 ≤ R.slots) (hdg : decode cc pc = .ok (.multianewarray index 2, 4))
    (kk : ∀ (q : Nat) (r : Nat → Nat) (H1 : Heap), va_P G.1 vwCl ((X ++ [(q, z_out (G.2.2.1 5) r)]) ++ z_rows (G.2.2.1 0) r) H1 → va_D A ((X ++ [(q, z_out (G.2.2.1 5) r)]) ++ z_rows (G.2.2.1 0) r) → va_S A H0 H1 locs →
      W p l e R s m args below meth c H1 locs (cells + 11) (slots + 1020) Q (F0 m (pc + 4) ls (.ref q :: rest))) : W p l e R s m args below meth c H locs cells slots Q (F0 m pc ls (.int 101 :: .int 10 :: rest)) := by
  have h0 : (z_T G)[0]? = some (G.2.2.1 0, .int) := rfl
  have h5 : (z_T G)[5]? = some (G.2.2.1 5, .array .int) := rfl
  have hcy : s.vm.findClass (FieldType.array .int).toString = some (G.2.2.1 0) := (hK.2 0 _ h0).2
  have hP0 : va_P G.1 vwCl (X ++ va_pl [] (fun _ => .inl (G.2.2.1 0, 101, .inl (fun _ => 0)))) H := by
    show va_P G.1 vwCl (X ++ []) H
    rw [List.append_nil]
    exact hP
  have hD0 : va_D A (X ++ va_pl [] (fun _ => .inl (G.2.2.1 0, 101, .inl (fun _ => 0)))) := by
    show va_D A (X ++ [])
    rw [List.append_nil]
    exact hD
  refine va_mna (N' := 10) (K' := 101) (z := (101, .inl (fun _ => 0))) hexec hb hown hclink hover harr hcy hK hP0 hD0 hS hA (by decide) (by decide) rfl rfl (by decide) (by decide) (by decide) rfl rfl hcells hslots (fun _ => rfl) hdg fun q r cA H1 _ _ hK1 hP1 hD1 hS1 => ?_
  have e0 : (z_T G ++ [(cA, .array .int)])[(z_T G).length]? = some (cA, .array .int) := by simp
  have e : cA = G.2.2.1 5 := Option.some.inj ((hK1.2 _ _ e0).2.symm.trans (hK.2 5 _ h5).2)
  subst e
  rw [z_plrows] at hP1 hD1
  exact kk q r H1 hP1 hD1 hS1
abbrev rm_X1_init : Room := { frames := 1, cells := 22, slots := 2040, locals := 20 }
theorem wX1i_0 : Cond.methodLink RX1 3 objectInit ∈ wsX1_init := by decide +kernel
theorem wX1i_1 : Cond.instanceMethod objectInit ∈ wsX1_init := by decide +kernel
theorem wX1i_2 : Cond.code objectInit ⟨#[0xb1]⟩ 1 none ∈ wsX1_init := by decide +kernel
theorem wX1i_3 : Cond.classLink RX1 9 "[[I" ∈ wsX1_init := by decide +kernel
theorem wX1i_4 : Cond.arrayClass .int ∈ wsX1_init := by decide +kernel
theorem wX1i_5 : Cond.fieldLink RX1 11 "WaxCopies$Steps" "best" "[[I" ∈ wsX1_init := by decide +kernel
theorem wX1i_6 : Cond.fieldLink RX1 16 "WaxCopies$Steps" "next" "[[I" ∈ wsX1_init := by decide +kernel
theorem inX1i : ∀ w ∈ wsX10, w ∈ wsX1_init := by decide +kernel
def z_stw (G : zG) (h0 q1 q2 : Nat) (r1 r2 : Nat → Nat) : va_W := (((([(h0, .inr (1, [.ref q1, .ref q2]))] : va_W) ++ [(q1, z_out (G.2.2.1 5) r1)]) ++ z_rows (G.2.2.1 0) r1) ++ [(q2, z_out (G.2.2.1 5) r2)]) ++ z_rows (G.2.2.1 0) r2
set_option maxHeartbeats 8000000 in
set_option maxRecDepth 100000 in
theorem k_X1_init (l : Launch) (G : zG) (h0 sz : Nat) : Met l yX1_init wsX1_init rm_X1_init (va_Pc [.ref h0] (fun U => U.heap.size = sz ∧ va_P G.1 vwCl [(h0, .inr (1, [.null, .null]))] U.heap ∧ va_K G.1 vwCl (z_T G) U ∧ va_D (fun _ => True) [(h0, .inr (1, [.null, .null]))] ∧ va_AOA .int U)) (va_Qv (fun (u : (Nat × Nat) × (Nat → Nat) × (Nat → Nat)) => True) (fun u t => va_P G.1 vwCl (z_stw G h0 u.1.1 u.1.2 u.2.1 u.2.2) t.heap ∧ va_D (va_A [(h0, .inr (1, [.null, .null]))] sz) (z_stw G h0 u.1.1 u.1.2 u.2.1 u.2.2)) (va_A [(h0, .inr (1, [.null, .null]))] sz)) 22 2040 (va_A [(h0, .inr (1, [.null, .null]))] sz) := by
  refine z_startC (ws := wsX1_init) (Ex := fun U => va_AOA .int U) (Qc := fun sz => va_Qv (fun (u : (Nat × Nat) × (Nat → Nat) × (Nat → Nat)) => True) (fun u t => va_P G.1 vwCl (z_stw G h0 u.1.1 u.1.2 u.2.1 u.2.2) t.heap ∧ va_D (va_A [(h0, .inr (1, [.null, .null]))] sz) (z_stw G h0 u.1.1 u.1.2 u.2.1 u.2.2)) (va_A [(h0, .inr (1, [.null, .null]))] sz)) (cc := cX1_init) (maxL := 1) (own := RX1) (by decide) rfl rfl rfl (Nat.le_of_ble_eq_true rfl) (fun p e s m args below meth c C hr hlk hin hK hAO hP hD hA ls hl => ?_) sz
  have hx := C.1
  have hb := C.2.1
  have hown := C.2.2.2.1
  have hts := C.2.2.2.2
  have hS : va_S (va_A [(h0, .inr (1, [.null, .null]))] s.heap.size) s.heap s.heap [] := va_S.rf
  generalize hAe : va_A [(h0, .inr (1, [.null, .null]))] s.heap.size = A at hD hA hS ⊢
  have hl : lv_has ls 1 [(0, .ref h0)] := hl
  refine lv_aload_n hx hb dX1_init_0 rfl (lv_at hl 0 rfl) ?_
  refine W.objInit hx hb hown (hts _ wX1i_0) (hts _ wX1i_1) (hts _ wX1i_2) (g := F0 m 1 ls [.ref h0]) rfl (hl.1.trans C.2.2.1.symm) rfl dX1_init_1 (Nat.le_of_ble_eq_true rfl) (Nat.le_of_ble_eq_true rfl) ?_
  refine lv_aload_n hx hb dX1_init_4 rfl (lv_at hl 0 rfl) ?_
  refine lv_bipush (v := 10) hx hb dX1_init_5 (by decide) ?_
  refine lv_bipush (v := 101) hx hb dX1_init_7 (by decide) ?_
  refine z_mna hx hb hown (hts _ wX1i_3) hAO (hts _ wX1i_4) hK hP hD hS hA (Nat.le_of_ble_eq_true rfl) (Nat.le_of_ble_eq_true rfl) dX1_init_9 (fun q1 r1 H hP hD hS => ?_)
  refine va_put (D := G.1) (ci := 1) (v := .ref q1) (ty := .array (.array .int)) (C := RX1) (T := TX1) (N := 2) hx hb hts inX1i tyX1 tyX1_ok nmX1 hown hK hP hD hS 0 rfl rfl 0 (by decide) (hts _ wX1i_5) (fun _ h9 => h9) rfl (by decide +kernel) rfl rfl (Nat.le_of_ble_eq_true rfl) dX1_init_13 (fun H locs hP hD hS => ?_)
  have hP : va_P G.1 vwCl (([(h0, .inr (1, [.ref q1, .null]))] ++ [(q1, z_out (G.2.2.1 5) r1)]) ++ z_rows (G.2.2.1 0) r1) H := hP
  have hD : va_D A (([(h0, .inr (1, [.ref q1, .null]))] ++ [(q1, z_out (G.2.2.1 5) r1)]) ++ z_rows (G.2.2.1 0) r1) := hD
  refine lv_aload_n hx hb dX1_init_16 rfl (lv_at hl 0 rfl) ?_
  refine lv_bipush (v := 10) hx hb dX1_init_17 (by decide) ?_
  refine lv_bipush (v := 101) hx hb dX1_init_19 (by decide) ?_
  refine z_mna hx hb hown (hts _ wX1i_3) hAO (hts _ wX1i_4) hK hP hD hS hA (Nat.le_of_ble_eq_true rfl) (Nat.le_of_ble_eq_true rfl) dX1_init_21 (fun q2 r2 H hP hD hS => ?_)
  refine va_put (D := G.1) (ci := 1) (v := .ref q2) (ty := .array (.array .int)) (C := RX1) (T := TX1) (N := 2) hx hb hts inX1i tyX1 tyX1_ok nmX1 hown hK hP hD hS 0 rfl rfl 1 (by decide) (hts _ wX1i_6) (fun _ h9 => h9) rfl (by decide +kernel) rfl rfl (Nat.le_of_ble_eq_true rfl) dX1_init_25 (fun H locs hP hD hS => ?_)
  have hP : va_P G.1 vwCl (z_stw G h0 q1 q2 r1 r2) H := hP
  have hD : va_D A (z_stw G h0 q1 q2 r1 r2) := hD
  exact W.vret hx hb hr (fun t ht hW => ⟨⟨((q1, q2), r1, r2), rfl, trivial, by rw [ht]; exact hP, hD⟩, hS.F ht⟩) hS.2.2 dX1_init_28 hlk
