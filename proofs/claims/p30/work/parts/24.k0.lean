abbrev rm_X0_init : Room := { frames := 1, cells := 1, slots := 60, locals := 20 }
theorem wX0_init_0 : Cond.methodLink RX0 3 objectInit ∈ wsX0_init := by decide +kernel
theorem wX0_init_1 : Cond.instanceMethod objectInit ∈ wsX0_init := by decide +kernel
theorem wX0_init_2 : Cond.code objectInit ⟨#[0xb1]⟩ 1 none ∈ wsX0_init := by decide +kernel
theorem wX0_init_3 : Cond.arrayClass .char ∈ wsX0_init := by decide +kernel
theorem wX0_init_4 : Cond.fieldLink RX0 11 "WaxCopies$Orders" "text" "[C" ∈ wsX0_init := by decide +kernel
theorem inX0_init_X0 : ∀ w ∈ wsX00, w ∈ wsX0_init := by decide +kernel
theorem wX0_init_6 : Cond.fieldLink RX0 15 "WaxCopies$Orders" "length" "I" ∈ wsX0_init := by decide +kernel
set_option maxHeartbeats 8000000 in
set_option maxRecDepth 100000 in
theorem k_X0_init (l : Launch) (G : zG) (h0 sz : Nat) : Met l yX0_init wsX0_init rm_X0_init (va_Pc [.ref h0] (fun U => U.heap.size = sz ∧ va_P G.1 vwCl [(h0, .inr (0, [.null, .int 0]))] U.heap ∧ va_K G.1 vwCl (z_T G) U ∧ va_D (fun _ => True) [(h0, .inr (0, [.null, .int 0]))] ∧ True)) (va_Qv (fun (u : Nat) => True) (fun u t => va_P G.1 vwCl ([(h0, .inr (0, [.ref u, .int 0])), (u, .inl (G.2.2.1 2, 60, .inl (fun _ => 0)))]) t.heap ∧ va_D (va_A [(h0, .inr (0, [.null, .int 0]))] sz) ([(h0, .inr (0, [.ref u, .int 0])), (u, .inl (G.2.2.1 2, 60, .inl (fun _ => 0)))])) (va_A [(h0, .inr (0, [.null, .int 0]))] sz)) 1 60 (va_A [(h0, .inr (0, [.null, .int 0]))] sz) := by
  refine z_startC (ws := wsX0_init) (Ex := fun _ => True) (Qc := fun sz => va_Qv (fun (u : Nat) => True) (fun u t => va_P G.1 vwCl ([(h0, .inr (0, [.ref u, .int 0])), (u, .inl (G.2.2.1 2, 60, .inl (fun _ => 0)))]) t.heap ∧ va_D (va_A [(h0, .inr (0, [.null, .int 0]))] sz) ([(h0, .inr (0, [.ref u, .int 0])), (u, .inl (G.2.2.1 2, 60, .inl (fun _ => 0)))])) (va_A [(h0, .inr (0, [.null, .int 0]))] sz)) (cc := cX0_init) (maxL := 1) (own := RX0) (by decide) rfl rfl rfl (Nat.le_of_ble_eq_true rfl) (fun p e s m args below meth c C hr hlk hin hK _ hP hD hA ls hl => ?_) sz
  have hx := C.1
  have hb := C.2.1
  have hown := C.2.2.2.1
  have hts := C.2.2.2.2
  have hS : va_S (va_A [(h0, .inr (0, [.null, .int 0]))] s.heap.size) s.heap s.heap [] := va_S.rf
  generalize hAe : va_A [(h0, .inr (0, [.null, .int 0]))] s.heap.size = A at hD hA hS ⊢
  have hl : lv_has ls 1 [(0, .ref h0)] := hl
  refine lv_aload_n hx hb dX0_init_0 rfl (lv_at hl 0 rfl) ?_
  refine W.objInit hx hb hown (hts _ wX0_init_0) (hts _ wX0_init_1) (hts _ wX0_init_2) (g := F0 m 1 ls [.ref h0]) rfl (hl.1.trans C.2.2.1.symm) rfl dX0_init_1 (Nat.le_of_ble_eq_true rfl) (Nat.le_of_ble_eq_true rfl) ?_
  refine lv_aload_n hx hb dX0_init_4 rfl (lv_at hl 0 rfl) ?_
  refine lv_bipush (v := 60) hx hb dX0_init_5 (by decide) ?_
  refine z_newI (atype := .char) (a0 := (60, .inl (fun _ => 0))) (ty := .char) hx hb (hts _ wX0_init_3) rfl hK hP hD hS hA 2 rfl (fun _ h => h) (fun _ => rfl) (by decide) rfl (by decide) (Nat.le_of_ble_eq_true rfl) (Nat.le_of_ble_eq_true rfl) dX0_init_7 (fun q1 H hP hD hS => ?_)
  have hP : va_P G.1 vwCl [(h0, .inr (0, [.null, .int 0])), (q1, .inl (G.2.2.1 2, 60, .inl (fun _ => 0)))] H := hP
  have hD : va_D A [(h0, .inr (0, [.null, .int 0])), (q1, .inl (G.2.2.1 2, 60, .inl (fun _ => 0)))] := hD
  refine va_putF (D := G.1) (ci := 0) (v := .ref q1) (ty := .array .char) (C := RX0) (T := TX0) (N := 2) hx hb hts inX0_init_X0 tyX0 tyX0_ok nmX0 hown hK hP hD hS 0 rfl rfl 0 (by decide) (hts _ wX0_init_4) (fun _ h9 => h9) rfl hin rfl (by decide +kernel) rfl rfl (Nat.le_of_ble_eq_true rfl) dX0_init_9 (fun H locs hP hD hS => ?_)
  have hP : va_P G.1 vwCl [(h0, .inr (0, [.ref q1, .int 0])), (q1, .inl (G.2.2.1 2, 60, .inl (fun _ => 0)))] H := hP
  have hD : va_D A [(h0, .inr (0, [.ref q1, .int 0])), (q1, .inl (G.2.2.1 2, 60, .inl (fun _ => 0)))] := hD
  refine lv_aload_n hx hb dX0_init_12 rfl (lv_at hl 0 rfl) ?_
  refine lv_iconst (v := 0) hx hb dX0_init_13 (by decide) ?_
  refine va_put (D := G.1) (ci := 0) (v := .int 0) (ty := .int) (C := RX0) (T := TX0) (N := 2) hx hb hts inX0_init_X0 tyX0 tyX0_ok nmX0 hown hK hP hD hS 0 rfl rfl 1 (by decide) (hts _ wX0_init_6) (fun _ h9 => h9) rfl (by decide +kernel) rfl rfl (Nat.le_of_ble_eq_true rfl) dX0_init_14 (fun H locs hP hD hS => ?_)
  have hP : va_P G.1 vwCl [(h0, .inr (0, [.ref q1, .int 0])), (q1, .inl (G.2.2.1 2, 60, .inl (fun _ => 0)))] H := hP
  have hD : va_D A [(h0, .inr (0, [.ref q1, .int 0])), (q1, .inl (G.2.2.1 2, 60, .inl (fun _ => 0)))] := hD
  refine W.widen (k := 1) (n := 60) (Nat.le_of_ble_eq_true rfl) (Nat.le_of_ble_eq_true rfl) ?_
  exact W.vret hx hb hr (fun t ht hW => ⟨⟨q1, rfl, trivial, by rw [ht]; exact hP, hD⟩, hS.F ht⟩) hS.2.2 dX0_init_17 hlk
