def kc_X4_1_56 : Nat → Int32 := (upd (upd (upd (upd (upd (fun _ => 0) 0 100) 1 100) 2 3) 7 360) 10 60)
def kc_X4_1_126 : Nat → Int32 := (upd (upd (upd (upd (upd kc_X4_1_56 12 60) 14 60) 16 60) 18 60) 20 60)
abbrev rm_X0_init : Room := { frames := 1, cells := 1, slots := 60, locals := 20 }
theorem wX0_init_0 : Cond.methodLink RX0 3 objectInit ∈ wsX0_init := by decide +kernel
theorem wX0_init_1 : Cond.instanceMethod objectInit ∈ wsX0_init := by decide +kernel
theorem wX0_init_2 : Cond.code objectInit ⟨#[0xb1]⟩ 1 none ∈ wsX0_init := by decide +kernel
theorem wX0_init_3 : Cond.arrayClass .char ∈ wsX0_init := by decide +kernel
theorem wX0_init_4 : Cond.fieldLink RX0 11 "WaxCopies$Orders" "text" "[C" ∈ wsX0_init := by decide +kernel
theorem inX0_init_X0 : ∀ w ∈ wsX00, w ∈ wsX0_init := by decide +kernel
theorem wX0_init_6 : Cond.fieldLink RX0 15 "WaxCopies$Orders" "length" "I" ∈ wsX0_init := by decide +kernel
set_option maxHeartbeats 8000000 in
set_option maxRecDepth 100000 in
theorem k_X0_init (l : Launch) (G : zG) (h0 sz : Nat) : Met l yX0_init wsX0_init rm_X0_init (va_Pc [.ref h0] (fun U => U.heap.size = sz ∧ va_P G.1 vwCl [(h0, .inr (0, [.null, .int 0]))] U.heap ∧ va_K G.1 vwCl (z_T G) U ∧ va_D (fun _ => True) [(h0, .inr (0, [.null, .int 0]))] ∧ True)) (va_Qv (fun (u : Nat) => True) (fun u t => va_P G.1 vwCl ([(h0, .inr (0, [.ref u, .int 0])), (u, .inl (G.2.2.1 2, 60, .inl (fun _ => 0)))]) t.heap ∧ va_D (va_A [(h0, .inr (0, [.null, .int 0]))] sz) ([(h0, .inr (0, [.ref u, .int 0])), (u, .inl (G.2.2.1 2, 60, .inl (fun _ => 0)))])) (va_A [(h0, .inr (0, [.null, .int 0]))] sz)) 1 60 (va_A [(h0, .inr (0, [.null, .int 0]))] sz) := by
  refine z_startC (ws := wsX0_init) (Ex := fun _ => True) (Qc := fun sz => va_Qv (fun (u : Nat) => True) (fun u t => va_P G.1 vwCl ([(h0, .inr (0, [.ref u, .int 0])), (u, .inl (G.2.2.1 2, 60, .inl (fun _ => 0)))]) t.heap ∧ va_D (va_A [(h0, .inr (0, [.null, .int 0]))] sz) ([(h0, .inr (0, [.ref u, .int 0])), (u, .inl (G.2.2.1 2, 60, .inl (fun _ => 0)))])) (va_A [(h0, .inr (0, [.null, .int 0]))] sz)) (cc := cX0_init) (maxL := 1) (own := RX0) (by decide) rfl rfl rfl (Nat.le_of_ble_eq_true rfl) (fun p e s m args below meth c C hr hlk hin hK _ hP hD hA ls hl => ?_) sz
  have hx := C.1
  have hb := C.2.1
  have hown := C.2.2.2.1
  have hts := C.2.2.2.2
  have hS : va_S (va_A [(h0, .inr (0, [.null, .int 0]))] s.heap.size) s.heap s.heap [] := va_S.rf
  generalize hAe : va_A [(h0, .inr (0, [.null, .int 0]))] s.heap.size = A at hD hA hS ⊢
  have hl : lv_has ls 1 [(0, .ref h0)] := hl
  refine lv_aload_n hx hb dX0_init_0 rfl (lv_at hl 0 rfl) ?_
  refine W.objInit hx hb hown (hts _ wX0_init_0) (hts _ wX0_init_1) (hts _ wX0_init_2) (g := F0 m 1 ls [.ref h0]) rfl (hl.1.trans C.2.2.1.symm) rfl dX0_init_1 (Nat.le_of_ble_eq_true rfl) (Nat.le_of_ble_eq_true rfl) ?_
  refine lv_aload_n hx hb dX0_init_4 rfl (lv_at hl 0 rfl) ?_
  refine lv_bipush (v := 60) hx hb dX0_init_5 (by decide) ?_
  refine z_newI (atype := .char) (a0 := (60, .inl (fun _ => 0))) (ty := .char) hx hb (hts _ wX0_init_3) rfl hK hP hD hS hA 2 rfl (fun _ h => h) (fun _ => rfl) (by decide) rfl (by decide) (Nat.le_of_ble_eq_true rfl) (Nat.le_of_ble_eq_true rfl) dX0_init_7 (fun q1 H hP hD hS => ?_)
  have hP : va_P G.1 vwCl [(h0, .inr (0, [.null, .int 0])), (q1, .inl (G.2.2.1 2, 60, .inl (fun _ => 0)))] H := hP
  have hD : va_D A [(h0, .inr (0, [.null, .int 0])), (q1, .inl (G.2.2.1 2, 60, .inl (fun _ => 0)))] := hD
  refine va_putF (D := G.1) (ci := 0) (v := .ref q1) (ty := .array .char) (C := RX0) (T := TX0) (N := 2) hx hb hts inX0_init_X0 tyX0 tyX0_ok nmX0 hown hK hP hD hS 0 rfl rfl 0 (by decide) (hts _ wX0_init_4) (fun _ h9 => h9) rfl hin rfl (by decide +kernel) rfl rfl (Nat.le_of_ble_eq_true rfl) dX0_init_9 (fun H locs hP hD hS => ?_)
  have hP : va_P G.1 vwCl [(h0, .inr (0, [.ref q1, .int 0])), (q1, .inl (G.2.2.1 2, 60, .inl (fun _ => 0)))] H := hP
  have hD : va_D A [(h0, .inr (0, [.ref q1, .int 0])), (q1, .inl (G.2.2.1 2, 60, .inl (fun _ => 0)))] := hD
  refine lv_aload_n hx hb dX0_init_12 rfl (lv_at hl 0 rfl) ?_
  refine lv_iconst (v := 0) hx hb dX0_init_13 (by decide) ?_
  refine va_put (D := G.1) (ci := 0) (v := .int 0) (ty := .int) (C := RX0) (T := TX0) (N := 2) hx hb hts inX0_init_X0 tyX0 tyX0_ok nmX0 hown hK hP hD hS 0 rfl rfl 1 (by decide) (hts _ wX0_init_6) (fun _ h9 => h9) rfl (by decide +kernel) rfl rfl (Nat.le_of_ble_eq_true rfl) dX0_init_14 (fun H locs hP hD hS => ?_)
  have hP : va_P G.1 vwCl [(h0, .inr (0, [.ref q1, .int 0])), (q1, .inl (G.2.2.1 2, 60, .inl (fun _ => 0)))] H := hP
  have hD : va_D A [(h0, .inr (0, [.ref q1, .int 0])), (q1, .inl (G.2.2.1 2, 60, .inl (fun _ => 0)))] := hD
  refine W.widen (k := 1) (n := 60) (Nat.le_of_ble_eq_true rfl) (Nat.le_of_ble_eq_true rfl) ?_
  exact W.vret hx hb hr (fun t ht hW => ⟨⟨q1, rfl, trivial, by rw [ht]; exact hP, hD⟩, hS.F ht⟩) hS.2.2 dX0_init_17 hlk
abbrev rm_X4_init : Room := { frames := 1, cells := 5, slots := 3792, locals := 20 }
theorem wX4_init_0 : Cond.methodLink RX4 1 objectInit ∈ wsX4_init := by decide +kernel
theorem wX4_init_1 : Cond.instanceMethod objectInit ∈ wsX4_init := by decide +kernel
theorem wX4_init_2 : Cond.code objectInit ⟨#[0xb1]⟩ 1 none ∈ wsX4_init := by decide +kernel
theorem wX4_init_3 : Cond.arrayClass .int ∈ wsX4_init := by decide +kernel
theorem wX4_init_4 : Cond.fieldLink RX4 7 "WaxCopiesModel" "s" "[I" ∈ wsX4_init := by decide +kernel
theorem inX4_init_X4 : ∀ w ∈ wsX40, w ∈ wsX4_init := by decide +kernel
theorem wX4_init_6 : Cond.arrayClass .boolean ∈ wsX4_init := by decide +kernel
theorem wX4_init_7 : Cond.fieldLink RX4 13 "WaxCopiesModel" "isKept" "[Z" ∈ wsX4_init := by decide +kernel
theorem wX4_init_8 : Cond.arrayClass .char ∈ wsX4_init := by decide +kernel
theorem wX4_init_9 : Cond.fieldLink RX4 17 "WaxCopiesModel" "buffer" "[C" ∈ wsX4_init := by decide +kernel
theorem wX4_init_10 : Cond.fieldLink RX4 21 "WaxCopiesModel" "best" "[I" ∈ wsX4_init := by decide +kernel
theorem wX4_init_11 : Cond.fieldLink RX4 24 "WaxCopiesModel" "next" "[I" ∈ wsX4_init := by decide +kernel
set_option maxHeartbeats 8000000 in
set_option maxRecDepth 100000 in
theorem k_X4_init (l : Launch) (G : zG) (h0 sz : Nat) : Met l yX4_init wsX4_init rm_X4_init (va_Pc [.ref h0] (fun U => U.heap.size = sz ∧ va_P G.1 vwCl [(h0, .inr (4, [.null, .int 0, .null, .null, .int 0, .int 0, .int 0, .int 0, .int 0, .int 0, .null, .null]))] U.heap ∧ va_K G.1 vwCl (z_T G) U ∧ va_D (fun _ => True) [(h0, .inr (4, [.null, .int 0, .null, .null, .int 0, .int 0, .int 0, .int 0, .int 0, .int 0, .null, .null]))] ∧ True)) (va_Qv (fun (u : Nat → Nat) => True) (fun u t => va_P G.1 vwCl ([(h0, .inr (4, [.ref (u 1), .int 0, .ref (u 2), .ref (u 3), .int 0, .int 0, .int 0, .int 0, .int 0, .int 0, .ref (u 4), .ref (u 5)])), ((u 1), .inl (G.2.2.1 0, 1710, .inl kc_X4_1_126)), ((u 2), .inl (G.2.2.1 1, 2, .inl (fun _ => 0))), ((u 3), .inl (G.2.2.1 2, 60, .inl (fun _ => 0))), ((u 4), .inl (G.2.2.1 0, 1010, .inl (fun _ => 0))), ((u 5), .inl (G.2.2.1 0, 1010, .inl (fun _ => 0)))]) t.heap ∧ va_D (va_A [(h0, .inr (4, [.null, .int 0, .null, .null, .int 0, .int 0, .int 0, .int 0, .int 0, .int 0, .null, .null]))] sz) ([(h0, .inr (4, [.ref (u 1), .int 0, .ref (u 2), .ref (u 3), .int 0, .int 0, .int 0, .int 0, .int 0, .int 0, .ref (u 4), .ref (u 5)])), ((u 1), .inl (G.2.2.1 0, 1710, .inl kc_X4_1_126)), ((u 2), .inl (G.2.2.1 1, 2, .inl (fun _ => 0))), ((u 3), .inl (G.2.2.1 2, 60, .inl (fun _ => 0))), ((u 4), .inl (G.2.2.1 0, 1010, .inl (fun _ => 0))), ((u 5), .inl (G.2.2.1 0, 1010, .inl (fun _ => 0)))])) (va_A [(h0, .inr (4, [.null, .int 0, .null, .null, .int 0, .int 0, .int 0, .int 0, .int 0, .int 0, .null, .null]))] sz)) 5 3792 (va_A [(h0, .inr (4, [.null, .int 0, .null, .null, .int 0, .int 0, .int 0, .int 0, .int 0, .int 0, .null, .null]))] sz) := by
  refine z_startC (ws := wsX4_init) (Ex := fun _ => True) (Qc := fun sz => va_Qv (fun (u : Nat → Nat) => True) (fun u t => va_P G.1 vwCl ([(h0, .inr (4, [.ref (u 1), .int 0, .ref (u 2), .ref (u 3), .int 0, .int 0, .int 0, .int 0, .int 0, .int 0, .ref (u 4), .ref (u 5)])), ((u 1), .inl (G.2.2.1 0, 1710, .inl kc_X4_1_126)), ((u 2), .inl (G.2.2.1 1, 2, .inl (fun _ => 0))), ((u 3), .inl (G.2.2.1 2, 60, .inl (fun _ => 0))), ((u 4), .inl (G.2.2.1 0, 1010, .inl (fun _ => 0))), ((u 5), .inl (G.2.2.1 0, 1010, .inl (fun _ => 0)))]) t.heap ∧ va_D (va_A [(h0, .inr (4, [.null, .int 0, .null, .null, .int 0, .int 0, .int 0, .int 0, .int 0, .int 0, .null, .null]))] sz) ([(h0, .inr (4, [.ref (u 1), .int 0, .ref (u 2), .ref (u 3), .int 0, .int 0, .int 0, .int 0, .int 0, .int 0, .ref (u 4), .ref (u 5)])), ((u 1), .inl (G.2.2.1 0, 1710, .inl kc_X4_1_126)), ((u 2), .inl (G.2.2.1 1, 2, .inl (fun _ => 0))), ((u 3), .inl (G.2.2.1 2, 60, .inl (fun _ => 0))), ((u 4), .inl (G.2.2.1 0, 1010, .inl (fun _ => 0))), ((u 5), .inl (G.2.2.1 0, 1010, .inl (fun _ => 0)))])) (va_A [(h0, .inr (4, [.null, .int 0, .null, .null, .int 0, .int 0, .int 0, .int 0, .int 0, .int 0, .null, .null]))] sz)) (cc := cX4_init) (maxL := 2) (own := RX4) (by decide) rfl rfl rfl (Nat.le_of_ble_eq_true rfl) (fun p e s m args below meth c C hr hlk hin hK _ hP hD hA ls hl => ?_) sz
  have hx := C.1
  have hb := C.2.1
  have hown := C.2.2.2.1
  have hts := C.2.2.2.2
  have hS : va_S (va_A [(h0, .inr (4, [.null, .int 0, .null, .null, .int 0, .int 0, .int 0, .int 0, .int 0, .int 0, .null, .null]))] s.heap.size) s.heap s.heap [] := va_S.rf
  generalize hAe : va_A [(h0, .inr (4, [.null, .int 0, .null, .null, .int 0, .int 0, .int 0, .int 0, .int 0, .int 0, .null, .null]))] s.heap.size = A at hD hA hS ⊢
  have hl : lv_has ls 2 [(0, .ref h0)] := hl
  refine lv_aload_n hx hb dX4_init_0 rfl (lv_at hl 0 rfl) ?_
  refine W.objInit hx hb hown (hts _ wX4_init_0) (hts _ wX4_init_1) (hts _ wX4_init_2) (g := F0 m 1 ls [.ref h0]) rfl (hl.1.trans C.2.2.1.symm) rfl dX4_init_1 (Nat.le_of_ble_eq_true rfl) (Nat.le_of_ble_eq_true rfl) ?_
  refine lv_aload_n hx hb dX4_init_4 rfl (lv_at hl 0 rfl) ?_
  refine lv_sipush (v := 1710) hx hb dX4_init_5 (by decide) ?_
  refine z_newI (atype := .int) (a0 := (1710, .inl (fun _ => 0))) (ty := .int) hx hb (hts _ wX4_init_3) rfl hK hP hD hS hA 0 rfl (fun _ h => h) (fun _ => rfl) (by decide) rfl (by decide) (Nat.le_of_ble_eq_true rfl) (Nat.le_of_ble_eq_true rfl) dX4_init_8 (fun q1 H hP hD hS => ?_)
  have hP : va_P G.1 vwCl [(h0, .inr (4, [.null, .int 0, .null, .null, .int 0, .int 0, .int 0, .int 0, .int 0, .int 0, .null, .null])), (q1, .inl (G.2.2.1 0, 1710, .inl (fun _ => 0)))] H := hP
  have hD : va_D A [(h0, .inr (4, [.null, .int 0, .null, .null, .int 0, .int 0, .int 0, .int 0, .int 0, .int 0, .null, .null])), (q1, .inl (G.2.2.1 0, 1710, .inl (fun _ => 0)))] := hD
  refine va_putF (D := G.1) (ci := 4) (v := .ref q1) (ty := .array .int) (C := RX4) (T := TX4) (N := 12) hx hb hts inX4_init_X4 tyX4 tyX4_ok nmX4 hown hK hP hD hS 0 rfl rfl 0 (by decide) (hts _ wX4_init_4) (fun _ h9 => h9) rfl hin rfl (by decide +kernel) rfl rfl (Nat.le_of_ble_eq_true rfl) dX4_init_10 (fun H locs hP hD hS => ?_)
  have hP : va_P G.1 vwCl [(h0, .inr (4, [.ref q1, .int 0, .null, .null, .int 0, .int 0, .int 0, .int 0, .int 0, .int 0, .null, .null])), (q1, .inl (G.2.2.1 0, 1710, .inl (fun _ => 0)))] H := hP
  have hD : va_D A [(h0, .inr (4, [.ref q1, .int 0, .null, .null, .int 0, .int 0, .int 0, .int 0, .int 0, .int 0, .null, .null])), (q1, .inl (G.2.2.1 0, 1710, .inl (fun _ => 0)))] := hD
  refine lv_aload_n hx hb dX4_init_13 rfl (lv_at hl 0 rfl) ?_
  refine lv_iconst (v := 2) hx hb dX4_init_14 (by decide) ?_
  refine z_newI (atype := .boolean) (a0 := (2, .inl (fun _ => 0))) (ty := .boolean) hx hb (hts _ wX4_init_6) rfl hK hP hD hS hA 1 rfl (fun _ h => h) (fun _ => rfl) (by decide) rfl (by decide) (Nat.le_of_ble_eq_true rfl) (Nat.le_of_ble_eq_true rfl) dX4_init_15 (fun q2 H hP hD hS => ?_)
  have hP : va_P G.1 vwCl [(h0, .inr (4, [.ref q1, .int 0, .null, .null, .int 0, .int 0, .int 0, .int 0, .int 0, .int 0, .null, .null])), (q1, .inl (G.2.2.1 0, 1710, .inl (fun _ => 0))), (q2, .inl (G.2.2.1 1, 2, .inl (fun _ => 0)))] H := hP
  have hD : va_D A [(h0, .inr (4, [.ref q1, .int 0, .null, .null, .int 0, .int 0, .int 0, .int 0, .int 0, .int 0, .null, .null])), (q1, .inl (G.2.2.1 0, 1710, .inl (fun _ => 0))), (q2, .inl (G.2.2.1 1, 2, .inl (fun _ => 0)))] := hD
  refine va_putF (D := G.1) (ci := 4) (v := .ref q2) (ty := .array .boolean) (C := RX4) (T := TX4) (N := 12) hx hb hts inX4_init_X4 tyX4 tyX4_ok nmX4 hown hK hP hD hS 0 rfl rfl 2 (by decide) (hts _ wX4_init_7) (fun _ h9 => h9) rfl hin rfl (by decide +kernel) rfl rfl (Nat.le_of_ble_eq_true rfl) dX4_init_17 (fun H locs hP hD hS => ?_)
  have hP : va_P G.1 vwCl [(h0, .inr (4, [.ref q1, .int 0, .ref q2, .null, .int 0, .int 0, .int 0, .int 0, .int 0, .int 0, .null, .null])), (q1, .inl (G.2.2.1 0, 1710, .inl (fun _ => 0))), (q2, .inl (G.2.2.1 1, 2, .inl (fun _ => 0)))] H := hP
  have hD : va_D A [(h0, .inr (4, [.ref q1, .int 0, .ref q2, .null, .int 0, .int 0, .int 0, .int 0, .int 0, .int 0, .null, .null])), (q1, .inl (G.2.2.1 0, 1710, .inl (fun _ => 0))), (q2, .inl (G.2.2.1 1, 2, .inl (fun _ => 0)))] := hD
  refine lv_aload_n hx hb dX4_init_20 rfl (lv_at hl 0 rfl) ?_
  refine lv_bipush (v := 60) hx hb dX4_init_21 (by decide) ?_
  refine z_newI (atype := .char) (a0 := (60, .inl (fun _ => 0))) (ty := .char) hx hb (hts _ wX4_init_8) rfl hK hP hD hS hA 2 rfl (fun _ h => h) (fun _ => rfl) (by decide) rfl (by decide) (Nat.le_of_ble_eq_true rfl) (Nat.le_of_ble_eq_true rfl) dX4_init_23 (fun q3 H hP hD hS => ?_)
  have hP : va_P G.1 vwCl [(h0, .inr (4, [.ref q1, .int 0, .ref q2, .null, .int 0, .int 0, .int 0, .int 0, .int 0, .int 0, .null, .null])), (q1, .inl (G.2.2.1 0, 1710, .inl (fun _ => 0))), (q2, .inl (G.2.2.1 1, 2, .inl (fun _ => 0))), (q3, .inl (G.2.2.1 2, 60, .inl (fun _ => 0)))] H := hP
  have hD : va_D A [(h0, .inr (4, [.ref q1, .int 0, .ref q2, .null, .int 0, .int 0, .int 0, .int 0, .int 0, .int 0, .null, .null])), (q1, .inl (G.2.2.1 0, 1710, .inl (fun _ => 0))), (q2, .inl (G.2.2.1 1, 2, .inl (fun _ => 0))), (q3, .inl (G.2.2.1 2, 60, .inl (fun _ => 0)))] := hD
  refine va_putF (D := G.1) (ci := 4) (v := .ref q3) (ty := .array .char) (C := RX4) (T := TX4) (N := 12) hx hb hts inX4_init_X4 tyX4 tyX4_ok nmX4 hown hK hP hD hS 0 rfl rfl 3 (by decide) (hts _ wX4_init_9) (fun _ h9 => h9) rfl hin rfl (by decide +kernel) rfl rfl (Nat.le_of_ble_eq_true rfl) dX4_init_25 (fun H locs hP hD hS => ?_)
  have hP : va_P G.1 vwCl [(h0, .inr (4, [.ref q1, .int 0, .ref q2, .ref q3, .int 0, .int 0, .int 0, .int 0, .int 0, .int 0, .null, .null])), (q1, .inl (G.2.2.1 0, 1710, .inl (fun _ => 0))), (q2, .inl (G.2.2.1 1, 2, .inl (fun _ => 0))), (q3, .inl (G.2.2.1 2, 60, .inl (fun _ => 0)))] H := hP
  have hD : va_D A [(h0, .inr (4, [.ref q1, .int 0, .ref q2, .ref q3, .int 0, .int 0, .int 0, .int 0, .int 0, .int 0, .null, .null])), (q1, .inl (G.2.2.1 0, 1710, .inl (fun _ => 0))), (q2, .inl (G.2.2.1 1, 2, .inl (fun _ => 0))), (q3, .inl (G.2.2.1 2, 60, .inl (fun _ => 0)))] := hD
  refine lv_aload_n hx hb dX4_init_28 rfl (lv_at hl 0 rfl) ?_
  refine lv_sipush (v := 1010) hx hb dX4_init_29 (by decide) ?_
  refine z_newI (atype := .int) (a0 := (1010, .inl (fun _ => 0))) (ty := .int) hx hb (hts _ wX4_init_3) rfl hK hP hD hS hA 0 rfl (fun _ h => h) (fun _ => rfl) (by decide) rfl (by decide) (Nat.le_of_ble_eq_true rfl) (Nat.le_of_ble_eq_true rfl) dX4_init_32 (fun q4 H hP hD hS => ?_)
  have hP : va_P G.1 vwCl [(h0, .inr (4, [.ref q1, .int 0, .ref q2, .ref q3, .int 0, .int 0, .int 0, .int 0, .int 0, .int 0, .null, .null])), (q1, .inl (G.2.2.1 0, 1710, .inl (fun _ => 0))), (q2, .inl (G.2.2.1 1, 2, .inl (fun _ => 0))), (q3, .inl (G.2.2.1 2, 60, .inl (fun _ => 0))), (q4, .inl (G.2.2.1 0, 1010, .inl (fun _ => 0)))] H := hP
  have hD : va_D A [(h0, .inr (4, [.ref q1, .int 0, .ref q2, .ref q3, .int 0, .int 0, .int 0, .int 0, .int 0, .int 0, .null, .null])), (q1, .inl (G.2.2.1 0, 1710, .inl (fun _ => 0))), (q2, .inl (G.2.2.1 1, 2, .inl (fun _ => 0))), (q3, .inl (G.2.2.1 2, 60, .inl (fun _ => 0))), (q4, .inl (G.2.2.1 0, 1010, .inl (fun _ => 0)))] := hD
  refine va_putF (D := G.1) (ci := 4) (v := .ref q4) (ty := .array .int) (C := RX4) (T := TX4) (N := 12) hx hb hts inX4_init_X4 tyX4 tyX4_ok nmX4 hown hK hP hD hS 0 rfl rfl 10 (by decide) (hts _ wX4_init_10) (fun _ h9 => h9) rfl hin rfl (by decide +kernel) rfl rfl (Nat.le_of_ble_eq_true rfl) dX4_init_34 (fun H locs hP hD hS => ?_)
  have hP : va_P G.1 vwCl [(h0, .inr (4, [.ref q1, .int 0, .ref q2, .ref q3, .int 0, .int 0, .int 0, .int 0, .int 0, .int 0, .ref q4, .null])), (q1, .inl (G.2.2.1 0, 1710, .inl (fun _ => 0))), (q2, .inl (G.2.2.1 1, 2, .inl (fun _ => 0))), (q3, .inl (G.2.2.1 2, 60, .inl (fun _ => 0))), (q4, .inl (G.2.2.1 0, 1010, .inl (fun _ => 0)))] H := hP
  have hD : va_D A [(h0, .inr (4, [.ref q1, .int 0, .ref q2, .ref q3, .int 0, .int 0, .int 0, .int 0, .int 0, .int 0, .ref q4, .null])), (q1, .inl (G.2.2.1 0, 1710, .inl (fun _ => 0))), (q2, .inl (G.2.2.1 1, 2, .inl (fun _ => 0))), (q3, .inl (G.2.2.1 2, 60, .inl (fun _ => 0))), (q4, .inl (G.2.2.1 0, 1010, .inl (fun _ => 0)))] := hD
  refine lv_aload_n hx hb dX4_init_37 rfl (lv_at hl 0 rfl) ?_
  refine lv_sipush (v := 1010) hx hb dX4_init_38 (by decide) ?_
  refine z_newI (atype := .int) (a0 := (1010, .inl (fun _ => 0))) (ty := .int) hx hb (hts _ wX4_init_3) rfl hK hP hD hS hA 0 rfl (fun _ h => h) (fun _ => rfl) (by decide) rfl (by decide) (Nat.le_of_ble_eq_true rfl) (Nat.le_of_ble_eq_true rfl) dX4_init_41 (fun q5 H hP hD hS => ?_)
  have hP : va_P G.1 vwCl [(h0, .inr (4, [.ref q1, .int 0, .ref q2, .ref q3, .int 0, .int 0, .int 0, .int 0, .int 0, .int 0, .ref q4, .null])), (q1, .inl (G.2.2.1 0, 1710, .inl (fun _ => 0))), (q2, .inl (G.2.2.1 1, 2, .inl (fun _ => 0))), (q3, .inl (G.2.2.1 2, 60, .inl (fun _ => 0))), (q4, .inl (G.2.2.1 0, 1010, .inl (fun _ => 0))), (q5, .inl (G.2.2.1 0, 1010, .inl (fun _ => 0)))] H := hP
  have hD : va_D A [(h0, .inr (4, [.ref q1, .int 0, .ref q2, .ref q3, .int 0, .int 0, .int 0, .int 0, .int 0, .int 0, .ref q4, .null])), (q1, .inl (G.2.2.1 0, 1710, .inl (fun _ => 0))), (q2, .inl (G.2.2.1 1, 2, .inl (fun _ => 0))), (q3, .inl (G.2.2.1 2, 60, .inl (fun _ => 0))), (q4, .inl (G.2.2.1 0, 1010, .inl (fun _ => 0))), (q5, .inl (G.2.2.1 0, 1010, .inl (fun _ => 0)))] := hD
  refine va_putF (D := G.1) (ci := 4) (v := .ref q5) (ty := .array .int) (C := RX4) (T := TX4) (N := 12) hx hb hts inX4_init_X4 tyX4 tyX4_ok nmX4 hown hK hP hD hS 0 rfl rfl 11 (by decide) (hts _ wX4_init_11) (fun _ h9 => h9) rfl hin rfl (by decide +kernel) rfl rfl (Nat.le_of_ble_eq_true rfl) dX4_init_43 (fun H locs hP hD hS => ?_)
  have hP : va_P G.1 vwCl [(h0, .inr (4, [.ref q1, .int 0, .ref q2, .ref q3, .int 0, .int 0, .int 0, .int 0, .int 0, .int 0, .ref q4, .ref q5])), (q1, .inl (G.2.2.1 0, 1710, .inl (fun _ => 0))), (q2, .inl (G.2.2.1 1, 2, .inl (fun _ => 0))), (q3, .inl (G.2.2.1 2, 60, .inl (fun _ => 0))), (q4, .inl (G.2.2.1 0, 1010, .inl (fun _ => 0))), (q5, .inl (G.2.2.1 0, 1010, .inl (fun _ => 0)))] H := hP
  have hD : va_D A [(h0, .inr (4, [.ref q1, .int 0, .ref q2, .ref q3, .int 0, .int 0, .int 0, .int 0, .int 0, .int 0, .ref q4, .ref q5])), (q1, .inl (G.2.2.1 0, 1710, .inl (fun _ => 0))), (q2, .inl (G.2.2.1 1, 2, .inl (fun _ => 0))), (q3, .inl (G.2.2.1 2, 60, .inl (fun _ => 0))), (q4, .inl (G.2.2.1 0, 1010, .inl (fun _ => 0))), (q5, .inl (G.2.2.1 0, 1010, .inl (fun _ => 0)))] := hD
  refine lv_aload_n hx hb dX4_init_46 rfl (lv_at hl 0 rfl) ?_
  refine va_get (D := G.1) (ci := 4) (v := .ref q1) (C := RX4) (T := TX4) (N := 12) hx hb hts inX4_init_X4 hown hK hP 0 rfl rfl 0 (by decide) (hts _ wX4_init_4) (fun _ h9 => h9) rfl dX4_init_47 ?_
  refine lv_iconst (v := 0) hx hb dX4_init_50 (by decide) ?_
  refine lv_bipush (v := 100) hx hb dX4_init_51 (by decide) ?_
  refine va_iast hx hb hK hP hD hS 1 0 rfl rfl (show z_ix 0 1710 by decide) dX4_init_53 (fun H locs hP hD hS => ?_)
  have hP : va_P G.1 vwCl [(h0, .inr (4, [.ref q1, .int 0, .ref q2, .ref q3, .int 0, .int 0, .int 0, .int 0, .int 0, .int 0, .ref q4, .ref q5])), (q1, .inl (G.2.2.1 0, 1710, .inl (upd (fun _ => 0) 0 100))), (q2, .inl (G.2.2.1 1, 2, .inl (fun _ => 0))), (q3, .inl (G.2.2.1 2, 60, .inl (fun _ => 0))), (q4, .inl (G.2.2.1 0, 1010, .inl (fun _ => 0))), (q5, .inl (G.2.2.1 0, 1010, .inl (fun _ => 0)))] H := hP
  have hD : va_D A [(h0, .inr (4, [.ref q1, .int 0, .ref q2, .ref q3, .int 0, .int 0, .int 0, .int 0, .int 0, .int 0, .ref q4, .ref q5])), (q1, .inl (G.2.2.1 0, 1710, .inl (upd (fun _ => 0) 0 100))), (q2, .inl (G.2.2.1 1, 2, .inl (fun _ => 0))), (q3, .inl (G.2.2.1 2, 60, .inl (fun _ => 0))), (q4, .inl (G.2.2.1 0, 1010, .inl (fun _ => 0))), (q5, .inl (G.2.2.1 0, 1010, .inl (fun _ => 0)))] := hD
  refine lv_aload_n hx hb dX4_init_54 rfl (lv_at hl 0 rfl) ?_
  refine va_get (D := G.1) (ci := 4) (v := .ref q1) (C := RX4) (T := TX4) (N := 12) hx hb hts inX4_init_X4 hown hK hP 0 rfl rfl 0 (by decide) (hts _ wX4_init_4) (fun _ h9 => h9) rfl dX4_init_55 ?_
  refine lv_iconst (v := 1) hx hb dX4_init_58 (by decide) ?_
  refine lv_bipush (v := 100) hx hb dX4_init_59 (by decide) ?_
  refine va_iast hx hb hK hP hD hS 1 0 rfl rfl (show z_ix 1 1710 by decide) dX4_init_61 (fun H locs hP hD hS => ?_)
  have hP : va_P G.1 vwCl [(h0, .inr (4, [.ref q1, .int 0, .ref q2, .ref q3, .int 0, .int 0, .int 0, .int 0, .int 0, .int 0, .ref q4, .ref q5])), (q1, .inl (G.2.2.1 0, 1710, .inl (upd (upd (fun _ => 0) 0 100) 1 100))), (q2, .inl (G.2.2.1 1, 2, .inl (fun _ => 0))), (q3, .inl (G.2.2.1 2, 60, .inl (fun _ => 0))), (q4, .inl (G.2.2.1 0, 1010, .inl (fun _ => 0))), (q5, .inl (G.2.2.1 0, 1010, .inl (fun _ => 0)))] H := hP
  have hD : va_D A [(h0, .inr (4, [.ref q1, .int 0, .ref q2, .ref q3, .int 0, .int 0, .int 0, .int 0, .int 0, .int 0, .ref q4, .ref q5])), (q1, .inl (G.2.2.1 0, 1710, .inl (upd (upd (fun _ => 0) 0 100) 1 100))), (q2, .inl (G.2.2.1 1, 2, .inl (fun _ => 0))), (q3, .inl (G.2.2.1 2, 60, .inl (fun _ => 0))), (q4, .inl (G.2.2.1 0, 1010, .inl (fun _ => 0))), (q5, .inl (G.2.2.1 0, 1010, .inl (fun _ => 0)))] := hD
  refine lv_aload_n hx hb dX4_init_62 rfl (lv_at hl 0 rfl) ?_
  refine va_get (D := G.1) (ci := 4) (v := .ref q1) (C := RX4) (T := TX4) (N := 12) hx hb hts inX4_init_X4 hown hK hP 0 rfl rfl 0 (by decide) (hts _ wX4_init_4) (fun _ h9 => h9) rfl dX4_init_63 ?_
  refine lv_iconst (v := 2) hx hb dX4_init_66 (by decide) ?_
  refine lv_iconst (v := 3) hx hb dX4_init_67 (by decide) ?_
  refine va_iast hx hb hK hP hD hS 1 0 rfl rfl (show z_ix 2 1710 by decide) dX4_init_68 (fun H locs hP hD hS => ?_)
  have hP : va_P G.1 vwCl [(h0, .inr (4, [.ref q1, .int 0, .ref q2, .ref q3, .int 0, .int 0, .int 0, .int 0, .int 0, .int 0, .ref q4, .ref q5])), (q1, .inl (G.2.2.1 0, 1710, .inl (upd (upd (upd (fun _ => 0) 0 100) 1 100) 2 3))), (q2, .inl (G.2.2.1 1, 2, .inl (fun _ => 0))), (q3, .inl (G.2.2.1 2, 60, .inl (fun _ => 0))), (q4, .inl (G.2.2.1 0, 1010, .inl (fun _ => 0))), (q5, .inl (G.2.2.1 0, 1010, .inl (fun _ => 0)))] H := hP
  have hD : va_D A [(h0, .inr (4, [.ref q1, .int 0, .ref q2, .ref q3, .int 0, .int 0, .int 0, .int 0, .int 0, .int 0, .ref q4, .ref q5])), (q1, .inl (G.2.2.1 0, 1710, .inl (upd (upd (upd (fun _ => 0) 0 100) 1 100) 2 3))), (q2, .inl (G.2.2.1 1, 2, .inl (fun _ => 0))), (q3, .inl (G.2.2.1 2, 60, .inl (fun _ => 0))), (q4, .inl (G.2.2.1 0, 1010, .inl (fun _ => 0))), (q5, .inl (G.2.2.1 0, 1010, .inl (fun _ => 0)))] := hD
  refine lv_aload_n hx hb dX4_init_69 rfl (lv_at hl 0 rfl) ?_
  refine va_get (D := G.1) (ci := 4) (v := .ref q1) (C := RX4) (T := TX4) (N := 12) hx hb hts inX4_init_X4 hown hK hP 0 rfl rfl 0 (by decide) (hts _ wX4_init_4) (fun _ h9 => h9) rfl dX4_init_70 ?_
  refine lv_bipush (v := 7) hx hb dX4_init_73 (by decide) ?_
  refine lv_sipush (v := 360) hx hb dX4_init_75 (by decide) ?_
  refine va_iast hx hb hK hP hD hS 1 0 rfl rfl (show z_ix 7 1710 by decide) dX4_init_78 (fun H locs hP hD hS => ?_)
  have hP : va_P G.1 vwCl [(h0, .inr (4, [.ref q1, .int 0, .ref q2, .ref q3, .int 0, .int 0, .int 0, .int 0, .int 0, .int 0, .ref q4, .ref q5])), (q1, .inl (G.2.2.1 0, 1710, .inl (upd (upd (upd (upd (fun _ => 0) 0 100) 1 100) 2 3) 7 360))), (q2, .inl (G.2.2.1 1, 2, .inl (fun _ => 0))), (q3, .inl (G.2.2.1 2, 60, .inl (fun _ => 0))), (q4, .inl (G.2.2.1 0, 1010, .inl (fun _ => 0))), (q5, .inl (G.2.2.1 0, 1010, .inl (fun _ => 0)))] H := hP
  have hD : va_D A [(h0, .inr (4, [.ref q1, .int 0, .ref q2, .ref q3, .int 0, .int 0, .int 0, .int 0, .int 0, .int 0, .ref q4, .ref q5])), (q1, .inl (G.2.2.1 0, 1710, .inl (upd (upd (upd (upd (fun _ => 0) 0 100) 1 100) 2 3) 7 360))), (q2, .inl (G.2.2.1 1, 2, .inl (fun _ => 0))), (q3, .inl (G.2.2.1 2, 60, .inl (fun _ => 0))), (q4, .inl (G.2.2.1 0, 1010, .inl (fun _ => 0))), (q5, .inl (G.2.2.1 0, 1010, .inl (fun _ => 0)))] := hD
  refine lv_iconst (v := 0) hx hb dX4_init_79 (by decide) ?_
  refine lv_istore_n (lv' := [(1, .int 0), (0, .ref h0)]) hx hb dX4_init_80 rfl hl (by decide) rfl (fun ls hl => ?_)
  refine lv_iload_n hx hb dX4_init_81 rfl (lv_at hl 0 rfl) ?_
  refine lv_bipush (v := 6) hx hb dX4_init_82 (by decide) ?_
  refine lv_icmp_ge (pc := 84) (tgt := 106) hx hb dX4_init_84 (by decide) (fun hc => absurd hc (by decide)) (fun _ => ?_)
  refine lv_aload_n hx hb dX4_init_87 rfl (lv_at hl 1 rfl) ?_
  refine va_get (D := G.1) (ci := 4) (v := .ref q1) (C := RX4) (T := TX4) (N := 12) hx hb hts inX4_init_X4 hown hK hP 0 rfl rfl 0 (by decide) (hts _ wX4_init_4) (fun _ h9 => h9) rfl dX4_init_88 ?_
  refine lv_bipush (v := 10) hx hb dX4_init_91 (by decide) ?_
  refine lv_iconst (v := 2) hx hb dX4_init_93 (by decide) ?_
  refine lv_iload_n hx hb dX4_init_94 rfl (lv_at hl 0 rfl) ?_
  refine lv_imul hx hb dX4_init_95 ?_
  rw [show (2 : Int32) * 0 = 0 by decide]
  refine lv_iadd hx hb dX4_init_96 ?_
  rw [show (10 : Int32) + 0 = 10 by decide]
  refine lv_bipush (v := 60) hx hb dX4_init_97 (by decide) ?_
  refine va_iast hx hb hK hP hD hS 1 0 rfl rfl (show z_ix 10 1710 by decide) dX4_init_99 (fun H locs hP hD hS => ?_)
  have hP : va_P G.1 vwCl [(h0, .inr (4, [.ref q1, .int 0, .ref q2, .ref q3, .int 0, .int 0, .int 0, .int 0, .int 0, .int 0, .ref q4, .ref q5])), (q1, .inl (G.2.2.1 0, 1710, .inl kc_X4_1_56)), (q2, .inl (G.2.2.1 1, 2, .inl (fun _ => 0))), (q3, .inl (G.2.2.1 2, 60, .inl (fun _ => 0))), (q4, .inl (G.2.2.1 0, 1010, .inl (fun _ => 0))), (q5, .inl (G.2.2.1 0, 1010, .inl (fun _ => 0)))] H := hP
  have hD : va_D A [(h0, .inr (4, [.ref q1, .int 0, .ref q2, .ref q3, .int 0, .int 0, .int 0, .int 0, .int 0, .int 0, .ref q4, .ref q5])), (q1, .inl (G.2.2.1 0, 1710, .inl kc_X4_1_56)), (q2, .inl (G.2.2.1 1, 2, .inl (fun _ => 0))), (q3, .inl (G.2.2.1 2, 60, .inl (fun _ => 0))), (q4, .inl (G.2.2.1 0, 1010, .inl (fun _ => 0))), (q5, .inl (G.2.2.1 0, 1010, .inl (fun _ => 0)))] := hD
  refine lv_iinc (v := 1) (lv' := [(1, .int 1), (0, .ref h0)]) hx hb dX4_init_100 hl (k := 0) rfl (by decide) (by decide) rfl (fun ls hl => ?_)
  refine lv_goto (pc := 103) (tgt := 81) hx hb dX4_init_103 (by decide) ?_
  refine lv_iload_n hx hb dX4_init_81 rfl (lv_at hl 0 rfl) ?_
  refine lv_bipush (v := 6) hx hb dX4_init_82 (by decide) ?_
  refine lv_icmp_ge (pc := 84) (tgt := 106) hx hb dX4_init_84 (by decide) (fun hc => absurd hc (by decide)) (fun _ => ?_)
  refine lv_aload_n hx hb dX4_init_87 rfl (lv_at hl 1 rfl) ?_
  refine va_get (D := G.1) (ci := 4) (v := .ref q1) (C := RX4) (T := TX4) (N := 12) hx hb hts inX4_init_X4 hown hK hP 0 rfl rfl 0 (by decide) (hts _ wX4_init_4) (fun _ h9 => h9) rfl dX4_init_88 ?_
  refine lv_bipush (v := 10) hx hb dX4_init_91 (by decide) ?_
  refine lv_iconst (v := 2) hx hb dX4_init_93 (by decide) ?_
  refine lv_iload_n hx hb dX4_init_94 rfl (lv_at hl 0 rfl) ?_
  refine lv_imul hx hb dX4_init_95 ?_
  rw [show (2 : Int32) * 1 = 2 by decide]
  refine lv_iadd hx hb dX4_init_96 ?_
  rw [show (10 : Int32) + 2 = 12 by decide]
  refine lv_bipush (v := 60) hx hb dX4_init_97 (by decide) ?_
  refine va_iast hx hb hK hP hD hS 1 0 rfl rfl (show z_ix 12 1710 by decide) dX4_init_99 (fun H locs hP hD hS => ?_)
  have hP : va_P G.1 vwCl [(h0, .inr (4, [.ref q1, .int 0, .ref q2, .ref q3, .int 0, .int 0, .int 0, .int 0, .int 0, .int 0, .ref q4, .ref q5])), (q1, .inl (G.2.2.1 0, 1710, .inl (upd kc_X4_1_56 12 60))), (q2, .inl (G.2.2.1 1, 2, .inl (fun _ => 0))), (q3, .inl (G.2.2.1 2, 60, .inl (fun _ => 0))), (q4, .inl (G.2.2.1 0, 1010, .inl (fun _ => 0))), (q5, .inl (G.2.2.1 0, 1010, .inl (fun _ => 0)))] H := hP
  have hD : va_D A [(h0, .inr (4, [.ref q1, .int 0, .ref q2, .ref q3, .int 0, .int 0, .int 0, .int 0, .int 0, .int 0, .ref q4, .ref q5])), (q1, .inl (G.2.2.1 0, 1710, .inl (upd kc_X4_1_56 12 60))), (q2, .inl (G.2.2.1 1, 2, .inl (fun _ => 0))), (q3, .inl (G.2.2.1 2, 60, .inl (fun _ => 0))), (q4, .inl (G.2.2.1 0, 1010, .inl (fun _ => 0))), (q5, .inl (G.2.2.1 0, 1010, .inl (fun _ => 0)))] := hD
  refine lv_iinc (v := 2) (lv' := [(1, .int 2), (0, .ref h0)]) hx hb dX4_init_100 hl (k := 0) rfl (by decide) (by decide) rfl (fun ls hl => ?_)
  refine lv_goto (pc := 103) (tgt := 81) hx hb dX4_init_103 (by decide) ?_
  refine lv_iload_n hx hb dX4_init_81 rfl (lv_at hl 0 rfl) ?_
  refine lv_bipush (v := 6) hx hb dX4_init_82 (by decide) ?_
  refine lv_icmp_ge (pc := 84) (tgt := 106) hx hb dX4_init_84 (by decide) (fun hc => absurd hc (by decide)) (fun _ => ?_)
  refine lv_aload_n hx hb dX4_init_87 rfl (lv_at hl 1 rfl) ?_
  refine va_get (D := G.1) (ci := 4) (v := .ref q1) (C := RX4) (T := TX4) (N := 12) hx hb hts inX4_init_X4 hown hK hP 0 rfl rfl 0 (by decide) (hts _ wX4_init_4) (fun _ h9 => h9) rfl dX4_init_88 ?_
  refine lv_bipush (v := 10) hx hb dX4_init_91 (by decide) ?_
  refine lv_iconst (v := 2) hx hb dX4_init_93 (by decide) ?_
  refine lv_iload_n hx hb dX4_init_94 rfl (lv_at hl 0 rfl) ?_
  refine lv_imul hx hb dX4_init_95 ?_
  rw [show (2 : Int32) * 2 = 4 by decide]
  refine lv_iadd hx hb dX4_init_96 ?_
  rw [show (10 : Int32) + 4 = 14 by decide]
  refine lv_bipush (v := 60) hx hb dX4_init_97 (by decide) ?_
  refine va_iast hx hb hK hP hD hS 1 0 rfl rfl (show z_ix 14 1710 by decide) dX4_init_99 (fun H locs hP hD hS => ?_)
  have hP : va_P G.1 vwCl [(h0, .inr (4, [.ref q1, .int 0, .ref q2, .ref q3, .int 0, .int 0, .int 0, .int 0, .int 0, .int 0, .ref q4, .ref q5])), (q1, .inl (G.2.2.1 0, 1710, .inl (upd (upd kc_X4_1_56 12 60) 14 60))), (q2, .inl (G.2.2.1 1, 2, .inl (fun _ => 0))), (q3, .inl (G.2.2.1 2, 60, .inl (fun _ => 0))), (q4, .inl (G.2.2.1 0, 1010, .inl (fun _ => 0))), (q5, .inl (G.2.2.1 0, 1010, .inl (fun _ => 0)))] H := hP
  have hD : va_D A [(h0, .inr (4, [.ref q1, .int 0, .ref q2, .ref q3, .int 0, .int 0, .int 0, .int 0, .int 0, .int 0, .ref q4, .ref q5])), (q1, .inl (G.2.2.1 0, 1710, .inl (upd (upd kc_X4_1_56 12 60) 14 60))), (q2, .inl (G.2.2.1 1, 2, .inl (fun _ => 0))), (q3, .inl (G.2.2.1 2, 60, .inl (fun _ => 0))), (q4, .inl (G.2.2.1 0, 1010, .inl (fun _ => 0))), (q5, .inl (G.2.2.1 0, 1010, .inl (fun _ => 0)))] := hD
  refine lv_iinc (v := 3) (lv' := [(1, .int 3), (0, .ref h0)]) hx hb dX4_init_100 hl (k := 0) rfl (by decide) (by decide) rfl (fun ls hl => ?_)
  refine lv_goto (pc := 103) (tgt := 81) hx hb dX4_init_103 (by decide) ?_
  refine lv_iload_n hx hb dX4_init_81 rfl (lv_at hl 0 rfl) ?_
  refine lv_bipush (v := 6) hx hb dX4_init_82 (by decide) ?_
  refine lv_icmp_ge (pc := 84) (tgt := 106) hx hb dX4_init_84 (by decide) (fun hc => absurd hc (by decide)) (fun _ => ?_)
  refine lv_aload_n hx hb dX4_init_87 rfl (lv_at hl 1 rfl) ?_
  refine va_get (D := G.1) (ci := 4) (v := .ref q1) (C := RX4) (T := TX4) (N := 12) hx hb hts inX4_init_X4 hown hK hP 0 rfl rfl 0 (by decide) (hts _ wX4_init_4) (fun _ h9 => h9) rfl dX4_init_88 ?_
  refine lv_bipush (v := 10) hx hb dX4_init_91 (by decide) ?_
  refine lv_iconst (v := 2) hx hb dX4_init_93 (by decide) ?_
  refine lv_iload_n hx hb dX4_init_94 rfl (lv_at hl 0 rfl) ?_
  refine lv_imul hx hb dX4_init_95 ?_
  rw [show (2 : Int32) * 3 = 6 by decide]
  refine lv_iadd hx hb dX4_init_96 ?_
  rw [show (10 : Int32) + 6 = 16 by decide]
  refine lv_bipush (v := 60) hx hb dX4_init_97 (by decide) ?_
  refine va_iast hx hb hK hP hD hS 1 0 rfl rfl (show z_ix 16 1710 by decide) dX4_init_99 (fun H locs hP hD hS => ?_)
  have hP : va_P G.1 vwCl [(h0, .inr (4, [.ref q1, .int 0, .ref q2, .ref q3, .int 0, .int 0, .int 0, .int 0, .int 0, .int 0, .ref q4, .ref q5])), (q1, .inl (G.2.2.1 0, 1710, .inl (upd (upd (upd kc_X4_1_56 12 60) 14 60) 16 60))), (q2, .inl (G.2.2.1 1, 2, .inl (fun _ => 0))), (q3, .inl (G.2.2.1 2, 60, .inl (fun _ => 0))), (q4, .inl (G.2.2.1 0, 1010, .inl (fun _ => 0))), (q5, .inl (G.2.2.1 0, 1010, .inl (fun _ => 0)))] H := hP
  have hD : va_D A [(h0, .inr (4, [.ref q1, .int 0, .ref q2, .ref q3, .int 0, .int 0, .int 0, .int 0, .int 0, .int 0, .ref q4, .ref q5])), (q1, .inl (G.2.2.1 0, 1710, .inl (upd (upd (upd kc_X4_1_56 12 60) 14 60) 16 60))), (q2, .inl (G.2.2.1 1, 2, .inl (fun _ => 0))), (q3, .inl (G.2.2.1 2, 60, .inl (fun _ => 0))), (q4, .inl (G.2.2.1 0, 1010, .inl (fun _ => 0))), (q5, .inl (G.2.2.1 0, 1010, .inl (fun _ => 0)))] := hD
  refine lv_iinc (v := 4) (lv' := [(1, .int 4), (0, .ref h0)]) hx hb dX4_init_100 hl (k := 0) rfl (by decide) (by decide) rfl (fun ls hl => ?_)
  refine lv_goto (pc := 103) (tgt := 81) hx hb dX4_init_103 (by decide) ?_
  refine lv_iload_n hx hb dX4_init_81 rfl (lv_at hl 0 rfl) ?_
  refine lv_bipush (v := 6) hx hb dX4_init_82 (by decide) ?_
  refine lv_icmp_ge (pc := 84) (tgt := 106) hx hb dX4_init_84 (by decide) (fun hc => absurd hc (by decide)) (fun _ => ?_)
  refine lv_aload_n hx hb dX4_init_87 rfl (lv_at hl 1 rfl) ?_
  refine va_get (D := G.1) (ci := 4) (v := .ref q1) (C := RX4) (T := TX4) (N := 12) hx hb hts inX4_init_X4 hown hK hP 0 rfl rfl 0 (by decide) (hts _ wX4_init_4) (fun _ h9 => h9) rfl dX4_init_88 ?_
  refine lv_bipush (v := 10) hx hb dX4_init_91 (by decide) ?_
  refine lv_iconst (v := 2) hx hb dX4_init_93 (by decide) ?_
  refine lv_iload_n hx hb dX4_init_94 rfl (lv_at hl 0 rfl) ?_
  refine lv_imul hx hb dX4_init_95 ?_
  rw [show (2 : Int32) * 4 = 8 by decide]
  refine lv_iadd hx hb dX4_init_96 ?_
  rw [show (10 : Int32) + 8 = 18 by decide]
  refine lv_bipush (v := 60) hx hb dX4_init_97 (by decide) ?_
  refine va_iast hx hb hK hP hD hS 1 0 rfl rfl (show z_ix 18 1710 by decide) dX4_init_99 (fun H locs hP hD hS => ?_)
  have hP : va_P G.1 vwCl [(h0, .inr (4, [.ref q1, .int 0, .ref q2, .ref q3, .int 0, .int 0, .int 0, .int 0, .int 0, .int 0, .ref q4, .ref q5])), (q1, .inl (G.2.2.1 0, 1710, .inl (upd (upd (upd (upd kc_X4_1_56 12 60) 14 60) 16 60) 18 60))), (q2, .inl (G.2.2.1 1, 2, .inl (fun _ => 0))), (q3, .inl (G.2.2.1 2, 60, .inl (fun _ => 0))), (q4, .inl (G.2.2.1 0, 1010, .inl (fun _ => 0))), (q5, .inl (G.2.2.1 0, 1010, .inl (fun _ => 0)))] H := hP
  have hD : va_D A [(h0, .inr (4, [.ref q1, .int 0, .ref q2, .ref q3, .int 0, .int 0, .int 0, .int 0, .int 0, .int 0, .ref q4, .ref q5])), (q1, .inl (G.2.2.1 0, 1710, .inl (upd (upd (upd (upd kc_X4_1_56 12 60) 14 60) 16 60) 18 60))), (q2, .inl (G.2.2.1 1, 2, .inl (fun _ => 0))), (q3, .inl (G.2.2.1 2, 60, .inl (fun _ => 0))), (q4, .inl (G.2.2.1 0, 1010, .inl (fun _ => 0))), (q5, .inl (G.2.2.1 0, 1010, .inl (fun _ => 0)))] := hD
  refine lv_iinc (v := 5) (lv' := [(1, .int 5), (0, .ref h0)]) hx hb dX4_init_100 hl (k := 0) rfl (by decide) (by decide) rfl (fun ls hl => ?_)
  refine lv_goto (pc := 103) (tgt := 81) hx hb dX4_init_103 (by decide) ?_
  refine lv_iload_n hx hb dX4_init_81 rfl (lv_at hl 0 rfl) ?_
  refine lv_bipush (v := 6) hx hb dX4_init_82 (by decide) ?_
  refine lv_icmp_ge (pc := 84) (tgt := 106) hx hb dX4_init_84 (by decide) (fun hc => absurd hc (by decide)) (fun _ => ?_)
  refine lv_aload_n hx hb dX4_init_87 rfl (lv_at hl 1 rfl) ?_
  refine va_get (D := G.1) (ci := 4) (v := .ref q1) (C := RX4) (T := TX4) (N := 12) hx hb hts inX4_init_X4 hown hK hP 0 rfl rfl 0 (by decide) (hts _ wX4_init_4) (fun _ h9 => h9) rfl dX4_init_88 ?_
  refine lv_bipush (v := 10) hx hb dX4_init_91 (by decide) ?_
  refine lv_iconst (v := 2) hx hb dX4_init_93 (by decide) ?_
  refine lv_iload_n hx hb dX4_init_94 rfl (lv_at hl 0 rfl) ?_
  refine lv_imul hx hb dX4_init_95 ?_
  rw [show (2 : Int32) * 5 = 10 by decide]
  refine lv_iadd hx hb dX4_init_96 ?_
  rw [show (10 : Int32) + 10 = 20 by decide]
  refine lv_bipush (v := 60) hx hb dX4_init_97 (by decide) ?_
  refine va_iast hx hb hK hP hD hS 1 0 rfl rfl (show z_ix 20 1710 by decide) dX4_init_99 (fun H locs hP hD hS => ?_)
  have hP : va_P G.1 vwCl [(h0, .inr (4, [.ref q1, .int 0, .ref q2, .ref q3, .int 0, .int 0, .int 0, .int 0, .int 0, .int 0, .ref q4, .ref q5])), (q1, .inl (G.2.2.1 0, 1710, .inl kc_X4_1_126)), (q2, .inl (G.2.2.1 1, 2, .inl (fun _ => 0))), (q3, .inl (G.2.2.1 2, 60, .inl (fun _ => 0))), (q4, .inl (G.2.2.1 0, 1010, .inl (fun _ => 0))), (q5, .inl (G.2.2.1 0, 1010, .inl (fun _ => 0)))] H := hP
  have hD : va_D A [(h0, .inr (4, [.ref q1, .int 0, .ref q2, .ref q3, .int 0, .int 0, .int 0, .int 0, .int 0, .int 0, .ref q4, .ref q5])), (q1, .inl (G.2.2.1 0, 1710, .inl kc_X4_1_126)), (q2, .inl (G.2.2.1 1, 2, .inl (fun _ => 0))), (q3, .inl (G.2.2.1 2, 60, .inl (fun _ => 0))), (q4, .inl (G.2.2.1 0, 1010, .inl (fun _ => 0))), (q5, .inl (G.2.2.1 0, 1010, .inl (fun _ => 0)))] := hD
  refine lv_iinc (v := 6) (lv' := [(1, .int 6), (0, .ref h0)]) hx hb dX4_init_100 hl (k := 0) rfl (by decide) (by decide) rfl (fun ls hl => ?_)
  refine lv_goto (pc := 103) (tgt := 81) hx hb dX4_init_103 (by decide) ?_
  refine lv_iload_n hx hb dX4_init_81 rfl (lv_at hl 0 rfl) ?_
  refine lv_bipush (v := 6) hx hb dX4_init_82 (by decide) ?_
  refine lv_icmp_ge (pc := 84) (tgt := 106) hx hb dX4_init_84 (by decide) (fun _ => ?_) (fun hc => absurd hc (by decide))
  refine W.widen (k := 5) (n := 3792) (Nat.le_of_ble_eq_true rfl) (Nat.le_of_ble_eq_true rfl) ?_
  exact W.vret hx hb hr (fun t ht hW => ⟨⟨(fun i => ([0, q1, q2, q3, q4, q5] : List Nat).getD i 0), rfl, trivial, by rw [ht]; exact hP, hD⟩, hS.F ht⟩) hS.2.2 dX4_init_106 hlk
