abbrev rm_X0_length : Room := { frames := 0, cells := 0, slots := 0, locals := 0 }
theorem hd_X0_length : yX0_length.cls ≠ "java/lang/invoke/MethodHandle" ∧ yX0_length.cls ≠ "java/lang/invoke/VarHandle" ∧ (parseMethodDescriptor yX0_length.desc).map (fun d => d.parameters.length) = some 0 := by decide +kernel
theorem hv_X0_length : yX0_length.cls = RX0 ∧ yX0_length.cls ≠ "java/lang/invoke/MethodHandle" ∧ yX0_length.cls ≠ "java/lang/invoke/VarHandle" ∧ (parseMethodDescriptor yX0_length.desc).map (fun d => d.parameters.length) = some 0 := ⟨rfl, hd_X0_length⟩
theorem wX0_length_0 : Cond.fieldLink RX0 15 "WaxCopies$Orders" "length" "I" ∈ wsX0_length := by decide +kernel
theorem inX0_length_X0 : ∀ w ∈ wsX00, w ∈ wsX0_length := by decide +kernel
set_option maxHeartbeats 4000000 in
set_option maxRecDepth 100000 in
theorem c_X0_length (l : Launch) (G : zG) {μ mu1 : Mm} {r : Int32} (h : f_X0_length μ = some (r, mu1)) (sz : Nat) : Met l yX0_length wsX0_length rm_X0_length (z_Pre G μ [.ref (G.2.1 (94))] sz) (z_Qi G r mu1 sz) 0 0 (z_A G sz) := by
  refine z_start (cc := cX0_length) (maxL := 1) (ret := (some .int)) (own := RX0) (by decide) rfl rfl (Nat.le_of_ble_eq_true rfl) (fun p e s m args below meth c C hr hlk Z hP ls hl => ?_) sz
  have hx := C.1
  have hb := C.2.1
  have hts := C.2.2.2.2
  have hS : va_S (z_A G s.heap.size) s.heap s.heap [] := va_S.rf
  have hl : lv_has ls 1 [(0, .ref (G.2.1 (94)))] := hl
  unfold f_X0_length at h
  refine lv_aload_n hx hb dX0_length_0 rfl (lv_at hl 0 rfl) ?_
  refine z_get C Z hP (k := 94) (ci := 0) (j := 1) (N := 2) (v := .int ((μ 94 1))) (by decide) (z_E_94 _) rfl inX0_length_X0 (by decide) wX0_length_0 rfl dX0_length_1 ?_
  cases h
  exact z_reti C hr hlk hP hS dX0_length_4
abbrev rm_X0_isFull : Room := { frames := 0, cells := 0, slots := 0, locals := 0 }
theorem hd_X0_isFull : yX0_isFull.cls ≠ "java/lang/invoke/MethodHandle" ∧ yX0_isFull.cls ≠ "java/lang/invoke/VarHandle" ∧ (parseMethodDescriptor yX0_isFull.desc).map (fun d => d.parameters.length) = some 0 := by decide +kernel
theorem hv_X0_isFull : yX0_isFull.cls = RX0 ∧ yX0_isFull.cls ≠ "java/lang/invoke/MethodHandle" ∧ yX0_isFull.cls ≠ "java/lang/invoke/VarHandle" ∧ (parseMethodDescriptor yX0_isFull.desc).map (fun d => d.parameters.length) = some 0 := ⟨rfl, hd_X0_isFull⟩
theorem wX0_isFull_0 : Cond.fieldLink RX0 15 "WaxCopies$Orders" "length" "I" ∈ wsX0_isFull := by decide +kernel
theorem inX0_isFull_X0 : ∀ w ∈ wsX00, w ∈ wsX0_isFull := by decide +kernel
set_option maxHeartbeats 4000000 in
set_option maxRecDepth 100000 in
theorem c_X0_isFull (l : Launch) (G : zG) {μ mu1 : Mm} {r : Int32} (h : f_X0_isFull μ = some (r, mu1)) (sz : Nat) : Met l yX0_isFull wsX0_isFull rm_X0_isFull (z_Pre G μ [.ref (G.2.1 (94))] sz) (z_Qi G r mu1 sz) 0 0 (z_A G sz) := by
  refine z_start (cc := cX0_isFull) (maxL := 1) (ret := (some .boolean)) (own := RX0) (by decide) rfl rfl (Nat.le_of_ble_eq_true rfl) (fun p e s m args below meth c C hr hlk Z hP ls hl => ?_) sz
  have hx := C.1
  have hb := C.2.1
  have hts := C.2.2.2.2
  have hS : va_S (z_A G s.heap.size) s.heap s.heap [] := va_S.rf
  have hl : lv_has ls 1 [(0, .ref (G.2.1 (94)))] := hl
  unfold f_X0_isFull at h
  refine lv_aload_n hx hb dX0_isFull_0 rfl (lv_at hl 0 rfl) ?_
  refine z_get C Z hP (k := 94) (ci := 0) (j := 1) (N := 2) (v := .int ((μ 94 1))) (by decide) (z_E_94 _) rfl inX0_isFull_X0 (by decide) wX0_isFull_0 rfl dX0_isFull_1 ?_
  refine lv_bipush (v := 60) hx hb dX0_isFull_4 (by decide) ?_
  refine lv_icmp_lt (tgt := 13) hx hb dX0_isFull_6 (by decide) (fun hc1 => ?_) (fun hc1 => ?_)
  · have h := z_ip hc1 h
    refine lv_iconst (v := 0) hx hb dX0_isFull_13 (by decide) ?_
    cases h
    exact z_retz C hr hlk rfl hP hS dX0_isFull_14
  · have h := z_in hc1 h
    refine lv_iconst (v := 1) hx hb dX0_isFull_9 (by decide) ?_
    refine lv_goto (tgt := 14) hx hb dX0_isFull_10 (by decide) ?_
    cases h
    exact z_retz C hr hlk rfl hP hS dX0_isFull_14
abbrev rm_X0_take : Room := { frames := 1, cells := 0, slots := 0, locals := 20 }
theorem hd_X0_take : yX0_take.cls ≠ "java/lang/invoke/MethodHandle" ∧ yX0_take.cls ≠ "java/lang/invoke/VarHandle" ∧ (parseMethodDescriptor yX0_take.desc).map (fun d => d.parameters.length) = some 1 := by decide +kernel
theorem hv_X0_take : yX0_take.cls = RX0 ∧ yX0_take.cls ≠ "java/lang/invoke/MethodHandle" ∧ yX0_take.cls ≠ "java/lang/invoke/VarHandle" ∧ (parseMethodDescriptor yX0_take.desc).map (fun d => d.parameters.length) = some 1 := ⟨rfl, hd_X0_take⟩
theorem wX0_take_0 : Cond.fieldLink RX0 15 "WaxCopies$Orders" "length" "I" ∈ wsX0_take := by decide +kernel
theorem inX0_take_X0 : ∀ w ∈ wsX00, w ∈ wsX0_take := by decide +kernel
theorem wX0_take_2 : Cond.fieldLink RX0 11 "WaxCopies$Orders" "text" "[C" ∈ wsX0_take := by decide +kernel
set_option maxHeartbeats 4000000 in
set_option maxRecDepth 100000 in
theorem c_X0_take (l : Launch) (G : zG) {x1 : Int32} {μ mu1 : Mm} {r : Int32} (h : f_X0_take x1 μ = some (r, mu1)) (sz : Nat) : Met l yX0_take wsX0_take rm_X0_take (z_Pre G μ [.ref (G.2.1 (94)), .int (x1)] sz) (z_Qi G r mu1 sz) 0 0 (z_A G sz) := by
  refine z_start (cc := cX0_take) (maxL := 2) (ret := (some .int)) (own := RX0) (by decide) rfl rfl (Nat.le_of_ble_eq_true rfl) (fun p e s m args below meth c C hr hlk Z hP ls hl => ?_) sz
  have hx := C.1
  have hb := C.2.1
  have hts := C.2.2.2.2
  have hS : va_S (z_A G s.heap.size) s.heap s.heap [] := va_S.rf
  have hl : lv_has ls 2 [(0, .ref (G.2.1 (94))), (1, .int (x1))] := hl
  unfold f_X0_take at h
  refine lv_aload_n hx hb dX0_take_0 rfl (lv_at hl 0 rfl) ?_
  obtain ⟨r1, m2, e3, h⟩ := zb_some h
  refine z_calli hS (va_runV (As := []) (rest := []) C (c_X0_isFull l G e3 _) (cwV 0 hts gX0_take_X0_isFull rfl rfl rfl hv_X0_isFull ⟨Nat.le_of_ble_eq_true rfl, Nat.le_of_ble_eq_true rfl⟩) (z_preV Z hS hP (by decide) (z_E_94 _) rfl rfl) rfl rfl hl.1 rfl (lv_room (Nat.le_of_ble_eq_true rfl)) dX0_take_1 ⟨Nat.zero_le _, Nat.zero_le _⟩) (fun H locs hP hS => ?_)
  refine lv_if_ne (tgt := 27) hx hb dX0_take_4 (by decide) (fun hc4 => ?_) (fun hc4 => ?_)
  · have h := z_in hc4 h
    refine lv_aload_n hx hb dX0_take_27 rfl (lv_at hl 0 rfl) ?_
    refine z_get C Z hP (k := 94) (ci := 0) (j := 1) (N := 2) (v := .int ((m2 94 1))) (by decide) (z_E_94 _) rfl inX0_take_X0 (by decide) wX0_take_0 rfl dX0_take_28 ?_
    cases h
    exact z_reti C hr hlk hP hS dX0_take_31
  · have h := z_ip hc4 h
    refine lv_aload_n hx hb dX0_take_7 rfl (lv_at hl 0 rfl) ?_
    refine z_get C Z hP (k := 94) (ci := 0) (j := 0) (N := 2) (v := .ref (G.2.1 (95))) (by decide) (z_E_94 _) rfl inX0_take_X0 (by decide) wX0_take_2 rfl dX0_take_8 ?_
    refine lv_aload_n hx hb dX0_take_11 rfl (lv_at hl 0 rfl) ?_
    refine z_get C Z hP (k := 94) (ci := 0) (j := 1) (N := 2) (v := .int ((m2 94 1))) (by decide) (z_E_94 _) rfl inX0_take_X0 (by decide) wX0_take_0 rfl dX0_take_12 ?_
    refine lv_iload_n hx hb dX0_take_15 rfl (lv_at hl 1 rfl) ?_
    obtain ⟨hg5, h⟩ := z_g h
    refine z_cast_ C Z hP hS (k := 95) (n := 60) (j := ((m2 94 1)).toNatClampNeg) (by decide) (fun r => z_E_95 r) hg5 rfl dX0_take_16 (fun H locs hP hS => ?_)
    refine lv_aload_n hx hb dX0_take_17 rfl (lv_at hl 0 rfl) ?_
    refine lv_dup hx hb dX0_take_18 rfl ?_
    refine z_get C Z hP (k := 94) (ci := 0) (j := 1) (N := 2) (v := .int (((z_up m2 (95) (((m2 94 1)).toNatClampNeg) (vp_nar .char x1)) 94 1))) (by decide) (z_E_94 _) rfl inX0_take_X0 (by decide) wX0_take_0 rfl dX0_take_19 ?_
    refine lv_iconst (v := 1) hx hb dX0_take_22 (by decide) ?_
    refine lv_iadd hx hb dX0_take_23 ?_
    refine z_put C Z hP hS (k := 94) (ci := 0) (j := 1) (N := 2) (x := (((z_up m2 (95) (((m2 94 1)).toNatClampNeg) (vp_nar .char x1)) 94 1) + 1)) (v := .int ((((z_up m2 (95) (((m2 94 1)).toNatClampNeg) (vp_nar .char x1)) 94 1) + 1))) (ty := .int) (by decide) (z_E_94 _) rfl inX0_take_X0 tyX0_ok nmX0 (by decide) wX0_take_0 rfl (by decide +kernel) rfl rfl (Nat.le_of_ble_eq_true rfl) (z_S_94_1 _ _) dX0_take_24 (fun H locs hP hS => ?_)
    refine lv_aload_n hx hb dX0_take_27 rfl (lv_at hl 0 rfl) ?_
    obtain ⟨m6, hm7, h⟩ := zm_some h
    rw [← hm7] at hP
    refine z_get C Z hP (k := 94) (ci := 0) (j := 1) (N := 2) (v := .int ((m6 94 1))) (by decide) (z_E_94 _) rfl inX0_take_X0 (by decide) wX0_take_0 rfl dX0_take_28 ?_
    cases h
    exact z_reti C hr hlk hP hS dX0_take_31
abbrev rm_X0_drop : Room := { frames := 0, cells := 0, slots := 0, locals := 0 }
theorem hd_X0_drop : yX0_drop.cls ≠ "java/lang/invoke/MethodHandle" ∧ yX0_drop.cls ≠ "java/lang/invoke/VarHandle" ∧ (parseMethodDescriptor yX0_drop.desc).map (fun d => d.parameters.length) = some 0 := by decide +kernel
theorem hv_X0_drop : yX0_drop.cls = RX0 ∧ yX0_drop.cls ≠ "java/lang/invoke/MethodHandle" ∧ yX0_drop.cls ≠ "java/lang/invoke/VarHandle" ∧ (parseMethodDescriptor yX0_drop.desc).map (fun d => d.parameters.length) = some 0 := ⟨rfl, hd_X0_drop⟩
theorem wX0_drop_0 : Cond.fieldLink RX0 15 "WaxCopies$Orders" "length" "I" ∈ wsX0_drop := by decide +kernel
theorem inX0_drop_X0 : ∀ w ∈ wsX00, w ∈ wsX0_drop := by decide +kernel
set_option maxHeartbeats 4000000 in
set_option maxRecDepth 100000 in
theorem c_X0_drop (l : Launch) (G : zG) {μ mu1 : Mm} {r : Int32} (h : f_X0_drop μ = some (r, mu1)) (sz : Nat) : Met l yX0_drop wsX0_drop rm_X0_drop (z_Pre G μ [.ref (G.2.1 (94))] sz) (z_Qi G r mu1 sz) 0 0 (z_A G sz) := by
  refine z_start (cc := cX0_drop) (maxL := 2) (ret := (some .int)) (own := RX0) (by decide) rfl rfl (Nat.le_of_ble_eq_true rfl) (fun p e s m args below meth c C hr hlk Z hP ls hl => ?_) sz
  have hx := C.1
  have hb := C.2.1
  have hts := C.2.2.2.2
  have hS : va_S (z_A G s.heap.size) s.heap s.heap [] := va_S.rf
  have hl : lv_has ls 2 [(0, .ref (G.2.1 (94)))] := hl
  unfold f_X0_drop at h
  refine lv_aload_n hx hb dX0_drop_0 rfl (lv_at hl 0 rfl) ?_
  refine z_get C Z hP (k := 94) (ci := 0) (j := 1) (N := 2) (v := .int ((μ 94 1))) (by decide) (z_E_94 _) rfl inX0_drop_X0 (by decide) wX0_drop_0 rfl dX0_drop_1 ?_
  refine lv_istore_n (lv' := [(1, .int ((μ 94 1))), (0, .ref (G.2.1 (94)))]) hx hb dX0_drop_4 rfl hl (by decide) rfl (fun ls hl => ?_)
  refine lv_aload_n hx hb dX0_drop_5 rfl (lv_at hl 1 rfl) ?_
  refine lv_iconst (v := 0) hx hb dX0_drop_6 (by decide) ?_
  refine z_put C Z hP hS (k := 94) (ci := 0) (j := 1) (N := 2) (x := 0) (v := .int (0)) (ty := .int) (by decide) (z_E_94 _) rfl inX0_drop_X0 tyX0_ok nmX0 (by decide) wX0_drop_0 rfl (by decide +kernel) rfl rfl (Nat.le_of_ble_eq_true rfl) (z_S_94_1 _ _) dX0_drop_7 (fun H locs hP hS => ?_)
  refine lv_iload_n hx hb dX0_drop_10 rfl (lv_at hl 0 rfl) ?_
  cases h
  exact z_reti C hr hlk hP hS dX0_drop_11
abbrev rm_X0_codeAt : Room := { frames := 0, cells := 0, slots := 0, locals := 0 }
theorem hd_X0_codeAt : yX0_codeAt.cls ≠ "java/lang/invoke/MethodHandle" ∧ yX0_codeAt.cls ≠ "java/lang/invoke/VarHandle" ∧ (parseMethodDescriptor yX0_codeAt.desc).map (fun d => d.parameters.length) = some 1 := by decide +kernel
theorem hv_X0_codeAt : yX0_codeAt.cls = RX0 ∧ yX0_codeAt.cls ≠ "java/lang/invoke/MethodHandle" ∧ yX0_codeAt.cls ≠ "java/lang/invoke/VarHandle" ∧ (parseMethodDescriptor yX0_codeAt.desc).map (fun d => d.parameters.length) = some 1 := ⟨rfl, hd_X0_codeAt⟩
theorem wX0_codeAt_0 : Cond.fieldLink RX0 15 "WaxCopies$Orders" "length" "I" ∈ wsX0_codeAt := by decide +kernel
theorem inX0_codeAt_X0 : ∀ w ∈ wsX00, w ∈ wsX0_codeAt := by decide +kernel
theorem wX0_codeAt_2 : Cond.fieldLink RX0 11 "WaxCopies$Orders" "text" "[C" ∈ wsX0_codeAt := by decide +kernel
set_option maxHeartbeats 4000000 in
set_option maxRecDepth 100000 in
theorem c_X0_codeAt (l : Launch) (G : zG) {x1 : Int32} {μ mu1 : Mm} {r : Int32} (h : f_X0_codeAt x1 μ = some (r, mu1)) (sz : Nat) : Met l yX0_codeAt wsX0_codeAt rm_X0_codeAt (z_Pre G μ [.ref (G.2.1 (94)), .int (x1)] sz) (z_Qi G r mu1 sz) 0 0 (z_A G sz) := by
  refine z_start (cc := cX0_codeAt) (maxL := 2) (ret := (some .int)) (own := RX0) (by decide) rfl rfl (Nat.le_of_ble_eq_true rfl) (fun p e s m args below meth c C hr hlk Z hP ls hl => ?_) sz
  have hx := C.1
  have hb := C.2.1
  have hts := C.2.2.2.2
  have hS : va_S (z_A G s.heap.size) s.heap s.heap [] := va_S.rf
  have hl : lv_has ls 2 [(0, .ref (G.2.1 (94))), (1, .int (x1))] := hl
  unfold f_X0_codeAt at h
  refine lv_iload_n hx hb dX0_codeAt_0 rfl (lv_at hl 1 rfl) ?_
  refine lv_if_lt (tgt := 21) hx hb dX0_codeAt_1 (by decide) (fun hc1 => ?_) (fun hc1 => ?_)
  · have h := z_ip hc1 h
    refine lv_iconst (v := 0) hx hb dX0_codeAt_21 (by decide) ?_
    cases h
    exact z_reti C hr hlk hP hS dX0_codeAt_22
  · have h := z_in hc1 h
    refine lv_iload_n hx hb dX0_codeAt_4 rfl (lv_at hl 1 rfl) ?_
    refine lv_aload_n hx hb dX0_codeAt_5 rfl (lv_at hl 0 rfl) ?_
    refine z_get C Z hP (k := 94) (ci := 0) (j := 1) (N := 2) (v := .int ((μ 94 1))) (by decide) (z_E_94 _) rfl inX0_codeAt_X0 (by decide) wX0_codeAt_0 rfl dX0_codeAt_6 ?_
    refine lv_icmp_ge (tgt := 21) hx hb dX0_codeAt_9 (by decide) (fun hc2 => ?_) (fun hc2 => ?_)
    · have h := z_ip hc2 h
      refine lv_iconst (v := 0) hx hb dX0_codeAt_21 (by decide) ?_
      cases h
      exact z_reti C hr hlk hP hS dX0_codeAt_22
    · have h := z_in hc2 h
      refine lv_aload_n hx hb dX0_codeAt_12 rfl (lv_at hl 0 rfl) ?_
      refine z_get C Z hP (k := 94) (ci := 0) (j := 0) (N := 2) (v := .ref (G.2.1 (95))) (by decide) (z_E_94 _) rfl inX0_codeAt_X0 (by decide) wX0_codeAt_2 rfl dX0_codeAt_13 ?_
      refine lv_iload_n hx hb dX0_codeAt_16 rfl (lv_at hl 1 rfl) ?_
      obtain ⟨hg3, h⟩ := z_g h
      refine z_cald C Z hP (k := 95) (n := 60) (j := (x1).toNatClampNeg) (by decide) (z_E_95 _) hg3 rfl dX0_codeAt_17 ?_
      refine lv_goto (tgt := 22) hx hb dX0_codeAt_18 (by decide) ?_
      cases h
      exact z_reti C hr hlk hP hS dX0_codeAt_22
abbrev rm_X0_digitAt : Room := { frames := 1, cells := 0, slots := 0, locals := 21 }
theorem hd_X0_digitAt : yX0_digitAt.cls ≠ "java/lang/invoke/MethodHandle" ∧ yX0_digitAt.cls ≠ "java/lang/invoke/VarHandle" ∧ (parseMethodDescriptor yX0_digitAt.desc).map (fun d => d.parameters.length) = some 1 := by decide +kernel
theorem hv_X0_digitAt : yX0_digitAt.cls = RX0 ∧ yX0_digitAt.cls ≠ "java/lang/invoke/MethodHandle" ∧ yX0_digitAt.cls ≠ "java/lang/invoke/VarHandle" ∧ (parseMethodDescriptor yX0_digitAt.desc).map (fun d => d.parameters.length) = some 1 := ⟨rfl, hd_X0_digitAt⟩
set_option maxHeartbeats 4000000 in
set_option maxRecDepth 100000 in
theorem c_X0_digitAt (l : Launch) (G : zG) {x1 : Int32} {μ mu1 : Mm} {r : Int32} (h : f_X0_digitAt x1 μ = some (r, mu1)) (sz : Nat) : Met l yX0_digitAt wsX0_digitAt rm_X0_digitAt (z_Pre G μ [.ref (G.2.1 (94)), .int (x1)] sz) (z_Qi G r mu1 sz) 0 0 (z_A G sz) := by
  refine z_start (cc := cX0_digitAt) (maxL := 2) (ret := (some .int)) (own := RX0) (by decide) rfl rfl (Nat.le_of_ble_eq_true rfl) (fun p e s m args below meth c C hr hlk Z hP ls hl => ?_) sz
  have hx := C.1
  have hb := C.2.1
  have hts := C.2.2.2.2
  have hS : va_S (z_A G s.heap.size) s.heap s.heap [] := va_S.rf
  have hl : lv_has ls 2 [(0, .ref (G.2.1 (94))), (1, .int (x1))] := hl
  unfold f_X0_digitAt at h
  refine lv_aload_n hx hb dX0_digitAt_0 rfl (lv_at hl 0 rfl) ?_
  refine lv_iload_n hx hb dX0_digitAt_1 rfl (lv_at hl 1 rfl) ?_
  obtain ⟨r1, m2, e3, h⟩ := zb_some h
  refine z_calli hS (va_runV (As := [.int (x1)]) (rest := []) C (c_X0_codeAt l G e3 _) (cwV 1 hts gX0_digitAt_X0_codeAt rfl rfl rfl hv_X0_codeAt ⟨Nat.le_of_ble_eq_true rfl, Nat.le_of_ble_eq_true rfl⟩) (z_preV Z hS hP (by decide) (z_E_94 _) rfl rfl) rfl rfl hl.1 rfl (lv_room (Nat.le_of_ble_eq_true rfl)) dX0_digitAt_2 ⟨Nat.zero_le _, Nat.zero_le _⟩) (fun H locs hP hS => ?_)
  refine lv_bipush (v := 48) hx hb dX0_digitAt_5 (by decide) ?_
  refine lv_isub hx hb dX0_digitAt_7 ?_
  cases h
  exact z_reti C hr hlk hP hS dX0_digitAt_8
abbrev rm_X0_cylinderAt : Room := { frames := 1, cells := 0, slots := 0, locals := 21 }
theorem hd_X0_cylinderAt : yX0_cylinderAt.cls ≠ "java/lang/invoke/MethodHandle" ∧ yX0_cylinderAt.cls ≠ "java/lang/invoke/VarHandle" ∧ (parseMethodDescriptor yX0_cylinderAt.desc).map (fun d => d.parameters.length) = some 1 := by decide +kernel
theorem hv_X0_cylinderAt : yX0_cylinderAt.cls = RX0 ∧ yX0_cylinderAt.cls ≠ "java/lang/invoke/MethodHandle" ∧ yX0_cylinderAt.cls ≠ "java/lang/invoke/VarHandle" ∧ (parseMethodDescriptor yX0_cylinderAt.desc).map (fun d => d.parameters.length) = some 1 := ⟨rfl, hd_X0_cylinderAt⟩
set_option maxHeartbeats 4000000 in
set_option maxRecDepth 100000 in
theorem c_X0_cylinderAt (l : Launch) (G : zG) {x1 : Int32} {μ mu1 : Mm} {r : Int32} (h : f_X0_cylinderAt x1 μ = some (r, mu1)) (sz : Nat) : Met l yX0_cylinderAt wsX0_cylinderAt rm_X0_cylinderAt (z_Pre G μ [.ref (G.2.1 (94)), .int (x1)] sz) (z_Qi G r mu1 sz) 0 0 (z_A G sz) := by
  refine z_start (cc := cX0_cylinderAt) (maxL := 2) (ret := (some .int)) (own := RX0) (by decide) rfl rfl (Nat.le_of_ble_eq_true rfl) (fun p e s m args below meth c C hr hlk Z hP ls hl => ?_) sz
  have hx := C.1
  have hb := C.2.1
  have hts := C.2.2.2.2
  have hS : va_S (z_A G s.heap.size) s.heap s.heap [] := va_S.rf
  have hl : lv_has ls 2 [(0, .ref (G.2.1 (94))), (1, .int (x1))] := hl
  unfold f_X0_cylinderAt at h
  refine lv_aload_n hx hb dX0_cylinderAt_0 rfl (lv_at hl 0 rfl) ?_
  refine lv_iload_n hx hb dX0_cylinderAt_1 rfl (lv_at hl 1 rfl) ?_
  obtain ⟨r1, m2, e3, h⟩ := zb_some h
  refine z_calli hS (va_runV (As := [.int (x1)]) (rest := []) C (c_X0_codeAt l G e3 _) (cwV 1 hts gX0_cylinderAt_X0_codeAt rfl rfl rfl hv_X0_codeAt ⟨Nat.le_of_ble_eq_true rfl, Nat.le_of_ble_eq_true rfl⟩) (z_preV Z hS hP (by decide) (z_E_94 _) rfl rfl) rfl rfl hl.1 rfl (lv_room (Nat.le_of_ble_eq_true rfl)) dX0_cylinderAt_2 ⟨Nat.zero_le _, Nat.zero_le _⟩) (fun H locs hP hS => ?_)
  refine lv_bipush (v := 97) hx hb dX0_cylinderAt_5 (by decide) ?_
  refine lv_isub hx hb dX0_cylinderAt_7 ?_
  cases h
  exact z_reti C hr hlk hP hS dX0_cylinderAt_8
abbrev rm_X0_trackAt : Room := { frames := 2, cells := 0, slots := 0, locals := 42 }
theorem hd_X0_trackAt : yX0_trackAt.cls ≠ "java/lang/invoke/MethodHandle" ∧ yX0_trackAt.cls ≠ "java/lang/invoke/VarHandle" ∧ (parseMethodDescriptor yX0_trackAt.desc).map (fun d => d.parameters.length) = some 1 := by decide +kernel
theorem hv_X0_trackAt : yX0_trackAt.cls = RX0 ∧ yX0_trackAt.cls ≠ "java/lang/invoke/MethodHandle" ∧ yX0_trackAt.cls ≠ "java/lang/invoke/VarHandle" ∧ (parseMethodDescriptor yX0_trackAt.desc).map (fun d => d.parameters.length) = some 1 := ⟨rfl, hd_X0_trackAt⟩
set_option maxHeartbeats 4000000 in
set_option maxRecDepth 100000 in
theorem c_X0_trackAt (l : Launch) (G : zG) {x1 : Int32} {μ mu1 : Mm} {r : Int32} (h : f_X0_trackAt x1 μ = some (r, mu1)) (sz : Nat) : Met l yX0_trackAt wsX0_trackAt rm_X0_trackAt (z_Pre G μ [.ref (G.2.1 (94)), .int (x1)] sz) (z_Qi G r mu1 sz) 0 0 (z_A G sz) := by
  refine z_start (cc := cX0_trackAt) (maxL := 2) (ret := (some .int)) (own := RX0) (by decide) rfl rfl (Nat.le_of_ble_eq_true rfl) (fun p e s m args below meth c C hr hlk Z hP ls hl => ?_) sz
  have hx := C.1
  have hb := C.2.1
  have hts := C.2.2.2.2
  have hS : va_S (z_A G s.heap.size) s.heap s.heap [] := va_S.rf
  have hl : lv_has ls 2 [(0, .ref (G.2.1 (94))), (1, .int (x1))] := hl
  unfold f_X0_trackAt at h
  refine lv_aload_n hx hb dX0_trackAt_0 rfl (lv_at hl 0 rfl) ?_
  refine lv_iload_n hx hb dX0_trackAt_1 rfl (lv_at hl 1 rfl) ?_
  obtain ⟨r1, m2, e3, h⟩ := zb_some h
  refine z_calli hS (va_runV (As := [.int (x1)]) (rest := []) C (c_X0_cylinderAt l G e3 _) (cwV 1 hts gX0_trackAt_X0_cylinderAt rfl rfl rfl hv_X0_cylinderAt ⟨Nat.le_of_ble_eq_true rfl, Nat.le_of_ble_eq_true rfl⟩) (z_preV Z hS hP (by decide) (z_E_94 _) rfl rfl) rfl rfl hl.1 rfl (lv_room (Nat.le_of_ble_eq_true rfl)) dX0_trackAt_2 ⟨Nat.zero_le _, Nat.zero_le _⟩) (fun H locs hP hS => ?_)
  refine lv_iconst (v := 4) hx hb dX0_trackAt_5 (by decide) ?_
  refine lv_imul hx hb dX0_trackAt_6 ?_
  refine lv_aload_n hx hb dX0_trackAt_7 rfl (lv_at hl 0 rfl) ?_
  refine lv_iload_n hx hb dX0_trackAt_8 rfl (lv_at hl 1 rfl) ?_
  refine lv_iconst (v := 1) hx hb dX0_trackAt_9 (by decide) ?_
  refine lv_iadd hx hb dX0_trackAt_10 ?_
  obtain ⟨r4, m5, e6, h⟩ := zb_some h
  refine z_calli hS (va_runV (As := [.int ((x1 + 1))]) (rest := [.int ((r1 * 4))]) C (c_X0_digitAt l G e6 _) (cwV 1 hts gX0_trackAt_X0_digitAt rfl rfl rfl hv_X0_digitAt ⟨Nat.le_of_ble_eq_true rfl, Nat.le_of_ble_eq_true rfl⟩) (z_preV Z hS hP (by decide) (z_E_94 _) rfl rfl) rfl rfl hl.1 rfl (lv_room (Nat.le_of_ble_eq_true rfl)) dX0_trackAt_11 ⟨Nat.zero_le _, Nat.zero_le _⟩) (fun H locs hP hS => ?_)
  refine lv_iadd hx hb dX0_trackAt_14 ?_
  cases h
  exact z_reti C hr hlk hP hS dX0_trackAt_15
abbrev rm_X0_formOf : Room := { frames := 0, cells := 0, slots := 0, locals := 0 }
theorem hd_X0_formOf : yX0_formOf.cls ≠ "java/lang/invoke/MethodHandle" ∧ yX0_formOf.cls ≠ "java/lang/invoke/VarHandle" ∧ (parseMethodDescriptor yX0_formOf.desc).map (fun d => d.parameters.length) = some 1 := by decide +kernel
theorem hv_X0_formOf : yX0_formOf.cls = RX0 ∧ yX0_formOf.cls ≠ "java/lang/invoke/MethodHandle" ∧ yX0_formOf.cls ≠ "java/lang/invoke/VarHandle" ∧ (parseMethodDescriptor yX0_formOf.desc).map (fun d => d.parameters.length) = some 1 := ⟨rfl, hd_X0_formOf⟩
set_option maxHeartbeats 4000000 in
set_option maxRecDepth 100000 in
theorem c_X0_formOf (l : Launch) (G : zG) {x0 : Int32} {μ mu1 : Mm} {r : Nat} (h : f_X0_formOf x0 μ = some (r, mu1)) (sz : Nat) : Met l yX0_formOf wsX0_formOf rm_X0_formOf (z_Pre G μ [.int (x0)] sz) (z_Qr G r mu1 sz) 0 0 (z_A G sz) := by
  refine z_start (cc := cX0_formOf) (maxL := 1) (ret := (some ((.object "java/lang/String")))) (own := RX0) (by decide) rfl rfl (Nat.le_of_ble_eq_true rfl) (fun p e s m args below meth c C hr hlk Z hP ls hl => ?_) sz
  have hx := C.1
  have hb := C.2.1
  have hts := C.2.2.2.2
  have hS : va_S (z_A G s.heap.size) s.heap s.heap [] := va_S.rf
  have hl : lv_has ls 1 [(0, .int (x0))] := hl
  unfold f_X0_formOf at h
  refine lv_iload_n hx hb dX0_formOf_0 rfl (lv_at hl 0 rfl) ?_
  by_cases hc1 : x0 = 99
  · have h := z_ip hc1 h
    refine lv_lookup (tgt := 55) (off := 54) hx hb dX0_formOf_1 (by decide +kernel) (by rw [hc1]; rfl) (by decide) ?_
    refine va_ldcS hx hb C.2.2.2.1 (Z.2.2.2.2.2.2.2.2.1 1 (by decide)) dX0_formOf_55 ?_
    cases h
    exact z_retr C hr hlk hP hS dX0_formOf_57
  · have h := z_in hc1 h
    by_cases hc2 : x0 = 112
    · have h := z_ip hc2 h
      refine lv_lookup (tgt := 58) (off := 57) hx hb dX0_formOf_1 (by decide +kernel) (by rw [hc2]; rfl) (by decide) ?_
      refine va_ldcS hx hb C.2.2.2.1 (Z.2.2.2.2.2.2.2.2.1 2 (by decide)) dX0_formOf_58 ?_
      cases h
      exact z_retr C hr hlk hP hS dX0_formOf_60
    · have h := z_in hc2 h
      by_cases hc3 : x0 = 115
      · have h := z_ip hc3 h
        refine lv_lookup (tgt := 52) (off := 51) hx hb dX0_formOf_1 (by decide +kernel) (by rw [hc3]; rfl) (by decide) ?_
        refine va_ldcS hx hb C.2.2.2.1 (Z.2.2.2.2.2.2.2.2.1 0 (by decide)) dX0_formOf_52 ?_
        cases h
        exact z_retr C hr hlk hP hS dX0_formOf_54
      · have h := z_in hc3 h
        by_cases hc4 : x0 = 119
        · have h := z_ip hc4 h
          refine lv_lookup (tgt := 64) (off := 63) hx hb dX0_formOf_1 (by decide +kernel) (by rw [hc4]; rfl) (by decide) ?_
          refine va_ldcS hx hb C.2.2.2.1 (Z.2.2.2.2.2.2.2.2.1 4 (by decide)) dX0_formOf_64 ?_
          cases h
          exact z_retr C hr hlk hP hS dX0_formOf_66
        · have h := z_in hc4 h
          by_cases hc5 : x0 = 120
          · have h := z_ip hc5 h
            refine lv_lookup (tgt := 61) (off := 60) hx hb dX0_formOf_1 (by decide +kernel) (by rw [hc5]; rfl) (by decide) ?_
            refine va_ldcS hx hb C.2.2.2.1 (Z.2.2.2.2.2.2.2.2.1 3 (by decide)) dX0_formOf_61 ?_
            cases h
            exact z_retr C hr hlk hP hS dX0_formOf_63
          · have h := z_in hc5 h
            refine lv_lookup (tgt := 67) (off := 66) hx hb dX0_formOf_1 (by decide +kernel) ((lv_osw hc1 (by decide)).trans ((lv_osw hc2 (by decide)).trans ((lv_osw hc3 (by decide)).trans ((lv_osw hc4 (by decide)).trans ((lv_osw hc5 (by decide)).trans rfl))))) (by decide) ?_
            refine va_ldcS hx hb C.2.2.2.1 (Z.2.2.2.2.2.2.2.2.1 5 (by decide)) dX0_formOf_67 ?_
            cases h
            exact z_retr C hr hlk hP hS dX0_formOf_69
abbrev rm_X0_fits : Room := { frames := 0, cells := 0, slots := 0, locals := 0 }
theorem hd_X0_fits : yX0_fits.cls ≠ "java/lang/invoke/MethodHandle" ∧ yX0_fits.cls ≠ "java/lang/invoke/VarHandle" ∧ (parseMethodDescriptor yX0_fits.desc).map (fun d => d.parameters.length) = some 2 := by decide +kernel
theorem hv_X0_fits : yX0_fits.cls = RX0 ∧ yX0_fits.cls ≠ "java/lang/invoke/MethodHandle" ∧ yX0_fits.cls ≠ "java/lang/invoke/VarHandle" ∧ (parseMethodDescriptor yX0_fits.desc).map (fun d => d.parameters.length) = some 2 := ⟨rfl, hd_X0_fits⟩
set_option maxHeartbeats 4000000 in
set_option maxRecDepth 100000 in
theorem c_X0_fits (l : Launch) (G : zG) {x0 : Int32} {x1 : Int32} {μ mu1 : Mm} {r : Int32} (h : f_X0_fits x0 x1 μ = some (r, mu1)) (sz : Nat) : Met l yX0_fits wsX0_fits rm_X0_fits (z_Pre G μ [.int (x0), .int (x1)] sz) (z_Qi G r mu1 sz) 0 0 (z_A G sz) := by
  refine z_start (cc := cX0_fits) (maxL := 2) (ret := (some .boolean)) (own := RX0) (by decide) rfl rfl (Nat.le_of_ble_eq_true rfl) (fun p e s m args below meth c C hr hlk Z hP ls hl => ?_) sz
  have hx := C.1
  have hb := C.2.1
  have hts := C.2.2.2.2
  have hS : va_S (z_A G s.heap.size) s.heap s.heap [] := va_S.rf
  have hl : lv_has ls 2 [(0, .int (x0)), (1, .int (x1))] := hl
  unfold f_X0_fits at h
  refine lv_iload_n hx hb dX0_fits_0 rfl (lv_at hl 1 rfl) ?_
  by_cases hc1 : x1 = 65
  · have h := z_ip hc1 h
    refine lv_lookup (tgt := 44) (off := 43) hx hb dX0_fits_1 (by decide +kernel) (by rw [hc1]; rfl) (by decide) ?_
    refine lv_iload_n hx hb dX0_fits_44 rfl (lv_at hl 0 rfl) ?_
    refine lv_bipush (v := 97) hx hb dX0_fits_45 (by decide) ?_
    refine lv_icmp_lt (tgt := 60) hx hb dX0_fits_47 (by decide) (fun hc2 => ?_) (fun hc2 => ?_)
    · have h := z_ip hc2 h
      refine lv_iconst (v := 0) hx hb dX0_fits_60 (by decide) ?_
      cases h
      exact z_retz C hr hlk rfl hP hS dX0_fits_61
    · have h := z_in hc2 h
      refine lv_iload_n hx hb dX0_fits_50 rfl (lv_at hl 0 rfl) ?_
      refine lv_bipush (v := 102) hx hb dX0_fits_51 (by decide) ?_
      refine lv_icmp_gt (tgt := 60) hx hb dX0_fits_53 (by decide) (fun hc3 => ?_) (fun hc3 => ?_)
      · have h := z_ip hc3 h
        refine lv_iconst (v := 0) hx hb dX0_fits_60 (by decide) ?_
        cases h
        exact z_retz C hr hlk rfl hP hS dX0_fits_61
      · have h := z_in hc3 h
        refine lv_iconst (v := 1) hx hb dX0_fits_56 (by decide) ?_
        refine lv_goto (tgt := 61) hx hb dX0_fits_57 (by decide) ?_
        cases h
        exact z_retz C hr hlk rfl hP hS dX0_fits_61
  · have h := z_in hc1 h
    by_cases hc4 : x1 = 68
    · have h := z_ip hc4 h
      refine lv_lookup (tgt := 62) (off := 61) hx hb dX0_fits_1 (by decide +kernel) (by rw [hc4]; rfl) (by decide) ?_
      refine lv_iload_n hx hb dX0_fits_62 rfl (lv_at hl 0 rfl) ?_
      refine lv_bipush (v := 48) hx hb dX0_fits_63 (by decide) ?_
      refine lv_icmp_lt (tgt := 78) hx hb dX0_fits_65 (by decide) (fun hc5 => ?_) (fun hc5 => ?_)
      · have h := z_ip hc5 h
        refine lv_iconst (v := 0) hx hb dX0_fits_78 (by decide) ?_
        cases h
        exact z_retz C hr hlk rfl hP hS dX0_fits_79
      · have h := z_in hc5 h
        refine lv_iload_n hx hb dX0_fits_68 rfl (lv_at hl 0 rfl) ?_
        refine lv_bipush (v := 51) hx hb dX0_fits_69 (by decide) ?_
        refine lv_icmp_gt (tgt := 78) hx hb dX0_fits_71 (by decide) (fun hc6 => ?_) (fun hc6 => ?_)
        · have h := z_ip hc6 h
          refine lv_iconst (v := 0) hx hb dX0_fits_78 (by decide) ?_
          cases h
          exact z_retz C hr hlk rfl hP hS dX0_fits_79
        · have h := z_in hc6 h
          refine lv_iconst (v := 1) hx hb dX0_fits_74 (by decide) ?_
          refine lv_goto (tgt := 79) hx hb dX0_fits_75 (by decide) ?_
          cases h
          exact z_retz C hr hlk rfl hP hS dX0_fits_79
    · have h := z_in hc4 h
      by_cases hc7 : x1 = 78
      · have h := z_ip hc7 h
        refine lv_lookup (tgt := 80) (off := 79) hx hb dX0_fits_1 (by decide +kernel) (by rw [hc7]; rfl) (by decide) ?_
        refine lv_iload_n hx hb dX0_fits_80 rfl (lv_at hl 0 rfl) ?_
        refine lv_bipush (v := 49) hx hb dX0_fits_81 (by decide) ?_
        refine lv_icmp_lt (tgt := 96) hx hb dX0_fits_83 (by decide) (fun hc8 => ?_) (fun hc8 => ?_)
        · have h := z_ip hc8 h
          refine lv_iconst (v := 0) hx hb dX0_fits_96 (by decide) ?_
          cases h
          exact z_retz C hr hlk rfl hP hS dX0_fits_97
        · have h := z_in hc8 h
          refine lv_iload_n hx hb dX0_fits_86 rfl (lv_at hl 0 rfl) ?_
          refine lv_bipush (v := 57) hx hb dX0_fits_87 (by decide) ?_
          refine lv_icmp_gt (tgt := 96) hx hb dX0_fits_89 (by decide) (fun hc9 => ?_) (fun hc9 => ?_)
          · have h := z_ip hc9 h
            refine lv_iconst (v := 0) hx hb dX0_fits_96 (by decide) ?_
            cases h
            exact z_retz C hr hlk rfl hP hS dX0_fits_97
          · have h := z_in hc9 h
            refine lv_iconst (v := 1) hx hb dX0_fits_92 (by decide) ?_
            refine lv_goto (tgt := 97) hx hb dX0_fits_93 (by decide) ?_
            cases h
            exact z_retz C hr hlk rfl hP hS dX0_fits_97
      · have h := z_in hc7 h
        by_cases hc10 : x1 = 86
        · have h := z_ip hc10 h
          refine lv_lookup (tgt := 98) (off := 97) hx hb dX0_fits_1 (by decide +kernel) (by rw [hc10]; rfl) (by decide) ?_
          refine lv_iload_n hx hb dX0_fits_98 rfl (lv_at hl 0 rfl) ?_
          refine lv_bipush (v := 49) hx hb dX0_fits_99 (by decide) ?_
          refine lv_icmp_lt (tgt := 114) hx hb dX0_fits_101 (by decide) (fun hc11 => ?_) (fun hc11 => ?_)
          · have h := z_ip hc11 h
            refine lv_iconst (v := 0) hx hb dX0_fits_114 (by decide) ?_
            cases h
            exact z_retz C hr hlk rfl hP hS dX0_fits_115
          · have h := z_in hc11 h
            refine lv_iload_n hx hb dX0_fits_104 rfl (lv_at hl 0 rfl) ?_
            refine lv_bipush (v := 51) hx hb dX0_fits_105 (by decide) ?_
            refine lv_icmp_gt (tgt := 114) hx hb dX0_fits_107 (by decide) (fun hc12 => ?_) (fun hc12 => ?_)
            · have h := z_ip hc12 h
              refine lv_iconst (v := 0) hx hb dX0_fits_114 (by decide) ?_
              cases h
              exact z_retz C hr hlk rfl hP hS dX0_fits_115
            · have h := z_in hc12 h
              refine lv_iconst (v := 1) hx hb dX0_fits_110 (by decide) ?_
              refine lv_goto (tgt := 115) hx hb dX0_fits_111 (by decide) ?_
              cases h
              exact z_retz C hr hlk rfl hP hS dX0_fits_115
        · have h := z_in hc10 h
          refine lv_lookup (tgt := 116) (off := 115) hx hb dX0_fits_1 (by decide +kernel) ((lv_osw hc1 (by decide)).trans ((lv_osw hc4 (by decide)).trans ((lv_osw hc7 (by decide)).trans ((lv_osw hc10 (by decide)).trans rfl)))) (by decide) ?_
          refine lv_iload_n hx hb dX0_fits_116 rfl (lv_at hl 0 rfl) ?_
          refine lv_iload_n hx hb dX0_fits_117 rfl (lv_at hl 1 rfl) ?_
          refine lv_icmp_ne (tgt := 125) hx hb dX0_fits_118 (by decide) (fun hc13 => ?_) (fun hc13 => ?_)
          · have h := z_in hc13 h
            refine lv_iconst (v := 0) hx hb dX0_fits_125 (by decide) ?_
            cases h
            exact z_retz C hr hlk rfl hP hS dX0_fits_126
          · have h := z_ip hc13 h
            refine lv_iconst (v := 1) hx hb dX0_fits_121 (by decide) ?_
            refine lv_goto (tgt := 126) hx hb dX0_fits_122 (by decide) ?_
            cases h
            exact z_retz C hr hlk rfl hP hS dX0_fits_126
abbrev rm_X0_rightCharacters : Room := { frames := 4, cells := 0, slots := 0, locals := 85 }
theorem hd_X0_rightCharacters : yX0_rightCharacters.cls ≠ "java/lang/invoke/MethodHandle" ∧ yX0_rightCharacters.cls ≠ "java/lang/invoke/VarHandle" ∧ (parseMethodDescriptor yX0_rightCharacters.desc).map (fun d => d.parameters.length) = some 1 := by decide +kernel
theorem hv_X0_rightCharacters : yX0_rightCharacters.cls = RX0 ∧ yX0_rightCharacters.cls ≠ "java/lang/invoke/MethodHandle" ∧ yX0_rightCharacters.cls ≠ "java/lang/invoke/VarHandle" ∧ (parseMethodDescriptor yX0_rightCharacters.desc).map (fun d => d.parameters.length) = some 1 := ⟨rfl, hd_X0_rightCharacters⟩
set_option maxHeartbeats 4000000 in
set_option maxRecDepth 100000 in
theorem L_X0_rightCharacters_b11 {p : Program} {l : Launch} {e : Env} {s : State} {m : MethodId} {args : Array Value} {below : List Frame} {meth : Method} {c : Code} {G : zG} {r : Int32} {mu1 : Mm}  (C : CallFix p m c cX0_rightCharacters 4 s args wsX0_rightCharacters RX0) (hr : meth.sig.returnType = (some .int)) (hlk : meth.locks = false) (Z : z_Z G (z_A G s.heap.size) s)  :
    ∀ (n : Nat) (x1 : Int32) (x2 : Nat) (x3 : Int32) (μ : Mm), f_X0_rightCharacters_b11  n x1 x2 x3 μ = some (r, mu1) → ∀ (H : Heap) (locs : List Loc), z_P G μ H → va_S (z_A G s.heap.size) s.heap H locs → ∀ ls : Array Slot, lv_has ls 4 [(0, .ref (G.2.1 (94))), (1, .int (x1)), (2, .ref (G.2.2.2.1 (x2))), (3, .int (x3))] → W p l e rm_X0_rightCharacters s m args below meth c H locs 0 0 (MQ below (z_Qi G r mu1 s.heap.size) args s 0 0 (z_A G s.heap.size)) (F0 m 11 ls []) := by
  have hx := C.1
  have hb := C.2.1
  have hts := C.2.2.2.2
  intro n
  induction n with
  | zero =>
    intro x1 x2 x3 μ h
    rw [f_X0_rightCharacters_b11] at h
    cases h
  | succ n ih =>
    intro x1 x2 x3 μ h H locs hP hS ls hl
    rw [f_X0_rightCharacters_b11] at h
    refine lv_iload_n hx hb dX0_rightCharacters_11 rfl (lv_at hl 3 rfl) ?_
    refine lv_aload_n hx hb dX0_rightCharacters_12 rfl (lv_at hl 2 rfl) ?_
    obtain ⟨r7, m8, e9, h⟩ := zb_some h
    obtain ⟨hg10, h⟩ := z_g h
    refine z_calli hS (va_runV (As := []) (rest := [.int (x3)]) C (c_J0_length_8abf5 l G e9 _) (cwV 0 hts gX0_rightCharacters_J0_length_8abf5 rfl rfl rfl hv_J0_length_8abf5 ⟨Nat.le_of_ble_eq_true rfl, Nat.le_of_ble_eq_true rfl⟩) (z_preStr Z hS hP hg10) rfl rfl hl.1 rfl (lv_room (Nat.le_of_ble_eq_true rfl)) dX0_rightCharacters_13 ⟨Nat.zero_le _, Nat.zero_le _⟩) (fun H locs hP hS => ?_)
    refine lv_icmp_ge (tgt := 43) hx hb dX0_rightCharacters_16 (by decide) (fun hc11 => ?_) (fun hc11 => ?_)
    · have h := z_ip hc11 h
      refine lv_iload_n hx hb dX0_rightCharacters_43 rfl (lv_at hl 3 rfl) ?_
      cases h
      exact z_reti C hr hlk hP hS dX0_rightCharacters_44
    · have h := z_in hc11 h
      refine lv_aload_n hx hb dX0_rightCharacters_19 rfl (lv_at hl 0 rfl) ?_
      refine lv_iload_n hx hb dX0_rightCharacters_20 rfl (lv_at hl 1 rfl) ?_
      refine lv_iload_n hx hb dX0_rightCharacters_21 rfl (lv_at hl 3 rfl) ?_
      refine lv_iadd hx hb dX0_rightCharacters_22 ?_
      obtain ⟨r12, m13, e14, h⟩ := zb_some h
      refine z_calli hS (va_runV (As := [.int ((x1 + x3))]) (rest := []) C (c_X0_codeAt l G e14 _) (cwV 1 hts gX0_rightCharacters_X0_codeAt rfl rfl rfl hv_X0_codeAt ⟨Nat.le_of_ble_eq_true rfl, Nat.le_of_ble_eq_true rfl⟩) (z_preV Z hS hP (by decide) (z_E_94 _) rfl rfl) rfl rfl hl.1 rfl (lv_room (Nat.le_of_ble_eq_true rfl)) dX0_rightCharacters_23 ⟨Nat.zero_le _, Nat.zero_le _⟩) (fun H locs hP hS => ?_)
      refine lv_aload_n hx hb dX0_rightCharacters_26 rfl (lv_at hl 2 rfl) ?_
      refine lv_iload_n hx hb dX0_rightCharacters_27 rfl (lv_at hl 3 rfl) ?_
      obtain ⟨r15, m16, e17, h⟩ := zb_some h
      refine z_calli hS (va_runV (As := [.int (x3)]) (rest := [.int (r12)]) C (c_J0_charAt_5068e l G e17 _) (cwV 1 hts gX0_rightCharacters_J0_charAt_5068e rfl rfl rfl hv_J0_charAt_5068e ⟨Nat.le_of_ble_eq_true rfl, Nat.le_of_ble_eq_true rfl⟩) (z_preStr Z hS hP hg10) rfl rfl hl.1 rfl (lv_room (Nat.le_of_ble_eq_true rfl)) dX0_rightCharacters_28 ⟨Nat.zero_le _, Nat.zero_le _⟩) (fun H locs hP hS => ?_)
      obtain ⟨r18, m19, e20, h⟩ := zb_some h
      refine z_calli hS (va_runS (As := [.int (r12), .int (r15)]) (rest := []) C (c_X0_fits l G e20 _) (va_cwS 2 hts gX0_rightCharacters_X0_fits rfl rfl rfl hd_X0_fits ⟨Nat.le_of_ble_eq_true rfl, Nat.le_of_ble_eq_true rfl⟩) (z_preS Z hS hP) rfl rfl hl.1 rfl (lv_room (Nat.le_of_ble_eq_true rfl)) dX0_rightCharacters_31 ⟨Nat.zero_le _, Nat.zero_le _⟩) (fun H locs hP hS => ?_)
      refine lv_if_eq (tgt := 43) hx hb dX0_rightCharacters_34 (by decide) (fun hc21 => ?_) (fun hc21 => ?_)
      · have h := z_ip hc21 h
        refine lv_iload_n hx hb dX0_rightCharacters_43 rfl (lv_at hl 3 rfl) ?_
        cases h
        exact z_reti C hr hlk hP hS dX0_rightCharacters_44
      · have h := z_in hc21 h
        refine lv_iinc (v := (x3 + 1)) (lv' := [(3, .int ((x3 + 1))), (0, .ref (G.2.1 (94))), (1, .int (x1)), (2, .ref (G.2.2.2.1 (x2)))]) hx hb dX0_rightCharacters_37 hl (k := 3) rfl rfl (by decide) rfl (fun ls hl => ?_)
        refine lv_goto (tgt := 11) hx hb dX0_rightCharacters_40 (by decide) ?_
        exact ih _ _ _ _ h _ _ hP hS ls (lv_sub hl [1, 2, 3, 0] rfl)
set_option maxHeartbeats 4000000 in
set_option maxRecDepth 100000 in
theorem c_X0_rightCharacters (l : Launch) (G : zG) {x1 : Int32} {μ mu1 : Mm} {r : Int32} (h : f_X0_rightCharacters x1 μ = some (r, mu1)) (sz : Nat) : Met l yX0_rightCharacters wsX0_rightCharacters rm_X0_rightCharacters (z_Pre G μ [.ref (G.2.1 (94)), .int (x1)] sz) (z_Qi G r mu1 sz) 0 0 (z_A G sz) := by
  refine z_start (cc := cX0_rightCharacters) (maxL := 4) (ret := (some .int)) (own := RX0) (by decide) rfl rfl (Nat.le_of_ble_eq_true rfl) (fun p e s m args below meth c C hr hlk Z hP ls hl => ?_) sz
  have hx := C.1
  have hb := C.2.1
  have hts := C.2.2.2.2
  have hS : va_S (z_A G s.heap.size) s.heap s.heap [] := va_S.rf
  have hl : lv_has ls 4 [(0, .ref (G.2.1 (94))), (1, .int (x1))] := hl
  unfold f_X0_rightCharacters at h
  refine lv_aload_n hx hb dX0_rightCharacters_0 rfl (lv_at hl 0 rfl) ?_
  refine lv_iload_n hx hb dX0_rightCharacters_1 rfl (lv_at hl 1 rfl) ?_
  obtain ⟨r1, m2, e3, h⟩ := zb_some h
  refine z_calli hS (va_runV (As := [.int (x1)]) (rest := []) C (c_X0_codeAt l G e3 _) (cwV 1 hts gX0_rightCharacters_X0_codeAt rfl rfl rfl hv_X0_codeAt ⟨Nat.le_of_ble_eq_true rfl, Nat.le_of_ble_eq_true rfl⟩) (z_preV Z hS hP (by decide) (z_E_94 _) rfl rfl) rfl rfl hl.1 rfl (lv_room (Nat.le_of_ble_eq_true rfl)) dX0_rightCharacters_2 ⟨Nat.zero_le _, Nat.zero_le _⟩) (fun H locs hP hS => ?_)
  obtain ⟨r4, m5, e6, h⟩ := zb_some h
  refine z_callr hS (va_runS (As := [.int (r1)]) (rest := []) C (c_X0_formOf l G e6 _) (va_cwS 1 hts gX0_rightCharacters_X0_formOf rfl rfl rfl hd_X0_formOf ⟨Nat.le_of_ble_eq_true rfl, Nat.le_of_ble_eq_true rfl⟩) (z_preS Z hS hP) rfl rfl hl.1 rfl (lv_room (Nat.le_of_ble_eq_true rfl)) dX0_rightCharacters_5 ⟨Nat.zero_le _, Nat.zero_le _⟩) (fun H locs hP hS => ?_)
  refine lv_astore_n (lv' := [(2, .ref (G.2.2.2.1 (r4))), (0, .ref (G.2.1 (94))), (1, .int (x1))]) hx hb dX0_rightCharacters_8 rfl hl (by decide) rfl (fun ls hl => ?_)
  refine lv_iconst (v := 0) hx hb dX0_rightCharacters_9 (by decide) ?_
  refine lv_istore_n (lv' := [(3, .int (0)), (2, .ref (G.2.2.2.1 (r4))), (0, .ref (G.2.1 (94))), (1, .int (x1))]) hx hb dX0_rightCharacters_10 rfl hl (by decide) rfl (fun ls hl => ?_)
  exact L_X0_rightCharacters_b11 C hr hlk Z z_F _ _ _ _ h _ _ hP hS ls (lv_sub hl [2, 3, 1, 0] rfl)
abbrev rm_X0_formLengthAt : Room := { frames := 2, cells := 0, slots := 0, locals := 40 }
theorem hd_X0_formLengthAt : yX0_formLengthAt.cls ≠ "java/lang/invoke/MethodHandle" ∧ yX0_formLengthAt.cls ≠ "java/lang/invoke/VarHandle" ∧ (parseMethodDescriptor yX0_formLengthAt.desc).map (fun d => d.parameters.length) = some 1 := by decide +kernel
theorem hv_X0_formLengthAt : yX0_formLengthAt.cls = RX0 ∧ yX0_formLengthAt.cls ≠ "java/lang/invoke/MethodHandle" ∧ yX0_formLengthAt.cls ≠ "java/lang/invoke/VarHandle" ∧ (parseMethodDescriptor yX0_formLengthAt.desc).map (fun d => d.parameters.length) = some 1 := ⟨rfl, hd_X0_formLengthAt⟩
set_option maxHeartbeats 4000000 in
set_option maxRecDepth 100000 in
theorem c_X0_formLengthAt (l : Launch) (G : zG) {x1 : Int32} {μ mu1 : Mm} {r : Int32} (h : f_X0_formLengthAt x1 μ = some (r, mu1)) (sz : Nat) : Met l yX0_formLengthAt wsX0_formLengthAt rm_X0_formLengthAt (z_Pre G μ [.ref (G.2.1 (94)), .int (x1)] sz) (z_Qi G r mu1 sz) 0 0 (z_A G sz) := by
  refine z_start (cc := cX0_formLengthAt) (maxL := 2) (ret := (some .int)) (own := RX0) (by decide) rfl rfl (Nat.le_of_ble_eq_true rfl) (fun p e s m args below meth c C hr hlk Z hP ls hl => ?_) sz
  have hx := C.1
  have hb := C.2.1
  have hts := C.2.2.2.2
  have hS : va_S (z_A G s.heap.size) s.heap s.heap [] := va_S.rf
  have hl : lv_has ls 2 [(0, .ref (G.2.1 (94))), (1, .int (x1))] := hl
  unfold f_X0_formLengthAt at h
  refine lv_aload_n hx hb dX0_formLengthAt_0 rfl (lv_at hl 0 rfl) ?_
  refine lv_iload_n hx hb dX0_formLengthAt_1 rfl (lv_at hl 1 rfl) ?_
  obtain ⟨r1, m2, e3, h⟩ := zb_some h
  refine z_calli hS (va_runV (As := [.int (x1)]) (rest := []) C (c_X0_codeAt l G e3 _) (cwV 1 hts gX0_formLengthAt_X0_codeAt rfl rfl rfl hv_X0_codeAt ⟨Nat.le_of_ble_eq_true rfl, Nat.le_of_ble_eq_true rfl⟩) (z_preV Z hS hP (by decide) (z_E_94 _) rfl rfl) rfl rfl hl.1 rfl (lv_room (Nat.le_of_ble_eq_true rfl)) dX0_formLengthAt_2 ⟨Nat.zero_le _, Nat.zero_le _⟩) (fun H locs hP hS => ?_)
  obtain ⟨r4, m5, e6, h⟩ := zb_some h
  refine z_callr hS (va_runS (As := [.int (r1)]) (rest := []) C (c_X0_formOf l G e6 _) (va_cwS 1 hts gX0_formLengthAt_X0_formOf rfl rfl rfl hd_X0_formOf ⟨Nat.le_of_ble_eq_true rfl, Nat.le_of_ble_eq_true rfl⟩) (z_preS Z hS hP) rfl rfl hl.1 rfl (lv_room (Nat.le_of_ble_eq_true rfl)) dX0_formLengthAt_5 ⟨Nat.zero_le _, Nat.zero_le _⟩) (fun H locs hP hS => ?_)
  obtain ⟨r7, m8, e9, h⟩ := zb_some h
  obtain ⟨hg10, h⟩ := z_g h
  refine z_calli hS (va_runV (As := []) (rest := []) C (c_J0_length_8abf5 l G e9 _) (cwV 0 hts gX0_formLengthAt_J0_length_8abf5 rfl rfl rfl hv_J0_length_8abf5 ⟨Nat.le_of_ble_eq_true rfl, Nat.le_of_ble_eq_true rfl⟩) (z_preStr Z hS hP hg10) rfl rfl hl.1 rfl (lv_room (Nat.le_of_ble_eq_true rfl)) dX0_formLengthAt_8 ⟨Nat.zero_le _, Nat.zero_le _⟩) (fun H locs hP hS => ?_)
  cases h
  exact z_reti C hr hlk hP hS dX0_formLengthAt_11
abbrev rm_X0_isWholeOrder : Room := { frames := 5, cells := 0, slots := 0, locals := 108 }
theorem hd_X0_isWholeOrder : yX0_isWholeOrder.cls ≠ "java/lang/invoke/MethodHandle" ∧ yX0_isWholeOrder.cls ≠ "java/lang/invoke/VarHandle" ∧ (parseMethodDescriptor yX0_isWholeOrder.desc).map (fun d => d.parameters.length) = some 1 := by decide +kernel
theorem hv_X0_isWholeOrder : yX0_isWholeOrder.cls = RX0 ∧ yX0_isWholeOrder.cls ≠ "java/lang/invoke/MethodHandle" ∧ yX0_isWholeOrder.cls ≠ "java/lang/invoke/VarHandle" ∧ (parseMethodDescriptor yX0_isWholeOrder.desc).map (fun d => d.parameters.length) = some 1 := ⟨rfl, hd_X0_isWholeOrder⟩
set_option maxHeartbeats 4000000 in
set_option maxRecDepth 100000 in
theorem c_X0_isWholeOrder (l : Launch) (G : zG) {x1 : Int32} {μ mu1 : Mm} {r : Int32} (h : f_X0_isWholeOrder x1 μ = some (r, mu1)) (sz : Nat) : Met l yX0_isWholeOrder wsX0_isWholeOrder rm_X0_isWholeOrder (z_Pre G μ [.ref (G.2.1 (94)), .int (x1)] sz) (z_Qi G r mu1 sz) 0 0 (z_A G sz) := by
  refine z_start (cc := cX0_isWholeOrder) (maxL := 3) (ret := (some .boolean)) (own := RX0) (by decide) rfl rfl (Nat.le_of_ble_eq_true rfl) (fun p e s m args below meth c C hr hlk Z hP ls hl => ?_) sz
  have hx := C.1
  have hb := C.2.1
  have hts := C.2.2.2.2
  have hS : va_S (z_A G s.heap.size) s.heap s.heap [] := va_S.rf
  have hl : lv_has ls 3 [(0, .ref (G.2.1 (94))), (1, .int (x1))] := hl
  unfold f_X0_isWholeOrder at h
  refine lv_aload_n hx hb dX0_isWholeOrder_0 rfl (lv_at hl 0 rfl) ?_
  refine lv_iload_n hx hb dX0_isWholeOrder_1 rfl (lv_at hl 1 rfl) ?_
  obtain ⟨r1, m2, e3, h⟩ := zb_some h
  refine z_calli hS (va_runV (As := [.int (x1)]) (rest := []) C (c_X0_formLengthAt l G e3 _) (cwV 1 hts gX0_isWholeOrder_X0_formLengthAt rfl rfl rfl hv_X0_formLengthAt ⟨Nat.le_of_ble_eq_true rfl, Nat.le_of_ble_eq_true rfl⟩) (z_preV Z hS hP (by decide) (z_E_94 _) rfl rfl) rfl rfl hl.1 rfl (lv_room (Nat.le_of_ble_eq_true rfl)) dX0_isWholeOrder_2 ⟨Nat.zero_le _, Nat.zero_le _⟩) (fun H locs hP hS => ?_)
  refine lv_istore_n (lv' := [(2, .int (r1)), (0, .ref (G.2.1 (94))), (1, .int (x1))]) hx hb dX0_isWholeOrder_5 rfl hl (by decide) rfl (fun ls hl => ?_)
  refine lv_iload_n hx hb dX0_isWholeOrder_6 rfl (lv_at hl 0 rfl) ?_
  refine lv_if_le (tgt := 23) hx hb dX0_isWholeOrder_7 (by decide) (fun hc4 => ?_) (fun hc4 => ?_)
  · have h := z_ip hc4 h
    refine lv_iconst (v := 0) hx hb dX0_isWholeOrder_23 (by decide) ?_
    cases h
    exact z_retz C hr hlk rfl hP hS dX0_isWholeOrder_24
  · have h := z_in hc4 h
    refine lv_aload_n hx hb dX0_isWholeOrder_10 rfl (lv_at hl 1 rfl) ?_
    refine lv_iload_n hx hb dX0_isWholeOrder_11 rfl (lv_at hl 2 rfl) ?_
    obtain ⟨r5, m6, e7, h⟩ := zb_some h
    refine z_calli hS (va_runV (As := [.int (x1)]) (rest := []) C (c_X0_rightCharacters l G e7 _) (cwV 1 hts gX0_isWholeOrder_X0_rightCharacters rfl rfl rfl hv_X0_rightCharacters ⟨Nat.le_of_ble_eq_true rfl, Nat.le_of_ble_eq_true rfl⟩) (z_preV Z hS hP (by decide) (z_E_94 _) rfl rfl) rfl rfl hl.1 rfl (lv_room (Nat.le_of_ble_eq_true rfl)) dX0_isWholeOrder_12 ⟨Nat.zero_le _, Nat.zero_le _⟩) (fun H locs hP hS => ?_)
    refine lv_iload_n hx hb dX0_isWholeOrder_15 rfl (lv_at hl 0 rfl) ?_
    refine lv_icmp_ne (tgt := 23) hx hb dX0_isWholeOrder_16 (by decide) (fun hc8 => ?_) (fun hc8 => ?_)
    · have h := z_in hc8 h
      refine lv_iconst (v := 0) hx hb dX0_isWholeOrder_23 (by decide) ?_
      cases h
      exact z_retz C hr hlk rfl hP hS dX0_isWholeOrder_24
    · have h := z_ip hc8 h
      refine lv_iconst (v := 1) hx hb dX0_isWholeOrder_19 (by decide) ?_
      refine lv_goto (tgt := 24) hx hb dX0_isWholeOrder_20 (by decide) ?_
      cases h
      exact z_retz C hr hlk rfl hP hS dX0_isWholeOrder_24
abbrev rm_X0_firstWrong : Room := { frames := 6, cells := 0, slots := 0, locals := 130 }
theorem hd_X0_firstWrong : yX0_firstWrong.cls ≠ "java/lang/invoke/MethodHandle" ∧ yX0_firstWrong.cls ≠ "java/lang/invoke/VarHandle" ∧ (parseMethodDescriptor yX0_firstWrong.desc).map (fun d => d.parameters.length) = some 0 := by decide +kernel
theorem hv_X0_firstWrong : yX0_firstWrong.cls = RX0 ∧ yX0_firstWrong.cls ≠ "java/lang/invoke/MethodHandle" ∧ yX0_firstWrong.cls ≠ "java/lang/invoke/VarHandle" ∧ (parseMethodDescriptor yX0_firstWrong.desc).map (fun d => d.parameters.length) = some 0 := ⟨rfl, hd_X0_firstWrong⟩
theorem wX0_firstWrong_0 : Cond.fieldLink RX0 15 "WaxCopies$Orders" "length" "I" ∈ wsX0_firstWrong := by decide +kernel
theorem inX0_firstWrong_X0 : ∀ w ∈ wsX00, w ∈ wsX0_firstWrong := by decide +kernel
set_option maxHeartbeats 4000000 in
set_option maxRecDepth 100000 in
theorem L_X0_firstWrong_b46 {p : Program} {l : Launch} {e : Env} {s : State} {m : MethodId} {args : Array Value} {below : List Frame} {meth : Method} {c : Code} {G : zG} {r : Int32} {mu1 : Mm} {ag2 : Int32 → Mm → Option (Int32 × Mm)} (C : CallFix p m c cX0_firstWrong 3 s args wsX0_firstWrong RX0) (hr : meth.sig.returnType = (some .int)) (hlk : meth.locks = false) (Z : z_Z G (z_A G s.heap.size) s) (hag2 : ∀ (x1 : Int32) (μ : Mm), ag2 x1 μ = some (r, mu1) → ∀ (H : Heap) (locs : List Loc), z_P G μ H → va_S (z_A G s.heap.size) s.heap H locs → ∀ ls : Array Slot, lv_has ls 3 [(0, .ref (G.2.1 (94))), (1, .int (x1))] → W p l e rm_X0_firstWrong s m args below meth c H locs 0 0 (MQ below (z_Qi G r mu1 s.heap.size) args s 0 0 (z_A G s.heap.size)) (F0 m 2 ls [])) :
    ∀ (x1 : Int32) (μ : Mm), f_X0_firstWrong_b46 ag2 x1 μ = some (r, mu1) → ∀ (H : Heap) (locs : List Loc), z_P G μ H → va_S (z_A G s.heap.size) s.heap H locs → ∀ ls : Array Slot, lv_has ls 3 [(0, .ref (G.2.1 (94))), (1, .int (x1))] → W p l e rm_X0_firstWrong s m args below meth c H locs 0 0 (MQ below (z_Qi G r mu1 s.heap.size) args s 0 0 (z_A G s.heap.size)) (F0 m 46 ls []) := by
  have hx := C.1
  have hb := C.2.1
  have hts := C.2.2.2.2
  intro x1 μ h H locs hP hS ls hl
  unfold f_X0_firstWrong_b46 at h
  refine lv_iload_n hx hb dX0_firstWrong_46 rfl (lv_at hl 1 rfl) ?_
  refine lv_aload_n hx hb dX0_firstWrong_47 rfl (lv_at hl 0 rfl) ?_
  refine lv_iload_n hx hb dX0_firstWrong_48 rfl (lv_at hl 1 rfl) ?_
  obtain ⟨r10, m11, e12, h⟩ := zb_some h
  refine z_calli hS (va_runV (As := [.int (x1)]) (rest := [.int (x1)]) C (c_X0_formLengthAt l G e12 _) (cwV 1 hts gX0_firstWrong_X0_formLengthAt rfl rfl rfl hv_X0_formLengthAt ⟨Nat.le_of_ble_eq_true rfl, Nat.le_of_ble_eq_true rfl⟩) (z_preV Z hS hP (by decide) (z_E_94 _) rfl rfl) rfl rfl hl.1 rfl (lv_room (Nat.le_of_ble_eq_true rfl)) dX0_firstWrong_49 ⟨Nat.zero_le _, Nat.zero_le _⟩) (fun H locs hP hS => ?_)
  refine lv_iconst (v := 1) hx hb dX0_firstWrong_52 (by decide) ?_
  refine lv_iadd hx hb dX0_firstWrong_53 ?_
  refine lv_iadd hx hb dX0_firstWrong_54 ?_
  refine lv_istore_n (lv' := [(1, .int ((x1 + (r10 + 1)))), (0, .ref (G.2.1 (94)))]) hx hb dX0_firstWrong_55 rfl hl (by decide) rfl (fun ls hl => ?_)
  refine lv_goto (tgt := 2) hx hb dX0_firstWrong_56 (by decide) ?_
  exact hag2 _ _ h _ _ hP hS ls (lv_sub hl [1, 0] rfl)
set_option maxHeartbeats 4000000 in
set_option maxRecDepth 100000 in
theorem L_X0_firstWrong_b2 {p : Program} {l : Launch} {e : Env} {s : State} {m : MethodId} {args : Array Value} {below : List Frame} {meth : Method} {c : Code} {G : zG} {r : Int32} {mu1 : Mm}  (C : CallFix p m c cX0_firstWrong 3 s args wsX0_firstWrong RX0) (hr : meth.sig.returnType = (some .int)) (hlk : meth.locks = false) (Z : z_Z G (z_A G s.heap.size) s)  :
    ∀ (n : Nat) (x1 : Int32) (μ : Mm), f_X0_firstWrong_b2  n x1 μ = some (r, mu1) → ∀ (H : Heap) (locs : List Loc), z_P G μ H → va_S (z_A G s.heap.size) s.heap H locs → ∀ ls : Array Slot, lv_has ls 3 [(0, .ref (G.2.1 (94))), (1, .int (x1))] → W p l e rm_X0_firstWrong s m args below meth c H locs 0 0 (MQ below (z_Qi G r mu1 s.heap.size) args s 0 0 (z_A G s.heap.size)) (F0 m 2 ls []) := by
  have hx := C.1
  have hb := C.2.1
  have hts := C.2.2.2.2
  intro n
  induction n with
  | zero =>
    intro x1 μ h
    rw [f_X0_firstWrong_b2] at h
    cases h
  | succ n ih =>
    intro x1 μ h H locs hP hS ls hl
    rw [f_X0_firstWrong_b2] at h
    refine lv_iload_n hx hb dX0_firstWrong_2 rfl (lv_at hl 1 rfl) ?_
    refine lv_aload_n hx hb dX0_firstWrong_3 rfl (lv_at hl 0 rfl) ?_
    refine z_get C Z hP (k := 94) (ci := 0) (j := 1) (N := 2) (v := .int ((μ 94 1))) (by decide) (z_E_94 _) rfl inX0_firstWrong_X0 (by decide) wX0_firstWrong_0 rfl dX0_firstWrong_4 ?_
    refine lv_icmp_ge (tgt := 59) hx hb dX0_firstWrong_7 (by decide) (fun hc1 => ?_) (fun hc1 => ?_)
    · have h := z_ip hc1 h
      refine lv_aload_n hx hb dX0_firstWrong_59 rfl (lv_at hl 0 rfl) ?_
      refine z_get C Z hP (k := 94) (ci := 0) (j := 1) (N := 2) (v := .int ((μ 94 1))) (by decide) (z_E_94 _) rfl inX0_firstWrong_X0 (by decide) wX0_firstWrong_0 rfl dX0_firstWrong_60 ?_
      cases h
      exact z_reti C hr hlk hP hS dX0_firstWrong_63
    · have h := z_in hc1 h
      refine lv_iload_n hx hb dX0_firstWrong_10 rfl (lv_at hl 1 rfl) ?_
      refine lv_aload_n hx hb dX0_firstWrong_11 rfl (lv_at hl 0 rfl) ?_
      refine lv_iload_n hx hb dX0_firstWrong_12 rfl (lv_at hl 1 rfl) ?_
      obtain ⟨r2, m3, e4, h⟩ := zb_some h
      refine z_calli hS (va_runV (As := [.int (x1)]) (rest := [.int (x1)]) C (c_X0_rightCharacters l G e4 _) (cwV 1 hts gX0_firstWrong_X0_rightCharacters rfl rfl rfl hv_X0_rightCharacters ⟨Nat.le_of_ble_eq_true rfl, Nat.le_of_ble_eq_true rfl⟩) (z_preV Z hS hP (by decide) (z_E_94 _) rfl rfl) rfl rfl hl.1 rfl (lv_room (Nat.le_of_ble_eq_true rfl)) dX0_firstWrong_13 ⟨Nat.zero_le _, Nat.zero_le _⟩) (fun H locs hP hS => ?_)
      refine lv_iadd hx hb dX0_firstWrong_16 ?_
      refine lv_istore_n (lv' := [(2, .int ((x1 + r2))), (0, .ref (G.2.1 (94))), (1, .int (x1))]) hx hb dX0_firstWrong_17 rfl hl (by decide) rfl (fun ls hl => ?_)
      refine lv_aload_n hx hb dX0_firstWrong_18 rfl (lv_at hl 1 rfl) ?_
      refine lv_iload_n hx hb dX0_firstWrong_19 rfl (lv_at hl 2 rfl) ?_
      obtain ⟨r5, m6, e7, h⟩ := zb_some h
      refine z_calli hS (va_runV (As := [.int (x1)]) (rest := []) C (c_X0_isWholeOrder l G e7 _) (cwV 1 hts gX0_firstWrong_X0_isWholeOrder rfl rfl rfl hv_X0_isWholeOrder ⟨Nat.le_of_ble_eq_true rfl, Nat.le_of_ble_eq_true rfl⟩) (z_preV Z hS hP (by decide) (z_E_94 _) rfl rfl) rfl rfl hl.1 rfl (lv_room (Nat.le_of_ble_eq_true rfl)) dX0_firstWrong_20 ⟨Nat.zero_le _, Nat.zero_le _⟩) (fun H locs hP hS => ?_)
      refine lv_if_eq (tgt := 44) hx hb dX0_firstWrong_23 (by decide) (fun hc8 => ?_) (fun hc8 => ?_)
      · have h := z_ip hc8 h
        refine lv_iload_n hx hb dX0_firstWrong_44 rfl (lv_at hl 0 rfl) ?_
        cases h
        exact z_reti C hr hlk hP hS dX0_firstWrong_45
      · have h := z_in hc8 h
        refine lv_iload_n hx hb dX0_firstWrong_26 rfl (lv_at hl 0 rfl) ?_
        refine lv_aload_n hx hb dX0_firstWrong_27 rfl (lv_at hl 1 rfl) ?_
        refine z_get C Z hP (k := 94) (ci := 0) (j := 1) (N := 2) (v := .int ((m6 94 1))) (by decide) (z_E_94 _) rfl inX0_firstWrong_X0 (by decide) wX0_firstWrong_0 rfl dX0_firstWrong_28 ?_
        refine lv_icmp_ge (tgt := 46) hx hb dX0_firstWrong_31 (by decide) (fun hc9 => ?_) (fun hc9 => ?_)
        · have h := z_ip hc9 h
          exact L_X0_firstWrong_b46 C hr hlk Z ih _ _ h _ _ hP hS ls (lv_sub hl [1, 2] rfl)
        · have h := z_in hc9 h
          refine lv_aload_n hx hb dX0_firstWrong_34 rfl (lv_at hl 1 rfl) ?_
          refine lv_iload_n hx hb dX0_firstWrong_35 rfl (lv_at hl 0 rfl) ?_
          obtain ⟨r13, m14, e15, h⟩ := zb_some h
          refine z_calli hS (va_runV (As := [.int ((x1 + r2))]) (rest := []) C (c_X0_codeAt l G e15 _) (cwV 1 hts gX0_firstWrong_X0_codeAt rfl rfl rfl hv_X0_codeAt ⟨Nat.le_of_ble_eq_true rfl, Nat.le_of_ble_eq_true rfl⟩) (z_preV Z hS hP (by decide) (z_E_94 _) rfl rfl) rfl rfl hl.1 rfl (lv_room (Nat.le_of_ble_eq_true rfl)) dX0_firstWrong_36 ⟨Nat.zero_le _, Nat.zero_le _⟩) (fun H locs hP hS => ?_)
          refine lv_bipush (v := 59) hx hb dX0_firstWrong_39 (by decide) ?_
          refine lv_icmp_eq (tgt := 46) hx hb dX0_firstWrong_41 (by decide) (fun hc16 => ?_) (fun hc16 => ?_)
          · have h := z_ip hc16 h
            exact L_X0_firstWrong_b46 C hr hlk Z ih _ _ h _ _ hP hS ls (lv_sub hl [1, 2] rfl)
          · have h := z_in hc16 h
            refine lv_iload_n hx hb dX0_firstWrong_44 rfl (lv_at hl 0 rfl) ?_
            cases h
            exact z_reti C hr hlk hP hS dX0_firstWrong_45
set_option maxHeartbeats 4000000 in
set_option maxRecDepth 100000 in
theorem c_X0_firstWrong (l : Launch) (G : zG) {μ mu1 : Mm} {r : Int32} (h : f_X0_firstWrong μ = some (r, mu1)) (sz : Nat) : Met l yX0_firstWrong wsX0_firstWrong rm_X0_firstWrong (z_Pre G μ [.ref (G.2.1 (94))] sz) (z_Qi G r mu1 sz) 0 0 (z_A G sz) := by
  refine z_start (cc := cX0_firstWrong) (maxL := 3) (ret := (some .int)) (own := RX0) (by decide) rfl rfl (Nat.le_of_ble_eq_true rfl) (fun p e s m args below meth c C hr hlk Z hP ls hl => ?_) sz
  have hx := C.1
  have hb := C.2.1
  have hts := C.2.2.2.2
  have hS : va_S (z_A G s.heap.size) s.heap s.heap [] := va_S.rf
  have hl : lv_has ls 3 [(0, .ref (G.2.1 (94)))] := hl
  unfold f_X0_firstWrong at h
  refine lv_iconst (v := 0) hx hb dX0_firstWrong_0 (by decide) ?_
  refine lv_istore_n (lv' := [(1, .int (0)), (0, .ref (G.2.1 (94)))]) hx hb dX0_firstWrong_1 rfl hl (by decide) rfl (fun ls hl => ?_)
  exact L_X0_firstWrong_b2 C hr hlk Z z_F _ _ h _ _ hP hS ls (lv_sub hl [1, 0] rfl)
abbrev rm_X0_areWhole : Room := { frames := 6, cells := 0, slots := 0, locals := 130 }
theorem hd_X0_areWhole : yX0_areWhole.cls ≠ "java/lang/invoke/MethodHandle" ∧ yX0_areWhole.cls ≠ "java/lang/invoke/VarHandle" ∧ (parseMethodDescriptor yX0_areWhole.desc).map (fun d => d.parameters.length) = some 0 := by decide +kernel
theorem hv_X0_areWhole : yX0_areWhole.cls = RX0 ∧ yX0_areWhole.cls ≠ "java/lang/invoke/MethodHandle" ∧ yX0_areWhole.cls ≠ "java/lang/invoke/VarHandle" ∧ (parseMethodDescriptor yX0_areWhole.desc).map (fun d => d.parameters.length) = some 0 := ⟨rfl, hd_X0_areWhole⟩
theorem wX0_areWhole_0 : Cond.fieldLink RX0 15 "WaxCopies$Orders" "length" "I" ∈ wsX0_areWhole := by decide +kernel
theorem inX0_areWhole_X0 : ∀ w ∈ wsX00, w ∈ wsX0_areWhole := by decide +kernel
set_option maxHeartbeats 4000000 in
set_option maxRecDepth 100000 in
theorem L_X0_areWhole_b46 {p : Program} {l : Launch} {e : Env} {s : State} {m : MethodId} {args : Array Value} {below : List Frame} {meth : Method} {c : Code} {G : zG} {r : Int32} {mu1 : Mm} {ag2 : Int32 → Mm → Option (Int32 × Mm)} (C : CallFix p m c cX0_areWhole 3 s args wsX0_areWhole RX0) (hr : meth.sig.returnType = (some .boolean)) (hlk : meth.locks = false) (Z : z_Z G (z_A G s.heap.size) s) (hag2 : ∀ (x1 : Int32) (μ : Mm), ag2 x1 μ = some (r, mu1) → ∀ (H : Heap) (locs : List Loc), z_P G μ H → va_S (z_A G s.heap.size) s.heap H locs → ∀ ls : Array Slot, lv_has ls 3 [(0, .ref (G.2.1 (94))), (1, .int (x1))] → W p l e rm_X0_areWhole s m args below meth c H locs 0 0 (MQ below (z_Qi G r mu1 s.heap.size) args s 0 0 (z_A G s.heap.size)) (F0 m 2 ls [])) :
    ∀ (x1 : Int32) (x2 : Int32) (μ : Mm), f_X0_areWhole_b46 ag2 x1 x2 μ = some (r, mu1) → ∀ (H : Heap) (locs : List Loc), z_P G μ H → va_S (z_A G s.heap.size) s.heap H locs → ∀ ls : Array Slot, lv_has ls 3 [(0, .ref (G.2.1 (94))), (1, .int (x1)), (2, .int (x2))] → W p l e rm_X0_areWhole s m args below meth c H locs 0 0 (MQ below (z_Qi G r mu1 s.heap.size) args s 0 0 (z_A G s.heap.size)) (F0 m 46 ls []) := by
  have hx := C.1
  have hb := C.2.1
  have hts := C.2.2.2.2
  intro x1 x2 μ h H locs hP hS ls hl
  unfold f_X0_areWhole_b46 at h
  refine lv_iload_n hx hb dX0_areWhole_46 rfl (lv_at hl 2 rfl) ?_
  refine lv_aload_n hx hb dX0_areWhole_47 rfl (lv_at hl 0 rfl) ?_
  refine z_get C Z hP (k := 94) (ci := 0) (j := 1) (N := 2) (v := .int ((μ 94 1))) (by decide) (z_E_94 _) rfl inX0_areWhole_X0 (by decide) wX0_areWhole_0 rfl dX0_areWhole_48 ?_
  refine lv_icmp_ne (tgt := 56) hx hb dX0_areWhole_51 (by decide) (fun hc10 => ?_) (fun hc10 => ?_)
  · have h := z_in hc10 h
    refine lv_iload_n hx hb dX0_areWhole_56 rfl (lv_at hl 1 rfl) ?_
    refine lv_aload_n hx hb dX0_areWhole_57 rfl (lv_at hl 0 rfl) ?_
    refine lv_iload_n hx hb dX0_areWhole_58 rfl (lv_at hl 1 rfl) ?_
    obtain ⟨r11, m12, e13, h⟩ := zb_some h
    refine z_calli hS (va_runV (As := [.int (x1)]) (rest := [.int (x1)]) C (c_X0_formLengthAt l G e13 _) (cwV 1 hts gX0_areWhole_X0_formLengthAt rfl rfl rfl hv_X0_formLengthAt ⟨Nat.le_of_ble_eq_true rfl, Nat.le_of_ble_eq_true rfl⟩) (z_preV Z hS hP (by decide) (z_E_94 _) rfl rfl) rfl rfl hl.1 rfl (lv_room (Nat.le_of_ble_eq_true rfl)) dX0_areWhole_59 ⟨Nat.zero_le _, Nat.zero_le _⟩) (fun H locs hP hS => ?_)
    refine lv_iconst (v := 1) hx hb dX0_areWhole_62 (by decide) ?_
    refine lv_iadd hx hb dX0_areWhole_63 ?_
    refine lv_iadd hx hb dX0_areWhole_64 ?_
    refine lv_istore_n (lv' := [(1, .int ((x1 + (r11 + 1)))), (0, .ref (G.2.1 (94))), (2, .int (x2))]) hx hb dX0_areWhole_65 rfl hl (by decide) rfl (fun ls hl => ?_)
    refine lv_goto (tgt := 2) hx hb dX0_areWhole_66 (by decide) ?_
    exact hag2 _ _ h _ _ hP hS ls (lv_sub hl [1, 0] rfl)
  · have h := z_ip hc10 h
    refine lv_iconst (v := 1) hx hb dX0_areWhole_54 (by decide) ?_
    cases h
    exact z_retz C hr hlk rfl hP hS dX0_areWhole_55
set_option maxHeartbeats 4000000 in
set_option maxRecDepth 100000 in
theorem L_X0_areWhole_b2 {p : Program} {l : Launch} {e : Env} {s : State} {m : MethodId} {args : Array Value} {below : List Frame} {meth : Method} {c : Code} {G : zG} {r : Int32} {mu1 : Mm}  (C : CallFix p m c cX0_areWhole 3 s args wsX0_areWhole RX0) (hr : meth.sig.returnType = (some .boolean)) (hlk : meth.locks = false) (Z : z_Z G (z_A G s.heap.size) s)  :
    ∀ (n : Nat) (x1 : Int32) (μ : Mm), f_X0_areWhole_b2  n x1 μ = some (r, mu1) → ∀ (H : Heap) (locs : List Loc), z_P G μ H → va_S (z_A G s.heap.size) s.heap H locs → ∀ ls : Array Slot, lv_has ls 3 [(0, .ref (G.2.1 (94))), (1, .int (x1))] → W p l e rm_X0_areWhole s m args below meth c H locs 0 0 (MQ below (z_Qi G r mu1 s.heap.size) args s 0 0 (z_A G s.heap.size)) (F0 m 2 ls []) := by
  have hx := C.1
  have hb := C.2.1
  have hts := C.2.2.2.2
  intro n
  induction n with
  | zero =>
    intro x1 μ h
    rw [f_X0_areWhole_b2] at h
    cases h
  | succ n ih =>
    intro x1 μ h H locs hP hS ls hl
    rw [f_X0_areWhole_b2] at h
    refine lv_iload_n hx hb dX0_areWhole_2 rfl (lv_at hl 1 rfl) ?_
    refine lv_aload_n hx hb dX0_areWhole_3 rfl (lv_at hl 0 rfl) ?_
    refine z_get C Z hP (k := 94) (ci := 0) (j := 1) (N := 2) (v := .int ((μ 94 1))) (by decide) (z_E_94 _) rfl inX0_areWhole_X0 (by decide) wX0_areWhole_0 rfl dX0_areWhole_4 ?_
    refine lv_icmp_ge (tgt := 69) hx hb dX0_areWhole_7 (by decide) (fun hc1 => ?_) (fun hc1 => ?_)
    · have h := z_ip hc1 h
      refine lv_iconst (v := 0) hx hb dX0_areWhole_69 (by decide) ?_
      cases h
      exact z_retz C hr hlk rfl hP hS dX0_areWhole_70
    · have h := z_in hc1 h
      refine lv_iload_n hx hb dX0_areWhole_10 rfl (lv_at hl 1 rfl) ?_
      refine lv_aload_n hx hb dX0_areWhole_11 rfl (lv_at hl 0 rfl) ?_
      refine lv_iload_n hx hb dX0_areWhole_12 rfl (lv_at hl 1 rfl) ?_
      obtain ⟨r2, m3, e4, h⟩ := zb_some h
      refine z_calli hS (va_runV (As := [.int (x1)]) (rest := [.int (x1)]) C (c_X0_rightCharacters l G e4 _) (cwV 1 hts gX0_areWhole_X0_rightCharacters rfl rfl rfl hv_X0_rightCharacters ⟨Nat.le_of_ble_eq_true rfl, Nat.le_of_ble_eq_true rfl⟩) (z_preV Z hS hP (by decide) (z_E_94 _) rfl rfl) rfl rfl hl.1 rfl (lv_room (Nat.le_of_ble_eq_true rfl)) dX0_areWhole_13 ⟨Nat.zero_le _, Nat.zero_le _⟩) (fun H locs hP hS => ?_)
      refine lv_iadd hx hb dX0_areWhole_16 ?_
      refine lv_istore_n (lv' := [(2, .int ((x1 + r2))), (0, .ref (G.2.1 (94))), (1, .int (x1))]) hx hb dX0_areWhole_17 rfl hl (by decide) rfl (fun ls hl => ?_)
      refine lv_aload_n hx hb dX0_areWhole_18 rfl (lv_at hl 1 rfl) ?_
      refine lv_iload_n hx hb dX0_areWhole_19 rfl (lv_at hl 2 rfl) ?_
      obtain ⟨r5, m6, e7, h⟩ := zb_some h
      refine z_calli hS (va_runV (As := [.int (x1)]) (rest := []) C (c_X0_isWholeOrder l G e7 _) (cwV 1 hts gX0_areWhole_X0_isWholeOrder rfl rfl rfl hv_X0_isWholeOrder ⟨Nat.le_of_ble_eq_true rfl, Nat.le_of_ble_eq_true rfl⟩) (z_preV Z hS hP (by decide) (z_E_94 _) rfl rfl) rfl rfl hl.1 rfl (lv_room (Nat.le_of_ble_eq_true rfl)) dX0_areWhole_20 ⟨Nat.zero_le _, Nat.zero_le _⟩) (fun H locs hP hS => ?_)
      refine lv_if_eq (tgt := 44) hx hb dX0_areWhole_23 (by decide) (fun hc8 => ?_) (fun hc8 => ?_)
      · have h := z_ip hc8 h
        refine lv_iconst (v := 0) hx hb dX0_areWhole_44 (by decide) ?_
        cases h
        exact z_retz C hr hlk rfl hP hS dX0_areWhole_45
      · have h := z_in hc8 h
        refine lv_iload_n hx hb dX0_areWhole_26 rfl (lv_at hl 0 rfl) ?_
        refine lv_aload_n hx hb dX0_areWhole_27 rfl (lv_at hl 1 rfl) ?_
        refine z_get C Z hP (k := 94) (ci := 0) (j := 1) (N := 2) (v := .int ((m6 94 1))) (by decide) (z_E_94 _) rfl inX0_areWhole_X0 (by decide) wX0_areWhole_0 rfl dX0_areWhole_28 ?_
        refine lv_icmp_ge (tgt := 46) hx hb dX0_areWhole_31 (by decide) (fun hc9 => ?_) (fun hc9 => ?_)
        · have h := z_ip hc9 h
          exact L_X0_areWhole_b46 C hr hlk Z ih _ _ _ h _ _ hP hS ls (lv_sub hl [1, 2, 0] rfl)
        · have h := z_in hc9 h
          refine lv_aload_n hx hb dX0_areWhole_34 rfl (lv_at hl 1 rfl) ?_
          refine lv_iload_n hx hb dX0_areWhole_35 rfl (lv_at hl 0 rfl) ?_
          obtain ⟨r14, m15, e16, h⟩ := zb_some h
          refine z_calli hS (va_runV (As := [.int ((x1 + r2))]) (rest := []) C (c_X0_codeAt l G e16 _) (cwV 1 hts gX0_areWhole_X0_codeAt rfl rfl rfl hv_X0_codeAt ⟨Nat.le_of_ble_eq_true rfl, Nat.le_of_ble_eq_true rfl⟩) (z_preV Z hS hP (by decide) (z_E_94 _) rfl rfl) rfl rfl hl.1 rfl (lv_room (Nat.le_of_ble_eq_true rfl)) dX0_areWhole_36 ⟨Nat.zero_le _, Nat.zero_le _⟩) (fun H locs hP hS => ?_)
          refine lv_bipush (v := 59) hx hb dX0_areWhole_39 (by decide) ?_
          refine lv_icmp_eq (tgt := 46) hx hb dX0_areWhole_41 (by decide) (fun hc17 => ?_) (fun hc17 => ?_)
          · have h := z_ip hc17 h
            exact L_X0_areWhole_b46 C hr hlk Z ih _ _ _ h _ _ hP hS ls (lv_sub hl [1, 2, 0] rfl)
          · have h := z_in hc17 h
            refine lv_iconst (v := 0) hx hb dX0_areWhole_44 (by decide) ?_
            cases h
            exact z_retz C hr hlk rfl hP hS dX0_areWhole_45
set_option maxHeartbeats 4000000 in
set_option maxRecDepth 100000 in
theorem c_X0_areWhole (l : Launch) (G : zG) {μ mu1 : Mm} {r : Int32} (h : f_X0_areWhole μ = some (r, mu1)) (sz : Nat) : Met l yX0_areWhole wsX0_areWhole rm_X0_areWhole (z_Pre G μ [.ref (G.2.1 (94))] sz) (z_Qi G r mu1 sz) 0 0 (z_A G sz) := by
  refine z_start (cc := cX0_areWhole) (maxL := 3) (ret := (some .boolean)) (own := RX0) (by decide) rfl rfl (Nat.le_of_ble_eq_true rfl) (fun p e s m args below meth c C hr hlk Z hP ls hl => ?_) sz
  have hx := C.1
  have hb := C.2.1
  have hts := C.2.2.2.2
  have hS : va_S (z_A G s.heap.size) s.heap s.heap [] := va_S.rf
  have hl : lv_has ls 3 [(0, .ref (G.2.1 (94)))] := hl
  unfold f_X0_areWhole at h
  refine lv_iconst (v := 0) hx hb dX0_areWhole_0 (by decide) ?_
  refine lv_istore_n (lv' := [(1, .int (0)), (0, .ref (G.2.1 (94)))]) hx hb dX0_areWhole_1 rfl hl (by decide) rfl (fun ls hl => ?_)
  exact L_X0_areWhole_b2 C hr hlk Z z_F _ _ h _ _ hP hS ls (lv_sub hl [1, 0] rfl)
