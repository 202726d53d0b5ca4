abbrev rm_X4_thrown : Room := { frames := 0, cells := 0, slots := 0, locals := 0 }
theorem hd_X4_thrown : yX4_thrown.cls ≠ "java/lang/invoke/MethodHandle" ∧ yX4_thrown.cls ≠ "java/lang/invoke/VarHandle" ∧ (parseMethodDescriptor yX4_thrown.desc).map (fun d => d.parameters.length) = some 0 := by decide +kernel
theorem hv_X4_thrown : yX4_thrown.cls = RX4 ∧ yX4_thrown.cls ≠ "java/lang/invoke/MethodHandle" ∧ yX4_thrown.cls ≠ "java/lang/invoke/VarHandle" ∧ (parseMethodDescriptor yX4_thrown.desc).map (fun d => d.parameters.length) = some 0 := ⟨rfl, hd_X4_thrown⟩
theorem wX4_thrown_0 : Cond.fieldLink RX4 27 "WaxCopiesModel" "thrown" "I" ∈ wsX4_thrown := by decide +kernel
theorem inX4_thrown_X4 : ∀ w ∈ wsX40, w ∈ wsX4_thrown := by decide +kernel
set_option maxHeartbeats 4000000 in
set_option maxRecDepth 100000 in
theorem c_X4_thrown (l : Launch) (G : zG) {μ mu1 : Mm} {r : Int32} (h : f_X4_thrown μ = some (r, mu1)) (sz : Nat) : Met l yX4_thrown wsX4_thrown rm_X4_thrown (z_Pre G μ [.ref (G.2.1 (119))] sz) (z_Qi G r mu1 sz) 0 0 (z_A G sz) := by
  refine z_start (cc := cX4_thrown) (maxL := 1) (ret := (some .int)) (own := RX4) (by decide) rfl rfl (Nat.le_of_ble_eq_true rfl) (fun p e s m args below meth c C hr hlk Z hP ls hl => ?_) sz
  have hx := C.1
  have hb := C.2.1
  have hts := C.2.2.2.2
  have hS : va_S (z_A G s.heap.size) s.heap s.heap [] := va_S.rf
  have hl : lv_has ls 1 [(0, .ref (G.2.1 (119)))] := hl
  unfold f_X4_thrown at h
  refine lv_aload_n hx hb dX4_thrown_0 rfl (lv_at hl 0 rfl) ?_
  refine z_get C Z hP (k := 119) (ci := 4) (j := 5) (N := 12) (v := .int ((μ 119 5))) (by decide) (z_E_119 _) rfl inX4_thrown_X4 (by decide) wX4_thrown_0 rfl dX4_thrown_1 ?_
  cases h
  exact z_reti C hr hlk hP hS dX4_thrown_4
abbrev rm_X4_in : Room := { frames := 0, cells := 0, slots := 0, locals := 0 }
theorem hd_X4_in : yX4_in.cls ≠ "java/lang/invoke/MethodHandle" ∧ yX4_in.cls ≠ "java/lang/invoke/VarHandle" ∧ (parseMethodDescriptor yX4_in.desc).map (fun d => d.parameters.length) = some 3 := by decide +kernel
theorem hv_X4_in : yX4_in.cls = RX4 ∧ yX4_in.cls ≠ "java/lang/invoke/MethodHandle" ∧ yX4_in.cls ≠ "java/lang/invoke/VarHandle" ∧ (parseMethodDescriptor yX4_in.desc).map (fun d => d.parameters.length) = some 3 := ⟨rfl, hd_X4_in⟩
set_option maxHeartbeats 4000000 in
set_option maxRecDepth 100000 in
theorem c_X4_in (l : Launch) (G : zG) {x0 : Int32} {x1 : Int32} {x2 : Int32} {μ mu1 : Mm} {r : Int32} (h : f_X4_in x0 x1 x2 μ = some (r, mu1)) (sz : Nat) : Met l yX4_in wsX4_in rm_X4_in (z_Pre G μ [.int (x0), .int (x1), .int (x2)] sz) (z_Qi G r mu1 sz) 0 0 (z_A G sz) := by
  refine z_start (cc := cX4_in) (maxL := 3) (ret := (some .boolean)) (own := RX4) (by decide) rfl rfl (Nat.le_of_ble_eq_true rfl) (fun p e s m args below meth c C hr hlk Z hP ls hl => ?_) sz
  have hx := C.1
  have hb := C.2.1
  have hts := C.2.2.2.2
  have hS : va_S (z_A G s.heap.size) s.heap s.heap [] := va_S.rf
  have hl : lv_has ls 3 [(0, .int (x0)), (1, .int (x1)), (2, .int (x2))] := hl
  unfold f_X4_in at h
  refine lv_iload_n hx hb dX4_in_0 rfl (lv_at hl 0 rfl) ?_
  refine lv_iload_n hx hb dX4_in_1 rfl (lv_at hl 1 rfl) ?_
  refine lv_icmp_lt (tgt := 14) hx hb dX4_in_2 (by decide) (fun hc1 => ?_) (fun hc1 => ?_)
  · have h := z_ip hc1 h
    refine lv_iconst (v := 0) hx hb dX4_in_14 (by decide) ?_
    cases h
    exact z_retz C hr hlk rfl hP hS dX4_in_15
  · have h := z_in hc1 h
    refine lv_iload_n hx hb dX4_in_5 rfl (lv_at hl 0 rfl) ?_
    refine lv_iload_n hx hb dX4_in_6 rfl (lv_at hl 2 rfl) ?_
    refine lv_icmp_gt (tgt := 14) hx hb dX4_in_7 (by decide) (fun hc2 => ?_) (fun hc2 => ?_)
    · have h := z_ip hc2 h
      refine lv_iconst (v := 0) hx hb dX4_in_14 (by decide) ?_
      cases h
      exact z_retz C hr hlk rfl hP hS dX4_in_15
    · have h := z_in hc2 h
      refine lv_iconst (v := 1) hx hb dX4_in_10 (by decide) ?_
      refine lv_goto (tgt := 15) hx hb dX4_in_11 (by decide) ?_
      cases h
      exact z_retz C hr hlk rfl hP hS dX4_in_15
abbrev rm_X4_goes : Room := { frames := 0, cells := 0, slots := 0, locals := 0 }
theorem hd_X4_goes : yX4_goes.cls ≠ "java/lang/invoke/MethodHandle" ∧ yX4_goes.cls ≠ "java/lang/invoke/VarHandle" ∧ (parseMethodDescriptor yX4_goes.desc).map (fun d => d.parameters.length) = some 2 := by decide +kernel
theorem hv_X4_goes : yX4_goes.cls = RX4 ∧ yX4_goes.cls ≠ "java/lang/invoke/MethodHandle" ∧ yX4_goes.cls ≠ "java/lang/invoke/VarHandle" ∧ (parseMethodDescriptor yX4_goes.desc).map (fun d => d.parameters.length) = some 2 := ⟨rfl, hd_X4_goes⟩
theorem wX4_goes_0 : Cond.fieldLink RX4 27 "WaxCopiesModel" "thrown" "I" ∈ wsX4_goes := by decide +kernel
theorem inX4_goes_X4 : ∀ w ∈ wsX40, w ∈ wsX4_goes := by decide +kernel
set_option maxHeartbeats 4000000 in
set_option maxRecDepth 100000 in
theorem c_X4_goes (l : Launch) (G : zG) {x1 : Int32} {x2 : Int32} {μ mu1 : Mm} {r : Int32} (h : f_X4_goes x1 x2 μ = some (r, mu1)) (sz : Nat) : Met l yX4_goes wsX4_goes rm_X4_goes (z_Pre G μ [.ref (G.2.1 (119)), .int (x1), .int (x2)] sz) (z_Qi G r mu1 sz) 0 0 (z_A G sz) := by
  refine z_start (cc := cX4_goes) (maxL := 3) (ret := (some .boolean)) (own := RX4) (by decide) rfl rfl (Nat.le_of_ble_eq_true rfl) (fun p e s m args below meth c C hr hlk Z hP ls hl => ?_) sz
  have hx := C.1
  have hb := C.2.1
  have hts := C.2.2.2.2
  have hS : va_S (z_A G s.heap.size) s.heap s.heap [] := va_S.rf
  have hl : lv_has ls 3 [(0, .ref (G.2.1 (119))), (1, .int (x1)), (2, .int (x2))] := hl
  unfold f_X4_goes at h
  refine lv_aload_n hx hb dX4_goes_0 rfl (lv_at hl 0 rfl) ?_
  refine lv_iload_n hx hb dX4_goes_1 rfl (lv_at hl 1 rfl) ?_
  refine lv_if_ne (tgt := 9) hx hb dX4_goes_2 (by decide) (fun hc1 => ?_) (fun hc1 => ?_)
  · have h := z_in hc1 h
    refine lv_iload_n hx hb dX4_goes_9 rfl (lv_at hl 2 rfl) ?_
    refine lv_if_ne (tgt := 17) hx hb dX4_goes_10 (by decide) (fun hc2 => ?_) (fun hc2 => ?_)
    · have h := z_in hc2 h
      refine lv_iconst (v := 0) hx hb dX4_goes_17 (by decide) ?_
      refine z_put C Z hP hS (k := 119) (ci := 4) (j := 5) (N := 12) (x := 0) (v := .int (0)) (ty := .int) (by decide) (z_E_119 _) rfl inX4_goes_X4 tyX4_ok nmX4 (by decide) wX4_goes_0 rfl (by decide +kernel) rfl rfl (Nat.le_of_ble_eq_true rfl) (z_S_119_5 _ _) dX4_goes_18 (fun H locs hP hS => ?_)
      refine lv_aload_n hx hb dX4_goes_21 rfl (lv_at hl 0 rfl) ?_
      refine z_get C Z hP (k := 119) (ci := 4) (j := 5) (N := 12) (v := .int (((z_up μ (119) 5 0) 119 5))) (by decide) (z_E_119 _) rfl inX4_goes_X4 (by decide) wX4_goes_0 rfl dX4_goes_22 ?_
      refine lv_if_ne (tgt := 32) hx hb dX4_goes_25 (by decide) (fun hc3 => ?_) (fun hc3 => ?_)
      · have h := z_in hc3 h
        refine lv_iconst (v := 0) hx hb dX4_goes_32 (by decide) ?_
        cases h
        exact z_retz C hr hlk rfl hP hS dX4_goes_33
      · have h := z_ip hc3 h
        refine lv_iconst (v := 1) hx hb dX4_goes_28 (by decide) ?_
        refine lv_goto (tgt := 33) hx hb dX4_goes_29 (by decide) ?_
        cases h
        exact z_retz C hr hlk rfl hP hS dX4_goes_33
    · have h := z_ip hc2 h
      refine lv_iconst (v := 2) hx hb dX4_goes_13 (by decide) ?_
      refine lv_goto (tgt := 18) hx hb dX4_goes_14 (by decide) ?_
      refine z_put C Z hP hS (k := 119) (ci := 4) (j := 5) (N := 12) (x := 2) (v := .int (2)) (ty := .int) (by decide) (z_E_119 _) rfl inX4_goes_X4 tyX4_ok nmX4 (by decide) wX4_goes_0 rfl (by decide +kernel) rfl rfl (Nat.le_of_ble_eq_true rfl) (z_S_119_5 _ _) dX4_goes_18 (fun H locs hP hS => ?_)
      refine lv_aload_n hx hb dX4_goes_21 rfl (lv_at hl 0 rfl) ?_
      refine z_get C Z hP (k := 119) (ci := 4) (j := 5) (N := 12) (v := .int (((z_up μ (119) 5 2) 119 5))) (by decide) (z_E_119 _) rfl inX4_goes_X4 (by decide) wX4_goes_0 rfl dX4_goes_22 ?_
      refine lv_if_ne (tgt := 32) hx hb dX4_goes_25 (by decide) (fun hc4 => ?_) (fun hc4 => ?_)
      · have h := z_in hc4 h
        refine lv_iconst (v := 0) hx hb dX4_goes_32 (by decide) ?_
        cases h
        exact z_retz C hr hlk rfl hP hS dX4_goes_33
      · have h := z_ip hc4 h
        refine lv_iconst (v := 1) hx hb dX4_goes_28 (by decide) ?_
        refine lv_goto (tgt := 33) hx hb dX4_goes_29 (by decide) ?_
        cases h
        exact z_retz C hr hlk rfl hP hS dX4_goes_33
  · have h := z_ip hc1 h
    refine lv_iconst (v := 1) hx hb dX4_goes_5 (by decide) ?_
    refine lv_goto (tgt := 18) hx hb dX4_goes_6 (by decide) ?_
    refine z_put C Z hP hS (k := 119) (ci := 4) (j := 5) (N := 12) (x := 1) (v := .int (1)) (ty := .int) (by decide) (z_E_119 _) rfl inX4_goes_X4 tyX4_ok nmX4 (by decide) wX4_goes_0 rfl (by decide +kernel) rfl rfl (Nat.le_of_ble_eq_true rfl) (z_S_119_5 _ _) dX4_goes_18 (fun H locs hP hS => ?_)
    refine lv_aload_n hx hb dX4_goes_21 rfl (lv_at hl 0 rfl) ?_
    refine z_get C Z hP (k := 119) (ci := 4) (j := 5) (N := 12) (v := .int (((z_up μ (119) 5 1) 119 5))) (by decide) (z_E_119 _) rfl inX4_goes_X4 (by decide) wX4_goes_0 rfl dX4_goes_22 ?_
    refine lv_if_ne (tgt := 32) hx hb dX4_goes_25 (by decide) (fun hc5 => ?_) (fun hc5 => ?_)
    · have h := z_in hc5 h
      refine lv_iconst (v := 0) hx hb dX4_goes_32 (by decide) ?_
      cases h
      exact z_retz C hr hlk rfl hP hS dX4_goes_33
    · have h := z_ip hc5 h
      refine lv_iconst (v := 1) hx hb dX4_goes_28 (by decide) ?_
      refine lv_goto (tgt := 33) hx hb dX4_goes_29 (by decide) ?_
      cases h
      exact z_retz C hr hlk rfl hP hS dX4_goes_33
abbrev rm_X4_atLeast : Room := { frames := 0, cells := 0, slots := 0, locals := 0 }
theorem hd_X4_atLeast : yX4_atLeast.cls ≠ "java/lang/invoke/MethodHandle" ∧ yX4_atLeast.cls ≠ "java/lang/invoke/VarHandle" ∧ (parseMethodDescriptor yX4_atLeast.desc).map (fun d => d.parameters.length) = some 2 := by decide +kernel
theorem hv_X4_atLeast : yX4_atLeast.cls = RX4 ∧ yX4_atLeast.cls ≠ "java/lang/invoke/MethodHandle" ∧ yX4_atLeast.cls ≠ "java/lang/invoke/VarHandle" ∧ (parseMethodDescriptor yX4_atLeast.desc).map (fun d => d.parameters.length) = some 2 := ⟨rfl, hd_X4_atLeast⟩
set_option maxHeartbeats 4000000 in
set_option maxRecDepth 100000 in
theorem c_X4_atLeast (l : Launch) (G : zG) {x0 : Int32} {x1 : Int32} {μ mu1 : Mm} {r : Int32} (h : f_X4_atLeast x0 x1 μ = some (r, mu1)) (sz : Nat) : Met l yX4_atLeast wsX4_atLeast rm_X4_atLeast (z_Pre G μ [.int (x0), .int (x1)] sz) (z_Qi G r mu1 sz) 0 0 (z_A G sz) := by
  refine z_start (cc := cX4_atLeast) (maxL := 2) (ret := (some .int)) (own := RX4) (by decide) rfl rfl (Nat.le_of_ble_eq_true rfl) (fun p e s m args below meth c C hr hlk Z hP ls hl => ?_) sz
  have hx := C.1
  have hb := C.2.1
  have hts := C.2.2.2.2
  have hS : va_S (z_A G s.heap.size) s.heap s.heap [] := va_S.rf
  have hl : lv_has ls 2 [(0, .int (x0)), (1, .int (x1))] := hl
  unfold f_X4_atLeast at h
  refine lv_iload_n hx hb dX4_atLeast_0 rfl (lv_at hl 0 rfl) ?_
  refine lv_iload_n hx hb dX4_atLeast_1 rfl (lv_at hl 1 rfl) ?_
  refine lv_icmp_ge (tgt := 9) hx hb dX4_atLeast_2 (by decide) (fun hc1 => ?_) (fun hc1 => ?_)
  · have h := z_ip hc1 h
    refine lv_iload_n hx hb dX4_atLeast_9 rfl (lv_at hl 0 rfl) ?_
    cases h
    exact z_reti C hr hlk hP hS dX4_atLeast_10
  · have h := z_in hc1 h
    refine lv_iload_n hx hb dX4_atLeast_5 rfl (lv_at hl 1 rfl) ?_
    refine lv_goto (tgt := 10) hx hb dX4_atLeast_6 (by decide) ?_
    cases h
    exact z_reti C hr hlk hP hS dX4_atLeast_10
abbrev rm_X4_copies : Room := { frames := 0, cells := 0, slots := 0, locals := 0 }
theorem hd_X4_copies : yX4_copies.cls ≠ "java/lang/invoke/MethodHandle" ∧ yX4_copies.cls ≠ "java/lang/invoke/VarHandle" ∧ (parseMethodDescriptor yX4_copies.desc).map (fun d => d.parameters.length) = some 2 := by decide +kernel
theorem hv_X4_copies : yX4_copies.cls = RX4 ∧ yX4_copies.cls ≠ "java/lang/invoke/MethodHandle" ∧ yX4_copies.cls ≠ "java/lang/invoke/VarHandle" ∧ (parseMethodDescriptor yX4_copies.desc).map (fun d => d.parameters.length) = some 2 := ⟨rfl, hd_X4_copies⟩
theorem wX4_copies_0 : Cond.fieldLink RX4 7 "WaxCopiesModel" "s" "[I" ∈ wsX4_copies := by decide +kernel
theorem inX4_copies_X4 : ∀ w ∈ wsX40, w ∈ wsX4_copies := by decide +kernel
set_option maxHeartbeats 4000000 in
set_option maxRecDepth 100000 in
theorem L_X4_copies_b2 {p : Program} {l : Launch} {e : Env} {s : State} {m : MethodId} {args : Array Value} {below : List Frame} {meth : Method} {c : Code} {G : zG} {r : Unit} {mu1 : Mm}  (C : CallFix p m c cX4_copies 4 s args wsX4_copies RX4) (hr : meth.sig.returnType = none) (hlk : meth.locks = false) (Z : z_Z G (z_A G s.heap.size) s)  :
    ∀ (n : Nat) (x1 : Int32) (x2 : Int32) (x3 : Int32) (μ : Mm), f_X4_copies_b2  n x1 x2 x3 μ = some (r, mu1) → ∀ (H : Heap) (locs : List Loc), z_P G μ H → va_S (z_A G s.heap.size) s.heap H locs → ∀ ls : Array Slot, lv_has ls 4 [(0, .ref (G.2.1 (119))), (1, .int (x1)), (2, .int (x2)), (3, .int (x3))] → W p l e rm_X4_copies s m args below meth c H locs 0 0 (MQ below (z_Qv G r mu1 s.heap.size) args s 0 0 (z_A G s.heap.size)) (F0 m 2 ls []) := by
  have hx := C.1
  have hb := C.2.1
  have hts := C.2.2.2.2
  intro n
  induction n with
  | zero =>
    intro x1 x2 x3 μ h
    rw [f_X4_copies_b2] at h
    cases h
  | succ n ih =>
    intro x1 x2 x3 μ h H locs hP hS ls hl
    rw [f_X4_copies_b2] at h
    refine lv_iload_n hx hb dX4_copies_2 rfl (lv_at hl 3 rfl) ?_
    refine lv_sipush (v := 190) hx hb dX4_copies_3 (by decide) ?_
    refine lv_icmp_ge (tgt := 39) hx hb dX4_copies_6 (by decide) (fun hc1 => ?_) (fun hc1 => ?_)
    · have h := z_ip hc1 h
      cases h
      exact z_retv C hr hlk hP hS dX4_copies_39
    · have h := z_in hc1 h
      refine lv_aload_n hx hb dX4_copies_9 rfl (lv_at hl 0 rfl) ?_
      refine z_get C Z hP (k := 119) (ci := 4) (j := 0) (N := 12) (v := .ref (G.2.1 (120))) (by decide) (z_E_119 _) rfl inX4_copies_X4 (by decide) wX4_copies_0 rfl dX4_copies_10 ?_
      refine lv_sipush (v := 190) hx hb dX4_copies_13 (by decide) ?_
      refine lv_iload_n hx hb dX4_copies_16 rfl (lv_at hl 2 rfl) ?_
      refine lv_imul hx hb dX4_copies_17 ?_
      refine lv_iload_n hx hb dX4_copies_18 rfl (lv_at hl 3 rfl) ?_
      refine lv_iadd hx hb dX4_copies_19 ?_
      refine lv_aload_n hx hb dX4_copies_20 rfl (lv_at hl 0 rfl) ?_
      refine z_get C Z hP (k := 119) (ci := 4) (j := 0) (N := 12) (v := .ref (G.2.1 (120))) (by decide) (z_E_119 _) rfl inX4_copies_X4 (by decide) wX4_copies_0 rfl dX4_copies_21 ?_
      refine lv_sipush (v := 190) hx hb dX4_copies_24 (by decide) ?_
      refine lv_iload_n hx hb dX4_copies_27 rfl (lv_at hl 1 rfl) ?_
      refine lv_imul hx hb dX4_copies_28 ?_
      refine lv_iload_n hx hb dX4_copies_29 rfl (lv_at hl 3 rfl) ?_
      refine lv_iadd hx hb dX4_copies_30 ?_
      obtain ⟨hg2, h⟩ := z_g h
      refine z_iald C Z hP (k := 120) (n := 1710) (j := (((190 * x1) + x3)).toNatClampNeg) (by decide) (z_E_120 _) hg2 rfl dX4_copies_31 ?_
      obtain ⟨hg3, h⟩ := z_g h
      refine z_iast C Z hP hS (k := 120) (n := 1710) (j := (((190 * x2) + x3)).toNatClampNeg) (by decide) (fun r => z_E_120 r) hg3 rfl dX4_copies_32 (fun H locs hP hS => ?_)
      refine lv_iinc (v := (x3 + 1)) (lv' := [(3, .int ((x3 + 1))), (0, .ref (G.2.1 (119))), (1, .int (x1)), (2, .int (x2))]) hx hb dX4_copies_33 hl (k := 3) rfl rfl (by decide) rfl (fun ls hl => ?_)
      refine lv_goto (tgt := 2) hx hb dX4_copies_36 (by decide) ?_
      exact ih _ _ _ _ h _ _ hP hS ls (lv_sub hl [1, 2, 3, 0] rfl)
set_option maxHeartbeats 4000000 in
set_option maxRecDepth 100000 in
theorem c_X4_copies (l : Launch) (G : zG) {x1 : Int32} {x2 : Int32} {μ mu1 : Mm} {r : Unit} (h : f_X4_copies x1 x2 μ = some (r, mu1)) (sz : Nat) : Met l yX4_copies wsX4_copies rm_X4_copies (z_Pre G μ [.ref (G.2.1 (119)), .int (x1), .int (x2)] sz) (z_Qv G r mu1 sz) 0 0 (z_A G sz) := by
  refine z_start (cc := cX4_copies) (maxL := 4) (ret := none) (own := RX4) (by decide) rfl rfl (Nat.le_of_ble_eq_true rfl) (fun p e s m args below meth c C hr hlk Z hP ls hl => ?_) sz
  have hx := C.1
  have hb := C.2.1
  have hts := C.2.2.2.2
  have hS : va_S (z_A G s.heap.size) s.heap s.heap [] := va_S.rf
  have hl : lv_has ls 4 [(0, .ref (G.2.1 (119))), (1, .int (x1)), (2, .int (x2))] := hl
  unfold f_X4_copies at h
  refine lv_iconst (v := 0) hx hb dX4_copies_0 (by decide) ?_
  refine lv_istore_n (lv' := [(3, .int (0)), (0, .ref (G.2.1 (119))), (1, .int (x1)), (2, .int (x2))]) hx hb dX4_copies_1 rfl hl (by decide) rfl (fun ls hl => ?_)
  exact L_X4_copies_b2 C hr hlk Z z_F _ _ _ _ h _ _ hP hS ls (lv_sub hl [1, 2, 3, 0] rfl)
abbrev rm_X4_saves : Room := { frames := 1, cells := 0, slots := 0, locals := 23 }
theorem hd_X4_saves : yX4_saves.cls ≠ "java/lang/invoke/MethodHandle" ∧ yX4_saves.cls ≠ "java/lang/invoke/VarHandle" ∧ (parseMethodDescriptor yX4_saves.desc).map (fun d => d.parameters.length) = some 0 := by decide +kernel
theorem hv_X4_saves : yX4_saves.cls = RX4 ∧ yX4_saves.cls ≠ "java/lang/invoke/MethodHandle" ∧ yX4_saves.cls ≠ "java/lang/invoke/VarHandle" ∧ (parseMethodDescriptor yX4_saves.desc).map (fun d => d.parameters.length) = some 0 := ⟨rfl, hd_X4_saves⟩
theorem wX4_saves_0 : Cond.fieldLink RX4 31 "WaxCopiesModel" "saved" "I" ∈ wsX4_saves := by decide +kernel
theorem inX4_saves_X4 : ∀ w ∈ wsX40, w ∈ wsX4_saves := by decide +kernel
set_option maxHeartbeats 4000000 in
set_option maxRecDepth 100000 in
theorem L_X4_saves_b41 {p : Program} {l : Launch} {e : Env} {s : State} {m : MethodId} {args : Array Value} {below : List Frame} {meth : Method} {c : Code} {G : zG} {r : Unit} {mu1 : Mm}  (C : CallFix p m c cX4_saves 2 s args wsX4_saves RX4) (hr : meth.sig.returnType = none) (hlk : meth.locks = false) (Z : z_Z G (z_A G s.heap.size) s)  :
    ∀  (μ : Mm), f_X4_saves_b41   μ = some (r, mu1) → ∀ (H : Heap) (locs : List Loc), z_P G μ H → va_S (z_A G s.heap.size) s.heap H locs → ∀ ls : Array Slot, lv_has ls 2 [(0, .ref (G.2.1 (119)))] → W p l e rm_X4_saves s m args below meth c H locs 0 0 (MQ below (z_Qv G r mu1 s.heap.size) args s 0 0 (z_A G s.heap.size)) (F0 m 41 ls []) := by
  have hx := C.1
  have hb := C.2.1
  have hts := C.2.2.2.2
  intro  μ h H locs hP hS ls hl
  unfold f_X4_saves_b41 at h
  refine lv_aload_n hx hb dX4_saves_41 rfl (lv_at hl 0 rfl) ?_
  refine lv_dup hx hb dX4_saves_42 rfl ?_
  refine z_get C Z hP (k := 119) (ci := 4) (j := 1) (N := 12) (v := .int ((μ 119 1))) (by decide) (z_E_119 _) rfl inX4_saves_X4 (by decide) wX4_saves_0 rfl dX4_saves_43 ?_
  refine lv_iconst (v := 1) hx hb dX4_saves_46 (by decide) ?_
  refine lv_iadd hx hb dX4_saves_47 ?_
  refine z_put C Z hP hS (k := 119) (ci := 4) (j := 1) (N := 12) (x := ((μ 119 1) + 1)) (v := .int (((μ 119 1) + 1))) (ty := .int) (by decide) (z_E_119 _) rfl inX4_saves_X4 tyX4_ok nmX4 (by decide) wX4_saves_0 rfl (by decide +kernel) rfl rfl (Nat.le_of_ble_eq_true rfl) (z_S_119_1 _ _) dX4_saves_48 (fun H locs hP hS => ?_)
  refine lv_aload_n hx hb dX4_saves_51 rfl (lv_at hl 0 rfl) ?_
  refine lv_iconst (v := 0) hx hb dX4_saves_52 (by decide) ?_
  refine lv_aload_n hx hb dX4_saves_53 rfl (lv_at hl 0 rfl) ?_
  refine z_get C Z hP (k := 119) (ci := 4) (j := 1) (N := 12) (v := .int (((z_up μ (119) 1 ((μ 119 1) + 1)) 119 1))) (by decide) (z_E_119 _) rfl inX4_saves_X4 (by decide) wX4_saves_0 rfl dX4_saves_54 ?_
  obtain ⟨r2, m3, e4, h⟩ := zb_some h
  refine z_callv hS (va_runV (As := [.int (0), .int (((z_up μ (119) 1 ((μ 119 1) + 1)) 119 1))]) (rest := []) C (c_X4_copies l G e4 _) (cwV 2 hts gX4_saves_X4_copies rfl rfl rfl hv_X4_copies ⟨Nat.le_of_ble_eq_true rfl, Nat.le_of_ble_eq_true rfl⟩) (z_preV Z hS hP (by decide) (z_E_119 _) rfl rfl) rfl rfl hl.1 rfl (lv_room (Nat.le_of_ble_eq_true rfl)) dX4_saves_57 ⟨Nat.zero_le _, Nat.zero_le _⟩) (fun H locs hP hS => ?_)
  cases h
  exact z_retv C hr hlk hP hS dX4_saves_60
set_option maxHeartbeats 4000000 in
set_option maxRecDepth 100000 in
theorem L_X4_saves_b11 {p : Program} {l : Launch} {e : Env} {s : State} {m : MethodId} {args : Array Value} {below : List Frame} {meth : Method} {c : Code} {G : zG} {r : Unit} {mu1 : Mm}  (C : CallFix p m c cX4_saves 2 s args wsX4_saves RX4) (hr : meth.sig.returnType = none) (hlk : meth.locks = false) (Z : z_Z G (z_A G s.heap.size) s)  :
    ∀ (n : Nat) (x1 : Int32) (μ : Mm), f_X4_saves_b11  n x1 μ = some (r, mu1) → ∀ (H : Heap) (locs : List Loc), z_P G μ H → va_S (z_A G s.heap.size) s.heap H locs → ∀ ls : Array Slot, lv_has ls 2 [(0, .ref (G.2.1 (119))), (1, .int (x1))] → W p l e rm_X4_saves s m args below meth c H locs 0 0 (MQ below (z_Qv G r mu1 s.heap.size) args s 0 0 (z_A G s.heap.size)) (F0 m 11 ls []) := by
  have hx := C.1
  have hb := C.2.1
  have hts := C.2.2.2.2
  intro n
  induction n with
  | zero =>
    intro x1 μ h
    rw [f_X4_saves_b11] at h
    cases h
  | succ n ih =>
    intro x1 μ h H locs hP hS ls hl
    rw [f_X4_saves_b11] at h
    refine lv_iload_n hx hb dX4_saves_11 rfl (lv_at hl 1 rfl) ?_
    refine lv_bipush (v := 6) hx hb dX4_saves_12 (by decide) ?_
    refine lv_icmp_ge (tgt := 31) hx hb dX4_saves_14 (by decide) (fun hc5 => ?_) (fun hc5 => ?_)
    · have h := z_ip hc5 h
      refine lv_aload_n hx hb dX4_saves_31 rfl (lv_at hl 0 rfl) ?_
      refine lv_dup hx hb dX4_saves_32 rfl ?_
      refine z_get C Z hP (k := 119) (ci := 4) (j := 1) (N := 12) (v := .int ((μ 119 1))) (by decide) (z_E_119 _) rfl inX4_saves_X4 (by decide) wX4_saves_0 rfl dX4_saves_33 ?_
      refine lv_iconst (v := 1) hx hb dX4_saves_36 (by decide) ?_
      refine lv_isub hx hb dX4_saves_37 ?_
      refine z_put C Z hP hS (k := 119) (ci := 4) (j := 1) (N := 12) (x := ((μ 119 1) - 1)) (v := .int (((μ 119 1) - 1))) (ty := .int) (by decide) (z_E_119 _) rfl inX4_saves_X4 tyX4_ok nmX4 (by decide) wX4_saves_0 rfl (by decide +kernel) rfl rfl (Nat.le_of_ble_eq_true rfl) (z_S_119_1 _ _) dX4_saves_38 (fun H locs hP hS => ?_)
      exact L_X4_saves_b41 C hr hlk Z _ h _ _ hP hS ls (lv_sub hl [0] rfl)
    · have h := z_in hc5 h
      refine lv_aload_n hx hb dX4_saves_17 rfl (lv_at hl 0 rfl) ?_
      refine lv_iload_n hx hb dX4_saves_18 rfl (lv_at hl 1 rfl) ?_
      refine lv_iconst (v := 1) hx hb dX4_saves_19 (by decide) ?_
      refine lv_iadd hx hb dX4_saves_20 ?_
      refine lv_iload_n hx hb dX4_saves_21 rfl (lv_at hl 1 rfl) ?_
      obtain ⟨r6, m7, e8, h⟩ := zb_some h
      refine z_callv hS (va_runV (As := [.int ((x1 + 1)), .int (x1)]) (rest := []) C (c_X4_copies l G e8 _) (cwV 2 hts gX4_saves_X4_copies rfl rfl rfl hv_X4_copies ⟨Nat.le_of_ble_eq_true rfl, Nat.le_of_ble_eq_true rfl⟩) (z_preV Z hS hP (by decide) (z_E_119 _) rfl rfl) rfl rfl hl.1 rfl (lv_room (Nat.le_of_ble_eq_true rfl)) dX4_saves_22 ⟨Nat.zero_le _, Nat.zero_le _⟩) (fun H locs hP hS => ?_)
      refine lv_iinc (v := (x1 + 1)) (lv' := [(1, .int ((x1 + 1))), (0, .ref (G.2.1 (119)))]) hx hb dX4_saves_25 hl (k := 1) rfl rfl (by decide) rfl (fun ls hl => ?_)
      refine lv_goto (tgt := 11) hx hb dX4_saves_28 (by decide) ?_
      exact ih _ _ h _ _ hP hS ls (lv_sub hl [1, 0] rfl)
set_option maxHeartbeats 4000000 in
set_option maxRecDepth 100000 in
theorem c_X4_saves (l : Launch) (G : zG) {μ mu1 : Mm} {r : Unit} (h : f_X4_saves μ = some (r, mu1)) (sz : Nat) : Met l yX4_saves wsX4_saves rm_X4_saves (z_Pre G μ [.ref (G.2.1 (119))] sz) (z_Qv G r mu1 sz) 0 0 (z_A G sz) := by
  refine z_start (cc := cX4_saves) (maxL := 2) (ret := none) (own := RX4) (by decide) rfl rfl (Nat.le_of_ble_eq_true rfl) (fun p e s m args below meth c C hr hlk Z hP ls hl => ?_) sz
  have hx := C.1
  have hb := C.2.1
  have hts := C.2.2.2.2
  have hS : va_S (z_A G s.heap.size) s.heap s.heap [] := va_S.rf
  have hl : lv_has ls 2 [(0, .ref (G.2.1 (119)))] := hl
  unfold f_X4_saves at h
  refine lv_aload_n hx hb dX4_saves_0 rfl (lv_at hl 0 rfl) ?_
  refine z_get C Z hP (k := 119) (ci := 4) (j := 1) (N := 12) (v := .int ((μ 119 1))) (by decide) (z_E_119 _) rfl inX4_saves_X4 (by decide) wX4_saves_0 rfl dX4_saves_1 ?_
  refine lv_bipush (v := 6) hx hb dX4_saves_4 (by decide) ?_
  refine lv_icmp_ne (tgt := 41) hx hb dX4_saves_6 (by decide) (fun hc1 => ?_) (fun hc1 => ?_)
  · have h := z_in hc1 h
    exact L_X4_saves_b41 C hr hlk Z _ h _ _ hP hS ls (lv_sub hl [0] rfl)
  · have h := z_ip hc1 h
    refine lv_iconst (v := 1) hx hb dX4_saves_9 (by decide) ?_
    refine lv_istore_n (lv' := [(1, .int (1)), (0, .ref (G.2.1 (119)))]) hx hb dX4_saves_10 rfl hl (by decide) rfl (fun ls hl => ?_)
    exact L_X4_saves_b11 C hr hlk Z z_F _ _ h _ _ hP hS ls (lv_sub hl [1, 0] rfl)
abbrev rm_X4_isTrack : Room := { frames := 1, cells := 0, slots := 0, locals := 22 }
theorem hd_X4_isTrack : yX4_isTrack.cls ≠ "java/lang/invoke/MethodHandle" ∧ yX4_isTrack.cls ≠ "java/lang/invoke/VarHandle" ∧ (parseMethodDescriptor yX4_isTrack.desc).map (fun d => d.parameters.length) = some 1 := by decide +kernel
theorem hv_X4_isTrack : yX4_isTrack.cls = RX4 ∧ yX4_isTrack.cls ≠ "java/lang/invoke/MethodHandle" ∧ yX4_isTrack.cls ≠ "java/lang/invoke/VarHandle" ∧ (parseMethodDescriptor yX4_isTrack.desc).map (fun d => d.parameters.length) = some 1 := ⟨rfl, hd_X4_isTrack⟩
set_option maxHeartbeats 4000000 in
set_option maxRecDepth 100000 in
theorem c_X4_isTrack (l : Launch) (G : zG) {x0 : Int32} {μ mu1 : Mm} {r : Int32} (h : f_X4_isTrack x0 μ = some (r, mu1)) (sz : Nat) : Met l yX4_isTrack wsX4_isTrack rm_X4_isTrack (z_Pre G μ [.int (x0)] sz) (z_Qi G r mu1 sz) 0 0 (z_A G sz) := by
  refine z_start (cc := cX4_isTrack) (maxL := 1) (ret := (some .boolean)) (own := RX4) (by decide) rfl rfl (Nat.le_of_ble_eq_true rfl) (fun p e s m args below meth c C hr hlk Z hP ls hl => ?_) sz
  have hx := C.1
  have hb := C.2.1
  have hts := C.2.2.2.2
  have hS : va_S (z_A G s.heap.size) s.heap s.heap [] := va_S.rf
  have hl : lv_has ls 1 [(0, .int (x0))] := hl
  unfold f_X4_isTrack at h
  refine lv_iload_n hx hb dX4_isTrack_0 rfl (lv_at hl 0 rfl) ?_
  refine lv_iconst (v := 0) hx hb dX4_isTrack_1 (by decide) ?_
  refine lv_bipush (v := 23) hx hb dX4_isTrack_2 (by decide) ?_
  obtain ⟨r1, m2, e3, h⟩ := zb_some h
  refine z_calli hS (va_runS (As := [.int (x0), .int (0), .int (23)]) (rest := []) C (c_X4_in l G e3 _) (va_cwS 3 hts gX4_isTrack_X4_in rfl rfl rfl hd_X4_in ⟨Nat.le_of_ble_eq_true rfl, Nat.le_of_ble_eq_true rfl⟩) (z_preS Z hS hP) rfl rfl hl.1 rfl (lv_room (Nat.le_of_ble_eq_true rfl)) dX4_isTrack_4 ⟨Nat.zero_le _, Nat.zero_le _⟩) (fun H locs hP hS => ?_)
  obtain ⟨hg4, h⟩ := z_g h
  cases h
  exact z_retz C hr hlk hg4 hP hS dX4_isTrack_7
abbrev rm_X4_isCylinder : Room := { frames := 1, cells := 0, slots := 0, locals := 22 }
theorem hd_X4_isCylinder : yX4_isCylinder.cls ≠ "java/lang/invoke/MethodHandle" ∧ yX4_isCylinder.cls ≠ "java/lang/invoke/VarHandle" ∧ (parseMethodDescriptor yX4_isCylinder.desc).map (fun d => d.parameters.length) = some 1 := by decide +kernel
theorem hv_X4_isCylinder : yX4_isCylinder.cls = RX4 ∧ yX4_isCylinder.cls ≠ "java/lang/invoke/MethodHandle" ∧ yX4_isCylinder.cls ≠ "java/lang/invoke/VarHandle" ∧ (parseMethodDescriptor yX4_isCylinder.desc).map (fun d => d.parameters.length) = some 1 := ⟨rfl, hd_X4_isCylinder⟩
set_option maxHeartbeats 4000000 in
set_option maxRecDepth 100000 in
theorem c_X4_isCylinder (l : Launch) (G : zG) {x0 : Int32} {μ mu1 : Mm} {r : Int32} (h : f_X4_isCylinder x0 μ = some (r, mu1)) (sz : Nat) : Met l yX4_isCylinder wsX4_isCylinder rm_X4_isCylinder (z_Pre G μ [.int (x0)] sz) (z_Qi G r mu1 sz) 0 0 (z_A G sz) := by
  refine z_start (cc := cX4_isCylinder) (maxL := 1) (ret := (some .boolean)) (own := RX4) (by decide) rfl rfl (Nat.le_of_ble_eq_true rfl) (fun p e s m args below meth c C hr hlk Z hP ls hl => ?_) sz
  have hx := C.1
  have hb := C.2.1
  have hts := C.2.2.2.2
  have hS : va_S (z_A G s.heap.size) s.heap s.heap [] := va_S.rf
  have hl : lv_has ls 1 [(0, .int (x0))] := hl
  unfold f_X4_isCylinder at h
  refine lv_iload_n hx hb dX4_isCylinder_0 rfl (lv_at hl 0 rfl) ?_
  refine lv_iconst (v := 0) hx hb dX4_isCylinder_1 (by decide) ?_
  refine lv_iconst (v := 5) hx hb dX4_isCylinder_2 (by decide) ?_
  obtain ⟨r1, m2, e3, h⟩ := zb_some h
  refine z_calli hS (va_runS (As := [.int (x0), .int (0), .int (5)]) (rest := []) C (c_X4_in l G e3 _) (va_cwS 3 hts gX4_isCylinder_X4_in rfl rfl rfl hd_X4_in ⟨Nat.le_of_ble_eq_true rfl, Nat.le_of_ble_eq_true rfl⟩) (z_preS Z hS hP) rfl rfl hl.1 rfl (lv_room (Nat.le_of_ble_eq_true rfl)) dX4_isCylinder_3 ⟨Nat.zero_le _, Nat.zero_le _⟩) (fun H locs hP hS => ?_)
  obtain ⟨hg4, h⟩ := z_g h
  cases h
  exact z_retz C hr hlk hg4 hP hS dX4_isCylinder_6
abbrev rm_X4_at : Room := { frames := 0, cells := 0, slots := 0, locals := 0 }
theorem hd_X4_at : yX4_at.cls ≠ "java/lang/invoke/MethodHandle" ∧ yX4_at.cls ≠ "java/lang/invoke/VarHandle" ∧ (parseMethodDescriptor yX4_at.desc).map (fun d => d.parameters.length) = some 1 := by decide +kernel
theorem hv_X4_at : yX4_at.cls = RX4 ∧ yX4_at.cls ≠ "java/lang/invoke/MethodHandle" ∧ yX4_at.cls ≠ "java/lang/invoke/VarHandle" ∧ (parseMethodDescriptor yX4_at.desc).map (fun d => d.parameters.length) = some 1 := ⟨rfl, hd_X4_at⟩
set_option maxHeartbeats 4000000 in
set_option maxRecDepth 100000 in
theorem c_X4_at (l : Launch) (G : zG) {x0 : Int32} {μ mu1 : Mm} {r : Int32} (h : f_X4_at x0 μ = some (r, mu1)) (sz : Nat) : Met l yX4_at wsX4_at rm_X4_at (z_Pre G μ [.int (x0)] sz) (z_Qi G r mu1 sz) 0 0 (z_A G sz) := by
  refine z_start (cc := cX4_at) (maxL := 1) (ret := (some .int)) (own := RX4) (by decide) rfl rfl (Nat.le_of_ble_eq_true rfl) (fun p e s m args below meth c C hr hlk Z hP ls hl => ?_) sz
  have hx := C.1
  have hb := C.2.1
  have hts := C.2.2.2.2
  have hS : va_S (z_A G s.heap.size) s.heap s.heap [] := va_S.rf
  have hl : lv_has ls 1 [(0, .int (x0))] := hl
  unfold f_X4_at at h
  refine lv_bipush (v := 22) hx hb dX4_at_0 (by decide) ?_
  refine lv_bipush (v := 7) hx hb dX4_at_2 (by decide) ?_
  refine lv_iload_n hx hb dX4_at_4 rfl (lv_at hl 0 rfl) ?_
  refine lv_imul hx hb dX4_at_5 ?_
  refine lv_iadd hx hb dX4_at_6 ?_
  cases h
  exact z_reti C hr hlk hP hS dX4_at_7
abbrev rm_X4_isCut : Room := { frames := 1, cells := 0, slots := 0, locals := 20 }
theorem hd_X4_isCut : yX4_isCut.cls ≠ "java/lang/invoke/MethodHandle" ∧ yX4_isCut.cls ≠ "java/lang/invoke/VarHandle" ∧ (parseMethodDescriptor yX4_isCut.desc).map (fun d => d.parameters.length) = some 1 := by decide +kernel
theorem hv_X4_isCut : yX4_isCut.cls = RX4 ∧ yX4_isCut.cls ≠ "java/lang/invoke/MethodHandle" ∧ yX4_isCut.cls ≠ "java/lang/invoke/VarHandle" ∧ (parseMethodDescriptor yX4_isCut.desc).map (fun d => d.parameters.length) = some 1 := ⟨rfl, hd_X4_isCut⟩
theorem wX4_isCut_0 : Cond.fieldLink RX4 7 "WaxCopiesModel" "s" "[I" ∈ wsX4_isCut := by decide +kernel
theorem inX4_isCut_X4 : ∀ w ∈ wsX40, w ∈ wsX4_isCut := by decide +kernel
set_option maxHeartbeats 4000000 in
set_option maxRecDepth 100000 in
theorem c_X4_isCut (l : Launch) (G : zG) {x1 : Int32} {μ mu1 : Mm} {r : Int32} (h : f_X4_isCut x1 μ = some (r, mu1)) (sz : Nat) : Met l yX4_isCut wsX4_isCut rm_X4_isCut (z_Pre G μ [.ref (G.2.1 (119)), .int (x1)] sz) (z_Qi G r mu1 sz) 0 0 (z_A G sz) := by
  refine z_start (cc := cX4_isCut) (maxL := 2) (ret := (some .boolean)) (own := RX4) (by decide) rfl rfl (Nat.le_of_ble_eq_true rfl) (fun p e s m args below meth c C hr hlk Z hP ls hl => ?_) sz
  have hx := C.1
  have hb := C.2.1
  have hts := C.2.2.2.2
  have hS : va_S (z_A G s.heap.size) s.heap s.heap [] := va_S.rf
  have hl : lv_has ls 2 [(0, .ref (G.2.1 (119))), (1, .int (x1))] := hl
  unfold f_X4_isCut at h
  refine lv_aload_n hx hb dX4_isCut_0 rfl (lv_at hl 0 rfl) ?_
  refine z_get C Z hP (k := 119) (ci := 4) (j := 0) (N := 12) (v := .ref (G.2.1 (120))) (by decide) (z_E_119 _) rfl inX4_isCut_X4 (by decide) wX4_isCut_0 rfl dX4_isCut_1 ?_
  refine lv_iload_n hx hb dX4_isCut_4 rfl (lv_at hl 1 rfl) ?_
  obtain ⟨r1, m2, e3, h⟩ := zb_some h
  refine z_calli hS (va_runS (As := [.int (x1)]) (rest := [.ref (G.2.1 (120))]) C (c_X4_at l G e3 _) (va_cwS 1 hts gX4_isCut_X4_at rfl rfl rfl hd_X4_at ⟨Nat.le_of_ble_eq_true rfl, Nat.le_of_ble_eq_true rfl⟩) (z_preS Z hS hP) rfl rfl hl.1 rfl (lv_room (Nat.le_of_ble_eq_true rfl)) dX4_isCut_5 ⟨Nat.zero_le _, Nat.zero_le _⟩) (fun H locs hP hS => ?_)
  obtain ⟨hg4, h⟩ := z_g h
  refine z_iald C Z hP (k := 120) (n := 1710) (j := (r1).toNatClampNeg) (by decide) (z_E_120 _) hg4 rfl dX4_isCut_8 ?_
  refine lv_if_le (tgt := 16) hx hb dX4_isCut_9 (by decide) (fun hc5 => ?_) (fun hc5 => ?_)
  · have h := z_ip hc5 h
    refine lv_iconst (v := 0) hx hb dX4_isCut_16 (by decide) ?_
    cases h
    exact z_retz C hr hlk rfl hP hS dX4_isCut_17
  · have h := z_in hc5 h
    refine lv_iconst (v := 1) hx hb dX4_isCut_12 (by decide) ?_
    refine lv_goto (tgt := 17) hx hb dX4_isCut_13 (by decide) ?_
    cases h
    exact z_retz C hr hlk rfl hP hS dX4_isCut_17
abbrev rm_X4_layers : Room := { frames := 0, cells := 0, slots := 0, locals := 0 }
theorem hd_X4_layers : yX4_layers.cls ≠ "java/lang/invoke/MethodHandle" ∧ yX4_layers.cls ≠ "java/lang/invoke/VarHandle" ∧ (parseMethodDescriptor yX4_layers.desc).map (fun d => d.parameters.length) = some 1 := by decide +kernel
theorem hv_X4_layers : yX4_layers.cls = RX4 ∧ yX4_layers.cls ≠ "java/lang/invoke/MethodHandle" ∧ yX4_layers.cls ≠ "java/lang/invoke/VarHandle" ∧ (parseMethodDescriptor yX4_layers.desc).map (fun d => d.parameters.length) = some 1 := ⟨rfl, hd_X4_layers⟩
theorem wX4_layers_0 : Cond.fieldLink RX4 7 "WaxCopiesModel" "s" "[I" ∈ wsX4_layers := by decide +kernel
theorem inX4_layers_X4 : ∀ w ∈ wsX40, w ∈ wsX4_layers := by decide +kernel
set_option maxHeartbeats 4000000 in
set_option maxRecDepth 100000 in
theorem c_X4_layers (l : Launch) (G : zG) {x1 : Int32} {μ mu1 : Mm} {r : Int32} (h : f_X4_layers x1 μ = some (r, mu1)) (sz : Nat) : Met l yX4_layers wsX4_layers rm_X4_layers (z_Pre G μ [.ref (G.2.1 (119)), .int (x1)] sz) (z_Qi G r mu1 sz) 0 0 (z_A G sz) := by
  refine z_start (cc := cX4_layers) (maxL := 2) (ret := (some .int)) (own := RX4) (by decide) rfl rfl (Nat.le_of_ble_eq_true rfl) (fun p e s m args below meth c C hr hlk Z hP ls hl => ?_) sz
  have hx := C.1
  have hb := C.2.1
  have hts := C.2.2.2.2
  have hS : va_S (z_A G s.heap.size) s.heap s.heap [] := va_S.rf
  have hl : lv_has ls 2 [(0, .ref (G.2.1 (119))), (1, .int (x1))] := hl
  unfold f_X4_layers at h
  refine lv_aload_n hx hb dX4_layers_0 rfl (lv_at hl 0 rfl) ?_
  refine z_get C Z hP (k := 119) (ci := 4) (j := 0) (N := 12) (v := .ref (G.2.1 (120))) (by decide) (z_E_119 _) rfl inX4_layers_X4 (by decide) wX4_layers_0 rfl dX4_layers_1 ?_
  refine lv_bipush (v := 10) hx hb dX4_layers_4 (by decide) ?_
  refine lv_iconst (v := 2) hx hb dX4_layers_6 (by decide) ?_
  refine lv_iload_n hx hb dX4_layers_7 rfl (lv_at hl 1 rfl) ?_
  refine lv_iconst (v := 4) hx hb dX4_layers_8 (by decide) ?_
  refine lv_idiv hx hb dX4_layers_9 (by decide) ?_
  refine lv_imul hx hb dX4_layers_10 ?_
  refine lv_iadd hx hb dX4_layers_11 ?_
  obtain ⟨hg1, h⟩ := z_g h
  refine z_iald C Z hP (k := 120) (n := 1710) (j := ((10 + (2 * (x1 / 4)))).toNatClampNeg) (by decide) (z_E_120 _) hg1 rfl dX4_layers_12 ?_
  cases h
  exact z_reti C hr hlk hP hS dX4_layers_13
abbrev rm_X4_cuts : Room := { frames := 2, cells := 0, slots := 0, locals := 41 }
theorem hd_X4_cuts : yX4_cuts.cls ≠ "java/lang/invoke/MethodHandle" ∧ yX4_cuts.cls ≠ "java/lang/invoke/VarHandle" ∧ (parseMethodDescriptor yX4_cuts.desc).map (fun d => d.parameters.length) = some 0 := by decide +kernel
theorem hv_X4_cuts : yX4_cuts.cls = RX4 ∧ yX4_cuts.cls ≠ "java/lang/invoke/MethodHandle" ∧ yX4_cuts.cls ≠ "java/lang/invoke/VarHandle" ∧ (parseMethodDescriptor yX4_cuts.desc).map (fun d => d.parameters.length) = some 0 := ⟨rfl, hd_X4_cuts⟩
set_option maxHeartbeats 4000000 in
set_option maxRecDepth 100000 in
theorem L_X4_cuts_b4 {p : Program} {l : Launch} {e : Env} {s : State} {m : MethodId} {args : Array Value} {below : List Frame} {meth : Method} {c : Code} {G : zG} {r : Int32} {mu1 : Mm}  (C : CallFix p m c cX4_cuts 3 s args wsX4_cuts RX4) (hr : meth.sig.returnType = (some .int)) (hlk : meth.locks = false) (Z : z_Z G (z_A G s.heap.size) s)  :
    ∀ (n : Nat) (x1 : Int32) (x2 : Int32) (μ : Mm), f_X4_cuts_b4  n x1 x2 μ = some (r, mu1) → ∀ (H : Heap) (locs : List Loc), z_P G μ H → va_S (z_A G s.heap.size) s.heap H locs → ∀ ls : Array Slot, lv_has ls 3 [(0, .ref (G.2.1 (119))), (1, .int (x1)), (2, .int (x2))] → W p l e rm_X4_cuts s m args below meth c H locs 0 0 (MQ below (z_Qi G r mu1 s.heap.size) args s 0 0 (z_A G s.heap.size)) (F0 m 4 ls []) := by
  have hx := C.1
  have hb := C.2.1
  have hts := C.2.2.2.2
  intro n
  induction n with
  | zero =>
    intro x1 x2 μ h
    rw [f_X4_cuts_b4] at h
    cases h
  | succ n ih =>
    intro x1 x2 μ h H locs hP hS ls hl
    rw [f_X4_cuts_b4] at h
    refine lv_iload_n hx hb dX4_cuts_4 rfl (lv_at hl 2 rfl) ?_
    refine lv_bipush (v := 24) hx hb dX4_cuts_5 (by decide) ?_
    refine lv_icmp_ge (tgt := 32) hx hb dX4_cuts_7 (by decide) (fun hc1 => ?_) (fun hc1 => ?_)
    · have h := z_ip hc1 h
      refine lv_iload_n hx hb dX4_cuts_32 rfl (lv_at hl 1 rfl) ?_
      cases h
      exact z_reti C hr hlk hP hS dX4_cuts_33
    · have h := z_in hc1 h
      refine lv_iload_n hx hb dX4_cuts_10 rfl (lv_at hl 1 rfl) ?_
      refine lv_aload_n hx hb dX4_cuts_11 rfl (lv_at hl 0 rfl) ?_
      refine lv_iload_n hx hb dX4_cuts_12 rfl (lv_at hl 2 rfl) ?_
      obtain ⟨r2, m3, e4, h⟩ := zb_some h
      refine z_calli hS (va_runV (As := [.int (x2)]) (rest := [.int (x1)]) C (c_X4_isCut l G e4 _) (cwV 1 hts gX4_cuts_X4_isCut rfl rfl rfl hv_X4_isCut ⟨Nat.le_of_ble_eq_true rfl, Nat.le_of_ble_eq_true rfl⟩) (z_preV Z hS hP (by decide) (z_E_119 _) rfl rfl) rfl rfl hl.1 rfl (lv_room (Nat.le_of_ble_eq_true rfl)) dX4_cuts_13 ⟨Nat.zero_le _, Nat.zero_le _⟩) (fun H locs hP hS => ?_)
      refine lv_if_eq (tgt := 23) hx hb dX4_cuts_16 (by decide) (fun hc5 => ?_) (fun hc5 => ?_)
      · have h := z_ip hc5 h
        refine lv_iconst (v := 0) hx hb dX4_cuts_23 (by decide) ?_
        refine lv_iadd hx hb dX4_cuts_24 ?_
        refine lv_istore_n (lv' := [(1, .int ((x1 + 0))), (0, .ref (G.2.1 (119))), (2, .int (x2))]) hx hb dX4_cuts_25 rfl hl (by decide) rfl (fun ls hl => ?_)
        refine lv_iinc (v := (x2 + 1)) (lv' := [(2, .int ((x2 + 1))), (1, .int ((x1 + 0))), (0, .ref (G.2.1 (119)))]) hx hb dX4_cuts_26 hl (k := 2) rfl rfl (by decide) rfl (fun ls hl => ?_)
        refine lv_goto (tgt := 4) hx hb dX4_cuts_29 (by decide) ?_
        exact ih _ _ _ h _ _ hP hS ls (lv_sub hl [2, 1, 0] rfl)
      · have h := z_in hc5 h
        refine lv_iconst (v := 1) hx hb dX4_cuts_19 (by decide) ?_
        refine lv_goto (tgt := 24) hx hb dX4_cuts_20 (by decide) ?_
        refine lv_iadd hx hb dX4_cuts_24 ?_
        refine lv_istore_n (lv' := [(1, .int ((x1 + 1))), (0, .ref (G.2.1 (119))), (2, .int (x2))]) hx hb dX4_cuts_25 rfl hl (by decide) rfl (fun ls hl => ?_)
        refine lv_iinc (v := (x2 + 1)) (lv' := [(2, .int ((x2 + 1))), (1, .int ((x1 + 1))), (0, .ref (G.2.1 (119)))]) hx hb dX4_cuts_26 hl (k := 2) rfl rfl (by decide) rfl (fun ls hl => ?_)
        refine lv_goto (tgt := 4) hx hb dX4_cuts_29 (by decide) ?_
        exact ih _ _ _ h _ _ hP hS ls (lv_sub hl [2, 1, 0] rfl)
set_option maxHeartbeats 4000000 in
set_option maxRecDepth 100000 in
theorem c_X4_cuts (l : Launch) (G : zG) {μ mu1 : Mm} {r : Int32} (h : f_X4_cuts μ = some (r, mu1)) (sz : Nat) : Met l yX4_cuts wsX4_cuts rm_X4_cuts (z_Pre G μ [.ref (G.2.1 (119))] sz) (z_Qi G r mu1 sz) 0 0 (z_A G sz) := by
  refine z_start (cc := cX4_cuts) (maxL := 3) (ret := (some .int)) (own := RX4) (by decide) rfl rfl (Nat.le_of_ble_eq_true rfl) (fun p e s m args below meth c C hr hlk Z hP ls hl => ?_) sz
  have hx := C.1
  have hb := C.2.1
  have hts := C.2.2.2.2
  have hS : va_S (z_A G s.heap.size) s.heap s.heap [] := va_S.rf
  have hl : lv_has ls 3 [(0, .ref (G.2.1 (119)))] := hl
  unfold f_X4_cuts at h
  refine lv_iconst (v := 0) hx hb dX4_cuts_0 (by decide) ?_
  refine lv_istore_n (lv' := [(1, .int (0)), (0, .ref (G.2.1 (119)))]) hx hb dX4_cuts_1 rfl hl (by decide) rfl (fun ls hl => ?_)
  refine lv_iconst (v := 0) hx hb dX4_cuts_2 (by decide) ?_
  refine lv_istore_n (lv' := [(2, .int (0)), (1, .int (0)), (0, .ref (G.2.1 (119)))]) hx hb dX4_cuts_3 rfl hl (by decide) rfl (fun ls hl => ?_)
  exact L_X4_cuts_b4 C hr hlk Z z_F _ _ _ h _ _ hP hS ls (lv_sub hl [2, 1, 0] rfl)
abbrev rm_X4_machineFlutter : Room := { frames := 0, cells := 0, slots := 0, locals := 0 }
theorem hd_X4_machineFlutter : yX4_machineFlutter.cls ≠ "java/lang/invoke/MethodHandle" ∧ yX4_machineFlutter.cls ≠ "java/lang/invoke/VarHandle" ∧ (parseMethodDescriptor yX4_machineFlutter.desc).map (fun d => d.parameters.length) = some 0 := by decide +kernel
theorem hv_X4_machineFlutter : yX4_machineFlutter.cls = RX4 ∧ yX4_machineFlutter.cls ≠ "java/lang/invoke/MethodHandle" ∧ yX4_machineFlutter.cls ≠ "java/lang/invoke/VarHandle" ∧ (parseMethodDescriptor yX4_machineFlutter.desc).map (fun d => d.parameters.length) = some 0 := ⟨rfl, hd_X4_machineFlutter⟩
theorem wX4_machineFlutter_0 : Cond.fieldLink RX4 7 "WaxCopiesModel" "s" "[I" ∈ wsX4_machineFlutter := by decide +kernel
theorem inX4_machineFlutter_X4 : ∀ w ∈ wsX40, w ∈ wsX4_machineFlutter := by decide +kernel
set_option maxHeartbeats 4000000 in
set_option maxRecDepth 100000 in
theorem c_X4_machineFlutter (l : Launch) (G : zG) {μ mu1 : Mm} {r : Int32} (h : f_X4_machineFlutter μ = some (r, mu1)) (sz : Nat) : Met l yX4_machineFlutter wsX4_machineFlutter rm_X4_machineFlutter (z_Pre G μ [.ref (G.2.1 (119))] sz) (z_Qi G r mu1 sz) 0 0 (z_A G sz) := by
  refine z_start (cc := cX4_machineFlutter) (maxL := 1) (ret := (some .int)) (own := RX4) (by decide) rfl rfl (Nat.le_of_ble_eq_true rfl) (fun p e s m args below meth c C hr hlk Z hP ls hl => ?_) sz
  have hx := C.1
  have hb := C.2.1
  have hts := C.2.2.2.2
  have hS : va_S (z_A G s.heap.size) s.heap s.heap [] := va_S.rf
  have hl : lv_has ls 1 [(0, .ref (G.2.1 (119)))] := hl
  unfold f_X4_machineFlutter at h
  refine lv_aload_n hx hb dX4_machineFlutter_0 rfl (lv_at hl 0 rfl) ?_
  refine z_get C Z hP (k := 119) (ci := 4) (j := 0) (N := 12) (v := .ref (G.2.1 (120))) (by decide) (z_E_119 _) rfl inX4_machineFlutter_X4 (by decide) wX4_machineFlutter_0 rfl dX4_machineFlutter_1 ?_
  refine lv_iconst (v := 1) hx hb dX4_machineFlutter_4 (by decide) ?_
  refine z_iald C Z hP (k := 120) (n := 1710) (j := 1) (by decide) (z_E_120 _) (show z_ix 1 1710 by decide) rfl dX4_machineFlutter_5 ?_
  refine lv_bipush (v := 50) hx hb dX4_machineFlutter_6 (by decide) ?_
  refine lv_icmp_lt (tgt := 15) hx hb dX4_machineFlutter_8 (by decide) (fun hc1 => ?_) (fun hc1 => ?_)
  · have h := z_ip hc1 h
    refine lv_bipush (v := 50) hx hb dX4_machineFlutter_15 (by decide) ?_
    refine lv_aload_n hx hb dX4_machineFlutter_17 rfl (lv_at hl 0 rfl) ?_
    refine z_get C Z hP (k := 119) (ci := 4) (j := 0) (N := 12) (v := .ref (G.2.1 (120))) (by decide) (z_E_119 _) rfl inX4_machineFlutter_X4 (by decide) wX4_machineFlutter_0 rfl dX4_machineFlutter_18 ?_
    refine lv_iconst (v := 1) hx hb dX4_machineFlutter_21 (by decide) ?_
    refine z_iald C Z hP (k := 120) (n := 1710) (j := 1) (by decide) (z_E_120 _) (show z_ix 1 1710 by decide) rfl dX4_machineFlutter_22 ?_
    refine lv_isub hx hb dX4_machineFlutter_23 ?_
    refine lv_iconst (v := 5) hx hb dX4_machineFlutter_24 (by decide) ?_
    refine lv_idiv hx hb dX4_machineFlutter_25 (by decide) ?_
    cases h
    exact z_reti C hr hlk hP hS dX4_machineFlutter_26
  · have h := z_in hc1 h
    refine lv_iconst (v := 0) hx hb dX4_machineFlutter_11 (by decide) ?_
    refine lv_goto (tgt := 26) hx hb dX4_machineFlutter_12 (by decide) ?_
    cases h
    exact z_reti C hr hlk hP hS dX4_machineFlutter_26
abbrev rm_X4_bluntness : Room := { frames := 0, cells := 0, slots := 0, locals := 0 }
theorem hd_X4_bluntness : yX4_bluntness.cls ≠ "java/lang/invoke/MethodHandle" ∧ yX4_bluntness.cls ≠ "java/lang/invoke/VarHandle" ∧ (parseMethodDescriptor yX4_bluntness.desc).map (fun d => d.parameters.length) = some 1 := by decide +kernel
theorem hv_X4_bluntness : yX4_bluntness.cls = RX4 ∧ yX4_bluntness.cls ≠ "java/lang/invoke/MethodHandle" ∧ yX4_bluntness.cls ≠ "java/lang/invoke/VarHandle" ∧ (parseMethodDescriptor yX4_bluntness.desc).map (fun d => d.parameters.length) = some 1 := ⟨rfl, hd_X4_bluntness⟩
set_option maxHeartbeats 4000000 in
set_option maxRecDepth 100000 in
theorem c_X4_bluntness (l : Launch) (G : zG) {x0 : Int32} {μ mu1 : Mm} {r : Int32} (h : f_X4_bluntness x0 μ = some (r, mu1)) (sz : Nat) : Met l yX4_bluntness wsX4_bluntness rm_X4_bluntness (z_Pre G μ [.int (x0)] sz) (z_Qi G r mu1 sz) 0 0 (z_A G sz) := by
  refine z_start (cc := cX4_bluntness) (maxL := 1) (ret := (some .int)) (own := RX4) (by decide) rfl rfl (Nat.le_of_ble_eq_true rfl) (fun p e s m args below meth c C hr hlk Z hP ls hl => ?_) sz
  have hx := C.1
  have hb := C.2.1
  have hts := C.2.2.2.2
  have hS : va_S (z_A G s.heap.size) s.heap s.heap [] := va_S.rf
  have hl : lv_has ls 1 [(0, .int (x0))] := hl
  unfold f_X4_bluntness at h
  refine lv_bipush (v := 100) hx hb dX4_bluntness_0 (by decide) ?_
  refine lv_iload_n hx hb dX4_bluntness_2 rfl (lv_at hl 0 rfl) ?_
  refine lv_isub hx hb dX4_bluntness_3 ?_
  refine lv_iconst (v := 4) hx hb dX4_bluntness_4 (by decide) ?_
  refine lv_idiv hx hb dX4_bluntness_5 (by decide) ?_
  cases h
  exact z_reti C hr hlk hP hS dX4_bluntness_6
abbrev rm_X4_depthBy : Room := { frames := 0, cells := 0, slots := 0, locals := 0 }
theorem hd_X4_depthBy : yX4_depthBy.cls ≠ "java/lang/invoke/MethodHandle" ∧ yX4_depthBy.cls ≠ "java/lang/invoke/VarHandle" ∧ (parseMethodDescriptor yX4_depthBy.desc).map (fun d => d.parameters.length) = some 2 := by decide +kernel
theorem hv_X4_depthBy : yX4_depthBy.cls = RX4 ∧ yX4_depthBy.cls ≠ "java/lang/invoke/MethodHandle" ∧ yX4_depthBy.cls ≠ "java/lang/invoke/VarHandle" ∧ (parseMethodDescriptor yX4_depthBy.desc).map (fun d => d.parameters.length) = some 2 := ⟨rfl, hd_X4_depthBy⟩
set_option maxHeartbeats 4000000 in
set_option maxRecDepth 100000 in
theorem c_X4_depthBy (l : Launch) (G : zG) {x0 : Int32} {x1 : Int32} {μ mu1 : Mm} {r : Int32} (h : f_X4_depthBy x0 x1 μ = some (r, mu1)) (sz : Nat) : Met l yX4_depthBy wsX4_depthBy rm_X4_depthBy (z_Pre G μ [.int (x0), .int (x1)] sz) (z_Qi G r mu1 sz) 0 0 (z_A G sz) := by
  refine z_start (cc := cX4_depthBy) (maxL := 3) (ret := (some .int)) (own := RX4) (by decide) rfl rfl (Nat.le_of_ble_eq_true rfl) (fun p e s m args below meth c C hr hlk Z hP ls hl => ?_) sz
  have hx := C.1
  have hb := C.2.1
  have hts := C.2.2.2.2
  have hS : va_S (z_A G s.heap.size) s.heap s.heap [] := va_S.rf
  have hl : lv_has ls 3 [(0, .int (x0)), (1, .int (x1))] := hl
  unfold f_X4_depthBy at h
  refine lv_iload_n hx hb dX4_depthBy_0 rfl (lv_at hl 0 rfl) ?_
  refine lv_iload_n hx hb dX4_depthBy_1 rfl (lv_at hl 1 rfl) ?_
  refine lv_imul hx hb dX4_depthBy_2 ?_
  refine lv_iconst (v := 2) hx hb dX4_depthBy_3 (by decide) ?_
  refine lv_idiv hx hb dX4_depthBy_4 (by decide) ?_
  refine lv_istore_n (lv' := [(2, .int (((x0 * x1) / 2))), (0, .int (x0)), (1, .int (x1))]) hx hb dX4_depthBy_5 rfl hl (by decide) rfl (fun ls hl => ?_)
  refine lv_iload_n hx hb dX4_depthBy_6 rfl (lv_at hl 0 rfl) ?_
  refine lv_iconst (v := 1) hx hb dX4_depthBy_7 (by decide) ?_
  refine lv_icmp_ge (tgt := 15) hx hb dX4_depthBy_8 (by decide) (fun hc1 => ?_) (fun hc1 => ?_)
  · have h := z_ip hc1 h
    refine lv_iload_n hx hb dX4_depthBy_15 rfl (lv_at hl 0 rfl) ?_
    refine lv_bipush (v := 9) hx hb dX4_depthBy_16 (by decide) ?_
    refine lv_icmp_le (tgt := 26) hx hb dX4_depthBy_18 (by decide) (fun hc2 => ?_) (fun hc2 => ?_)
    · have h := z_ip hc2 h
      refine lv_iload_n hx hb dX4_depthBy_26 rfl (lv_at hl 0 rfl) ?_
      cases h
      exact z_reti C hr hlk hP hS dX4_depthBy_27
    · have h := z_in hc2 h
      refine lv_bipush (v := 9) hx hb dX4_depthBy_21 (by decide) ?_
      refine lv_goto (tgt := 27) hx hb dX4_depthBy_23 (by decide) ?_
      cases h
      exact z_reti C hr hlk hP hS dX4_depthBy_27
  · have h := z_in hc1 h
    refine lv_iconst (v := 1) hx hb dX4_depthBy_11 (by decide) ?_
    refine lv_goto (tgt := 27) hx hb dX4_depthBy_12 (by decide) ?_
    cases h
    exact z_reti C hr hlk hP hS dX4_depthBy_27
abbrev rm_X4_smooths : Room := { frames := 1, cells := 0, slots := 0, locals := 20 }
theorem hd_X4_smooths : yX4_smooths.cls ≠ "java/lang/invoke/MethodHandle" ∧ yX4_smooths.cls ≠ "java/lang/invoke/VarHandle" ∧ (parseMethodDescriptor yX4_smooths.desc).map (fun d => d.parameters.length) = some 1 := by decide +kernel
theorem hv_X4_smooths : yX4_smooths.cls = RX4 ∧ yX4_smooths.cls ≠ "java/lang/invoke/MethodHandle" ∧ yX4_smooths.cls ≠ "java/lang/invoke/VarHandle" ∧ (parseMethodDescriptor yX4_smooths.desc).map (fun d => d.parameters.length) = some 1 := ⟨rfl, hd_X4_smooths⟩
theorem wX4_smooths_0 : Cond.fieldLink RX4 7 "WaxCopiesModel" "s" "[I" ∈ wsX4_smooths := by decide +kernel
theorem inX4_smooths_X4 : ∀ w ∈ wsX40, w ∈ wsX4_smooths := by decide +kernel
set_option maxHeartbeats 4000000 in
set_option maxRecDepth 100000 in
theorem L_X4_smooths_b4 {p : Program} {l : Launch} {e : Env} {s : State} {m : MethodId} {args : Array Value} {below : List Frame} {meth : Method} {c : Code} {G : zG} {r : Unit} {mu1 : Mm}  (C : CallFix p m c cX4_smooths 3 s args wsX4_smooths RX4) (hr : meth.sig.returnType = none) (hlk : meth.locks = false) (Z : z_Z G (z_A G s.heap.size) s)  :
    ∀ (n : Nat) (x1 : Int32) (x2 : Int32) (μ : Mm), f_X4_smooths_b4  n x1 x2 μ = some (r, mu1) → ∀ (H : Heap) (locs : List Loc), z_P G μ H → va_S (z_A G s.heap.size) s.heap H locs → ∀ ls : Array Slot, lv_has ls 3 [(0, .ref (G.2.1 (119))), (1, .int (x1)), (2, .int (x2))] → W p l e rm_X4_smooths s m args below meth c H locs 0 0 (MQ below (z_Qv G r mu1 s.heap.size) args s 0 0 (z_A G s.heap.size)) (F0 m 4 ls []) := by
  have hx := C.1
  have hb := C.2.1
  have hts := C.2.2.2.2
  intro n
  induction n with
  | zero =>
    intro x1 x2 μ h
    rw [f_X4_smooths_b4] at h
    cases h
  | succ n ih =>
    intro x1 x2 μ h H locs hP hS ls hl
    rw [f_X4_smooths_b4] at h
    refine lv_iload_n hx hb dX4_smooths_4 rfl (lv_at hl 2 rfl) ?_
    refine lv_iconst (v := 4) hx hb dX4_smooths_5 (by decide) ?_
    refine lv_iload_n hx hb dX4_smooths_6 rfl (lv_at hl 1 rfl) ?_
    refine lv_imul hx hb dX4_smooths_7 ?_
    refine lv_iconst (v := 4) hx hb dX4_smooths_8 (by decide) ?_
    refine lv_iadd hx hb dX4_smooths_9 ?_
    refine lv_icmp_ge (tgt := 29) hx hb dX4_smooths_10 (by decide) (fun hc1 => ?_) (fun hc1 => ?_)
    · have h := z_ip hc1 h
      cases h
      exact z_retv C hr hlk hP hS dX4_smooths_29
    · have h := z_in hc1 h
      refine lv_aload_n hx hb dX4_smooths_13 rfl (lv_at hl 0 rfl) ?_
      refine z_get C Z hP (k := 119) (ci := 4) (j := 0) (N := 12) (v := .ref (G.2.1 (120))) (by decide) (z_E_119 _) rfl inX4_smooths_X4 (by decide) wX4_smooths_0 rfl dX4_smooths_14 ?_
      refine lv_iload_n hx hb dX4_smooths_17 rfl (lv_at hl 2 rfl) ?_
      obtain ⟨r2, m3, e4, h⟩ := zb_some h
      refine z_calli hS (va_runS (As := [.int (x2)]) (rest := [.ref (G.2.1 (120))]) C (c_X4_at l G e4 _) (va_cwS 1 hts gX4_smooths_X4_at rfl rfl rfl hd_X4_at ⟨Nat.le_of_ble_eq_true rfl, Nat.le_of_ble_eq_true rfl⟩) (z_preS Z hS hP) rfl rfl hl.1 rfl (lv_room (Nat.le_of_ble_eq_true rfl)) dX4_smooths_18 ⟨Nat.zero_le _, Nat.zero_le _⟩) (fun H locs hP hS => ?_)
      refine lv_iconst (v := 0) hx hb dX4_smooths_21 (by decide) ?_
      obtain ⟨hg5, h⟩ := z_g h
      refine z_iast C Z hP hS (k := 120) (n := 1710) (j := (r2).toNatClampNeg) (by decide) (fun r => z_E_120 r) hg5 rfl dX4_smooths_22 (fun H locs hP hS => ?_)
      refine lv_iinc (v := (x2 + 1)) (lv' := [(2, .int ((x2 + 1))), (0, .ref (G.2.1 (119))), (1, .int (x1))]) hx hb dX4_smooths_23 hl (k := 2) rfl rfl (by decide) rfl (fun ls hl => ?_)
      refine lv_goto (tgt := 4) hx hb dX4_smooths_26 (by decide) ?_
      exact ih _ _ _ h _ _ hP hS ls (lv_sub hl [1, 2, 0] rfl)
set_option maxHeartbeats 4000000 in
set_option maxRecDepth 100000 in
theorem c_X4_smooths (l : Launch) (G : zG) {x1 : Int32} {μ mu1 : Mm} {r : Unit} (h : f_X4_smooths x1 μ = some (r, mu1)) (sz : Nat) : Met l yX4_smooths wsX4_smooths rm_X4_smooths (z_Pre G μ [.ref (G.2.1 (119)), .int (x1)] sz) (z_Qv G r mu1 sz) 0 0 (z_A G sz) := by
  refine z_start (cc := cX4_smooths) (maxL := 3) (ret := none) (own := RX4) (by decide) rfl rfl (Nat.le_of_ble_eq_true rfl) (fun p e s m args below meth c C hr hlk Z hP ls hl => ?_) sz
  have hx := C.1
  have hb := C.2.1
  have hts := C.2.2.2.2
  have hS : va_S (z_A G s.heap.size) s.heap s.heap [] := va_S.rf
  have hl : lv_has ls 3 [(0, .ref (G.2.1 (119))), (1, .int (x1))] := hl
  unfold f_X4_smooths at h
  refine lv_iconst (v := 4) hx hb dX4_smooths_0 (by decide) ?_
  refine lv_iload_n hx hb dX4_smooths_1 rfl (lv_at hl 1 rfl) ?_
  refine lv_imul hx hb dX4_smooths_2 ?_
  refine lv_istore_n (lv' := [(2, .int ((4 * x1))), (0, .ref (G.2.1 (119))), (1, .int (x1))]) hx hb dX4_smooths_3 rfl hl (by decide) rfl (fun ls hl => ?_)
  exact L_X4_smooths_b4 C hr hlk Z z_F _ _ _ h _ _ hP hS ls (lv_sub hl [1, 2, 0] rfl)
abbrev rm_X4_deepest : Room := { frames := 1, cells := 0, slots := 0, locals := 21 }
theorem hd_X4_deepest : yX4_deepest.cls ≠ "java/lang/invoke/MethodHandle" ∧ yX4_deepest.cls ≠ "java/lang/invoke/VarHandle" ∧ (parseMethodDescriptor yX4_deepest.desc).map (fun d => d.parameters.length) = some 1 := by decide +kernel
theorem hv_X4_deepest : yX4_deepest.cls = RX4 ∧ yX4_deepest.cls ≠ "java/lang/invoke/MethodHandle" ∧ yX4_deepest.cls ≠ "java/lang/invoke/VarHandle" ∧ (parseMethodDescriptor yX4_deepest.desc).map (fun d => d.parameters.length) = some 1 := ⟨rfl, hd_X4_deepest⟩
theorem wX4_deepest_0 : Cond.fieldLink RX4 7 "WaxCopiesModel" "s" "[I" ∈ wsX4_deepest := by decide +kernel
theorem inX4_deepest_X4 : ∀ w ∈ wsX40, w ∈ wsX4_deepest := by decide +kernel
set_option maxHeartbeats 4000000 in
set_option maxRecDepth 100000 in
theorem L_X4_deepest_b6 {p : Program} {l : Launch} {e : Env} {s : State} {m : MethodId} {args : Array Value} {below : List Frame} {meth : Method} {c : Code} {G : zG} {r : Int32} {mu1 : Mm}  (C : CallFix p m c cX4_deepest 4 s args wsX4_deepest RX4) (hr : meth.sig.returnType = (some .int)) (hlk : meth.locks = false) (Z : z_Z G (z_A G s.heap.size) s)  :
    ∀ (n : Nat) (x1 : Int32) (x2 : Int32) (x3 : Int32) (μ : Mm), f_X4_deepest_b6  n x1 x2 x3 μ = some (r, mu1) → ∀ (H : Heap) (locs : List Loc), z_P G μ H → va_S (z_A G s.heap.size) s.heap H locs → ∀ ls : Array Slot, lv_has ls 4 [(0, .ref (G.2.1 (119))), (1, .int (x1)), (2, .int (x2)), (3, .int (x3))] → W p l e rm_X4_deepest s m args below meth c H locs 0 0 (MQ below (z_Qi G r mu1 s.heap.size) args s 0 0 (z_A G s.heap.size)) (F0 m 6 ls []) := by
  have hx := C.1
  have hb := C.2.1
  have hts := C.2.2.2.2
  intro n
  induction n with
  | zero =>
    intro x1 x2 x3 μ h
    rw [f_X4_deepest_b6] at h
    cases h
  | succ n ih =>
    intro x1 x2 x3 μ h H locs hP hS ls hl
    rw [f_X4_deepest_b6] at h
    refine lv_iload_n hx hb dX4_deepest_6 rfl (lv_at hl 3 rfl) ?_
    refine lv_iconst (v := 4) hx hb dX4_deepest_7 (by decide) ?_
    refine lv_iload_n hx hb dX4_deepest_8 rfl (lv_at hl 1 rfl) ?_
    refine lv_imul hx hb dX4_deepest_9 ?_
    refine lv_iconst (v := 4) hx hb dX4_deepest_10 (by decide) ?_
    refine lv_iadd hx hb dX4_deepest_11 ?_
    refine lv_icmp_ge (tgt := 35) hx hb dX4_deepest_12 (by decide) (fun hc1 => ?_) (fun hc1 => ?_)
    · have h := z_ip hc1 h
      refine lv_iload_n hx hb dX4_deepest_35 rfl (lv_at hl 2 rfl) ?_
      cases h
      exact z_reti C hr hlk hP hS dX4_deepest_36
    · have h := z_in hc1 h
      refine lv_aload_n hx hb dX4_deepest_15 rfl (lv_at hl 0 rfl) ?_
      refine z_get C Z hP (k := 119) (ci := 4) (j := 0) (N := 12) (v := .ref (G.2.1 (120))) (by decide) (z_E_119 _) rfl inX4_deepest_X4 (by decide) wX4_deepest_0 rfl dX4_deepest_16 ?_
      refine lv_iload_n hx hb dX4_deepest_19 rfl (lv_at hl 3 rfl) ?_
      obtain ⟨r2, m3, e4, h⟩ := zb_some h
      refine z_calli hS (va_runS (As := [.int (x3)]) (rest := [.ref (G.2.1 (120))]) C (c_X4_at l G e4 _) (va_cwS 1 hts gX4_deepest_X4_at rfl rfl rfl hd_X4_at ⟨Nat.le_of_ble_eq_true rfl, Nat.le_of_ble_eq_true rfl⟩) (z_preS Z hS hP) rfl rfl hl.1 rfl (lv_room (Nat.le_of_ble_eq_true rfl)) dX4_deepest_20 ⟨Nat.zero_le _, Nat.zero_le _⟩) (fun H locs hP hS => ?_)
      obtain ⟨hg5, h⟩ := z_g h
      refine z_iald C Z hP (k := 120) (n := 1710) (j := (r2).toNatClampNeg) (by decide) (z_E_120 _) hg5 rfl dX4_deepest_23 ?_
      refine lv_iload_n hx hb dX4_deepest_24 rfl (lv_at hl 2 rfl) ?_
      obtain ⟨r6, m7, e8, h⟩ := zb_some h
      refine z_calli hS (va_runS (As := [.int ((m3 (120) ((r2).toNatClampNeg))), .int (x2)]) (rest := []) C (c_X4_atLeast l G e8 _) (va_cwS 2 hts gX4_deepest_X4_atLeast rfl rfl rfl hd_X4_atLeast ⟨Nat.le_of_ble_eq_true rfl, Nat.le_of_ble_eq_true rfl⟩) (z_preS Z hS hP) rfl rfl hl.1 rfl (lv_room (Nat.le_of_ble_eq_true rfl)) dX4_deepest_25 ⟨Nat.zero_le _, Nat.zero_le _⟩) (fun H locs hP hS => ?_)
      refine lv_istore_n (lv' := [(2, .int (r6)), (0, .ref (G.2.1 (119))), (1, .int (x1)), (3, .int (x3))]) hx hb dX4_deepest_28 rfl hl (by decide) rfl (fun ls hl => ?_)
      refine lv_iinc (v := (x3 + 1)) (lv' := [(3, .int ((x3 + 1))), (2, .int (r6)), (0, .ref (G.2.1 (119))), (1, .int (x1))]) hx hb dX4_deepest_29 hl (k := 3) rfl rfl (by decide) rfl (fun ls hl => ?_)
      refine lv_goto (tgt := 6) hx hb dX4_deepest_32 (by decide) ?_
      exact ih _ _ _ _ h _ _ hP hS ls (lv_sub hl [2, 3, 1, 0] rfl)
set_option maxHeartbeats 4000000 in
set_option maxRecDepth 100000 in
theorem c_X4_deepest (l : Launch) (G : zG) {x1 : Int32} {μ mu1 : Mm} {r : Int32} (h : f_X4_deepest x1 μ = some (r, mu1)) (sz : Nat) : Met l yX4_deepest wsX4_deepest rm_X4_deepest (z_Pre G μ [.ref (G.2.1 (119)), .int (x1)] sz) (z_Qi G r mu1 sz) 0 0 (z_A G sz) := by
  refine z_start (cc := cX4_deepest) (maxL := 4) (ret := (some .int)) (own := RX4) (by decide) rfl rfl (Nat.le_of_ble_eq_true rfl) (fun p e s m args below meth c C hr hlk Z hP ls hl => ?_) sz
  have hx := C.1
  have hb := C.2.1
  have hts := C.2.2.2.2
  have hS : va_S (z_A G s.heap.size) s.heap s.heap [] := va_S.rf
  have hl : lv_has ls 4 [(0, .ref (G.2.1 (119))), (1, .int (x1))] := hl
  unfold f_X4_deepest at h
  refine lv_iconst (v := 0) hx hb dX4_deepest_0 (by decide) ?_
  refine lv_istore_n (lv' := [(2, .int (0)), (0, .ref (G.2.1 (119))), (1, .int (x1))]) hx hb dX4_deepest_1 rfl hl (by decide) rfl (fun ls hl => ?_)
  refine lv_iconst (v := 4) hx hb dX4_deepest_2 (by decide) ?_
  refine lv_iload_n hx hb dX4_deepest_3 rfl (lv_at hl 2 rfl) ?_
  refine lv_imul hx hb dX4_deepest_4 ?_
  refine lv_istore_n (lv' := [(3, .int ((4 * x1))), (2, .int (0)), (0, .ref (G.2.1 (119))), (1, .int (x1))]) hx hb dX4_deepest_5 rfl hl (by decide) rfl (fun ls hl => ?_)
  exact L_X4_deepest_b6 C hr hlk Z z_F _ _ _ _ h _ _ hP hS ls (lv_sub hl [2, 3, 1, 0] rfl)
abbrev rm_X4_cuts_ : Room := { frames := 1, cells := 0, slots := 0, locals := 21 }
theorem hd_X4_cuts_ : yX4_cuts_.cls ≠ "java/lang/invoke/MethodHandle" ∧ yX4_cuts_.cls ≠ "java/lang/invoke/VarHandle" ∧ (parseMethodDescriptor yX4_cuts_.desc).map (fun d => d.parameters.length) = some 7 := by decide +kernel
theorem hv_X4_cuts_ : yX4_cuts_.cls = RX4 ∧ yX4_cuts_.cls ≠ "java/lang/invoke/MethodHandle" ∧ yX4_cuts_.cls ≠ "java/lang/invoke/VarHandle" ∧ (parseMethodDescriptor yX4_cuts_.desc).map (fun d => d.parameters.length) = some 7 := ⟨rfl, hd_X4_cuts_⟩
theorem wX4_cuts__0 : Cond.fieldLink RX4 7 "WaxCopiesModel" "s" "[I" ∈ wsX4_cuts_ := by decide +kernel
theorem inX4_cuts__X4 : ∀ w ∈ wsX40, w ∈ wsX4_cuts_ := by decide +kernel
set_option maxHeartbeats 4000000 in
set_option maxRecDepth 100000 in
theorem c_X4_cuts_ (l : Launch) (G : zG) {x1 : Int32} {x2 : Int32} {x3 : Int32} {x4 : Int32} {x5 : Int32} {x6 : Int32} {x7 : Int32} {μ mu1 : Mm} {r : Unit} (h : f_X4_cuts_ x1 x2 x3 x4 x5 x6 x7 μ = some (r, mu1)) (sz : Nat) : Met l yX4_cuts_ wsX4_cuts_ rm_X4_cuts_ (z_Pre G μ [.ref (G.2.1 (119)), .int (x1), .int (x2), .int (x3), .int (x4), .int (x5), .int (x6), .int (x7)] sz) (z_Qv G r mu1 sz) 0 0 (z_A G sz) := by
  refine z_start (cc := cX4_cuts_) (maxL := 9) (ret := none) (own := RX4) (by decide) rfl rfl (Nat.le_of_ble_eq_true rfl) (fun p e s m args below meth c C hr hlk Z hP ls hl => ?_) sz
  have hx := C.1
  have hb := C.2.1
  have hts := C.2.2.2.2
  have hS : va_S (z_A G s.heap.size) s.heap s.heap [] := va_S.rf
  have hl : lv_has ls 9 [(0, .ref (G.2.1 (119))), (1, .int (x1)), (2, .int (x2)), (3, .int (x3)), (4, .int (x4)), (5, .int (x5)), (6, .int (x6)), (7, .int (x7))] := hl
  unfold f_X4_cuts_ at h
  refine lv_iload_n hx hb dX4_cuts__0 rfl (lv_at hl 1 rfl) ?_
  obtain ⟨r1, m2, e3, h⟩ := zb_some h
  refine z_calli hS (va_runS (As := [.int (x1)]) (rest := []) C (c_X4_at l G e3 _) (va_cwS 1 hts gX4_cuts__X4_at rfl rfl rfl hd_X4_at ⟨Nat.le_of_ble_eq_true rfl, Nat.le_of_ble_eq_true rfl⟩) (z_preS Z hS hP) rfl rfl hl.1 rfl (lv_room (Nat.le_of_ble_eq_true rfl)) dX4_cuts__1 ⟨Nat.zero_le _, Nat.zero_le _⟩) (fun H locs hP hS => ?_)
  refine lv_istore (lv' := [(8, .int (r1)), (0, .ref (G.2.1 (119))), (1, .int (x1)), (2, .int (x2)), (3, .int (x3)), (4, .int (x4)), (5, .int (x5)), (6, .int (x6)), (7, .int (x7))]) hx hb dX4_cuts__4 hl (by decide) rfl (fun ls hl => ?_)
  refine lv_aload_n hx hb dX4_cuts__6 rfl (lv_at hl 1 rfl) ?_
  refine z_get C Z hP (k := 119) (ci := 4) (j := 0) (N := 12) (v := .ref (G.2.1 (120))) (by decide) (z_E_119 _) rfl inX4_cuts__X4 (by decide) wX4_cuts__0 rfl dX4_cuts__7 ?_
  refine lv_iload hx hb dX4_cuts__10 (lv_at hl 0 rfl) ?_
  refine lv_iload_n hx hb dX4_cuts__12 rfl (lv_at hl 3 rfl) ?_
  obtain ⟨hg4, h⟩ := z_g h
  refine z_iast C Z hP hS (k := 120) (n := 1710) (j := (r1).toNatClampNeg) (by decide) (fun r => z_E_120 r) hg4 rfl dX4_cuts__13 (fun H locs hP hS => ?_)
  refine lv_aload_n hx hb dX4_cuts__14 rfl (lv_at hl 1 rfl) ?_
  refine z_get C Z hP (k := 119) (ci := 4) (j := 0) (N := 12) (v := .ref (G.2.1 (120))) (by decide) (z_E_119 _) rfl inX4_cuts__X4 (by decide) wX4_cuts__0 rfl dX4_cuts__15 ?_
  refine lv_iload hx hb dX4_cuts__18 (lv_at hl 0 rfl) ?_
  refine lv_iconst (v := 1) hx hb dX4_cuts__20 (by decide) ?_
  refine lv_iadd hx hb dX4_cuts__21 ?_
  refine lv_iload_n hx hb dX4_cuts__22 rfl (lv_at hl 4 rfl) ?_
  obtain ⟨hg5, h⟩ := z_g h
  refine z_iast C Z hP hS (k := 120) (n := 1710) (j := ((r1 + 1)).toNatClampNeg) (by decide) (fun r => z_E_120 r) hg5 rfl dX4_cuts__23 (fun H locs hP hS => ?_)
  refine lv_aload_n hx hb dX4_cuts__24 rfl (lv_at hl 1 rfl) ?_
  obtain ⟨m6, hm7, h⟩ := zm_some h
  rw [← hm7] at hP
  refine z_get C Z hP (k := 119) (ci := 4) (j := 0) (N := 12) (v := .ref (G.2.1 (120))) (by decide) (z_E_119 _) rfl inX4_cuts__X4 (by decide) wX4_cuts__0 rfl dX4_cuts__25 ?_
  refine lv_iload hx hb dX4_cuts__28 (lv_at hl 0 rfl) ?_
  refine lv_iconst (v := 2) hx hb dX4_cuts__30 (by decide) ?_
  refine lv_iadd hx hb dX4_cuts__31 ?_
  refine lv_iload hx hb dX4_cuts__32 (lv_at hl 5 rfl) ?_
  obtain ⟨hg8, h⟩ := z_g h
  refine z_iast C Z hP hS (k := 120) (n := 1710) (j := ((r1 + 2)).toNatClampNeg) (by decide) (fun r => z_E_120 r) hg8 rfl dX4_cuts__34 (fun H locs hP hS => ?_)
  refine lv_aload_n hx hb dX4_cuts__35 rfl (lv_at hl 1 rfl) ?_
  refine z_get C Z hP (k := 119) (ci := 4) (j := 0) (N := 12) (v := .ref (G.2.1 (120))) (by decide) (z_E_119 _) rfl inX4_cuts__X4 (by decide) wX4_cuts__0 rfl dX4_cuts__36 ?_
  refine lv_iload hx hb dX4_cuts__39 (lv_at hl 0 rfl) ?_
  refine lv_iconst (v := 3) hx hb dX4_cuts__41 (by decide) ?_
  refine lv_iadd hx hb dX4_cuts__42 ?_
  refine lv_iload hx hb dX4_cuts__43 (lv_at hl 6 rfl) ?_
  obtain ⟨hg9, h⟩ := z_g h
  refine z_iast C Z hP hS (k := 120) (n := 1710) (j := ((r1 + 3)).toNatClampNeg) (by decide) (fun r => z_E_120 r) hg9 rfl dX4_cuts__45 (fun H locs hP hS => ?_)
  refine lv_aload_n hx hb dX4_cuts__46 rfl (lv_at hl 1 rfl) ?_
  obtain ⟨m10, hm11, h⟩ := zm_some h
  rw [← hm11] at hP
  refine z_get C Z hP (k := 119) (ci := 4) (j := 0) (N := 12) (v := .ref (G.2.1 (120))) (by decide) (z_E_119 _) rfl inX4_cuts__X4 (by decide) wX4_cuts__0 rfl dX4_cuts__47 ?_
  refine lv_iload hx hb dX4_cuts__50 (lv_at hl 0 rfl) ?_
  refine lv_iconst (v := 4) hx hb dX4_cuts__52 (by decide) ?_
  refine lv_iadd hx hb dX4_cuts__53 ?_
  refine lv_iload hx hb dX4_cuts__54 (lv_at hl 7 rfl) ?_
  obtain ⟨hg12, h⟩ := z_g h
  refine z_iast C Z hP hS (k := 120) (n := 1710) (j := ((r1 + 4)).toNatClampNeg) (by decide) (fun r => z_E_120 r) hg12 rfl dX4_cuts__56 (fun H locs hP hS => ?_)
  refine lv_aload_n hx hb dX4_cuts__57 rfl (lv_at hl 1 rfl) ?_
  refine z_get C Z hP (k := 119) (ci := 4) (j := 0) (N := 12) (v := .ref (G.2.1 (120))) (by decide) (z_E_119 _) rfl inX4_cuts__X4 (by decide) wX4_cuts__0 rfl dX4_cuts__58 ?_
  refine lv_iload hx hb dX4_cuts__61 (lv_at hl 0 rfl) ?_
  refine lv_iconst (v := 5) hx hb dX4_cuts__63 (by decide) ?_
  refine lv_iadd hx hb dX4_cuts__64 ?_
  refine lv_iload_n hx hb dX4_cuts__65 rfl (lv_at hl 4 rfl) ?_
  obtain ⟨hg13, h⟩ := z_g h
  refine z_iast C Z hP hS (k := 120) (n := 1710) (j := ((r1 + 5)).toNatClampNeg) (by decide) (fun r => z_E_120 r) hg13 rfl dX4_cuts__66 (fun H locs hP hS => ?_)
  refine lv_aload_n hx hb dX4_cuts__67 rfl (lv_at hl 1 rfl) ?_
  obtain ⟨m14, hm15, h⟩ := zm_some h
  rw [← hm15] at hP
  refine z_get C Z hP (k := 119) (ci := 4) (j := 0) (N := 12) (v := .ref (G.2.1 (120))) (by decide) (z_E_119 _) rfl inX4_cuts__X4 (by decide) wX4_cuts__0 rfl dX4_cuts__68 ?_
  refine lv_iload hx hb dX4_cuts__71 (lv_at hl 0 rfl) ?_
  refine lv_bipush (v := 6) hx hb dX4_cuts__73 (by decide) ?_
  refine lv_iadd hx hb dX4_cuts__75 ?_
  refine lv_iconst (v := 0) hx hb dX4_cuts__76 (by decide) ?_
  obtain ⟨hg16, h⟩ := z_g h
  refine z_iast C Z hP hS (k := 120) (n := 1710) (j := ((r1 + 6)).toNatClampNeg) (by decide) (fun r => z_E_120 r) hg16 rfl dX4_cuts__77 (fun H locs hP hS => ?_)
  refine lv_aload_n hx hb dX4_cuts__78 rfl (lv_at hl 1 rfl) ?_
  refine z_get C Z hP (k := 119) (ci := 4) (j := 0) (N := 12) (v := .ref (G.2.1 (120))) (by decide) (z_E_119 _) rfl inX4_cuts__X4 (by decide) wX4_cuts__0 rfl dX4_cuts__79 ?_
  refine lv_iconst (v := 0) hx hb dX4_cuts__82 (by decide) ?_
  refine lv_aload_n hx hb dX4_cuts__83 rfl (lv_at hl 1 rfl) ?_
  refine z_get C Z hP (k := 119) (ci := 4) (j := 0) (N := 12) (v := .ref (G.2.1 (120))) (by decide) (z_E_119 _) rfl inX4_cuts__X4 (by decide) wX4_cuts__0 rfl dX4_cuts__84 ?_
  refine lv_iconst (v := 0) hx hb dX4_cuts__87 (by decide) ?_
  refine z_iald C Z hP (k := 120) (n := 1710) (j := 0) (by decide) (z_E_120 _) (show z_ix 0 1710 by decide) rfl dX4_cuts__88 ?_
  refine lv_iload_n hx hb dX4_cuts__89 rfl (lv_at hl 3 rfl) ?_
  refine lv_isub hx hb dX4_cuts__90 ?_
  refine lv_iconst (v := 0) hx hb dX4_cuts__91 (by decide) ?_
  obtain ⟨r17, m18, e19, h⟩ := zb_some h
  refine z_calli hS (va_runS (As := [.int ((((z_up m14 (120) (((r1 + 6)).toNatClampNeg) 0) (120) 0) - x2)), .int (0)]) (rest := [.int (0), .ref (G.2.1 (120))]) C (c_X4_atLeast l G e19 _) (va_cwS 2 hts gX4_cuts__X4_atLeast rfl rfl rfl hd_X4_atLeast ⟨Nat.le_of_ble_eq_true rfl, Nat.le_of_ble_eq_true rfl⟩) (z_preS Z hS hP) rfl rfl hl.1 rfl (lv_room (Nat.le_of_ble_eq_true rfl)) dX4_cuts__92 ⟨Nat.zero_le _, Nat.zero_le _⟩) (fun H locs hP hS => ?_)
  refine z_iast C Z hP hS (k := 120) (n := 1710) (j := 0) (by decide) (fun r => z_E_120 r) (show z_ix 0 1710 by decide) rfl dX4_cuts__95 (fun H locs hP hS => ?_)
  refine lv_aload_n hx hb dX4_cuts__96 rfl (lv_at hl 1 rfl) ?_
  refine z_get C Z hP (k := 119) (ci := 4) (j := 0) (N := 12) (v := .ref (G.2.1 (120))) (by decide) (z_E_119 _) rfl inX4_cuts__X4 (by decide) wX4_cuts__0 rfl dX4_cuts__97 ?_
  refine lv_iconst (v := 1) hx hb dX4_cuts__100 (by decide) ?_
  refine lv_dup2_11 hx hb dX4_cuts__101 rfl rfl ?_
  refine z_iald C Z hP (k := 120) (n := 1710) (j := 1) (by decide) (z_E_120 _) (show z_ix 1 1710 by decide) rfl dX4_cuts__102 ?_
  refine lv_iload hx hb dX4_cuts__103 (lv_at hl 8 rfl) ?_
  refine lv_isub hx hb dX4_cuts__105 ?_
  refine z_iast C Z hP hS (k := 120) (n := 1710) (j := 1) (by decide) (fun r => z_E_120 r) (show z_ix 1 1710 by decide) rfl dX4_cuts__106 (fun H locs hP hS => ?_)
  cases h
  exact z_retv C hr hlk hP hS dX4_cuts__107
abbrev rm_X4_speakReason : Room := { frames := 2, cells := 0, slots := 0, locals := 41 }
theorem hd_X4_speakReason : yX4_speakReason.cls ≠ "java/lang/invoke/MethodHandle" ∧ yX4_speakReason.cls ≠ "java/lang/invoke/VarHandle" ∧ (parseMethodDescriptor yX4_speakReason.desc).map (fun d => d.parameters.length) = some 2 := by decide +kernel
theorem hv_X4_speakReason : yX4_speakReason.cls = RX4 ∧ yX4_speakReason.cls ≠ "java/lang/invoke/MethodHandle" ∧ yX4_speakReason.cls ≠ "java/lang/invoke/VarHandle" ∧ (parseMethodDescriptor yX4_speakReason.desc).map (fun d => d.parameters.length) = some 2 := ⟨rfl, hd_X4_speakReason⟩
theorem wX4_speakReason_0 : Cond.fieldLink RX4 7 "WaxCopiesModel" "s" "[I" ∈ wsX4_speakReason := by decide +kernel
theorem inX4_speakReason_X4 : ∀ w ∈ wsX40, w ∈ wsX4_speakReason := by decide +kernel
set_option maxHeartbeats 4000000 in
set_option maxRecDepth 100000 in
theorem c_X4_speakReason (l : Launch) (G : zG) {x1 : Int32} {x2 : Int32} {μ mu1 : Mm} {r : Int32} (h : f_X4_speakReason x1 x2 μ = some (r, mu1)) (sz : Nat) : Met l yX4_speakReason wsX4_speakReason rm_X4_speakReason (z_Pre G μ [.ref (G.2.1 (119)), .int (x1), .int (x2)] sz) (z_Qi G r mu1 sz) 0 0 (z_A G sz) := by
  refine z_start (cc := cX4_speakReason) (maxL := 3) (ret := (some .int)) (own := RX4) (by decide) rfl rfl (Nat.le_of_ble_eq_true rfl) (fun p e s m args below meth c C hr hlk Z hP ls hl => ?_) sz
  have hx := C.1
  have hb := C.2.1
  have hts := C.2.2.2.2
  have hS : va_S (z_A G s.heap.size) s.heap s.heap [] := va_S.rf
  have hl : lv_has ls 3 [(0, .ref (G.2.1 (119))), (1, .int (x1)), (2, .int (x2))] := hl
  unfold f_X4_speakReason at h
  refine lv_aload_n hx hb dX4_speakReason_0 rfl (lv_at hl 0 rfl) ?_
  refine lv_iload_n hx hb dX4_speakReason_1 rfl (lv_at hl 1 rfl) ?_
  obtain ⟨r1, m2, e3, h⟩ := zb_some h
  refine z_calli hS (va_runV (As := [.int (x1)]) (rest := []) C (c_X4_isCut l G e3 _) (cwV 1 hts gX4_speakReason_X4_isCut rfl rfl rfl hv_X4_isCut ⟨Nat.le_of_ble_eq_true rfl, Nat.le_of_ble_eq_true rfl⟩) (z_preV Z hS hP (by decide) (z_E_119 _) rfl rfl) rfl rfl hl.1 rfl (lv_room (Nat.le_of_ble_eq_true rfl)) dX4_speakReason_2 ⟨Nat.zero_le _, Nat.zero_le _⟩) (fun H locs hP hS => ?_)
  refine lv_if_eq (tgt := 12) hx hb dX4_speakReason_5 (by decide) (fun hc4 => ?_) (fun hc4 => ?_)
  · have h := z_ip hc4 h
    refine lv_aload_n hx hb dX4_speakReason_12 rfl (lv_at hl 0 rfl) ?_
    refine lv_iload_n hx hb dX4_speakReason_13 rfl (lv_at hl 1 rfl) ?_
    obtain ⟨r5, m6, e7, h⟩ := zb_some h
    refine z_calli hS (va_runV (As := [.int (x1)]) (rest := []) C (c_X4_layers l G e7 _) (cwV 1 hts gX4_speakReason_X4_layers rfl rfl rfl hv_X4_layers ⟨Nat.le_of_ble_eq_true rfl, Nat.le_of_ble_eq_true rfl⟩) (z_preV Z hS hP (by decide) (z_E_119 _) rfl rfl) rfl rfl hl.1 rfl (lv_room (Nat.le_of_ble_eq_true rfl)) dX4_speakReason_14 ⟨Nat.zero_le _, Nat.zero_le _⟩) (fun H locs hP hS => ?_)
    refine lv_iload_n hx hb dX4_speakReason_17 rfl (lv_at hl 2 rfl) ?_
    refine lv_icmp_ge (tgt := 25) hx hb dX4_speakReason_18 (by decide) (fun hc8 => ?_) (fun hc8 => ?_)
    · have h := z_ip hc8 h
      refine lv_aload_n hx hb dX4_speakReason_25 rfl (lv_at hl 0 rfl) ?_
      refine z_get C Z hP (k := 119) (ci := 4) (j := 0) (N := 12) (v := .ref (G.2.1 (120))) (by decide) (z_E_119 _) rfl inX4_speakReason_X4 (by decide) wX4_speakReason_0 rfl dX4_speakReason_26 ?_
      refine lv_iconst (v := 1) hx hb dX4_speakReason_29 (by decide) ?_
      refine z_iald C Z hP (k := 120) (n := 1710) (j := 1) (by decide) (z_E_120 _) (show z_ix 1 1710 by decide) rfl dX4_speakReason_30 ?_
      refine lv_bipush (v := 10) hx hb dX4_speakReason_31 (by decide) ?_
      refine lv_icmp_ge (tgt := 40) hx hb dX4_speakReason_33 (by decide) (fun hc9 => ?_) (fun hc9 => ?_)
      · have h := z_ip hc9 h
        refine lv_iconst (v := 0) hx hb dX4_speakReason_40 (by decide) ?_
        cases h
        exact z_reti C hr hlk hP hS dX4_speakReason_41
      · have h := z_in hc9 h
        refine lv_iconst (v := 3) hx hb dX4_speakReason_36 (by decide) ?_
        refine lv_goto (tgt := 41) hx hb dX4_speakReason_37 (by decide) ?_
        cases h
        exact z_reti C hr hlk hP hS dX4_speakReason_41
    · have h := z_in hc8 h
      refine lv_iconst (v := 2) hx hb dX4_speakReason_21 (by decide) ?_
      refine lv_goto (tgt := 41) hx hb dX4_speakReason_22 (by decide) ?_
      cases h
      exact z_reti C hr hlk hP hS dX4_speakReason_41
  · have h := z_in hc4 h
    refine lv_iconst (v := 1) hx hb dX4_speakReason_8 (by decide) ?_
    refine lv_goto (tgt := 41) hx hb dX4_speakReason_9 (by decide) ?_
    cases h
    exact z_reti C hr hlk hP hS dX4_speakReason_41
abbrev rm_X4_copyReason : Room := { frames := 2, cells := 0, slots := 0, locals := 41 }
theorem hd_X4_copyReason : yX4_copyReason.cls ≠ "java/lang/invoke/MethodHandle" ∧ yX4_copyReason.cls ≠ "java/lang/invoke/VarHandle" ∧ (parseMethodDescriptor yX4_copyReason.desc).map (fun d => d.parameters.length) = some 3 := by decide +kernel
theorem hv_X4_copyReason : yX4_copyReason.cls = RX4 ∧ yX4_copyReason.cls ≠ "java/lang/invoke/MethodHandle" ∧ yX4_copyReason.cls ≠ "java/lang/invoke/VarHandle" ∧ (parseMethodDescriptor yX4_copyReason.desc).map (fun d => d.parameters.length) = some 3 := ⟨rfl, hd_X4_copyReason⟩
theorem wX4_copyReason_0 : Cond.fieldLink RX4 7 "WaxCopiesModel" "s" "[I" ∈ wsX4_copyReason := by decide +kernel
theorem inX4_copyReason_X4 : ∀ w ∈ wsX40, w ∈ wsX4_copyReason := by decide +kernel
set_option maxHeartbeats 4000000 in
set_option maxRecDepth 100000 in
theorem c_X4_copyReason (l : Launch) (G : zG) {x1 : Int32} {x2 : Int32} {x3 : Int32} {μ mu1 : Mm} {r : Int32} (h : f_X4_copyReason x1 x2 x3 μ = some (r, mu1)) (sz : Nat) : Met l yX4_copyReason wsX4_copyReason rm_X4_copyReason (z_Pre G μ [.ref (G.2.1 (119)), .int (x1), .int (x2), .int (x3)] sz) (z_Qi G r mu1 sz) 0 0 (z_A G sz) := by
  refine z_start (cc := cX4_copyReason) (maxL := 4) (ret := (some .int)) (own := RX4) (by decide) rfl rfl (Nat.le_of_ble_eq_true rfl) (fun p e s m args below meth c C hr hlk Z hP ls hl => ?_) sz
  have hx := C.1
  have hb := C.2.1
  have hts := C.2.2.2.2
  have hS : va_S (z_A G s.heap.size) s.heap s.heap [] := va_S.rf
  have hl : lv_has ls 4 [(0, .ref (G.2.1 (119))), (1, .int (x1)), (2, .int (x2)), (3, .int (x3))] := hl
  unfold f_X4_copyReason at h
  refine lv_aload_n hx hb dX4_copyReason_0 rfl (lv_at hl 0 rfl) ?_
  refine lv_iload_n hx hb dX4_copyReason_1 rfl (lv_at hl 1 rfl) ?_
  obtain ⟨r1, m2, e3, h⟩ := zb_some h
  refine z_calli hS (va_runV (As := [.int (x1)]) (rest := []) C (c_X4_isCut l G e3 _) (cwV 1 hts gX4_copyReason_X4_isCut rfl rfl rfl hv_X4_isCut ⟨Nat.le_of_ble_eq_true rfl, Nat.le_of_ble_eq_true rfl⟩) (z_preV Z hS hP (by decide) (z_E_119 _) rfl rfl) rfl rfl hl.1 rfl (lv_room (Nat.le_of_ble_eq_true rfl)) dX4_copyReason_2 ⟨Nat.zero_le _, Nat.zero_le _⟩) (fun H locs hP hS => ?_)
  refine lv_if_ne (tgt := 10) hx hb dX4_copyReason_5 (by decide) (fun hc4 => ?_) (fun hc4 => ?_)
  · have h := z_in hc4 h
    refine lv_aload_n hx hb dX4_copyReason_10 rfl (lv_at hl 0 rfl) ?_
    refine lv_iload_n hx hb dX4_copyReason_11 rfl (lv_at hl 2 rfl) ?_
    obtain ⟨r5, m6, e7, h⟩ := zb_some h
    refine z_calli hS (va_runV (As := [.int (x2)]) (rest := []) C (c_X4_isCut l G e7 _) (cwV 1 hts gX4_copyReason_X4_isCut rfl rfl rfl hv_X4_isCut ⟨Nat.le_of_ble_eq_true rfl, Nat.le_of_ble_eq_true rfl⟩) (z_preV Z hS hP (by decide) (z_E_119 _) rfl rfl) rfl rfl hl.1 rfl (lv_room (Nat.le_of_ble_eq_true rfl)) dX4_copyReason_12 ⟨Nat.zero_le _, Nat.zero_le _⟩) (fun H locs hP hS => ?_)
    refine lv_if_eq (tgt := 20) hx hb dX4_copyReason_15 (by decide) (fun hc8 => ?_) (fun hc8 => ?_)
    · have h := z_ip hc8 h
      refine lv_iload_n hx hb dX4_copyReason_20 rfl (lv_at hl 1 rfl) ?_
      refine lv_iconst (v := 4) hx hb dX4_copyReason_21 (by decide) ?_
      refine lv_idiv hx hb dX4_copyReason_22 (by decide) ?_
      refine lv_iload_n hx hb dX4_copyReason_23 rfl (lv_at hl 2 rfl) ?_
      refine lv_iconst (v := 4) hx hb dX4_copyReason_24 (by decide) ?_
      refine lv_idiv hx hb dX4_copyReason_25 (by decide) ?_
      refine lv_icmp_ne (tgt := 31) hx hb dX4_copyReason_26 (by decide) (fun hc9 => ?_) (fun hc9 => ?_)
      · have h := z_in hc9 h
        refine lv_aload_n hx hb dX4_copyReason_31 rfl (lv_at hl 0 rfl) ?_
        refine lv_iload_n hx hb dX4_copyReason_32 rfl (lv_at hl 2 rfl) ?_
        obtain ⟨r10, m11, e12, h⟩ := zb_some h
        refine z_calli hS (va_runV (As := [.int (x2)]) (rest := []) C (c_X4_layers l G e12 _) (cwV 1 hts gX4_copyReason_X4_layers rfl rfl rfl hv_X4_layers ⟨Nat.le_of_ble_eq_true rfl, Nat.le_of_ble_eq_true rfl⟩) (z_preV Z hS hP (by decide) (z_E_119 _) rfl rfl) rfl rfl hl.1 rfl (lv_room (Nat.le_of_ble_eq_true rfl)) dX4_copyReason_33 ⟨Nat.zero_le _, Nat.zero_le _⟩) (fun H locs hP hS => ?_)
        refine lv_aload_n hx hb dX4_copyReason_36 rfl (lv_at hl 0 rfl) ?_
        refine z_get C Z hP (k := 119) (ci := 4) (j := 0) (N := 12) (v := .ref (G.2.1 (120))) (by decide) (z_E_119 _) rfl inX4_copyReason_X4 (by decide) wX4_copyReason_0 rfl dX4_copyReason_37 ?_
        refine lv_iload_n hx hb dX4_copyReason_40 rfl (lv_at hl 1 rfl) ?_
        obtain ⟨r13, m14, e15, h⟩ := zb_some h
        refine z_calli hS (va_runS (As := [.int (x1)]) (rest := [.ref (G.2.1 (120)), .int (r10)]) C (c_X4_at l G e15 _) (va_cwS 1 hts gX4_copyReason_X4_at rfl rfl rfl hd_X4_at ⟨Nat.le_of_ble_eq_true rfl, Nat.le_of_ble_eq_true rfl⟩) (z_preS Z hS hP) rfl rfl hl.1 rfl (lv_room (Nat.le_of_ble_eq_true rfl)) dX4_copyReason_41 ⟨Nat.zero_le _, Nat.zero_le _⟩) (fun H locs hP hS => ?_)
        obtain ⟨hg16, h⟩ := z_g h
        refine z_iald C Z hP (k := 120) (n := 1710) (j := (r13).toNatClampNeg) (by decide) (z_E_120 _) hg16 rfl dX4_copyReason_44 ?_
        refine lv_iload_n hx hb dX4_copyReason_45 rfl (lv_at hl 3 rfl) ?_
        obtain ⟨r17, m18, e19, h⟩ := zb_some h
        refine z_calli hS (va_runS (As := [.int ((m14 (120) ((r13).toNatClampNeg))), .int (x3)]) (rest := [.int (r10)]) C (c_X4_depthBy l G e19 _) (va_cwS 2 hts gX4_copyReason_X4_depthBy rfl rfl rfl hd_X4_depthBy ⟨Nat.le_of_ble_eq_true rfl, Nat.le_of_ble_eq_true rfl⟩) (z_preS Z hS hP) rfl rfl hl.1 rfl (lv_room (Nat.le_of_ble_eq_true rfl)) dX4_copyReason_46 ⟨Nat.zero_le _, Nat.zero_le _⟩) (fun H locs hP hS => ?_)
        refine lv_icmp_ge (tgt := 56) hx hb dX4_copyReason_49 (by decide) (fun hc20 => ?_) (fun hc20 => ?_)
        · have h := z_ip hc20 h
          refine lv_aload_n hx hb dX4_copyReason_56 rfl (lv_at hl 0 rfl) ?_
          refine z_get C Z hP (k := 119) (ci := 4) (j := 0) (N := 12) (v := .ref (G.2.1 (120))) (by decide) (z_E_119 _) rfl inX4_copyReason_X4 (by decide) wX4_copyReason_0 rfl dX4_copyReason_57 ?_
          refine lv_iconst (v := 1) hx hb dX4_copyReason_60 (by decide) ?_
          refine z_iald C Z hP (k := 120) (n := 1710) (j := 1) (by decide) (z_E_120 _) (show z_ix 1 1710 by decide) rfl dX4_copyReason_61 ?_
          refine lv_bipush (v := 20) hx hb dX4_copyReason_62 (by decide) ?_
          refine lv_icmp_ge (tgt := 71) hx hb dX4_copyReason_64 (by decide) (fun hc21 => ?_) (fun hc21 => ?_)
          · have h := z_ip hc21 h
            refine lv_iconst (v := 0) hx hb dX4_copyReason_71 (by decide) ?_
            cases h
            exact z_reti C hr hlk hP hS dX4_copyReason_72
          · have h := z_in hc21 h
            refine lv_iconst (v := 5) hx hb dX4_copyReason_67 (by decide) ?_
            refine lv_goto (tgt := 72) hx hb dX4_copyReason_68 (by decide) ?_
            cases h
            exact z_reti C hr hlk hP hS dX4_copyReason_72
        · have h := z_in hc20 h
          refine lv_iconst (v := 4) hx hb dX4_copyReason_52 (by decide) ?_
          refine lv_goto (tgt := 72) hx hb dX4_copyReason_53 (by decide) ?_
          cases h
          exact z_reti C hr hlk hP hS dX4_copyReason_72
      · have h := z_ip hc9 h
        refine lv_iconst (v := 3) hx hb dX4_copyReason_29 (by decide) ?_
        cases h
        exact z_reti C hr hlk hP hS dX4_copyReason_30
    · have h := z_in hc8 h
      refine lv_iconst (v := 2) hx hb dX4_copyReason_18 (by decide) ?_
      cases h
      exact z_reti C hr hlk hP hS dX4_copyReason_19
  · have h := z_ip hc4 h
    refine lv_iconst (v := 1) hx hb dX4_copyReason_8 (by decide) ?_
    cases h
    exact z_reti C hr hlk hP hS dX4_copyReason_9
abbrev rm_X4_playReason : Room := { frames := 2, cells := 0, slots := 0, locals := 41 }
theorem hd_X4_playReason : yX4_playReason.cls ≠ "java/lang/invoke/MethodHandle" ∧ yX4_playReason.cls ≠ "java/lang/invoke/VarHandle" ∧ (parseMethodDescriptor yX4_playReason.desc).map (fun d => d.parameters.length) = some 1 := by decide +kernel
theorem hv_X4_playReason : yX4_playReason.cls = RX4 ∧ yX4_playReason.cls ≠ "java/lang/invoke/MethodHandle" ∧ yX4_playReason.cls ≠ "java/lang/invoke/VarHandle" ∧ (parseMethodDescriptor yX4_playReason.desc).map (fun d => d.parameters.length) = some 1 := ⟨rfl, hd_X4_playReason⟩
theorem wX4_playReason_0 : Cond.fieldLink RX4 7 "WaxCopiesModel" "s" "[I" ∈ wsX4_playReason := by decide +kernel
theorem inX4_playReason_X4 : ∀ w ∈ wsX40, w ∈ wsX4_playReason := by decide +kernel
set_option maxHeartbeats 4000000 in
set_option maxRecDepth 100000 in
theorem c_X4_playReason (l : Launch) (G : zG) {x1 : Int32} {μ mu1 : Mm} {r : Int32} (h : f_X4_playReason x1 μ = some (r, mu1)) (sz : Nat) : Met l yX4_playReason wsX4_playReason rm_X4_playReason (z_Pre G μ [.ref (G.2.1 (119)), .int (x1)] sz) (z_Qi G r mu1 sz) 0 0 (z_A G sz) := by
  refine z_start (cc := cX4_playReason) (maxL := 2) (ret := (some .int)) (own := RX4) (by decide) rfl rfl (Nat.le_of_ble_eq_true rfl) (fun p e s m args below meth c C hr hlk Z hP ls hl => ?_) sz
  have hx := C.1
  have hb := C.2.1
  have hts := C.2.2.2.2
  have hS : va_S (z_A G s.heap.size) s.heap s.heap [] := va_S.rf
  have hl : lv_has ls 2 [(0, .ref (G.2.1 (119))), (1, .int (x1))] := hl
  unfold f_X4_playReason at h
  refine lv_aload_n hx hb dX4_playReason_0 rfl (lv_at hl 0 rfl) ?_
  refine lv_iload_n hx hb dX4_playReason_1 rfl (lv_at hl 1 rfl) ?_
  obtain ⟨r1, m2, e3, h⟩ := zb_some h
  refine z_calli hS (va_runV (As := [.int (x1)]) (rest := []) C (c_X4_isCut l G e3 _) (cwV 1 hts gX4_playReason_X4_isCut rfl rfl rfl hv_X4_isCut ⟨Nat.le_of_ble_eq_true rfl, Nat.le_of_ble_eq_true rfl⟩) (z_preV Z hS hP (by decide) (z_E_119 _) rfl rfl) rfl rfl hl.1 rfl (lv_room (Nat.le_of_ble_eq_true rfl)) dX4_playReason_2 ⟨Nat.zero_le _, Nat.zero_le _⟩) (fun H locs hP hS => ?_)
  refine lv_if_ne (tgt := 12) hx hb dX4_playReason_5 (by decide) (fun hc4 => ?_) (fun hc4 => ?_)
  · have h := z_in hc4 h
    refine lv_aload_n hx hb dX4_playReason_12 rfl (lv_at hl 0 rfl) ?_
    refine z_get C Z hP (k := 119) (ci := 4) (j := 0) (N := 12) (v := .ref (G.2.1 (120))) (by decide) (z_E_119 _) rfl inX4_playReason_X4 (by decide) wX4_playReason_0 rfl dX4_playReason_13 ?_
    refine lv_iconst (v := 1) hx hb dX4_playReason_16 (by decide) ?_
    refine z_iald C Z hP (k := 120) (n := 1710) (j := 1) (by decide) (z_E_120 _) (show z_ix 1 1710 by decide) rfl dX4_playReason_17 ?_
    refine lv_iconst (v := 5) hx hb dX4_playReason_18 (by decide) ?_
    refine lv_icmp_ge (tgt := 26) hx hb dX4_playReason_19 (by decide) (fun hc5 => ?_) (fun hc5 => ?_)
    · have h := z_ip hc5 h
      refine lv_iconst (v := 0) hx hb dX4_playReason_26 (by decide) ?_
      cases h
      exact z_reti C hr hlk hP hS dX4_playReason_27
    · have h := z_in hc5 h
      refine lv_iconst (v := 2) hx hb dX4_playReason_22 (by decide) ?_
      refine lv_goto (tgt := 27) hx hb dX4_playReason_23 (by decide) ?_
      cases h
      exact z_reti C hr hlk hP hS dX4_playReason_27
  · have h := z_ip hc4 h
    refine lv_iconst (v := 1) hx hb dX4_playReason_8 (by decide) ?_
    refine lv_goto (tgt := 27) hx hb dX4_playReason_9 (by decide) ?_
    cases h
    exact z_reti C hr hlk hP hS dX4_playReason_27
abbrev rm_X4_clearOfCopy : Room := { frames := 1, cells := 0, slots := 0, locals := 21 }
theorem hd_X4_clearOfCopy : yX4_clearOfCopy.cls ≠ "java/lang/invoke/MethodHandle" ∧ yX4_clearOfCopy.cls ≠ "java/lang/invoke/VarHandle" ∧ (parseMethodDescriptor yX4_clearOfCopy.desc).map (fun d => d.parameters.length) = some 2 := by decide +kernel
theorem hv_X4_clearOfCopy : yX4_clearOfCopy.cls = RX4 ∧ yX4_clearOfCopy.cls ≠ "java/lang/invoke/MethodHandle" ∧ yX4_clearOfCopy.cls ≠ "java/lang/invoke/VarHandle" ∧ (parseMethodDescriptor yX4_clearOfCopy.desc).map (fun d => d.parameters.length) = some 2 := ⟨rfl, hd_X4_clearOfCopy⟩
theorem wX4_clearOfCopy_0 : Cond.fieldLink RX4 7 "WaxCopiesModel" "s" "[I" ∈ wsX4_clearOfCopy := by decide +kernel
theorem inX4_clearOfCopy_X4 : ∀ w ∈ wsX40, w ∈ wsX4_clearOfCopy := by decide +kernel
set_option maxHeartbeats 4000000 in
set_option maxRecDepth 100000 in
theorem c_X4_clearOfCopy (l : Launch) (G : zG) {x1 : Int32} {x2 : Int32} {μ mu1 : Mm} {r : Int32} (h : f_X4_clearOfCopy x1 x2 μ = some (r, mu1)) (sz : Nat) : Met l yX4_clearOfCopy wsX4_clearOfCopy rm_X4_clearOfCopy (z_Pre G μ [.ref (G.2.1 (119)), .int (x1), .int (x2)] sz) (z_Qi G r mu1 sz) 0 0 (z_A G sz) := by
  refine z_start (cc := cX4_clearOfCopy) (maxL := 3) (ret := (some .int)) (own := RX4) (by decide) rfl rfl (Nat.le_of_ble_eq_true rfl) (fun p e s m args below meth c C hr hlk Z hP ls hl => ?_) sz
  have hx := C.1
  have hb := C.2.1
  have hts := C.2.2.2.2
  have hS : va_S (z_A G s.heap.size) s.heap s.heap [] := va_S.rf
  have hl : lv_has ls 3 [(0, .ref (G.2.1 (119))), (1, .int (x1)), (2, .int (x2))] := hl
  unfold f_X4_clearOfCopy at h
  refine lv_aload_n hx hb dX4_clearOfCopy_0 rfl (lv_at hl 0 rfl) ?_
  refine z_get C Z hP (k := 119) (ci := 4) (j := 0) (N := 12) (v := .ref (G.2.1 (120))) (by decide) (z_E_119 _) rfl inX4_clearOfCopy_X4 (by decide) wX4_clearOfCopy_0 rfl dX4_clearOfCopy_1 ?_
  refine lv_iload_n hx hb dX4_clearOfCopy_4 rfl (lv_at hl 1 rfl) ?_
  obtain ⟨r1, m2, e3, h⟩ := zb_some h
  refine z_calli hS (va_runS (As := [.int (x1)]) (rest := [.ref (G.2.1 (120))]) C (c_X4_at l G e3 _) (va_cwS 1 hts gX4_clearOfCopy_X4_at rfl rfl rfl hd_X4_at ⟨Nat.le_of_ble_eq_true rfl, Nat.le_of_ble_eq_true rfl⟩) (z_preS Z hS hP) rfl rfl hl.1 rfl (lv_room (Nat.le_of_ble_eq_true rfl)) dX4_clearOfCopy_5 ⟨Nat.zero_le _, Nat.zero_le _⟩) (fun H locs hP hS => ?_)
  refine lv_iconst (v := 1) hx hb dX4_clearOfCopy_8 (by decide) ?_
  refine lv_iadd hx hb dX4_clearOfCopy_9 ?_
  obtain ⟨hg4, h⟩ := z_g h
  refine z_iald C Z hP (k := 120) (n := 1710) (j := ((r1 + 1)).toNatClampNeg) (by decide) (z_E_120 _) hg4 rfl dX4_clearOfCopy_10 ?_
  refine lv_bipush (v := 12) hx hb dX4_clearOfCopy_11 (by decide) ?_
  refine lv_iload_n hx hb dX4_clearOfCopy_13 rfl (lv_at hl 2 rfl) ?_
  obtain ⟨hg5, h⟩ := z_g h
  refine lv_idiv hx hb dX4_clearOfCopy_14 hg5 ?_
  refine lv_isub hx hb dX4_clearOfCopy_15 ?_
  refine lv_aload_n hx hb dX4_clearOfCopy_16 rfl (lv_at hl 0 rfl) ?_
  refine z_get C Z hP (k := 119) (ci := 4) (j := 0) (N := 12) (v := .ref (G.2.1 (120))) (by decide) (z_E_119 _) rfl inX4_clearOfCopy_X4 (by decide) wX4_clearOfCopy_0 rfl dX4_clearOfCopy_17 ?_
  refine lv_iconst (v := 0) hx hb dX4_clearOfCopy_20 (by decide) ?_
  refine z_iald C Z hP (k := 120) (n := 1710) (j := 0) (by decide) (z_E_120 _) (show z_ix 0 1710 by decide) rfl dX4_clearOfCopy_21 ?_
  obtain ⟨r6, m7, e8, h⟩ := zb_some h
  refine z_calli hS (va_runS (As := [.int ((m2 (120) 0))]) (rest := [.int (((m2 (120) (((r1 + 1)).toNatClampNeg)) - (12 / x2)))]) C (c_X4_bluntness l G e8 _) (va_cwS 1 hts gX4_clearOfCopy_X4_bluntness rfl rfl rfl hd_X4_bluntness ⟨Nat.le_of_ble_eq_true rfl, Nat.le_of_ble_eq_true rfl⟩) (z_preS Z hS hP) rfl rfl hl.1 rfl (lv_room (Nat.le_of_ble_eq_true rfl)) dX4_clearOfCopy_22 ⟨Nat.zero_le _, Nat.zero_le _⟩) (fun H locs hP hS => ?_)
  refine lv_isub hx hb dX4_clearOfCopy_25 ?_
  refine lv_aload_n hx hb dX4_clearOfCopy_26 rfl (lv_at hl 0 rfl) ?_
  obtain ⟨r9, m10, e11, h⟩ := zb_some h
  refine z_calli hS (va_runV (As := []) (rest := [.int ((((m2 (120) (((r1 + 1)).toNatClampNeg)) - (12 / x2)) - r6))]) C (c_X4_machineFlutter l G e11 _) (cwV 0 hts gX4_clearOfCopy_X4_machineFlutter rfl rfl rfl hv_X4_machineFlutter ⟨Nat.le_of_ble_eq_true rfl, Nat.le_of_ble_eq_true rfl⟩) (z_preV Z hS hP (by decide) (z_E_119 _) rfl rfl) rfl rfl hl.1 rfl (lv_room (Nat.le_of_ble_eq_true rfl)) dX4_clearOfCopy_27 ⟨Nat.zero_le _, Nat.zero_le _⟩) (fun H locs hP hS => ?_)
  refine lv_isub hx hb dX4_clearOfCopy_30 ?_
  refine lv_iconst (v := 0) hx hb dX4_clearOfCopy_31 (by decide) ?_
  obtain ⟨r12, m13, e14, h⟩ := zb_some h
  refine z_calli hS (va_runS (As := [.int (((((m2 (120) (((r1 + 1)).toNatClampNeg)) - (12 / x2)) - r6) - r9)), .int (0)]) (rest := []) C (c_X4_atLeast l G e14 _) (va_cwS 2 hts gX4_clearOfCopy_X4_atLeast rfl rfl rfl hd_X4_atLeast ⟨Nat.le_of_ble_eq_true rfl, Nat.le_of_ble_eq_true rfl⟩) (z_preS Z hS hP) rfl rfl hl.1 rfl (lv_room (Nat.le_of_ble_eq_true rfl)) dX4_clearOfCopy_32 ⟨Nat.zero_le _, Nat.zero_le _⟩) (fun H locs hP hS => ?_)
  cases h
  exact z_reti C hr hlk hP hS dX4_clearOfCopy_35
abbrev rm_X4_speaks : Room := { frames := 3, cells := 0, slots := 0, locals := 63 }
theorem hd_X4_speaks : yX4_speaks.cls ≠ "java/lang/invoke/MethodHandle" ∧ yX4_speaks.cls ≠ "java/lang/invoke/VarHandle" ∧ (parseMethodDescriptor yX4_speaks.desc).map (fun d => d.parameters.length) = some 2 := by decide +kernel
theorem hv_X4_speaks : yX4_speaks.cls = RX4 ∧ yX4_speaks.cls ≠ "java/lang/invoke/MethodHandle" ∧ yX4_speaks.cls ≠ "java/lang/invoke/VarHandle" ∧ (parseMethodDescriptor yX4_speaks.desc).map (fun d => d.parameters.length) = some 2 := ⟨rfl, hd_X4_speaks⟩
theorem wX4_speaks_0 : Cond.fieldLink RX4 7 "WaxCopiesModel" "s" "[I" ∈ wsX4_speaks := by decide +kernel
theorem inX4_speaks_X4 : ∀ w ∈ wsX40, w ∈ wsX4_speaks := by decide +kernel
set_option maxHeartbeats 4000000 in
set_option maxRecDepth 100000 in
theorem c_X4_speaks (l : Launch) (G : zG) {x1 : Int32} {x2 : Int32} {μ mu1 : Mm} {r : Int32} (h : f_X4_speaks x1 x2 μ = some (r, mu1)) (sz : Nat) : Met l yX4_speaks wsX4_speaks rm_X4_speaks (z_Pre G μ [.ref (G.2.1 (119)), .int (x1), .int (x2)] sz) (z_Qi G r mu1 sz) 0 0 (z_A G sz) := by
  refine z_start (cc := cX4_speaks) (maxL := 4) (ret := (some .int)) (own := RX4) (by decide) rfl rfl (Nat.le_of_ble_eq_true rfl) (fun p e s m args below meth c C hr hlk Z hP ls hl => ?_) sz
  have hx := C.1
  have hb := C.2.1
  have hts := C.2.2.2.2
  have hS : va_S (z_A G s.heap.size) s.heap s.heap [] := va_S.rf
  have hl : lv_has ls 4 [(0, .ref (G.2.1 (119))), (1, .int (x1)), (2, .int (x2))] := hl
  unfold f_X4_speaks at h
  refine lv_aload_n hx hb dX4_speaks_0 rfl (lv_at hl 0 rfl) ?_
  refine lv_iload_n hx hb dX4_speaks_1 rfl (lv_at hl 1 rfl) ?_
  refine lv_iload_n hx hb dX4_speaks_2 rfl (lv_at hl 2 rfl) ?_
  obtain ⟨r1, m2, e3, h⟩ := zb_some h
  refine z_calli hS (va_runV (As := [.int (x1), .int (x2)]) (rest := []) C (c_X4_speakReason l G e3 _) (cwV 2 hts gX4_speaks_X4_speakReason rfl rfl rfl hv_X4_speakReason ⟨Nat.le_of_ble_eq_true rfl, Nat.le_of_ble_eq_true rfl⟩) (z_preV Z hS hP (by decide) (z_E_119 _) rfl rfl) rfl rfl hl.1 rfl (lv_room (Nat.le_of_ble_eq_true rfl)) dX4_speaks_3 ⟨Nat.zero_le _, Nat.zero_le _⟩) (fun H locs hP hS => ?_)
  refine lv_istore_n (lv' := [(3, .int (r1)), (0, .ref (G.2.1 (119))), (1, .int (x1)), (2, .int (x2))]) hx hb dX4_speaks_6 rfl hl (by decide) rfl (fun ls hl => ?_)
  refine lv_iload_n hx hb dX4_speaks_7 rfl (lv_at hl 0 rfl) ?_
  refine lv_if_eq (tgt := 24) hx hb dX4_speaks_8 (by decide) (fun hc4 => ?_) (fun hc4 => ?_)
  · have h := z_ip hc4 h
    refine lv_aload_n hx hb dX4_speaks_24 rfl (lv_at hl 1 rfl) ?_
    refine z_get C Z hP (k := 119) (ci := 4) (j := 0) (N := 12) (v := .ref (G.2.1 (120))) (by decide) (z_E_119 _) rfl inX4_speaks_X4 (by decide) wX4_speaks_0 rfl dX4_speaks_25 ?_
    refine lv_iconst (v := 3) hx hb dX4_speaks_28 (by decide) ?_
    refine lv_dup2_11 hx hb dX4_speaks_29 rfl rfl ?_
    refine z_iald C Z hP (k := 120) (n := 1710) (j := 3) (by decide) (z_E_120 _) (show z_ix 3 1710 by decide) rfl dX4_speaks_30 ?_
    refine lv_iconst (v := 1) hx hb dX4_speaks_31 (by decide) ?_
    refine lv_iadd hx hb dX4_speaks_32 ?_
    refine z_iast C Z hP hS (k := 120) (n := 1710) (j := 3) (by decide) (fun r => z_E_120 r) (show z_ix 3 1710 by decide) rfl dX4_speaks_33 (fun H locs hP hS => ?_)
    refine lv_aload_n hx hb dX4_speaks_34 rfl (lv_at hl 1 rfl) ?_
    refine lv_iload_n hx hb dX4_speaks_35 rfl (lv_at hl 2 rfl) ?_
    refine lv_iload_n hx hb dX4_speaks_36 rfl (lv_at hl 3 rfl) ?_
    refine lv_bipush (v := 40) hx hb dX4_speaks_37 (by decide) ?_
    refine lv_iconst (v := 5) hx hb dX4_speaks_39 (by decide) ?_
    refine lv_iload_n hx hb dX4_speaks_40 rfl (lv_at hl 3 rfl) ?_
    refine lv_imul hx hb dX4_speaks_41 ?_
    refine lv_iadd hx hb dX4_speaks_42 ?_
    refine lv_aload_n hx hb dX4_speaks_43 rfl (lv_at hl 1 rfl) ?_
    refine z_get C Z hP (k := 119) (ci := 4) (j := 0) (N := 12) (v := .ref (G.2.1 (120))) (by decide) (z_E_119 _) rfl inX4_speaks_X4 (by decide) wX4_speaks_0 rfl dX4_speaks_44 ?_
    refine lv_iconst (v := 0) hx hb dX4_speaks_47 (by decide) ?_
    refine z_iald C Z hP (k := 120) (n := 1710) (j := 0) (by decide) (z_E_120 _) (show z_ix 0 1710 by decide) rfl dX4_speaks_48 ?_
    obtain ⟨r5, m6, e7, h⟩ := zb_some h
    refine z_calli hS (va_runS (As := [.int (((z_up m2 (120) 3 ((m2 (120) 3) + 1)) (120) 0))]) (rest := [.int ((40 + (5 * x2))), .int (x2), .int (x1), .ref (G.2.1 (119))]) C (c_X4_bluntness l G e7 _) (va_cwS 1 hts gX4_speaks_X4_bluntness rfl rfl rfl hd_X4_bluntness ⟨Nat.le_of_ble_eq_true rfl, Nat.le_of_ble_eq_true rfl⟩) (z_preS Z hS hP) rfl rfl hl.1 rfl (lv_room (Nat.le_of_ble_eq_true rfl)) dX4_speaks_49 ⟨Nat.zero_le _, Nat.zero_le _⟩) (fun H locs hP hS => ?_)
    refine lv_isub hx hb dX4_speaks_52 ?_
    refine lv_aload_n hx hb dX4_speaks_53 rfl (lv_at hl 1 rfl) ?_
    obtain ⟨r8, m9, e10, h⟩ := zb_some h
    refine z_calli hS (va_runV (As := []) (rest := [.int (((40 + (5 * x2)) - r5)), .int (x2), .int (x1), .ref (G.2.1 (119))]) C (c_X4_machineFlutter l G e10 _) (cwV 0 hts gX4_speaks_X4_machineFlutter rfl rfl rfl hv_X4_machineFlutter ⟨Nat.le_of_ble_eq_true rfl, Nat.le_of_ble_eq_true rfl⟩) (z_preV Z hS hP (by decide) (z_E_119 _) rfl rfl) rfl rfl hl.1 rfl (lv_room (Nat.le_of_ble_eq_true rfl)) dX4_speaks_54 ⟨Nat.zero_le _, Nat.zero_le _⟩) (fun H locs hP hS => ?_)
    refine lv_iconst (v := 0) hx hb dX4_speaks_57 (by decide) ?_
    refine lv_iconst (v := (-1)) hx hb dX4_speaks_58 (by decide) ?_
    refine lv_bipush (v := 10) hx hb dX4_speaks_59 (by decide) ?_
    obtain ⟨r11, m12, e13, h⟩ := zb_some h
    refine z_callv hS (va_runV (As := [.int (x1), .int (x2), .int (((40 + (5 * x2)) - r5)), .int (r8), .int (0), .int ((-1)), .int (10)]) (rest := []) C (c_X4_cuts_ l G e13 _) (cwV 7 hts gX4_speaks_X4_cuts_ rfl rfl rfl hv_X4_cuts_ ⟨Nat.le_of_ble_eq_true rfl, Nat.le_of_ble_eq_true rfl⟩) (z_preV Z hS hP (by decide) (z_E_119 _) rfl rfl) rfl rfl hl.1 rfl (lv_room (Nat.le_of_ble_eq_true rfl)) dX4_speaks_61 ⟨Nat.zero_le _, Nat.zero_le _⟩) (fun H locs hP hS => ?_)
    refine lv_iconst (v := 0) hx hb dX4_speaks_64 (by decide) ?_
    cases h
    exact z_reti C hr hlk hP hS dX4_speaks_65
  · have h := z_in hc4 h
    refine lv_aload_n hx hb dX4_speaks_11 rfl (lv_at hl 1 rfl) ?_
    refine z_get C Z hP (k := 119) (ci := 4) (j := 0) (N := 12) (v := .ref (G.2.1 (120))) (by decide) (z_E_119 _) rfl inX4_speaks_X4 (by decide) wX4_speaks_0 rfl dX4_speaks_12 ?_
    refine lv_bipush (v := 9) hx hb dX4_speaks_15 (by decide) ?_
    refine lv_dup2_11 hx hb dX4_speaks_17 rfl rfl ?_
    refine z_iald C Z hP (k := 120) (n := 1710) (j := 9) (by decide) (z_E_120 _) (show z_ix 9 1710 by decide) rfl dX4_speaks_18 ?_
    refine lv_iconst (v := 1) hx hb dX4_speaks_19 (by decide) ?_
    refine lv_iadd hx hb dX4_speaks_20 ?_
    refine z_iast C Z hP hS (k := 120) (n := 1710) (j := 9) (by decide) (fun r => z_E_120 r) (show z_ix 9 1710 by decide) rfl dX4_speaks_21 (fun H locs hP hS => ?_)
    refine lv_iload_n hx hb dX4_speaks_22 rfl (lv_at hl 0 rfl) ?_
    cases h
    exact z_reti C hr hlk hP hS dX4_speaks_23
abbrev rm_X4_makes : Room := { frames := 3, cells := 0, slots := 0, locals := 64 }
theorem hd_X4_makes : yX4_makes.cls ≠ "java/lang/invoke/MethodHandle" ∧ yX4_makes.cls ≠ "java/lang/invoke/VarHandle" ∧ (parseMethodDescriptor yX4_makes.desc).map (fun d => d.parameters.length) = some 3 := by decide +kernel
theorem hv_X4_makes : yX4_makes.cls = RX4 ∧ yX4_makes.cls ≠ "java/lang/invoke/MethodHandle" ∧ yX4_makes.cls ≠ "java/lang/invoke/VarHandle" ∧ (parseMethodDescriptor yX4_makes.desc).map (fun d => d.parameters.length) = some 3 := ⟨rfl, hd_X4_makes⟩
theorem wX4_makes_0 : Cond.fieldLink RX4 7 "WaxCopiesModel" "s" "[I" ∈ wsX4_makes := by decide +kernel
theorem inX4_makes_X4 : ∀ w ∈ wsX40, w ∈ wsX4_makes := by decide +kernel
set_option maxHeartbeats 4000000 in
set_option maxRecDepth 100000 in
theorem L_X4_makes_b93 {p : Program} {l : Launch} {e : Env} {s : State} {m : MethodId} {args : Array Value} {below : List Frame} {meth : Method} {c : Code} {G : zG} {r : Int32} {mu1 : Mm}  (C : CallFix p m c cX4_makes 7 s args wsX4_makes RX4) (hr : meth.sig.returnType = (some .int)) (hlk : meth.locks = false) (Z : z_Z G (z_A G s.heap.size) s)  :
    ∀ (x1 : Int32) (x5 : Int32) (y0 : Int32) (y1 : Int32) (y2 : Int32) (y3 : Int32) (μ : Mm), f_X4_makes_b93  x1 x5 y0 y1 y2 y3 μ = some (r, mu1) → ∀ (H : Heap) (locs : List Loc), z_P G μ H → va_S (z_A G s.heap.size) s.heap H locs → ∀ ls : Array Slot, lv_has ls 7 [(0, .ref (G.2.1 (119))), (1, .int (x1)), (5, .int (x5))] → W p l e rm_X4_makes s m args below meth c H locs 0 0 (MQ below (z_Qi G r mu1 s.heap.size) args s 0 0 (z_A G s.heap.size)) (F0 m 93 ls [.int (y0), .int (y1), .int (y2), .int (y3), .ref (G.2.1 (119))]) := by
  have hx := C.1
  have hb := C.2.1
  have hts := C.2.2.2.2
  intro x1 x5 y0 y1 y2 y3 μ h H locs hP hS ls hl
  unfold f_X4_makes_b93 at h
  refine lv_aload_n hx hb dX4_makes_93 rfl (lv_at hl 0 rfl) ?_
  refine z_get C Z hP (k := 119) (ci := 4) (j := 0) (N := 12) (v := .ref (G.2.1 (120))) (by decide) (z_E_119 _) rfl inX4_makes_X4 (by decide) wX4_makes_0 rfl dX4_makes_94 ?_
  refine lv_iload hx hb dX4_makes_97 (lv_at hl 2 rfl) ?_
  refine lv_iconst (v := 3) hx hb dX4_makes_99 (by decide) ?_
  refine lv_iadd hx hb dX4_makes_100 ?_
  obtain ⟨hg20, h⟩ := z_g h
  refine z_iald C Z hP (k := 120) (n := 1710) (j := ((x5 + 3)).toNatClampNeg) (by decide) (z_E_120 _) hg20 rfl dX4_makes_101 ?_
  refine lv_iconst (v := 1) hx hb dX4_makes_102 (by decide) ?_
  refine lv_iadd hx hb dX4_makes_103 ?_
  refine lv_iload_n hx hb dX4_makes_104 rfl (lv_at hl 1 rfl) ?_
  refine lv_bipush (v := 20) hx hb dX4_makes_105 (by decide) ?_
  obtain ⟨r21, m22, e23, h⟩ := zb_some h
  refine z_callv hS (va_runV (As := [.int (y3), .int (y2), .int (y1), .int (y0), .int (((μ (120) (((x5 + 3)).toNatClampNeg)) + 1)), .int (x1), .int (20)]) (rest := []) C (c_X4_cuts_ l G e23 _) (cwV 7 hts gX4_makes_X4_cuts_ rfl rfl rfl hv_X4_cuts_ ⟨Nat.le_of_ble_eq_true rfl, Nat.le_of_ble_eq_true rfl⟩) (z_preV Z hS hP (by decide) (z_E_119 _) rfl rfl) rfl rfl hl.1 rfl (lv_room (Nat.le_of_ble_eq_true rfl)) dX4_makes_107 ⟨Nat.zero_le _, Nat.zero_le _⟩) (fun H locs hP hS => ?_)
  refine lv_iconst (v := 0) hx hb dX4_makes_110 (by decide) ?_
  cases h
  exact z_reti C hr hlk hP hS dX4_makes_111
set_option maxHeartbeats 4000000 in
set_option maxRecDepth 100000 in
theorem c_X4_makes (l : Launch) (G : zG) {x1 : Int32} {x2 : Int32} {x3 : Int32} {μ mu1 : Mm} {r : Int32} (h : f_X4_makes x1 x2 x3 μ = some (r, mu1)) (sz : Nat) : Met l yX4_makes wsX4_makes rm_X4_makes (z_Pre G μ [.ref (G.2.1 (119)), .int (x1), .int (x2), .int (x3)] sz) (z_Qi G r mu1 sz) 0 0 (z_A G sz) := by
  refine z_start (cc := cX4_makes) (maxL := 7) (ret := (some .int)) (own := RX4) (by decide) rfl rfl (Nat.le_of_ble_eq_true rfl) (fun p e s m args below meth c C hr hlk Z hP ls hl => ?_) sz
  have hx := C.1
  have hb := C.2.1
  have hts := C.2.2.2.2
  have hS : va_S (z_A G s.heap.size) s.heap s.heap [] := va_S.rf
  have hl : lv_has ls 7 [(0, .ref (G.2.1 (119))), (1, .int (x1)), (2, .int (x2)), (3, .int (x3))] := hl
  unfold f_X4_makes at h
  refine lv_aload_n hx hb dX4_makes_0 rfl (lv_at hl 0 rfl) ?_
  refine lv_iload_n hx hb dX4_makes_1 rfl (lv_at hl 1 rfl) ?_
  refine lv_iload_n hx hb dX4_makes_2 rfl (lv_at hl 2 rfl) ?_
  refine lv_iload_n hx hb dX4_makes_3 rfl (lv_at hl 3 rfl) ?_
  obtain ⟨r1, m2, e3, h⟩ := zb_some h
  refine z_calli hS (va_runV (As := [.int (x1), .int (x2), .int (x3)]) (rest := []) C (c_X4_copyReason l G e3 _) (cwV 3 hts gX4_makes_X4_copyReason rfl rfl rfl hv_X4_copyReason ⟨Nat.le_of_ble_eq_true rfl, Nat.le_of_ble_eq_true rfl⟩) (z_preV Z hS hP (by decide) (z_E_119 _) rfl rfl) rfl rfl hl.1 rfl (lv_room (Nat.le_of_ble_eq_true rfl)) dX4_makes_4 ⟨Nat.zero_le _, Nat.zero_le _⟩) (fun H locs hP hS => ?_)
  refine lv_istore (lv' := [(4, .int (r1)), (0, .ref (G.2.1 (119))), (1, .int (x1)), (2, .int (x2)), (3, .int (x3))]) hx hb dX4_makes_7 hl (by decide) rfl (fun ls hl => ?_)
  refine lv_iload hx hb dX4_makes_9 (lv_at hl 0 rfl) ?_
  refine lv_if_eq (tgt := 28) hx hb dX4_makes_11 (by decide) (fun hc4 => ?_) (fun hc4 => ?_)
  · have h := z_ip hc4 h
    refine lv_aload_n hx hb dX4_makes_28 rfl (lv_at hl 1 rfl) ?_
    refine z_get C Z hP (k := 119) (ci := 4) (j := 0) (N := 12) (v := .ref (G.2.1 (120))) (by decide) (z_E_119 _) rfl inX4_makes_X4 (by decide) wX4_makes_0 rfl dX4_makes_29 ?_
    refine lv_iconst (v := 4) hx hb dX4_makes_32 (by decide) ?_
    refine lv_dup2_11 hx hb dX4_makes_33 rfl rfl ?_
    refine z_iald C Z hP (k := 120) (n := 1710) (j := 4) (by decide) (z_E_120 _) (show z_ix 4 1710 by decide) rfl dX4_makes_34 ?_
    refine lv_iconst (v := 1) hx hb dX4_makes_35 (by decide) ?_
    refine lv_iadd hx hb dX4_makes_36 ?_
    refine z_iast C Z hP hS (k := 120) (n := 1710) (j := 4) (by decide) (fun r => z_E_120 r) (show z_ix 4 1710 by decide) rfl dX4_makes_37 (fun H locs hP hS => ?_)
    refine lv_iload_n hx hb dX4_makes_38 rfl (lv_at hl 2 rfl) ?_
    obtain ⟨r5, m6, e7, h⟩ := zb_some h
    refine z_calli hS (va_runS (As := [.int (x1)]) (rest := []) C (c_X4_at l G e7 _) (va_cwS 1 hts gX4_makes_X4_at rfl rfl rfl hd_X4_at ⟨Nat.le_of_ble_eq_true rfl, Nat.le_of_ble_eq_true rfl⟩) (z_preS Z hS hP) rfl rfl hl.1 rfl (lv_room (Nat.le_of_ble_eq_true rfl)) dX4_makes_39 ⟨Nat.zero_le _, Nat.zero_le _⟩) (fun H locs hP hS => ?_)
    refine lv_istore (lv' := [(5, .int (r5)), (4, .int (r1)), (0, .ref (G.2.1 (119))), (1, .int (x1)), (2, .int (x2)), (3, .int (x3))]) hx hb dX4_makes_42 hl (by decide) rfl (fun ls hl => ?_)
    refine lv_aload_n hx hb dX4_makes_44 rfl (lv_at hl 2 rfl) ?_
    refine z_get C Z hP (k := 119) (ci := 4) (j := 0) (N := 12) (v := .ref (G.2.1 (120))) (by decide) (z_E_119 _) rfl inX4_makes_X4 (by decide) wX4_makes_0 rfl dX4_makes_45 ?_
    refine lv_iload hx hb dX4_makes_48 (lv_at hl 0 rfl) ?_
    refine lv_iconst (v := 2) hx hb dX4_makes_50 (by decide) ?_
    refine lv_iadd hx hb dX4_makes_51 ?_
    obtain ⟨hg8, h⟩ := z_g h
    refine z_iald C Z hP (k := 120) (n := 1710) (j := ((r5 + 2)).toNatClampNeg) (by decide) (z_E_120 _) hg8 rfl dX4_makes_52 ?_
    refine lv_aload_n hx hb dX4_makes_53 rfl (lv_at hl 2 rfl) ?_
    obtain ⟨r9, m10, e11, h⟩ := zb_some h
    refine z_calli hS (va_runV (As := []) (rest := [.int ((m6 (120) (((r5 + 2)).toNatClampNeg)))]) C (c_X4_machineFlutter l G e11 _) (cwV 0 hts gX4_makes_X4_machineFlutter rfl rfl rfl hv_X4_machineFlutter ⟨Nat.le_of_ble_eq_true rfl, Nat.le_of_ble_eq_true rfl⟩) (z_preV Z hS hP (by decide) (z_E_119 _) rfl rfl) rfl rfl hl.1 rfl (lv_room (Nat.le_of_ble_eq_true rfl)) dX4_makes_54 ⟨Nat.zero_le _, Nat.zero_le _⟩) (fun H locs hP hS => ?_)
    refine lv_iadd hx hb dX4_makes_57 ?_
    refine lv_istore (lv' := [(6, .int (((m6 (120) (((r5 + 2)).toNatClampNeg)) + r9))), (5, .int (r5)), (4, .int (r1)), (0, .ref (G.2.1 (119))), (1, .int (x1)), (2, .int (x2)), (3, .int (x3))]) hx hb dX4_makes_58 hl (by decide) rfl (fun ls hl => ?_)
    refine lv_aload_n hx hb dX4_makes_60 rfl (lv_at hl 3 rfl) ?_
    refine lv_iload_n hx hb dX4_makes_61 rfl (lv_at hl 5 rfl) ?_
    refine lv_aload_n hx hb dX4_makes_62 rfl (lv_at hl 3 rfl) ?_
    refine z_get C Z hP (k := 119) (ci := 4) (j := 0) (N := 12) (v := .ref (G.2.1 (120))) (by decide) (z_E_119 _) rfl inX4_makes_X4 (by decide) wX4_makes_0 rfl dX4_makes_63 ?_
    refine lv_iload hx hb dX4_makes_66 (lv_at hl 1 rfl) ?_
    obtain ⟨hg12, h⟩ := z_g h
    refine z_iald C Z hP (k := 120) (n := 1710) (j := (r5).toNatClampNeg) (by decide) (z_E_120 _) hg12 rfl dX4_makes_68 ?_
    refine lv_iload_n hx hb dX4_makes_69 rfl (lv_at hl 6 rfl) ?_
    obtain ⟨r13, m14, e15, h⟩ := zb_some h
    refine z_calli hS (va_runS (As := [.int ((m10 (120) ((r5).toNatClampNeg))), .int (x3)]) (rest := [.int (x2), .ref (G.2.1 (119))]) C (c_X4_depthBy l G e15 _) (va_cwS 2 hts gX4_makes_X4_depthBy rfl rfl rfl hd_X4_depthBy ⟨Nat.le_of_ble_eq_true rfl, Nat.le_of_ble_eq_true rfl⟩) (z_preS Z hS hP) rfl rfl hl.1 rfl (lv_room (Nat.le_of_ble_eq_true rfl)) dX4_makes_70 ⟨Nat.zero_le _, Nat.zero_le _⟩) (fun H locs hP hS => ?_)
    refine lv_aload_n hx hb dX4_makes_73 rfl (lv_at hl 3 rfl) ?_
    refine lv_iload_n hx hb dX4_makes_74 rfl (lv_at hl 4 rfl) ?_
    refine lv_iload_n hx hb dX4_makes_75 rfl (lv_at hl 6 rfl) ?_
    obtain ⟨r16, m17, e18, h⟩ := zb_some h
    refine z_calli hS (va_runV (As := [.int (x1), .int (x3)]) (rest := [.int (r13), .int (x2), .ref (G.2.1 (119))]) C (c_X4_clearOfCopy l G e18 _) (cwV 2 hts gX4_makes_X4_clearOfCopy rfl rfl rfl hv_X4_clearOfCopy ⟨Nat.le_of_ble_eq_true rfl, Nat.le_of_ble_eq_true rfl⟩) (z_preV Z hS hP (by decide) (z_E_119 _) rfl rfl) rfl rfl hl.1 rfl (lv_room (Nat.le_of_ble_eq_true rfl)) dX4_makes_76 ⟨Nat.zero_le _, Nat.zero_le _⟩) (fun H locs hP hS => ?_)
    refine lv_iload hx hb dX4_makes_79 (lv_at hl 0 rfl) ?_
    refine lv_bipush (v := 20) hx hb dX4_makes_81 (by decide) ?_
    refine lv_icmp_le (tgt := 91) hx hb dX4_makes_83 (by decide) (fun hc19 => ?_) (fun hc19 => ?_)
    · have h := z_ip hc19 h
      refine lv_iload hx hb dX4_makes_91 (lv_at hl 0 rfl) ?_
      exact L_X4_makes_b93 C hr hlk Z _ _ _ _ _ _ _ h _ _ hP hS ls (lv_sub hl [3, 4, 1] rfl)
    · have h := z_in hc19 h
      refine lv_bipush (v := 20) hx hb dX4_makes_86 (by decide) ?_
      refine lv_goto (tgt := 93) hx hb dX4_makes_88 (by decide) ?_
      exact L_X4_makes_b93 C hr hlk Z _ _ _ _ _ _ _ h _ _ hP hS ls (lv_sub hl [3, 4, 1] rfl)
  · have h := z_in hc4 h
    refine lv_aload_n hx hb dX4_makes_14 rfl (lv_at hl 1 rfl) ?_
    refine z_get C Z hP (k := 119) (ci := 4) (j := 0) (N := 12) (v := .ref (G.2.1 (120))) (by decide) (z_E_119 _) rfl inX4_makes_X4 (by decide) wX4_makes_0 rfl dX4_makes_15 ?_
    refine lv_bipush (v := 9) hx hb dX4_makes_18 (by decide) ?_
    refine lv_dup2_11 hx hb dX4_makes_20 rfl rfl ?_
    refine z_iald C Z hP (k := 120) (n := 1710) (j := 9) (by decide) (z_E_120 _) (show z_ix 9 1710 by decide) rfl dX4_makes_21 ?_
    refine lv_iconst (v := 1) hx hb dX4_makes_22 (by decide) ?_
    refine lv_iadd hx hb dX4_makes_23 ?_
    refine z_iast C Z hP hS (k := 120) (n := 1710) (j := 9) (by decide) (fun r => z_E_120 r) (show z_ix 9 1710 by decide) rfl dX4_makes_24 (fun H locs hP hS => ?_)
    refine lv_iload hx hb dX4_makes_25 (lv_at hl 0 rfl) ?_
    cases h
    exact z_reti C hr hlk hP hS dX4_makes_27
abbrev rm_X4_plays : Room := { frames := 3, cells := 0, slots := 0, locals := 62 }
theorem hd_X4_plays : yX4_plays.cls ≠ "java/lang/invoke/MethodHandle" ∧ yX4_plays.cls ≠ "java/lang/invoke/VarHandle" ∧ (parseMethodDescriptor yX4_plays.desc).map (fun d => d.parameters.length) = some 1 := by decide +kernel
theorem hv_X4_plays : yX4_plays.cls = RX4 ∧ yX4_plays.cls ≠ "java/lang/invoke/MethodHandle" ∧ yX4_plays.cls ≠ "java/lang/invoke/VarHandle" ∧ (parseMethodDescriptor yX4_plays.desc).map (fun d => d.parameters.length) = some 1 := ⟨rfl, hd_X4_plays⟩
theorem wX4_plays_0 : Cond.fieldLink RX4 7 "WaxCopiesModel" "s" "[I" ∈ wsX4_plays := by decide +kernel
theorem inX4_plays_X4 : ∀ w ∈ wsX40, w ∈ wsX4_plays := by decide +kernel
set_option maxHeartbeats 4000000 in
set_option maxRecDepth 100000 in
theorem c_X4_plays (l : Launch) (G : zG) {x1 : Int32} {μ mu1 : Mm} {r : Int32} (h : f_X4_plays x1 μ = some (r, mu1)) (sz : Nat) : Met l yX4_plays wsX4_plays rm_X4_plays (z_Pre G μ [.ref (G.2.1 (119)), .int (x1)] sz) (z_Qi G r mu1 sz) 0 0 (z_A G sz) := by
  refine z_start (cc := cX4_plays) (maxL := 4) (ret := (some .int)) (own := RX4) (by decide) rfl rfl (Nat.le_of_ble_eq_true rfl) (fun p e s m args below meth c C hr hlk Z hP ls hl => ?_) sz
  have hx := C.1
  have hb := C.2.1
  have hts := C.2.2.2.2
  have hS : va_S (z_A G s.heap.size) s.heap s.heap [] := va_S.rf
  have hl : lv_has ls 4 [(0, .ref (G.2.1 (119))), (1, .int (x1))] := hl
  unfold f_X4_plays at h
  refine lv_aload_n hx hb dX4_plays_0 rfl (lv_at hl 0 rfl) ?_
  refine lv_iload_n hx hb dX4_plays_1 rfl (lv_at hl 1 rfl) ?_
  obtain ⟨r1, m2, e3, h⟩ := zb_some h
  refine z_calli hS (va_runV (As := [.int (x1)]) (rest := []) C (c_X4_playReason l G e3 _) (cwV 1 hts gX4_plays_X4_playReason rfl rfl rfl hv_X4_playReason ⟨Nat.le_of_ble_eq_true rfl, Nat.le_of_ble_eq_true rfl⟩) (z_preV Z hS hP (by decide) (z_E_119 _) rfl rfl) rfl rfl hl.1 rfl (lv_room (Nat.le_of_ble_eq_true rfl)) dX4_plays_2 ⟨Nat.zero_le _, Nat.zero_le _⟩) (fun H locs hP hS => ?_)
  refine lv_istore_n (lv' := [(2, .int (r1)), (0, .ref (G.2.1 (119))), (1, .int (x1))]) hx hb dX4_plays_5 rfl hl (by decide) rfl (fun ls hl => ?_)
  refine lv_iload_n hx hb dX4_plays_6 rfl (lv_at hl 0 rfl) ?_
  refine lv_if_eq (tgt := 23) hx hb dX4_plays_7 (by decide) (fun hc4 => ?_) (fun hc4 => ?_)
  · have h := z_ip hc4 h
    refine lv_iload_n hx hb dX4_plays_23 rfl (lv_at hl 2 rfl) ?_
    obtain ⟨r5, m6, e7, h⟩ := zb_some h
    refine z_calli hS (va_runS (As := [.int (x1)]) (rest := []) C (c_X4_at l G e7 _) (va_cwS 1 hts gX4_plays_X4_at rfl rfl rfl hd_X4_at ⟨Nat.le_of_ble_eq_true rfl, Nat.le_of_ble_eq_true rfl⟩) (z_preS Z hS hP) rfl rfl hl.1 rfl (lv_room (Nat.le_of_ble_eq_true rfl)) dX4_plays_24 ⟨Nat.zero_le _, Nat.zero_le _⟩) (fun H locs hP hS => ?_)
    refine lv_istore_n (lv' := [(3, .int (r5)), (2, .int (r1)), (0, .ref (G.2.1 (119))), (1, .int (x1))]) hx hb dX4_plays_27 rfl hl (by decide) rfl (fun ls hl => ?_)
    refine lv_aload_n hx hb dX4_plays_28 rfl (lv_at hl 2 rfl) ?_
    refine z_get C Z hP (k := 119) (ci := 4) (j := 0) (N := 12) (v := .ref (G.2.1 (120))) (by decide) (z_E_119 _) rfl inX4_plays_X4 (by decide) wX4_plays_0 rfl dX4_plays_29 ?_
    refine lv_iconst (v := 5) hx hb dX4_plays_32 (by decide) ?_
    refine lv_dup2_11 hx hb dX4_plays_33 rfl rfl ?_
    refine z_iald C Z hP (k := 120) (n := 1710) (j := 5) (by decide) (z_E_120 _) (show z_ix 5 1710 by decide) rfl dX4_plays_34 ?_
    refine lv_iconst (v := 1) hx hb dX4_plays_35 (by decide) ?_
    refine lv_iadd hx hb dX4_plays_36 ?_
    refine z_iast C Z hP hS (k := 120) (n := 1710) (j := 5) (by decide) (fun r => z_E_120 r) (show z_ix 5 1710 by decide) rfl dX4_plays_37 (fun H locs hP hS => ?_)
    refine lv_aload_n hx hb dX4_plays_38 rfl (lv_at hl 2 rfl) ?_
    refine z_get C Z hP (k := 119) (ci := 4) (j := 0) (N := 12) (v := .ref (G.2.1 (120))) (by decide) (z_E_119 _) rfl inX4_plays_X4 (by decide) wX4_plays_0 rfl dX4_plays_39 ?_
    refine lv_iload_n hx hb dX4_plays_42 rfl (lv_at hl 0 rfl) ?_
    refine lv_bipush (v := 6) hx hb dX4_plays_43 (by decide) ?_
    refine lv_iadd hx hb dX4_plays_45 ?_
    refine lv_dup2_11 hx hb dX4_plays_46 rfl rfl ?_
    obtain ⟨hg8, h⟩ := z_g h
    refine z_iald C Z hP (k := 120) (n := 1710) (j := ((r5 + 6)).toNatClampNeg) (by decide) (z_E_120 _) hg8 rfl dX4_plays_47 ?_
    refine lv_iconst (v := 1) hx hb dX4_plays_48 (by decide) ?_
    refine lv_iadd hx hb dX4_plays_49 ?_
    refine z_iast C Z hP hS (k := 120) (n := 1710) (j := ((r5 + 6)).toNatClampNeg) (by decide) (fun r => z_E_120 r) hg8 rfl dX4_plays_50 (fun H locs hP hS => ?_)
    refine lv_aload_n hx hb dX4_plays_51 rfl (lv_at hl 2 rfl) ?_
    obtain ⟨m9, hm10, h⟩ := zm_some h
    rw [← hm10] at hP
    refine z_get C Z hP (k := 119) (ci := 4) (j := 0) (N := 12) (v := .ref (G.2.1 (120))) (by decide) (z_E_119 _) rfl inX4_plays_X4 (by decide) wX4_plays_0 rfl dX4_plays_52 ?_
    refine lv_iload_n hx hb dX4_plays_55 rfl (lv_at hl 0 rfl) ?_
    refine lv_iconst (v := 1) hx hb dX4_plays_56 (by decide) ?_
    refine lv_iadd hx hb dX4_plays_57 ?_
    refine lv_aload_n hx hb dX4_plays_58 rfl (lv_at hl 2 rfl) ?_
    refine z_get C Z hP (k := 119) (ci := 4) (j := 0) (N := 12) (v := .ref (G.2.1 (120))) (by decide) (z_E_119 _) rfl inX4_plays_X4 (by decide) wX4_plays_0 rfl dX4_plays_59 ?_
    refine lv_iload_n hx hb dX4_plays_62 rfl (lv_at hl 0 rfl) ?_
    refine lv_iconst (v := 1) hx hb dX4_plays_63 (by decide) ?_
    refine lv_iadd hx hb dX4_plays_64 ?_
    obtain ⟨hg11, h⟩ := z_g h
    refine z_iald C Z hP (k := 120) (n := 1710) (j := ((r5 + 1)).toNatClampNeg) (by decide) (z_E_120 _) hg11 rfl dX4_plays_65 ?_
    refine lv_aload_n hx hb dX4_plays_66 rfl (lv_at hl 2 rfl) ?_
    refine z_get C Z hP (k := 119) (ci := 4) (j := 0) (N := 12) (v := .ref (G.2.1 (120))) (by decide) (z_E_119 _) rfl inX4_plays_X4 (by decide) wX4_plays_0 rfl dX4_plays_67 ?_
    refine lv_iconst (v := 2) hx hb dX4_plays_70 (by decide) ?_
    refine z_iald C Z hP (k := 120) (n := 1710) (j := 2) (by decide) (z_E_120 _) (show z_ix 2 1710 by decide) rfl dX4_plays_71 ?_
    refine lv_isub hx hb dX4_plays_72 ?_
    refine lv_iconst (v := 0) hx hb dX4_plays_73 (by decide) ?_
    obtain ⟨r12, m13, e14, h⟩ := zb_some h
    refine z_calli hS (va_runS (As := [.int (((m9 (120) (((r5 + 1)).toNatClampNeg)) - (m9 (120) 2))), .int (0)]) (rest := [.int ((r5 + 1)), .ref (G.2.1 (120))]) C (c_X4_atLeast l G e14 _) (va_cwS 2 hts gX4_plays_X4_atLeast rfl rfl rfl hd_X4_atLeast ⟨Nat.le_of_ble_eq_true rfl, Nat.le_of_ble_eq_true rfl⟩) (z_preS Z hS hP) rfl rfl hl.1 rfl (lv_room (Nat.le_of_ble_eq_true rfl)) dX4_plays_74 ⟨Nat.zero_le _, Nat.zero_le _⟩) (fun H locs hP hS => ?_)
    refine z_iast C Z hP hS (k := 120) (n := 1710) (j := ((r5 + 1)).toNatClampNeg) (by decide) (fun r => z_E_120 r) hg11 rfl dX4_plays_77 (fun H locs hP hS => ?_)
    refine lv_aload_n hx hb dX4_plays_78 rfl (lv_at hl 2 rfl) ?_
    refine z_get C Z hP (k := 119) (ci := 4) (j := 0) (N := 12) (v := .ref (G.2.1 (120))) (by decide) (z_E_119 _) rfl inX4_plays_X4 (by decide) wX4_plays_0 rfl dX4_plays_79 ?_
    refine lv_iconst (v := 1) hx hb dX4_plays_82 (by decide) ?_
    refine lv_dup2_11 hx hb dX4_plays_83 rfl rfl ?_
    refine z_iald C Z hP (k := 120) (n := 1710) (j := 1) (by decide) (z_E_120 _) (show z_ix 1 1710 by decide) rfl dX4_plays_84 ?_
    refine lv_iconst (v := 5) hx hb dX4_plays_85 (by decide) ?_
    refine lv_isub hx hb dX4_plays_86 ?_
    refine z_iast C Z hP hS (k := 120) (n := 1710) (j := 1) (by decide) (fun r => z_E_120 r) (show z_ix 1 1710 by decide) rfl dX4_plays_87 (fun H locs hP hS => ?_)
    refine lv_bipush (v := 10) hx hb dX4_plays_88 (by decide) ?_
    refine lv_aload_n hx hb dX4_plays_90 rfl (lv_at hl 2 rfl) ?_
    obtain ⟨m15, hm16, h⟩ := zm_some h
    rw [← hm16] at hP
    refine z_get C Z hP (k := 119) (ci := 4) (j := 0) (N := 12) (v := .ref (G.2.1 (120))) (by decide) (z_E_119 _) rfl inX4_plays_X4 (by decide) wX4_plays_0 rfl dX4_plays_91 ?_
    refine lv_iload_n hx hb dX4_plays_94 rfl (lv_at hl 0 rfl) ?_
    refine lv_iconst (v := 1) hx hb dX4_plays_95 (by decide) ?_
    refine lv_iadd hx hb dX4_plays_96 ?_
    refine z_iald C Z hP (k := 120) (n := 1710) (j := ((r5 + 1)).toNatClampNeg) (by decide) (z_E_120 _) hg11 rfl dX4_plays_97 ?_
    refine lv_iadd hx hb dX4_plays_98 ?_
    cases h
    exact z_reti C hr hlk hP hS dX4_plays_99
  · have h := z_in hc4 h
    refine lv_aload_n hx hb dX4_plays_10 rfl (lv_at hl 1 rfl) ?_
    refine z_get C Z hP (k := 119) (ci := 4) (j := 0) (N := 12) (v := .ref (G.2.1 (120))) (by decide) (z_E_119 _) rfl inX4_plays_X4 (by decide) wX4_plays_0 rfl dX4_plays_11 ?_
    refine lv_bipush (v := 9) hx hb dX4_plays_14 (by decide) ?_
    refine lv_dup2_11 hx hb dX4_plays_16 rfl rfl ?_
    refine z_iald C Z hP (k := 120) (n := 1710) (j := 9) (by decide) (z_E_120 _) (show z_ix 9 1710 by decide) rfl dX4_plays_17 ?_
    refine lv_iconst (v := 1) hx hb dX4_plays_18 (by decide) ?_
    refine lv_iadd hx hb dX4_plays_19 ?_
    refine z_iast C Z hP hS (k := 120) (n := 1710) (j := 9) (by decide) (fun r => z_E_120 r) (show z_ix 9 1710 by decide) rfl dX4_plays_20 (fun H locs hP hS => ?_)
    refine lv_iload_n hx hb dX4_plays_21 rfl (lv_at hl 0 rfl) ?_
    cases h
    exact z_reti C hr hlk hP hS dX4_plays_22
