abbrev rm_X4_cutsOf : Room := { frames := 2, cells := 0, slots := 0, locals := 41 }
theorem hd_X4_cutsOf : yX4_cutsOf.cls ≠ "java/lang/invoke/MethodHandle" ∧ yX4_cutsOf.cls ≠ "java/lang/invoke/VarHandle" ∧ (parseMethodDescriptor yX4_cutsOf.desc).map (fun d => d.parameters.length) = some 1 := by decide +kernel
theorem hv_X4_cutsOf : yX4_cutsOf.cls = RX4 ∧ yX4_cutsOf.cls ≠ "java/lang/invoke/MethodHandle" ∧ yX4_cutsOf.cls ≠ "java/lang/invoke/VarHandle" ∧ (parseMethodDescriptor yX4_cutsOf.desc).map (fun d => d.parameters.length) = some 1 := ⟨rfl, hd_X4_cutsOf⟩
set_option maxHeartbeats 4000000 in
set_option maxRecDepth 100000 in
theorem L_X4_cutsOf_b6 {p : Program} {l : Launch} {e : Env} {s : State} {m : MethodId} {args : Array Value} {below : List Frame} {meth : Method} {c : Code} {G : zG} {r : Int32} {mu1 : Mm}  (C : CallFix p m c cX4_cutsOf 4 s args wsX4_cutsOf RX4) (hr : meth.sig.returnType = (some .int)) (hlk : meth.locks = false) (Z : z_Z G (z_A G s.heap.size) s)  :
    ∀ (n : Nat) (x1 : Int32) (x2 : Int32) (x3 : Int32) (μ : Mm), f_X4_cutsOf_b6  n x1 x2 x3 μ = some (r, mu1) → ∀ (H : Heap) (locs : List Loc), z_P G μ H → va_S (z_A G s.heap.size) s.heap H locs → ∀ ls : Array Slot, lv_has ls 4 [(0, .ref (G.2.1 (119))), (1, .int (x1)), (2, .int (x2)), (3, .int (x3))] → W p l e rm_X4_cutsOf s m args below meth c H locs 0 0 (MQ below (z_Qi G r mu1 s.heap.size) args s 0 0 (z_A G s.heap.size)) (F0 m 6 ls []) := by
  have hx := C.1
  have hb := C.2.1
  have hts := C.2.2.2.2
  intro n
  induction n with
  | zero =>
    intro x1 x2 x3 μ h
    rw [f_X4_cutsOf_b6] at h
    cases h
  | succ n ih =>
    intro x1 x2 x3 μ h H locs hP hS ls hl
    rw [f_X4_cutsOf_b6] at h
    refine lv_iload_n hx hb dX4_cutsOf_6 rfl (lv_at hl 3 rfl) ?_
    refine lv_iconst (v := 4) hx hb dX4_cutsOf_7 (by decide) ?_
    refine lv_iload_n hx hb dX4_cutsOf_8 rfl (lv_at hl 1 rfl) ?_
    refine lv_imul hx hb dX4_cutsOf_9 ?_
    refine lv_iconst (v := 4) hx hb dX4_cutsOf_10 (by decide) ?_
    refine lv_iadd hx hb dX4_cutsOf_11 ?_
    refine lv_icmp_ge (tgt := 37) hx hb dX4_cutsOf_12 (by decide) (fun hc1 => ?_) (fun hc1 => ?_)
    · have h := z_ip hc1 h
      refine lv_iload_n hx hb dX4_cutsOf_37 rfl (lv_at hl 2 rfl) ?_
      cases h
      exact z_reti C hr hlk hP hS dX4_cutsOf_38
    · have h := z_in hc1 h
      refine lv_iload_n hx hb dX4_cutsOf_15 rfl (lv_at hl 2 rfl) ?_
      refine lv_aload_n hx hb dX4_cutsOf_16 rfl (lv_at hl 0 rfl) ?_
      refine lv_iload_n hx hb dX4_cutsOf_17 rfl (lv_at hl 3 rfl) ?_
      obtain ⟨r2, m3, e4, h⟩ := zb_some h
      refine z_calli hS (va_runV (As := [.int (x3)]) (rest := [.int (x2)]) C (c_X4_isCut l G e4 _) (cwV 1 hts gX4_cutsOf_X4_isCut rfl rfl rfl hv_X4_isCut ⟨Nat.le_of_ble_eq_true rfl, Nat.le_of_ble_eq_true rfl⟩) (z_preV Z hS hP (by decide) (z_E_119 _) rfl rfl) rfl rfl hl.1 rfl (lv_room (Nat.le_of_ble_eq_true rfl)) dX4_cutsOf_18 ⟨Nat.zero_le _, Nat.zero_le _⟩) (fun H locs hP hS => ?_)
      refine lv_if_eq (tgt := 28) hx hb dX4_cutsOf_21 (by decide) (fun hc5 => ?_) (fun hc5 => ?_)
      · have h := z_ip hc5 h
        refine lv_iconst (v := 0) hx hb dX4_cutsOf_28 (by decide) ?_
        refine lv_iadd hx hb dX4_cutsOf_29 ?_
        refine lv_istore_n (lv' := [(2, .int ((x2 + 0))), (0, .ref (G.2.1 (119))), (1, .int (x1)), (3, .int (x3))]) hx hb dX4_cutsOf_30 rfl hl (by decide) rfl (fun ls hl => ?_)
        refine lv_iinc (v := (x3 + 1)) (lv' := [(3, .int ((x3 + 1))), (2, .int ((x2 + 0))), (0, .ref (G.2.1 (119))), (1, .int (x1))]) hx hb dX4_cutsOf_31 hl (k := 3) rfl rfl (by decide) rfl (fun ls hl => ?_)
        refine lv_goto (tgt := 6) hx hb dX4_cutsOf_34 (by decide) ?_
        exact ih _ _ _ _ h _ _ hP hS ls (lv_sub hl [2, 3, 1, 0] rfl)
      · have h := z_in hc5 h
        refine lv_iconst (v := 1) hx hb dX4_cutsOf_24 (by decide) ?_
        refine lv_goto (tgt := 29) hx hb dX4_cutsOf_25 (by decide) ?_
        refine lv_iadd hx hb dX4_cutsOf_29 ?_
        refine lv_istore_n (lv' := [(2, .int ((x2 + 1))), (0, .ref (G.2.1 (119))), (1, .int (x1)), (3, .int (x3))]) hx hb dX4_cutsOf_30 rfl hl (by decide) rfl (fun ls hl => ?_)
        refine lv_iinc (v := (x3 + 1)) (lv' := [(3, .int ((x3 + 1))), (2, .int ((x2 + 1))), (0, .ref (G.2.1 (119))), (1, .int (x1))]) hx hb dX4_cutsOf_31 hl (k := 3) rfl rfl (by decide) rfl (fun ls hl => ?_)
        refine lv_goto (tgt := 6) hx hb dX4_cutsOf_34 (by decide) ?_
        exact ih _ _ _ _ h _ _ hP hS ls (lv_sub hl [2, 3, 1, 0] rfl)
set_option maxHeartbeats 4000000 in
set_option maxRecDepth 100000 in
theorem c_X4_cutsOf (l : Launch) (G : zG) {x1 : Int32} {μ mu1 : Mm} {r : Int32} (h : f_X4_cutsOf x1 μ = some (r, mu1)) (sz : Nat) : Met l yX4_cutsOf wsX4_cutsOf rm_X4_cutsOf (z_Pre G μ [.ref (G.2.1 (119)), .int (x1)] sz) (z_Qi G r mu1 sz) 0 0 (z_A G sz) := by
  refine z_start (cc := cX4_cutsOf) (maxL := 4) (ret := (some .int)) (own := RX4) (by decide) rfl rfl (Nat.le_of_ble_eq_true rfl) (fun p e s m args below meth c C hr hlk Z hP ls hl => ?_) sz
  have hx := C.1
  have hb := C.2.1
  have hts := C.2.2.2.2
  have hS : va_S (z_A G s.heap.size) s.heap s.heap [] := va_S.rf
  have hl : lv_has ls 4 [(0, .ref (G.2.1 (119))), (1, .int (x1))] := hl
  unfold f_X4_cutsOf at h
  refine lv_iconst (v := 0) hx hb dX4_cutsOf_0 (by decide) ?_
  refine lv_istore_n (lv' := [(2, .int (0)), (0, .ref (G.2.1 (119))), (1, .int (x1))]) hx hb dX4_cutsOf_1 rfl hl (by decide) rfl (fun ls hl => ?_)
  refine lv_iconst (v := 4) hx hb dX4_cutsOf_2 (by decide) ?_
  refine lv_iload_n hx hb dX4_cutsOf_3 rfl (lv_at hl 2 rfl) ?_
  refine lv_imul hx hb dX4_cutsOf_4 ?_
  refine lv_istore_n (lv' := [(3, .int ((4 * x1))), (2, .int (0)), (0, .ref (G.2.1 (119))), (1, .int (x1))]) hx hb dX4_cutsOf_5 rfl hl (by decide) rfl (fun ls hl => ?_)
  exact L_X4_cutsOf_b6 C hr hlk Z z_F _ _ _ _ h _ _ hP hS ls (lv_sub hl [2, 3, 1, 0] rfl)
abbrev rm_X4_clearestOf : Room := { frames := 2, cells := 0, slots := 0, locals := 41 }
theorem hd_X4_clearestOf : yX4_clearestOf.cls ≠ "java/lang/invoke/MethodHandle" ∧ yX4_clearestOf.cls ≠ "java/lang/invoke/VarHandle" ∧ (parseMethodDescriptor yX4_clearestOf.desc).map (fun d => d.parameters.length) = some 1 := by decide +kernel
theorem hv_X4_clearestOf : yX4_clearestOf.cls = RX4 ∧ yX4_clearestOf.cls ≠ "java/lang/invoke/MethodHandle" ∧ yX4_clearestOf.cls ≠ "java/lang/invoke/VarHandle" ∧ (parseMethodDescriptor yX4_clearestOf.desc).map (fun d => d.parameters.length) = some 1 := ⟨rfl, hd_X4_clearestOf⟩
theorem wX4_clearestOf_0 : Cond.fieldLink RX4 7 "WaxCopiesModel" "s" "[I" ∈ wsX4_clearestOf := by decide +kernel
theorem inX4_clearestOf_X4 : ∀ w ∈ wsX40, w ∈ wsX4_clearestOf := by decide +kernel
set_option maxHeartbeats 4000000 in
set_option maxRecDepth 100000 in
theorem L_X4_clearestOf_b6 {p : Program} {l : Launch} {e : Env} {s : State} {m : MethodId} {args : Array Value} {below : List Frame} {meth : Method} {c : Code} {G : zG} {r : Int32} {mu1 : Mm}  (C : CallFix p m c cX4_clearestOf 4 s args wsX4_clearestOf RX4) (hr : meth.sig.returnType = (some .int)) (hlk : meth.locks = false) (Z : z_Z G (z_A G s.heap.size) s)  :
    ∀ (n : Nat) (x1 : Int32) (x2 : Int32) (x3 : Int32) (μ : Mm), f_X4_clearestOf_b6  n x1 x2 x3 μ = some (r, mu1) → ∀ (H : Heap) (locs : List Loc), z_P G μ H → va_S (z_A G s.heap.size) s.heap H locs → ∀ ls : Array Slot, lv_has ls 4 [(0, .ref (G.2.1 (119))), (1, .int (x1)), (2, .int (x2)), (3, .int (x3))] → W p l e rm_X4_clearestOf s m args below meth c H locs 0 0 (MQ below (z_Qi G r mu1 s.heap.size) args s 0 0 (z_A G s.heap.size)) (F0 m 6 ls []) := by
  have hx := C.1
  have hb := C.2.1
  have hts := C.2.2.2.2
  intro n
  induction n with
  | zero =>
    intro x1 x2 x3 μ h
    rw [f_X4_clearestOf_b6] at h
    cases h
  | succ n ih =>
    intro x1 x2 x3 μ h H locs hP hS ls hl
    rw [f_X4_clearestOf_b6] at h
    refine lv_iload_n hx hb dX4_clearestOf_6 rfl (lv_at hl 3 rfl) ?_
    refine lv_iconst (v := 4) hx hb dX4_clearestOf_7 (by decide) ?_
    refine lv_iload_n hx hb dX4_clearestOf_8 rfl (lv_at hl 1 rfl) ?_
    refine lv_imul hx hb dX4_clearestOf_9 ?_
    refine lv_iconst (v := 4) hx hb dX4_clearestOf_10 (by decide) ?_
    refine lv_iadd hx hb dX4_clearestOf_11 ?_
    refine lv_icmp_ge (tgt := 65) hx hb dX4_clearestOf_12 (by decide) (fun hc1 => ?_) (fun hc1 => ?_)
    · have h := z_ip hc1 h
      refine lv_iload_n hx hb dX4_clearestOf_65 rfl (lv_at hl 2 rfl) ?_
      cases h
      exact z_reti C hr hlk hP hS dX4_clearestOf_66
    · have h := z_in hc1 h
      refine lv_aload_n hx hb dX4_clearestOf_15 rfl (lv_at hl 0 rfl) ?_
      refine lv_iload_n hx hb dX4_clearestOf_16 rfl (lv_at hl 3 rfl) ?_
      obtain ⟨r2, m3, e4, h⟩ := zb_some h
      refine z_calli hS (va_runV (As := [.int (x3)]) (rest := []) C (c_X4_isCut l G e4 _) (cwV 1 hts gX4_clearestOf_X4_isCut rfl rfl rfl hv_X4_isCut ⟨Nat.le_of_ble_eq_true rfl, Nat.le_of_ble_eq_true rfl⟩) (z_preV Z hS hP (by decide) (z_E_119 _) rfl rfl) rfl rfl hl.1 rfl (lv_room (Nat.le_of_ble_eq_true rfl)) dX4_clearestOf_17 ⟨Nat.zero_le _, Nat.zero_le _⟩) (fun H locs hP hS => ?_)
      refine lv_if_eq (tgt := 57) hx hb dX4_clearestOf_20 (by decide) (fun hc5 => ?_) (fun hc5 => ?_)
      · have h := z_ip hc5 h
        refine lv_iload_n hx hb dX4_clearestOf_57 rfl (lv_at hl 2 rfl) ?_
        refine lv_istore_n (lv' := [(2, .int (x2)), (0, .ref (G.2.1 (119))), (1, .int (x1)), (3, .int (x3))]) hx hb dX4_clearestOf_58 rfl hl (by decide) rfl (fun ls hl => ?_)
        refine lv_iinc (v := (x3 + 1)) (lv' := [(3, .int ((x3 + 1))), (2, .int (x2)), (0, .ref (G.2.1 (119))), (1, .int (x1))]) hx hb dX4_clearestOf_59 hl (k := 3) rfl rfl (by decide) rfl (fun ls hl => ?_)
        refine lv_goto (tgt := 6) hx hb dX4_clearestOf_62 (by decide) ?_
        exact ih _ _ _ _ h _ _ hP hS ls (lv_sub hl [2, 3, 1, 0] rfl)
      · have h := z_in hc5 h
        refine lv_iload_n hx hb dX4_clearestOf_23 rfl (lv_at hl 2 rfl) ?_
        refine lv_iconst (v := (-1)) hx hb dX4_clearestOf_24 (by decide) ?_
        refine lv_icmp_eq (tgt := 53) hx hb dX4_clearestOf_25 (by decide) (fun hc6 => ?_) (fun hc6 => ?_)
        · have h := z_ip hc6 h
          refine lv_iload_n hx hb dX4_clearestOf_53 rfl (lv_at hl 3 rfl) ?_
          refine lv_goto (tgt := 58) hx hb dX4_clearestOf_54 (by decide) ?_
          refine lv_istore_n (lv' := [(2, .int (x3)), (0, .ref (G.2.1 (119))), (1, .int (x1)), (3, .int (x3))]) hx hb dX4_clearestOf_58 rfl hl (by decide) rfl (fun ls hl => ?_)
          refine lv_iinc (v := (x3 + 1)) (lv' := [(3, .int ((x3 + 1))), (2, .int (x3)), (0, .ref (G.2.1 (119))), (1, .int (x1))]) hx hb dX4_clearestOf_59 hl (k := 3) rfl rfl (by decide) rfl (fun ls hl => ?_)
          refine lv_goto (tgt := 6) hx hb dX4_clearestOf_62 (by decide) ?_
          exact ih _ _ _ _ h _ _ hP hS ls (lv_sub hl [2, 3, 1, 0] rfl)
        · have h := z_in hc6 h
          refine lv_aload_n hx hb dX4_clearestOf_28 rfl (lv_at hl 0 rfl) ?_
          refine z_get C Z hP (k := 119) (ci := 4) (j := 0) (N := 12) (v := .ref (G.2.1 (120))) (by decide) (z_E_119 _) rfl inX4_clearestOf_X4 (by decide) wX4_clearestOf_0 rfl dX4_clearestOf_29 ?_
          refine lv_iload_n hx hb dX4_clearestOf_32 rfl (lv_at hl 3 rfl) ?_
          obtain ⟨r7, m8, e9, h⟩ := zb_some h
          refine z_calli hS (va_runS (As := [.int (x3)]) (rest := [.ref (G.2.1 (120))]) C (c_X4_at l G e9 _) (va_cwS 1 hts gX4_clearestOf_X4_at rfl rfl rfl hd_X4_at ⟨Nat.le_of_ble_eq_true rfl, Nat.le_of_ble_eq_true rfl⟩) (z_preS Z hS hP) rfl rfl hl.1 rfl (lv_room (Nat.le_of_ble_eq_true rfl)) dX4_clearestOf_33 ⟨Nat.zero_le _, Nat.zero_le _⟩) (fun H locs hP hS => ?_)
          refine lv_iconst (v := 1) hx hb dX4_clearestOf_36 (by decide) ?_
          refine lv_iadd hx hb dX4_clearestOf_37 ?_
          obtain ⟨hg10, h⟩ := z_g h
          refine z_iald C Z hP (k := 120) (n := 1710) (j := ((r7 + 1)).toNatClampNeg) (by decide) (z_E_120 _) hg10 rfl dX4_clearestOf_38 ?_
          refine lv_aload_n hx hb dX4_clearestOf_39 rfl (lv_at hl 0 rfl) ?_
          refine z_get C Z hP (k := 119) (ci := 4) (j := 0) (N := 12) (v := .ref (G.2.1 (120))) (by decide) (z_E_119 _) rfl inX4_clearestOf_X4 (by decide) wX4_clearestOf_0 rfl dX4_clearestOf_40 ?_
          refine lv_iload_n hx hb dX4_clearestOf_43 rfl (lv_at hl 2 rfl) ?_
          obtain ⟨r11, m12, e13, h⟩ := zb_some h
          refine z_calli hS (va_runS (As := [.int (x2)]) (rest := [.ref (G.2.1 (120)), .int ((m8 (120) (((r7 + 1)).toNatClampNeg)))]) C (c_X4_at l G e13 _) (va_cwS 1 hts gX4_clearestOf_X4_at rfl rfl rfl hd_X4_at ⟨Nat.le_of_ble_eq_true rfl, Nat.le_of_ble_eq_true rfl⟩) (z_preS Z hS hP) rfl rfl hl.1 rfl (lv_room (Nat.le_of_ble_eq_true rfl)) dX4_clearestOf_44 ⟨Nat.zero_le _, Nat.zero_le _⟩) (fun H locs hP hS => ?_)
          refine lv_iconst (v := 1) hx hb dX4_clearestOf_47 (by decide) ?_
          refine lv_iadd hx hb dX4_clearestOf_48 ?_
          obtain ⟨hg14, h⟩ := z_g h
          refine z_iald C Z hP (k := 120) (n := 1710) (j := ((r11 + 1)).toNatClampNeg) (by decide) (z_E_120 _) hg14 rfl dX4_clearestOf_49 ?_
          refine lv_icmp_le (tgt := 57) hx hb dX4_clearestOf_50 (by decide) (fun hc15 => ?_) (fun hc15 => ?_)
          · have h := z_ip hc15 h
            refine lv_iload_n hx hb dX4_clearestOf_57 rfl (lv_at hl 2 rfl) ?_
            refine lv_istore_n (lv' := [(2, .int (x2)), (0, .ref (G.2.1 (119))), (1, .int (x1)), (3, .int (x3))]) hx hb dX4_clearestOf_58 rfl hl (by decide) rfl (fun ls hl => ?_)
            refine lv_iinc (v := (x3 + 1)) (lv' := [(3, .int ((x3 + 1))), (2, .int (x2)), (0, .ref (G.2.1 (119))), (1, .int (x1))]) hx hb dX4_clearestOf_59 hl (k := 3) rfl rfl (by decide) rfl (fun ls hl => ?_)
            refine lv_goto (tgt := 6) hx hb dX4_clearestOf_62 (by decide) ?_
            exact ih _ _ _ _ h _ _ hP hS ls (lv_sub hl [2, 3, 1, 0] rfl)
          · have h := z_in hc15 h
            refine lv_iload_n hx hb dX4_clearestOf_53 rfl (lv_at hl 3 rfl) ?_
            refine lv_goto (tgt := 58) hx hb dX4_clearestOf_54 (by decide) ?_
            refine lv_istore_n (lv' := [(2, .int (x3)), (0, .ref (G.2.1 (119))), (1, .int (x1)), (3, .int (x3))]) hx hb dX4_clearestOf_58 rfl hl (by decide) rfl (fun ls hl => ?_)
            refine lv_iinc (v := (x3 + 1)) (lv' := [(3, .int ((x3 + 1))), (2, .int (x3)), (0, .ref (G.2.1 (119))), (1, .int (x1))]) hx hb dX4_clearestOf_59 hl (k := 3) rfl rfl (by decide) rfl (fun ls hl => ?_)
            refine lv_goto (tgt := 6) hx hb dX4_clearestOf_62 (by decide) ?_
            exact ih _ _ _ _ h _ _ hP hS ls (lv_sub hl [2, 3, 1, 0] rfl)
set_option maxHeartbeats 4000000 in
set_option maxRecDepth 100000 in
theorem c_X4_clearestOf (l : Launch) (G : zG) {x1 : Int32} {μ mu1 : Mm} {r : Int32} (h : f_X4_clearestOf x1 μ = some (r, mu1)) (sz : Nat) : Met l yX4_clearestOf wsX4_clearestOf rm_X4_clearestOf (z_Pre G μ [.ref (G.2.1 (119)), .int (x1)] sz) (z_Qi G r mu1 sz) 0 0 (z_A G sz) := by
  refine z_start (cc := cX4_clearestOf) (maxL := 4) (ret := (some .int)) (own := RX4) (by decide) rfl rfl (Nat.le_of_ble_eq_true rfl) (fun p e s m args below meth c C hr hlk Z hP ls hl => ?_) sz
  have hx := C.1
  have hb := C.2.1
  have hts := C.2.2.2.2
  have hS : va_S (z_A G s.heap.size) s.heap s.heap [] := va_S.rf
  have hl : lv_has ls 4 [(0, .ref (G.2.1 (119))), (1, .int (x1))] := hl
  unfold f_X4_clearestOf at h
  refine lv_iconst (v := (-1)) hx hb dX4_clearestOf_0 (by decide) ?_
  refine lv_istore_n (lv' := [(2, .int ((-1))), (0, .ref (G.2.1 (119))), (1, .int (x1))]) hx hb dX4_clearestOf_1 rfl hl (by decide) rfl (fun ls hl => ?_)
  refine lv_iconst (v := 4) hx hb dX4_clearestOf_2 (by decide) ?_
  refine lv_iload_n hx hb dX4_clearestOf_3 rfl (lv_at hl 2 rfl) ?_
  refine lv_imul hx hb dX4_clearestOf_4 ?_
  refine lv_istore_n (lv' := [(3, .int ((4 * x1))), (2, .int ((-1))), (0, .ref (G.2.1 (119))), (1, .int (x1))]) hx hb dX4_clearestOf_5 rfl hl (by decide) rfl (fun ls hl => ?_)
  exact L_X4_clearestOf_b6 C hr hlk Z z_F _ _ _ _ h _ _ hP hS ls (lv_sub hl [2, 3, 1, 0] rfl)
abbrev rm_X4_propertyOf : Room := { frames := 3, cells := 0, slots := 0, locals := 64 }
theorem hd_X4_propertyOf : yX4_propertyOf.cls ≠ "java/lang/invoke/MethodHandle" ∧ yX4_propertyOf.cls ≠ "java/lang/invoke/VarHandle" ∧ (parseMethodDescriptor yX4_propertyOf.desc).map (fun d => d.parameters.length) = some 2 := by decide +kernel
theorem hv_X4_propertyOf : yX4_propertyOf.cls = RX4 ∧ yX4_propertyOf.cls ≠ "java/lang/invoke/MethodHandle" ∧ yX4_propertyOf.cls ≠ "java/lang/invoke/VarHandle" ∧ (parseMethodDescriptor yX4_propertyOf.desc).map (fun d => d.parameters.length) = some 2 := ⟨rfl, hd_X4_propertyOf⟩
theorem wX4_propertyOf_0 : Cond.fieldLink RX4 7 "WaxCopiesModel" "s" "[I" ∈ wsX4_propertyOf := by decide +kernel
theorem inX4_propertyOf_X4 : ∀ w ∈ wsX40, w ∈ wsX4_propertyOf := by decide +kernel
set_option maxHeartbeats 4000000 in
set_option maxRecDepth 100000 in
theorem c_X4_propertyOf (l : Launch) (G : zG) {x1 : Int32} {x2 : Int32} {μ mu1 : Mm} {r : Int32} (h : f_X4_propertyOf x1 x2 μ = some (r, mu1)) (sz : Nat) : Met l yX4_propertyOf wsX4_propertyOf rm_X4_propertyOf (z_Pre G μ [.ref (G.2.1 (119)), .int (x1), .int (x2)] sz) (z_Qi G r mu1 sz) 0 0 (z_A G sz) := by
  refine z_start (cc := cX4_propertyOf) (maxL := 3) (ret := (some .int)) (own := RX4) (by decide) rfl rfl (Nat.le_of_ble_eq_true rfl) (fun p e s m args below meth c C hr hlk Z hP ls hl => ?_) sz
  have hx := C.1
  have hb := C.2.1
  have hts := C.2.2.2.2
  have hS : va_S (z_A G s.heap.size) s.heap s.heap [] := va_S.rf
  have hl : lv_has ls 3 [(0, .ref (G.2.1 (119))), (1, .int (x1)), (2, .int (x2))] := hl
  unfold f_X4_propertyOf at h
  refine lv_iload_n hx hb dX4_propertyOf_0 rfl (lv_at hl 2 rfl) ?_
  by_cases hc1 : x2 = 0
  · have h := z_ip hc1 h
    refine lv_tableIn (tgt := 32) (off := 31) hx hb dX4_propertyOf_1 (by rw [hc1]; decide) (by rw [hc1]; decide) (by rw [hc1]; rfl) (by decide) ?_
    refine lv_aload_n hx hb dX4_propertyOf_32 rfl (lv_at hl 0 rfl) ?_
    refine z_get C Z hP (k := 119) (ci := 4) (j := 0) (N := 12) (v := .ref (G.2.1 (120))) (by decide) (z_E_119 _) rfl inX4_propertyOf_X4 (by decide) wX4_propertyOf_0 rfl dX4_propertyOf_33 ?_
    refine lv_bipush (v := 10) hx hb dX4_propertyOf_36 (by decide) ?_
    refine lv_iconst (v := 2) hx hb dX4_propertyOf_38 (by decide) ?_
    refine lv_iload_n hx hb dX4_propertyOf_39 rfl (lv_at hl 1 rfl) ?_
    refine lv_imul hx hb dX4_propertyOf_40 ?_
    refine lv_iadd hx hb dX4_propertyOf_41 ?_
    obtain ⟨hg2, h⟩ := z_g h
    refine z_iald C Z hP (k := 120) (n := 1710) (j := ((10 + (2 * x1))).toNatClampNeg) (by decide) (z_E_120 _) hg2 rfl dX4_propertyOf_42 ?_
    cases h
    exact z_reti C hr hlk hP hS dX4_propertyOf_43
  · have h := z_in hc1 h
    by_cases hc3 : x2 = 1
    · have h := z_ip hc3 h
      refine lv_tableIn (tgt := 44) (off := 43) hx hb dX4_propertyOf_1 (by rw [hc3]; decide) (by rw [hc3]; decide) (by rw [hc3]; rfl) (by decide) ?_
      refine lv_aload_n hx hb dX4_propertyOf_44 rfl (lv_at hl 0 rfl) ?_
      refine lv_iload_n hx hb dX4_propertyOf_45 rfl (lv_at hl 1 rfl) ?_
      obtain ⟨r4, m5, e6, h⟩ := zb_some h
      refine z_calli hS (va_runV (As := [.int (x1)]) (rest := []) C (c_X4_cutsOf l G e6 _) (cwV 1 hts gX4_propertyOf_X4_cutsOf rfl rfl rfl hv_X4_cutsOf ⟨Nat.le_of_ble_eq_true rfl, Nat.le_of_ble_eq_true rfl⟩) (z_preV Z hS hP (by decide) (z_E_119 _) rfl rfl) rfl rfl hl.1 rfl (lv_room (Nat.le_of_ble_eq_true rfl)) dX4_propertyOf_46 ⟨Nat.zero_le _, Nat.zero_le _⟩) (fun H locs hP hS => ?_)
      cases h
      exact z_reti C hr hlk hP hS dX4_propertyOf_49
    · have h := z_in hc3 h
      by_cases hc7 : x2 = 2
      · have h := z_ip hc7 h
        refine lv_tableIn (tgt := 50) (off := 49) hx hb dX4_propertyOf_1 (by rw [hc7]; decide) (by rw [hc7]; decide) (by rw [hc7]; rfl) (by decide) ?_
        refine lv_aload_n hx hb dX4_propertyOf_50 rfl (lv_at hl 0 rfl) ?_
        refine lv_iload_n hx hb dX4_propertyOf_51 rfl (lv_at hl 1 rfl) ?_
        obtain ⟨r8, m9, e10, h⟩ := zb_some h
        refine z_calli hS (va_runV (As := [.int (x1)]) (rest := []) C (c_X4_deepest l G e10 _) (cwV 1 hts gX4_propertyOf_X4_deepest rfl rfl rfl hv_X4_deepest ⟨Nat.le_of_ble_eq_true rfl, Nat.le_of_ble_eq_true rfl⟩) (z_preV Z hS hP (by decide) (z_E_119 _) rfl rfl) rfl rfl hl.1 rfl (lv_room (Nat.le_of_ble_eq_true rfl)) dX4_propertyOf_52 ⟨Nat.zero_le _, Nat.zero_le _⟩) (fun H locs hP hS => ?_)
        cases h
        exact z_reti C hr hlk hP hS dX4_propertyOf_55
      · have h := z_in hc7 h
        by_cases hc11 : x2 = 3
        · have h := z_ip hc11 h
          refine lv_tableIn (tgt := 56) (off := 55) hx hb dX4_propertyOf_1 (by rw [hc11]; decide) (by rw [hc11]; decide) (by rw [hc11]; rfl) (by decide) ?_
          refine lv_aload_n hx hb dX4_propertyOf_56 rfl (lv_at hl 0 rfl) ?_
          refine lv_iload_n hx hb dX4_propertyOf_57 rfl (lv_at hl 1 rfl) ?_
          obtain ⟨r12, m13, e14, h⟩ := zb_some h
          refine z_calli hS (va_runV (As := [.int (x1)]) (rest := []) C (c_X4_clearestOf l G e14 _) (cwV 1 hts gX4_propertyOf_X4_clearestOf rfl rfl rfl hv_X4_clearestOf ⟨Nat.le_of_ble_eq_true rfl, Nat.le_of_ble_eq_true rfl⟩) (z_preV Z hS hP (by decide) (z_E_119 _) rfl rfl) rfl rfl hl.1 rfl (lv_room (Nat.le_of_ble_eq_true rfl)) dX4_propertyOf_58 ⟨Nat.zero_le _, Nat.zero_le _⟩) (fun H locs hP hS => ?_)
          cases h
          exact z_reti C hr hlk hP hS dX4_propertyOf_61
        · have h := z_in hc11 h
          refine lv_tableOut (tgt := 62) hx hb dX4_propertyOf_1 (by
            have qhc1 : (x2).toInt ≠ 0 := fun q => hc1 (Int32.toInt_inj.mp (q.trans (by decide)))
            have qhc3 : (x2).toInt ≠ 1 := fun q => hc3 (Int32.toInt_inj.mp (q.trans (by decide)))
            have qhc7 : (x2).toInt ≠ 2 := fun q => hc7 (Int32.toInt_inj.mp (q.trans (by decide)))
            have qhc11 : (x2).toInt ≠ 3 := fun q => hc11 (Int32.toInt_inj.mp (q.trans (by decide)))
            omega) (by decide) ?_
          refine lv_aload_n hx hb dX4_propertyOf_62 rfl (lv_at hl 0 rfl) ?_
          refine z_get C Z hP (k := 119) (ci := 4) (j := 0) (N := 12) (v := .ref (G.2.1 (120))) (by decide) (z_E_119 _) rfl inX4_propertyOf_X4 (by decide) wX4_propertyOf_0 rfl dX4_propertyOf_63 ?_
          refine lv_bipush (v := 10) hx hb dX4_propertyOf_66 (by decide) ?_
          refine lv_iconst (v := 2) hx hb dX4_propertyOf_68 (by decide) ?_
          refine lv_iload_n hx hb dX4_propertyOf_69 rfl (lv_at hl 1 rfl) ?_
          refine lv_imul hx hb dX4_propertyOf_70 ?_
          refine lv_iadd hx hb dX4_propertyOf_71 ?_
          refine lv_iconst (v := 1) hx hb dX4_propertyOf_72 (by decide) ?_
          refine lv_iadd hx hb dX4_propertyOf_73 ?_
          obtain ⟨hg15, h⟩ := z_g h
          refine z_iald C Z hP (k := 120) (n := 1710) (j := (((10 + (2 * x1)) + 1)).toNatClampNeg) (by decide) (z_E_120 _) hg15 rfl dX4_propertyOf_74 ?_
          cases h
          exact z_reti C hr hlk hP hS dX4_propertyOf_75
abbrev rm_X4_cylinderOf : Room := { frames := 4, cells := 0, slots := 0, locals := 86 }
theorem hd_X4_cylinderOf : yX4_cylinderOf.cls ≠ "java/lang/invoke/MethodHandle" ∧ yX4_cylinderOf.cls ≠ "java/lang/invoke/VarHandle" ∧ (parseMethodDescriptor yX4_cylinderOf.desc).map (fun d => d.parameters.length) = some 2 := by decide +kernel
theorem hv_X4_cylinderOf : yX4_cylinderOf.cls = RX4 ∧ yX4_cylinderOf.cls ≠ "java/lang/invoke/MethodHandle" ∧ yX4_cylinderOf.cls ≠ "java/lang/invoke/VarHandle" ∧ (parseMethodDescriptor yX4_cylinderOf.desc).map (fun d => d.parameters.length) = some 2 := ⟨rfl, hd_X4_cylinderOf⟩
set_option maxHeartbeats 4000000 in
set_option maxRecDepth 100000 in
theorem c_X4_cylinderOf (l : Launch) (G : zG) {x1 : Int32} {x2 : Int32} {μ mu1 : Mm} {r : Int32} (h : f_X4_cylinderOf x1 x2 μ = some (r, mu1)) (sz : Nat) : Met l yX4_cylinderOf wsX4_cylinderOf rm_X4_cylinderOf (z_Pre G μ [.ref (G.2.1 (119)), .int (x1), .int (x2)] sz) (z_Qi G r mu1 sz) 0 0 (z_A G sz) := by
  refine z_start (cc := cX4_cylinderOf) (maxL := 3) (ret := (some .int)) (own := RX4) (by decide) rfl rfl (Nat.le_of_ble_eq_true rfl) (fun p e s m args below meth c C hr hlk Z hP ls hl => ?_) sz
  have hx := C.1
  have hb := C.2.1
  have hts := C.2.2.2.2
  have hS : va_S (z_A G s.heap.size) s.heap s.heap [] := va_S.rf
  have hl : lv_has ls 3 [(0, .ref (G.2.1 (119))), (1, .int (x1)), (2, .int (x2))] := hl
  unfold f_X4_cylinderOf at h
  refine lv_aload_n hx hb dX4_cylinderOf_0 rfl (lv_at hl 0 rfl) ?_
  refine lv_iload_n hx hb dX4_cylinderOf_1 rfl (lv_at hl 1 rfl) ?_
  obtain ⟨r1, m2, e3, h⟩ := zb_some h
  refine z_calli hS (va_runS (As := [.int (x1)]) (rest := [.ref (G.2.1 (119))]) C (c_X4_isCylinder l G e3 _) (va_cwS 1 hts gX4_cylinderOf_X4_isCylinder rfl rfl rfl hd_X4_isCylinder ⟨Nat.le_of_ble_eq_true rfl, Nat.le_of_ble_eq_true rfl⟩) (z_preS Z hS hP) rfl rfl hl.1 rfl (lv_room (Nat.le_of_ble_eq_true rfl)) dX4_cylinderOf_2 ⟨Nat.zero_le _, Nat.zero_le _⟩) (fun H locs hP hS => ?_)
  refine lv_iload_n hx hb dX4_cylinderOf_5 rfl (lv_at hl 2 rfl) ?_
  refine lv_iconst (v := 0) hx hb dX4_cylinderOf_6 (by decide) ?_
  refine lv_iconst (v := 4) hx hb dX4_cylinderOf_7 (by decide) ?_
  obtain ⟨r4, m5, e6, h⟩ := zb_some h
  refine z_calli hS (va_runS (As := [.int (x2), .int (0), .int (4)]) (rest := [.int (r1), .ref (G.2.1 (119))]) C (c_X4_in l G e6 _) (va_cwS 3 hts gX4_cylinderOf_X4_in rfl rfl rfl hd_X4_in ⟨Nat.le_of_ble_eq_true rfl, Nat.le_of_ble_eq_true rfl⟩) (z_preS Z hS hP) rfl rfl hl.1 rfl (lv_room (Nat.le_of_ble_eq_true rfl)) dX4_cylinderOf_8 ⟨Nat.zero_le _, Nat.zero_le _⟩) (fun H locs hP hS => ?_)
  obtain ⟨r7, m8, e9, h⟩ := zb_some h
  refine z_calli hS (va_runV (As := [.int (r1), .int (r4)]) (rest := []) C (c_X4_goes l G e9 _) (cwV 2 hts gX4_cylinderOf_X4_goes rfl rfl rfl hv_X4_goes ⟨Nat.le_of_ble_eq_true rfl, Nat.le_of_ble_eq_true rfl⟩) (z_preV Z hS hP (by decide) (z_E_119 _) rfl rfl) rfl rfl hl.1 rfl (lv_room (Nat.le_of_ble_eq_true rfl)) dX4_cylinderOf_11 ⟨Nat.zero_le _, Nat.zero_le _⟩) (fun H locs hP hS => ?_)
  refine lv_if_eq (tgt := 26) hx hb dX4_cylinderOf_14 (by decide) (fun hc10 => ?_) (fun hc10 => ?_)
  · have h := z_ip hc10 h
    refine lv_iconst (v := 0) hx hb dX4_cylinderOf_26 (by decide) ?_
    cases h
    exact z_reti C hr hlk hP hS dX4_cylinderOf_27
  · have h := z_in hc10 h
    refine lv_aload_n hx hb dX4_cylinderOf_17 rfl (lv_at hl 0 rfl) ?_
    refine lv_iload_n hx hb dX4_cylinderOf_18 rfl (lv_at hl 1 rfl) ?_
    refine lv_iload_n hx hb dX4_cylinderOf_19 rfl (lv_at hl 2 rfl) ?_
    obtain ⟨r11, m12, e13, h⟩ := zb_some h
    refine z_calli hS (va_runV (As := [.int (x1), .int (x2)]) (rest := []) C (c_X4_propertyOf l G e13 _) (cwV 2 hts gX4_cylinderOf_X4_propertyOf rfl rfl rfl hv_X4_propertyOf ⟨Nat.le_of_ble_eq_true rfl, Nat.le_of_ble_eq_true rfl⟩) (z_preV Z hS hP (by decide) (z_E_119 _) rfl rfl) rfl rfl hl.1 rfl (lv_room (Nat.le_of_ble_eq_true rfl)) dX4_cylinderOf_20 ⟨Nat.zero_le _, Nat.zero_le _⟩) (fun H locs hP hS => ?_)
    refine lv_goto (tgt := 27) hx hb dX4_cylinderOf_23 (by decide) ?_
    cases h
    exact z_reti C hr hlk hP hS dX4_cylinderOf_27
abbrev rm_X4_allLayers : Room := { frames := 0, cells := 0, slots := 0, locals := 0 }
theorem hd_X4_allLayers : yX4_allLayers.cls ≠ "java/lang/invoke/MethodHandle" ∧ yX4_allLayers.cls ≠ "java/lang/invoke/VarHandle" ∧ (parseMethodDescriptor yX4_allLayers.desc).map (fun d => d.parameters.length) = some 0 := by decide +kernel
theorem hv_X4_allLayers : yX4_allLayers.cls = RX4 ∧ yX4_allLayers.cls ≠ "java/lang/invoke/MethodHandle" ∧ yX4_allLayers.cls ≠ "java/lang/invoke/VarHandle" ∧ (parseMethodDescriptor yX4_allLayers.desc).map (fun d => d.parameters.length) = some 0 := ⟨rfl, hd_X4_allLayers⟩
theorem wX4_allLayers_0 : Cond.fieldLink RX4 7 "WaxCopiesModel" "s" "[I" ∈ wsX4_allLayers := by decide +kernel
theorem inX4_allLayers_X4 : ∀ w ∈ wsX40, w ∈ wsX4_allLayers := by decide +kernel
set_option maxHeartbeats 4000000 in
set_option maxRecDepth 100000 in
theorem L_X4_allLayers_b4 {p : Program} {l : Launch} {e : Env} {s : State} {m : MethodId} {args : Array Value} {below : List Frame} {meth : Method} {c : Code} {G : zG} {r : Int32} {mu1 : Mm}  (C : CallFix p m c cX4_allLayers 3 s args wsX4_allLayers RX4) (hr : meth.sig.returnType = (some .int)) (hlk : meth.locks = false) (Z : z_Z G (z_A G s.heap.size) s)  :
    ∀ (n : Nat) (x1 : Int32) (x2 : Int32) (μ : Mm), f_X4_allLayers_b4  n x1 x2 μ = some (r, mu1) → ∀ (H : Heap) (locs : List Loc), z_P G μ H → va_S (z_A G s.heap.size) s.heap H locs → ∀ ls : Array Slot, lv_has ls 3 [(0, .ref (G.2.1 (119))), (1, .int (x1)), (2, .int (x2))] → W p l e rm_X4_allLayers s m args below meth c H locs 0 0 (MQ below (z_Qi G r mu1 s.heap.size) args s 0 0 (z_A G s.heap.size)) (F0 m 4 ls []) := by
  have hx := C.1
  have hb := C.2.1
  have hts := C.2.2.2.2
  intro n
  induction n with
  | zero =>
    intro x1 x2 μ h
    rw [f_X4_allLayers_b4] at h
    cases h
  | succ n ih =>
    intro x1 x2 μ h H locs hP hS ls hl
    rw [f_X4_allLayers_b4] at h
    refine lv_iload_n hx hb dX4_allLayers_4 rfl (lv_at hl 2 rfl) ?_
    refine lv_bipush (v := 6) hx hb dX4_allLayers_5 (by decide) ?_
    refine lv_icmp_ge (tgt := 30) hx hb dX4_allLayers_7 (by decide) (fun hc1 => ?_) (fun hc1 => ?_)
    · have h := z_ip hc1 h
      refine lv_iload_n hx hb dX4_allLayers_30 rfl (lv_at hl 1 rfl) ?_
      cases h
      exact z_reti C hr hlk hP hS dX4_allLayers_31
    · have h := z_in hc1 h
      refine lv_iload_n hx hb dX4_allLayers_10 rfl (lv_at hl 1 rfl) ?_
      refine lv_aload_n hx hb dX4_allLayers_11 rfl (lv_at hl 0 rfl) ?_
      refine z_get C Z hP (k := 119) (ci := 4) (j := 0) (N := 12) (v := .ref (G.2.1 (120))) (by decide) (z_E_119 _) rfl inX4_allLayers_X4 (by decide) wX4_allLayers_0 rfl dX4_allLayers_12 ?_
      refine lv_bipush (v := 10) hx hb dX4_allLayers_15 (by decide) ?_
      refine lv_iconst (v := 2) hx hb dX4_allLayers_17 (by decide) ?_
      refine lv_iload_n hx hb dX4_allLayers_18 rfl (lv_at hl 2 rfl) ?_
      refine lv_imul hx hb dX4_allLayers_19 ?_
      refine lv_iadd hx hb dX4_allLayers_20 ?_
      obtain ⟨hg2, h⟩ := z_g h
      refine z_iald C Z hP (k := 120) (n := 1710) (j := ((10 + (2 * x2))).toNatClampNeg) (by decide) (z_E_120 _) hg2 rfl dX4_allLayers_21 ?_
      refine lv_iadd hx hb dX4_allLayers_22 ?_
      refine lv_istore_n (lv' := [(1, .int ((x1 + (μ (120) (((10 + (2 * x2))).toNatClampNeg))))), (0, .ref (G.2.1 (119))), (2, .int (x2))]) hx hb dX4_allLayers_23 rfl hl (by decide) rfl (fun ls hl => ?_)
      refine lv_iinc (v := (x2 + 1)) (lv' := [(2, .int ((x2 + 1))), (1, .int ((x1 + (μ (120) (((10 + (2 * x2))).toNatClampNeg))))), (0, .ref (G.2.1 (119)))]) hx hb dX4_allLayers_24 hl (k := 2) rfl rfl (by decide) rfl (fun ls hl => ?_)
      refine lv_goto (tgt := 4) hx hb dX4_allLayers_27 (by decide) ?_
      exact ih _ _ _ h _ _ hP hS ls (lv_sub hl [2, 1, 0] rfl)
set_option maxHeartbeats 4000000 in
set_option maxRecDepth 100000 in
theorem c_X4_allLayers (l : Launch) (G : zG) {μ mu1 : Mm} {r : Int32} (h : f_X4_allLayers μ = some (r, mu1)) (sz : Nat) : Met l yX4_allLayers wsX4_allLayers rm_X4_allLayers (z_Pre G μ [.ref (G.2.1 (119))] sz) (z_Qi G r mu1 sz) 0 0 (z_A G sz) := by
  refine z_start (cc := cX4_allLayers) (maxL := 3) (ret := (some .int)) (own := RX4) (by decide) rfl rfl (Nat.le_of_ble_eq_true rfl) (fun p e s m args below meth c C hr hlk Z hP ls hl => ?_) sz
  have hx := C.1
  have hb := C.2.1
  have hts := C.2.2.2.2
  have hS : va_S (z_A G s.heap.size) s.heap s.heap [] := va_S.rf
  have hl : lv_has ls 3 [(0, .ref (G.2.1 (119)))] := hl
  unfold f_X4_allLayers at h
  refine lv_iconst (v := 0) hx hb dX4_allLayers_0 (by decide) ?_
  refine lv_istore_n (lv' := [(1, .int (0)), (0, .ref (G.2.1 (119)))]) hx hb dX4_allLayers_1 rfl hl (by decide) rfl (fun ls hl => ?_)
  refine lv_iconst (v := 0) hx hb dX4_allLayers_2 (by decide) ?_
  refine lv_istore_n (lv' := [(2, .int (0)), (1, .int (0)), (0, .ref (G.2.1 (119)))]) hx hb dX4_allLayers_3 rfl hl (by decide) rfl (fun ls hl => ?_)
  exact L_X4_allLayers_b4 C hr hlk Z z_F _ _ _ h _ _ hP hS ls (lv_sub hl [2, 1, 0] rfl)
abbrev rm_X4_counted : Room := { frames := 3, cells := 0, slots := 0, locals := 63 }
theorem hd_X4_counted : yX4_counted.cls ≠ "java/lang/invoke/MethodHandle" ∧ yX4_counted.cls ≠ "java/lang/invoke/VarHandle" ∧ (parseMethodDescriptor yX4_counted.desc).map (fun d => d.parameters.length) = some 1 := by decide +kernel
theorem hv_X4_counted : yX4_counted.cls = RX4 ∧ yX4_counted.cls ≠ "java/lang/invoke/MethodHandle" ∧ yX4_counted.cls ≠ "java/lang/invoke/VarHandle" ∧ (parseMethodDescriptor yX4_counted.desc).map (fun d => d.parameters.length) = some 1 := ⟨rfl, hd_X4_counted⟩
theorem wX4_counted_0 : Cond.fieldLink RX4 7 "WaxCopiesModel" "s" "[I" ∈ wsX4_counted := by decide +kernel
theorem inX4_counted_X4 : ∀ w ∈ wsX40, w ∈ wsX4_counted := by decide +kernel
theorem wX4_counted_2 : Cond.fieldLink RX4 31 "WaxCopiesModel" "saved" "I" ∈ wsX4_counted := by decide +kernel
set_option maxHeartbeats 4000000 in
set_option maxRecDepth 100000 in
theorem c_X4_counted (l : Launch) (G : zG) {x1 : Int32} {μ mu1 : Mm} {r : Int32} (h : f_X4_counted x1 μ = some (r, mu1)) (sz : Nat) : Met l yX4_counted wsX4_counted rm_X4_counted (z_Pre G μ [.ref (G.2.1 (119)), .int (x1)] sz) (z_Qi G r mu1 sz) 0 0 (z_A G sz) := by
  refine z_start (cc := cX4_counted) (maxL := 2) (ret := (some .int)) (own := RX4) (by decide) rfl rfl (Nat.le_of_ble_eq_true rfl) (fun p e s m args below meth c C hr hlk Z hP ls hl => ?_) sz
  have hx := C.1
  have hb := C.2.1
  have hts := C.2.2.2.2
  have hS : va_S (z_A G s.heap.size) s.heap s.heap [] := va_S.rf
  have hl : lv_has ls 2 [(0, .ref (G.2.1 (119))), (1, .int (x1))] := hl
  unfold f_X4_counted at h
  refine lv_iload_n hx hb dX4_counted_0 rfl (lv_at hl 1 rfl) ?_
  by_cases hc1 : x1 = 0
  · have h := z_ip hc1 h
    refine lv_tableIn (tgt := 68) (off := 67) hx hb dX4_counted_1 (by rw [hc1]; decide) (by rw [hc1]; decide) (by rw [hc1]; rfl) (by decide) ?_
    refine lv_aload_n hx hb dX4_counted_68 rfl (lv_at hl 0 rfl) ?_
    refine z_get C Z hP (k := 119) (ci := 4) (j := 0) (N := 12) (v := .ref (G.2.1 (120))) (by decide) (z_E_119 _) rfl inX4_counted_X4 (by decide) wX4_counted_0 rfl dX4_counted_69 ?_
    refine lv_iload_n hx hb dX4_counted_72 rfl (lv_at hl 1 rfl) ?_
    obtain ⟨hg2, h⟩ := z_g h
    refine z_iald C Z hP (k := 120) (n := 1710) (j := (x1).toNatClampNeg) (by decide) (z_E_120 _) hg2 rfl dX4_counted_73 ?_
    cases h
    exact z_reti C hr hlk hP hS dX4_counted_74
  · have h := z_in hc1 h
    by_cases hc3 : x1 = 1
    · have h := z_ip hc3 h
      refine lv_tableIn (tgt := 68) (off := 67) hx hb dX4_counted_1 (by rw [hc3]; decide) (by rw [hc3]; decide) (by rw [hc3]; rfl) (by decide) ?_
      refine lv_aload_n hx hb dX4_counted_68 rfl (lv_at hl 0 rfl) ?_
      refine z_get C Z hP (k := 119) (ci := 4) (j := 0) (N := 12) (v := .ref (G.2.1 (120))) (by decide) (z_E_119 _) rfl inX4_counted_X4 (by decide) wX4_counted_0 rfl dX4_counted_69 ?_
      refine lv_iload_n hx hb dX4_counted_72 rfl (lv_at hl 1 rfl) ?_
      obtain ⟨hg4, h⟩ := z_g h
      refine z_iald C Z hP (k := 120) (n := 1710) (j := (x1).toNatClampNeg) (by decide) (z_E_120 _) hg4 rfl dX4_counted_73 ?_
      cases h
      exact z_reti C hr hlk hP hS dX4_counted_74
    · have h := z_in hc3 h
      by_cases hc5 : x1 = 2
      · have h := z_ip hc5 h
        refine lv_tableIn (tgt := 75) (off := 74) hx hb dX4_counted_1 (by rw [hc5]; decide) (by rw [hc5]; decide) (by rw [hc5]; rfl) (by decide) ?_
        refine lv_aload_n hx hb dX4_counted_75 rfl (lv_at hl 0 rfl) ?_
        obtain ⟨r6, m7, e8, h⟩ := zb_some h
        refine z_calli hS (va_runV (As := []) (rest := []) C (c_X4_machineFlutter l G e8 _) (cwV 0 hts gX4_counted_X4_machineFlutter rfl rfl rfl hv_X4_machineFlutter ⟨Nat.le_of_ble_eq_true rfl, Nat.le_of_ble_eq_true rfl⟩) (z_preV Z hS hP (by decide) (z_E_119 _) rfl rfl) rfl rfl hl.1 rfl (lv_room (Nat.le_of_ble_eq_true rfl)) dX4_counted_76 ⟨Nat.zero_le _, Nat.zero_le _⟩) (fun H locs hP hS => ?_)
        cases h
        exact z_reti C hr hlk hP hS dX4_counted_79
      · have h := z_in hc5 h
        by_cases hc9 : x1 = 3
        · have h := z_ip hc9 h
          refine lv_tableIn (tgt := 80) (off := 79) hx hb dX4_counted_1 (by rw [hc9]; decide) (by rw [hc9]; decide) (by rw [hc9]; rfl) (by decide) ?_
          refine lv_aload_n hx hb dX4_counted_80 rfl (lv_at hl 0 rfl) ?_
          obtain ⟨r10, m11, e12, h⟩ := zb_some h
          refine z_calli hS (va_runV (As := []) (rest := []) C (c_X4_cuts l G e12 _) (cwV 0 hts gX4_counted_X4_cuts rfl rfl rfl hv_X4_cuts ⟨Nat.le_of_ble_eq_true rfl, Nat.le_of_ble_eq_true rfl⟩) (z_preV Z hS hP (by decide) (z_E_119 _) rfl rfl) rfl rfl hl.1 rfl (lv_room (Nat.le_of_ble_eq_true rfl)) dX4_counted_81 ⟨Nat.zero_le _, Nat.zero_le _⟩) (fun H locs hP hS => ?_)
          cases h
          exact z_reti C hr hlk hP hS dX4_counted_84
        · have h := z_in hc9 h
          by_cases hc13 : x1 = 4
          · have h := z_ip hc13 h
            refine lv_tableIn (tgt := 85) (off := 84) hx hb dX4_counted_1 (by rw [hc13]; decide) (by rw [hc13]; decide) (by rw [hc13]; rfl) (by decide) ?_
            refine lv_aload_n hx hb dX4_counted_85 rfl (lv_at hl 0 rfl) ?_
            refine z_get C Z hP (k := 119) (ci := 4) (j := 0) (N := 12) (v := .ref (G.2.1 (120))) (by decide) (z_E_119 _) rfl inX4_counted_X4 (by decide) wX4_counted_0 rfl dX4_counted_86 ?_
            refine lv_iconst (v := 3) hx hb dX4_counted_89 (by decide) ?_
            refine lv_iload_n hx hb dX4_counted_90 rfl (lv_at hl 1 rfl) ?_
            refine lv_iadd hx hb dX4_counted_91 ?_
            refine lv_iconst (v := 4) hx hb dX4_counted_92 (by decide) ?_
            refine lv_isub hx hb dX4_counted_93 ?_
            obtain ⟨hg14, h⟩ := z_g h
            refine z_iald C Z hP (k := 120) (n := 1710) (j := (((3 + x1) - 4)).toNatClampNeg) (by decide) (z_E_120 _) hg14 rfl dX4_counted_94 ?_
            cases h
            exact z_reti C hr hlk hP hS dX4_counted_95
          · have h := z_in hc13 h
            by_cases hc15 : x1 = 5
            · have h := z_ip hc15 h
              refine lv_tableIn (tgt := 85) (off := 84) hx hb dX4_counted_1 (by rw [hc15]; decide) (by rw [hc15]; decide) (by rw [hc15]; rfl) (by decide) ?_
              refine lv_aload_n hx hb dX4_counted_85 rfl (lv_at hl 0 rfl) ?_
              refine z_get C Z hP (k := 119) (ci := 4) (j := 0) (N := 12) (v := .ref (G.2.1 (120))) (by decide) (z_E_119 _) rfl inX4_counted_X4 (by decide) wX4_counted_0 rfl dX4_counted_86 ?_
              refine lv_iconst (v := 3) hx hb dX4_counted_89 (by decide) ?_
              refine lv_iload_n hx hb dX4_counted_90 rfl (lv_at hl 1 rfl) ?_
              refine lv_iadd hx hb dX4_counted_91 ?_
              refine lv_iconst (v := 4) hx hb dX4_counted_92 (by decide) ?_
              refine lv_isub hx hb dX4_counted_93 ?_
              obtain ⟨hg16, h⟩ := z_g h
              refine z_iald C Z hP (k := 120) (n := 1710) (j := (((3 + x1) - 4)).toNatClampNeg) (by decide) (z_E_120 _) hg16 rfl dX4_counted_94 ?_
              cases h
              exact z_reti C hr hlk hP hS dX4_counted_95
            · have h := z_in hc15 h
              by_cases hc17 : x1 = 6
              · have h := z_ip hc17 h
                refine lv_tableIn (tgt := 85) (off := 84) hx hb dX4_counted_1 (by rw [hc17]; decide) (by rw [hc17]; decide) (by rw [hc17]; rfl) (by decide) ?_
                refine lv_aload_n hx hb dX4_counted_85 rfl (lv_at hl 0 rfl) ?_
                refine z_get C Z hP (k := 119) (ci := 4) (j := 0) (N := 12) (v := .ref (G.2.1 (120))) (by decide) (z_E_119 _) rfl inX4_counted_X4 (by decide) wX4_counted_0 rfl dX4_counted_86 ?_
                refine lv_iconst (v := 3) hx hb dX4_counted_89 (by decide) ?_
                refine lv_iload_n hx hb dX4_counted_90 rfl (lv_at hl 1 rfl) ?_
                refine lv_iadd hx hb dX4_counted_91 ?_
                refine lv_iconst (v := 4) hx hb dX4_counted_92 (by decide) ?_
                refine lv_isub hx hb dX4_counted_93 ?_
                obtain ⟨hg18, h⟩ := z_g h
                refine z_iald C Z hP (k := 120) (n := 1710) (j := (((3 + x1) - 4)).toNatClampNeg) (by decide) (z_E_120 _) hg18 rfl dX4_counted_94 ?_
                cases h
                exact z_reti C hr hlk hP hS dX4_counted_95
              · have h := z_in hc17 h
                by_cases hc19 : x1 = 7
                · have h := z_ip hc19 h
                  refine lv_tableIn (tgt := 96) (off := 95) hx hb dX4_counted_1 (by rw [hc19]; decide) (by rw [hc19]; decide) (by rw [hc19]; rfl) (by decide) ?_
                  refine lv_aload_n hx hb dX4_counted_96 rfl (lv_at hl 0 rfl) ?_
                  obtain ⟨r20, m21, e22, h⟩ := zb_some h
                  refine z_calli hS (va_runV (As := []) (rest := []) C (c_X4_allLayers l G e22 _) (cwV 0 hts gX4_counted_X4_allLayers rfl rfl rfl hv_X4_allLayers ⟨Nat.le_of_ble_eq_true rfl, Nat.le_of_ble_eq_true rfl⟩) (z_preV Z hS hP (by decide) (z_E_119 _) rfl rfl) rfl rfl hl.1 rfl (lv_room (Nat.le_of_ble_eq_true rfl)) dX4_counted_97 ⟨Nat.zero_le _, Nat.zero_le _⟩) (fun H locs hP hS => ?_)
                  cases h
                  exact z_reti C hr hlk hP hS dX4_counted_100
                · have h := z_in hc19 h
                  by_cases hc23 : x1 = 8
                  · have h := z_ip hc23 h
                    refine lv_tableIn (tgt := 106) (off := 105) hx hb dX4_counted_1 (by rw [hc23]; decide) (by rw [hc23]; decide) (by rw [hc23]; rfl) (by decide) ?_
                    refine lv_aload_n hx hb dX4_counted_106 rfl (lv_at hl 0 rfl) ?_
                    refine z_get C Z hP (k := 119) (ci := 4) (j := 0) (N := 12) (v := .ref (G.2.1 (120))) (by decide) (z_E_119 _) rfl inX4_counted_X4 (by decide) wX4_counted_0 rfl dX4_counted_107 ?_
                    refine lv_bipush (v := 6) hx hb dX4_counted_110 (by decide) ?_
                    refine lv_iload_n hx hb dX4_counted_112 rfl (lv_at hl 1 rfl) ?_
                    refine lv_iadd hx hb dX4_counted_113 ?_
                    refine lv_bipush (v := 8) hx hb dX4_counted_114 (by decide) ?_
                    refine lv_isub hx hb dX4_counted_116 ?_
                    obtain ⟨hg24, h⟩ := z_g h
                    refine z_iald C Z hP (k := 120) (n := 1710) (j := (((6 + x1) - 8)).toNatClampNeg) (by decide) (z_E_120 _) hg24 rfl dX4_counted_117 ?_
                    cases h
                    exact z_reti C hr hlk hP hS dX4_counted_118
                  · have h := z_in hc23 h
                    by_cases hc25 : x1 = 9
                    · have h := z_ip hc25 h
                      refine lv_tableIn (tgt := 106) (off := 105) hx hb dX4_counted_1 (by rw [hc25]; decide) (by rw [hc25]; decide) (by rw [hc25]; rfl) (by decide) ?_
                      refine lv_aload_n hx hb dX4_counted_106 rfl (lv_at hl 0 rfl) ?_
                      refine z_get C Z hP (k := 119) (ci := 4) (j := 0) (N := 12) (v := .ref (G.2.1 (120))) (by decide) (z_E_119 _) rfl inX4_counted_X4 (by decide) wX4_counted_0 rfl dX4_counted_107 ?_
                      refine lv_bipush (v := 6) hx hb dX4_counted_110 (by decide) ?_
                      refine lv_iload_n hx hb dX4_counted_112 rfl (lv_at hl 1 rfl) ?_
                      refine lv_iadd hx hb dX4_counted_113 ?_
                      refine lv_bipush (v := 8) hx hb dX4_counted_114 (by decide) ?_
                      refine lv_isub hx hb dX4_counted_116 ?_
                      obtain ⟨hg26, h⟩ := z_g h
                      refine z_iald C Z hP (k := 120) (n := 1710) (j := (((6 + x1) - 8)).toNatClampNeg) (by decide) (z_E_120 _) hg26 rfl dX4_counted_117 ?_
                      cases h
                      exact z_reti C hr hlk hP hS dX4_counted_118
                    · have h := z_in hc25 h
                      by_cases hc27 : x1 = 10
                      · have h := z_ip hc27 h
                        refine lv_tableIn (tgt := 106) (off := 105) hx hb dX4_counted_1 (by rw [hc27]; decide) (by rw [hc27]; decide) (by rw [hc27]; rfl) (by decide) ?_
                        refine lv_aload_n hx hb dX4_counted_106 rfl (lv_at hl 0 rfl) ?_
                        refine z_get C Z hP (k := 119) (ci := 4) (j := 0) (N := 12) (v := .ref (G.2.1 (120))) (by decide) (z_E_119 _) rfl inX4_counted_X4 (by decide) wX4_counted_0 rfl dX4_counted_107 ?_
                        refine lv_bipush (v := 6) hx hb dX4_counted_110 (by decide) ?_
                        refine lv_iload_n hx hb dX4_counted_112 rfl (lv_at hl 1 rfl) ?_
                        refine lv_iadd hx hb dX4_counted_113 ?_
                        refine lv_bipush (v := 8) hx hb dX4_counted_114 (by decide) ?_
                        refine lv_isub hx hb dX4_counted_116 ?_
                        obtain ⟨hg28, h⟩ := z_g h
                        refine z_iald C Z hP (k := 120) (n := 1710) (j := (((6 + x1) - 8)).toNatClampNeg) (by decide) (z_E_120 _) hg28 rfl dX4_counted_117 ?_
                        cases h
                        exact z_reti C hr hlk hP hS dX4_counted_118
                      · have h := z_in hc27 h
                        by_cases hc29 : x1 = 11
                        · have h := z_ip hc29 h
                          refine lv_tableIn (tgt := 106) (off := 105) hx hb dX4_counted_1 (by rw [hc29]; decide) (by rw [hc29]; decide) (by rw [hc29]; rfl) (by decide) ?_
                          refine lv_aload_n hx hb dX4_counted_106 rfl (lv_at hl 0 rfl) ?_
                          refine z_get C Z hP (k := 119) (ci := 4) (j := 0) (N := 12) (v := .ref (G.2.1 (120))) (by decide) (z_E_119 _) rfl inX4_counted_X4 (by decide) wX4_counted_0 rfl dX4_counted_107 ?_
                          refine lv_bipush (v := 6) hx hb dX4_counted_110 (by decide) ?_
                          refine lv_iload_n hx hb dX4_counted_112 rfl (lv_at hl 1 rfl) ?_
                          refine lv_iadd hx hb dX4_counted_113 ?_
                          refine lv_bipush (v := 8) hx hb dX4_counted_114 (by decide) ?_
                          refine lv_isub hx hb dX4_counted_116 ?_
                          obtain ⟨hg30, h⟩ := z_g h
                          refine z_iald C Z hP (k := 120) (n := 1710) (j := (((6 + x1) - 8)).toNatClampNeg) (by decide) (z_E_120 _) hg30 rfl dX4_counted_117 ?_
                          cases h
                          exact z_reti C hr hlk hP hS dX4_counted_118
                        · have h := z_in hc29 h
                          by_cases hc31 : x1 = 12
                          · have h := z_ip hc31 h
                            refine lv_tableIn (tgt := 101) (off := 100) hx hb dX4_counted_1 (by rw [hc31]; decide) (by rw [hc31]; decide) (by rw [hc31]; rfl) (by decide) ?_
                            refine lv_aload_n hx hb dX4_counted_101 rfl (lv_at hl 0 rfl) ?_
                            refine z_get C Z hP (k := 119) (ci := 4) (j := 1) (N := 12) (v := .int ((μ 119 1))) (by decide) (z_E_119 _) rfl inX4_counted_X4 (by decide) wX4_counted_2 rfl dX4_counted_102 ?_
                            cases h
                            exact z_reti C hr hlk hP hS dX4_counted_105
                          · have h := z_in hc31 h
                            refine lv_tableOut (tgt := 106) hx hb dX4_counted_1 (by
                              have qhc1 : (x1).toInt ≠ 0 := fun q => hc1 (Int32.toInt_inj.mp (q.trans (by decide)))
                              have qhc3 : (x1).toInt ≠ 1 := fun q => hc3 (Int32.toInt_inj.mp (q.trans (by decide)))
                              have qhc5 : (x1).toInt ≠ 2 := fun q => hc5 (Int32.toInt_inj.mp (q.trans (by decide)))
                              have qhc9 : (x1).toInt ≠ 3 := fun q => hc9 (Int32.toInt_inj.mp (q.trans (by decide)))
                              have qhc13 : (x1).toInt ≠ 4 := fun q => hc13 (Int32.toInt_inj.mp (q.trans (by decide)))
                              have qhc15 : (x1).toInt ≠ 5 := fun q => hc15 (Int32.toInt_inj.mp (q.trans (by decide)))
                              have qhc17 : (x1).toInt ≠ 6 := fun q => hc17 (Int32.toInt_inj.mp (q.trans (by decide)))
                              have qhc19 : (x1).toInt ≠ 7 := fun q => hc19 (Int32.toInt_inj.mp (q.trans (by decide)))
                              have qhc23 : (x1).toInt ≠ 8 := fun q => hc23 (Int32.toInt_inj.mp (q.trans (by decide)))
                              have qhc25 : (x1).toInt ≠ 9 := fun q => hc25 (Int32.toInt_inj.mp (q.trans (by decide)))
                              have qhc27 : (x1).toInt ≠ 10 := fun q => hc27 (Int32.toInt_inj.mp (q.trans (by decide)))
                              have qhc29 : (x1).toInt ≠ 11 := fun q => hc29 (Int32.toInt_inj.mp (q.trans (by decide)))
                              have qhc31 : (x1).toInt ≠ 12 := fun q => hc31 (Int32.toInt_inj.mp (q.trans (by decide)))
                              omega) (by decide) ?_
                            refine lv_aload_n hx hb dX4_counted_106 rfl (lv_at hl 0 rfl) ?_
                            refine z_get C Z hP (k := 119) (ci := 4) (j := 0) (N := 12) (v := .ref (G.2.1 (120))) (by decide) (z_E_119 _) rfl inX4_counted_X4 (by decide) wX4_counted_0 rfl dX4_counted_107 ?_
                            refine lv_bipush (v := 6) hx hb dX4_counted_110 (by decide) ?_
                            refine lv_iload_n hx hb dX4_counted_112 rfl (lv_at hl 1 rfl) ?_
                            refine lv_iadd hx hb dX4_counted_113 ?_
                            refine lv_bipush (v := 8) hx hb dX4_counted_114 (by decide) ?_
                            refine lv_isub hx hb dX4_counted_116 ?_
                            obtain ⟨hg32, h⟩ := z_g h
                            refine z_iald C Z hP (k := 120) (n := 1710) (j := (((6 + x1) - 8)).toNatClampNeg) (by decide) (z_E_120 _) hg32 rfl dX4_counted_117 ?_
                            cases h
                            exact z_reti C hr hlk hP hS dX4_counted_118
abbrev rm_X4_count : Room := { frames := 4, cells := 0, slots := 0, locals := 84 }
theorem hd_X4_count : yX4_count.cls ≠ "java/lang/invoke/MethodHandle" ∧ yX4_count.cls ≠ "java/lang/invoke/VarHandle" ∧ (parseMethodDescriptor yX4_count.desc).map (fun d => d.parameters.length) = some 1 := by decide +kernel
theorem hv_X4_count : yX4_count.cls = RX4 ∧ yX4_count.cls ≠ "java/lang/invoke/MethodHandle" ∧ yX4_count.cls ≠ "java/lang/invoke/VarHandle" ∧ (parseMethodDescriptor yX4_count.desc).map (fun d => d.parameters.length) = some 1 := ⟨rfl, hd_X4_count⟩
set_option maxHeartbeats 4000000 in
set_option maxRecDepth 100000 in
theorem c_X4_count (l : Launch) (G : zG) {x1 : Int32} {μ mu1 : Mm} {r : Int32} (h : f_X4_count x1 μ = some (r, mu1)) (sz : Nat) : Met l yX4_count wsX4_count rm_X4_count (z_Pre G μ [.ref (G.2.1 (119)), .int (x1)] sz) (z_Qi G r mu1 sz) 0 0 (z_A G sz) := by
  refine z_start (cc := cX4_count) (maxL := 2) (ret := (some .int)) (own := RX4) (by decide) rfl rfl (Nat.le_of_ble_eq_true rfl) (fun p e s m args below meth c C hr hlk Z hP ls hl => ?_) sz
  have hx := C.1
  have hb := C.2.1
  have hts := C.2.2.2.2
  have hS : va_S (z_A G s.heap.size) s.heap s.heap [] := va_S.rf
  have hl : lv_has ls 2 [(0, .ref (G.2.1 (119))), (1, .int (x1))] := hl
  unfold f_X4_count at h
  refine lv_aload_n hx hb dX4_count_0 rfl (lv_at hl 0 rfl) ?_
  refine lv_iload_n hx hb dX4_count_1 rfl (lv_at hl 1 rfl) ?_
  refine lv_iconst (v := 0) hx hb dX4_count_2 (by decide) ?_
  refine lv_bipush (v := 12) hx hb dX4_count_3 (by decide) ?_
  obtain ⟨r1, m2, e3, h⟩ := zb_some h
  refine z_calli hS (va_runS (As := [.int (x1), .int (0), .int (12)]) (rest := [.ref (G.2.1 (119))]) C (c_X4_in l G e3 _) (va_cwS 3 hts gX4_count_X4_in rfl rfl rfl hd_X4_in ⟨Nat.le_of_ble_eq_true rfl, Nat.le_of_ble_eq_true rfl⟩) (z_preS Z hS hP) rfl rfl hl.1 rfl (lv_room (Nat.le_of_ble_eq_true rfl)) dX4_count_5 ⟨Nat.zero_le _, Nat.zero_le _⟩) (fun H locs hP hS => ?_)
  refine lv_iconst (v := 1) hx hb dX4_count_8 (by decide) ?_
  obtain ⟨r4, m5, e6, h⟩ := zb_some h
  refine z_calli hS (va_runV (As := [.int (r1), .int (1)]) (rest := []) C (c_X4_goes l G e6 _) (cwV 2 hts gX4_count_X4_goes rfl rfl rfl hv_X4_goes ⟨Nat.le_of_ble_eq_true rfl, Nat.le_of_ble_eq_true rfl⟩) (z_preV Z hS hP (by decide) (z_E_119 _) rfl rfl) rfl rfl hl.1 rfl (lv_room (Nat.le_of_ble_eq_true rfl)) dX4_count_9 ⟨Nat.zero_le _, Nat.zero_le _⟩) (fun H locs hP hS => ?_)
  refine lv_if_eq (tgt := 23) hx hb dX4_count_12 (by decide) (fun hc7 => ?_) (fun hc7 => ?_)
  · have h := z_ip hc7 h
    refine lv_iconst (v := 0) hx hb dX4_count_23 (by decide) ?_
    cases h
    exact z_reti C hr hlk hP hS dX4_count_24
  · have h := z_in hc7 h
    refine lv_aload_n hx hb dX4_count_15 rfl (lv_at hl 0 rfl) ?_
    refine lv_iload_n hx hb dX4_count_16 rfl (lv_at hl 1 rfl) ?_
    obtain ⟨r8, m9, e10, h⟩ := zb_some h
    refine z_calli hS (va_runV (As := [.int (x1)]) (rest := []) C (c_X4_counted l G e10 _) (cwV 1 hts gX4_count_X4_counted rfl rfl rfl hv_X4_counted ⟨Nat.le_of_ble_eq_true rfl, Nat.le_of_ble_eq_true rfl⟩) (z_preV Z hS hP (by decide) (z_E_119 _) rfl rfl) rfl rfl hl.1 rfl (lv_room (Nat.le_of_ble_eq_true rfl)) dX4_count_17 ⟨Nat.zero_le _, Nat.zero_le _⟩) (fun H locs hP hS => ?_)
    refine lv_goto (tgt := 24) hx hb dX4_count_20 (by decide) ?_
    cases h
    exact z_reti C hr hlk hP hS dX4_count_24
abbrev rm_X4_setting : Room := { frames := 0, cells := 0, slots := 0, locals := 0 }
theorem hd_X4_setting : yX4_setting.cls ≠ "java/lang/invoke/MethodHandle" ∧ yX4_setting.cls ≠ "java/lang/invoke/VarHandle" ∧ (parseMethodDescriptor yX4_setting.desc).map (fun d => d.parameters.length) = some 0 := by decide +kernel
theorem hv_X4_setting : yX4_setting.cls = RX4 ∧ yX4_setting.cls ≠ "java/lang/invoke/MethodHandle" ∧ yX4_setting.cls ≠ "java/lang/invoke/VarHandle" ∧ (parseMethodDescriptor yX4_setting.desc).map (fun d => d.parameters.length) = some 0 := ⟨rfl, hd_X4_setting⟩
theorem wX4_setting_0 : Cond.fieldLink RX4 27 "WaxCopiesModel" "thrown" "I" ∈ wsX4_setting := by decide +kernel
theorem inX4_setting_X4 : ∀ w ∈ wsX40, w ∈ wsX4_setting := by decide +kernel
theorem wX4_setting_2 : Cond.fieldLink RX4 7 "WaxCopiesModel" "s" "[I" ∈ wsX4_setting := by decide +kernel
set_option maxHeartbeats 4000000 in
set_option maxRecDepth 100000 in
theorem c_X4_setting (l : Launch) (G : zG) {μ mu1 : Mm} {r : Int32} (h : f_X4_setting μ = some (r, mu1)) (sz : Nat) : Met l yX4_setting wsX4_setting rm_X4_setting (z_Pre G μ [.ref (G.2.1 (119))] sz) (z_Qi G r mu1 sz) 0 0 (z_A G sz) := by
  refine z_start (cc := cX4_setting) (maxL := 1) (ret := (some .int)) (own := RX4) (by decide) rfl rfl (Nat.le_of_ble_eq_true rfl) (fun p e s m args below meth c C hr hlk Z hP ls hl => ?_) sz
  have hx := C.1
  have hb := C.2.1
  have hts := C.2.2.2.2
  have hS : va_S (z_A G s.heap.size) s.heap s.heap [] := va_S.rf
  have hl : lv_has ls 1 [(0, .ref (G.2.1 (119)))] := hl
  unfold f_X4_setting at h
  refine lv_aload_n hx hb dX4_setting_0 rfl (lv_at hl 0 rfl) ?_
  refine lv_iconst (v := 0) hx hb dX4_setting_1 (by decide) ?_
  refine z_put C Z hP hS (k := 119) (ci := 4) (j := 5) (N := 12) (x := 0) (v := .int (0)) (ty := .int) (by decide) (z_E_119 _) rfl inX4_setting_X4 tyX4_ok nmX4 (by decide) wX4_setting_0 rfl (by decide +kernel) rfl rfl (Nat.le_of_ble_eq_true rfl) (z_S_119_5 _ _) dX4_setting_2 (fun H locs hP hS => ?_)
  refine lv_aload_n hx hb dX4_setting_5 rfl (lv_at hl 0 rfl) ?_
  refine z_get C Z hP (k := 119) (ci := 4) (j := 0) (N := 12) (v := .ref (G.2.1 (120))) (by decide) (z_E_119 _) rfl inX4_setting_X4 (by decide) wX4_setting_2 rfl dX4_setting_6 ?_
  refine lv_iconst (v := 2) hx hb dX4_setting_9 (by decide) ?_
  refine z_iald C Z hP (k := 120) (n := 1710) (j := 2) (by decide) (z_E_120 _) (show z_ix 2 1710 by decide) rfl dX4_setting_10 ?_
  cases h
  exact z_reti C hr hlk hP hS dX4_setting_11
abbrev rm_X4_whyNot : Room := { frames := 3, cells := 0, slots := 0, locals := 63 }
theorem hd_X4_whyNot : yX4_whyNot.cls ≠ "java/lang/invoke/MethodHandle" ∧ yX4_whyNot.cls ≠ "java/lang/invoke/VarHandle" ∧ (parseMethodDescriptor yX4_whyNot.desc).map (fun d => d.parameters.length) = some 2 := by decide +kernel
theorem hv_X4_whyNot : yX4_whyNot.cls = RX4 ∧ yX4_whyNot.cls ≠ "java/lang/invoke/MethodHandle" ∧ yX4_whyNot.cls ≠ "java/lang/invoke/VarHandle" ∧ (parseMethodDescriptor yX4_whyNot.desc).map (fun d => d.parameters.length) = some 2 := ⟨rfl, hd_X4_whyNot⟩
set_option maxHeartbeats 4000000 in
set_option maxRecDepth 100000 in
theorem c_X4_whyNot (l : Launch) (G : zG) {x1 : Int32} {x2 : Int32} {μ mu1 : Mm} {r : Int32} (h : f_X4_whyNot x1 x2 μ = some (r, mu1)) (sz : Nat) : Met l yX4_whyNot wsX4_whyNot rm_X4_whyNot (z_Pre G μ [.ref (G.2.1 (119)), .int (x1), .int (x2)] sz) (z_Qi G r mu1 sz) 0 0 (z_A G sz) := by
  refine z_start (cc := cX4_whyNot) (maxL := 3) (ret := (some .int)) (own := RX4) (by decide) rfl rfl (Nat.le_of_ble_eq_true rfl) (fun p e s m args below meth c C hr hlk Z hP ls hl => ?_) sz
  have hx := C.1
  have hb := C.2.1
  have hts := C.2.2.2.2
  have hS : va_S (z_A G s.heap.size) s.heap s.heap [] := va_S.rf
  have hl : lv_has ls 3 [(0, .ref (G.2.1 (119))), (1, .int (x1)), (2, .int (x2))] := hl
  unfold f_X4_whyNot at h
  refine lv_aload_n hx hb dX4_whyNot_0 rfl (lv_at hl 0 rfl) ?_
  refine lv_iload_n hx hb dX4_whyNot_1 rfl (lv_at hl 1 rfl) ?_
  obtain ⟨r1, m2, e3, h⟩ := zb_some h
  refine z_calli hS (va_runS (As := [.int (x1)]) (rest := [.ref (G.2.1 (119))]) C (c_X4_isTrack l G e3 _) (va_cwS 1 hts gX4_whyNot_X4_isTrack rfl rfl rfl hd_X4_isTrack ⟨Nat.le_of_ble_eq_true rfl, Nat.le_of_ble_eq_true rfl⟩) (z_preS Z hS hP) rfl rfl hl.1 rfl (lv_room (Nat.le_of_ble_eq_true rfl)) dX4_whyNot_2 ⟨Nat.zero_le _, Nat.zero_le _⟩) (fun H locs hP hS => ?_)
  refine lv_iload_n hx hb dX4_whyNot_5 rfl (lv_at hl 2 rfl) ?_
  refine lv_iconst (v := 1) hx hb dX4_whyNot_6 (by decide) ?_
  refine lv_bipush (v := 9) hx hb dX4_whyNot_7 (by decide) ?_
  obtain ⟨r4, m5, e6, h⟩ := zb_some h
  refine z_calli hS (va_runS (As := [.int (x2), .int (1), .int (9)]) (rest := [.int (r1), .ref (G.2.1 (119))]) C (c_X4_in l G e6 _) (va_cwS 3 hts gX4_whyNot_X4_in rfl rfl rfl hd_X4_in ⟨Nat.le_of_ble_eq_true rfl, Nat.le_of_ble_eq_true rfl⟩) (z_preS Z hS hP) rfl rfl hl.1 rfl (lv_room (Nat.le_of_ble_eq_true rfl)) dX4_whyNot_9 ⟨Nat.zero_le _, Nat.zero_le _⟩) (fun H locs hP hS => ?_)
  obtain ⟨r7, m8, e9, h⟩ := zb_some h
  refine z_calli hS (va_runV (As := [.int (r1), .int (r4)]) (rest := []) C (c_X4_goes l G e9 _) (cwV 2 hts gX4_whyNot_X4_goes rfl rfl rfl hv_X4_goes ⟨Nat.le_of_ble_eq_true rfl, Nat.le_of_ble_eq_true rfl⟩) (z_preV Z hS hP (by decide) (z_E_119 _) rfl rfl) rfl rfl hl.1 rfl (lv_room (Nat.le_of_ble_eq_true rfl)) dX4_whyNot_12 ⟨Nat.zero_le _, Nat.zero_le _⟩) (fun H locs hP hS => ?_)
  refine lv_if_eq (tgt := 27) hx hb dX4_whyNot_15 (by decide) (fun hc10 => ?_) (fun hc10 => ?_)
  · have h := z_ip hc10 h
    refine lv_iconst (v := 0) hx hb dX4_whyNot_27 (by decide) ?_
    cases h
    exact z_reti C hr hlk hP hS dX4_whyNot_28
  · have h := z_in hc10 h
    refine lv_aload_n hx hb dX4_whyNot_18 rfl (lv_at hl 0 rfl) ?_
    refine lv_iload_n hx hb dX4_whyNot_19 rfl (lv_at hl 1 rfl) ?_
    refine lv_iload_n hx hb dX4_whyNot_20 rfl (lv_at hl 2 rfl) ?_
    obtain ⟨r11, m12, e13, h⟩ := zb_some h
    refine z_calli hS (va_runV (As := [.int (x1), .int (x2)]) (rest := []) C (c_X4_speakReason l G e13 _) (cwV 2 hts gX4_whyNot_X4_speakReason rfl rfl rfl hv_X4_speakReason ⟨Nat.le_of_ble_eq_true rfl, Nat.le_of_ble_eq_true rfl⟩) (z_preV Z hS hP (by decide) (z_E_119 _) rfl rfl) rfl rfl hl.1 rfl (lv_room (Nat.le_of_ble_eq_true rfl)) dX4_whyNot_21 ⟨Nat.zero_le _, Nat.zero_le _⟩) (fun H locs hP hS => ?_)
    refine lv_goto (tgt := 28) hx hb dX4_whyNot_24 (by decide) ?_
    cases h
    exact z_reti C hr hlk hP hS dX4_whyNot_28
abbrev rm_X4_wouldBe : Room := { frames := 3, cells := 0, slots := 0, locals := 64 }
theorem hd_X4_wouldBe : yX4_wouldBe.cls ≠ "java/lang/invoke/MethodHandle" ∧ yX4_wouldBe.cls ≠ "java/lang/invoke/VarHandle" ∧ (parseMethodDescriptor yX4_wouldBe.desc).map (fun d => d.parameters.length) = some 3 := by decide +kernel
theorem hv_X4_wouldBe : yX4_wouldBe.cls = RX4 ∧ yX4_wouldBe.cls ≠ "java/lang/invoke/MethodHandle" ∧ yX4_wouldBe.cls ≠ "java/lang/invoke/VarHandle" ∧ (parseMethodDescriptor yX4_wouldBe.desc).map (fun d => d.parameters.length) = some 3 := ⟨rfl, hd_X4_wouldBe⟩
set_option maxHeartbeats 4000000 in
set_option maxRecDepth 100000 in
theorem c_X4_wouldBe (l : Launch) (G : zG) {x1 : Int32} {x2 : Int32} {x3 : Int32} {μ mu1 : Mm} {r : Int32} (h : f_X4_wouldBe x1 x2 x3 μ = some (r, mu1)) (sz : Nat) : Met l yX4_wouldBe wsX4_wouldBe rm_X4_wouldBe (z_Pre G μ [.ref (G.2.1 (119)), .int (x1), .int (x2), .int (x3)] sz) (z_Qi G r mu1 sz) 0 0 (z_A G sz) := by
  refine z_start (cc := cX4_wouldBe) (maxL := 5) (ret := (some .int)) (own := RX4) (by decide) rfl rfl (Nat.le_of_ble_eq_true rfl) (fun p e s m args below meth c C hr hlk Z hP ls hl => ?_) sz
  have hx := C.1
  have hb := C.2.1
  have hts := C.2.2.2.2
  have hS : va_S (z_A G s.heap.size) s.heap s.heap [] := va_S.rf
  have hl : lv_has ls 5 [(0, .ref (G.2.1 (119))), (1, .int (x1)), (2, .int (x2)), (3, .int (x3))] := hl
  unfold f_X4_wouldBe at h
  refine lv_aload_n hx hb dX4_wouldBe_0 rfl (lv_at hl 0 rfl) ?_
  refine lv_iload_n hx hb dX4_wouldBe_1 rfl (lv_at hl 1 rfl) ?_
  refine lv_iload_n hx hb dX4_wouldBe_2 rfl (lv_at hl 2 rfl) ?_
  refine lv_iload_n hx hb dX4_wouldBe_3 rfl (lv_at hl 3 rfl) ?_
  obtain ⟨r1, m2, e3, h⟩ := zb_some h
  refine z_calli hS (va_runV (As := [.int (x1), .int (x2), .int (x3)]) (rest := []) C (c_X4_copyReason l G e3 _) (cwV 3 hts gX4_wouldBe_X4_copyReason rfl rfl rfl hv_X4_copyReason ⟨Nat.le_of_ble_eq_true rfl, Nat.le_of_ble_eq_true rfl⟩) (z_preV Z hS hP (by decide) (z_E_119 _) rfl rfl) rfl rfl hl.1 rfl (lv_room (Nat.le_of_ble_eq_true rfl)) dX4_wouldBe_4 ⟨Nat.zero_le _, Nat.zero_le _⟩) (fun H locs hP hS => ?_)
  refine lv_istore (lv' := [(4, .int (r1)), (0, .ref (G.2.1 (119))), (1, .int (x1)), (2, .int (x2)), (3, .int (x3))]) hx hb dX4_wouldBe_7 hl (by decide) rfl (fun ls hl => ?_)
  refine lv_iload hx hb dX4_wouldBe_9 (lv_at hl 0 rfl) ?_
  refine lv_if_eq (tgt := 20) hx hb dX4_wouldBe_11 (by decide) (fun hc4 => ?_) (fun hc4 => ?_)
  · have h := z_ip hc4 h
    refine lv_aload_n hx hb dX4_wouldBe_20 rfl (lv_at hl 1 rfl) ?_
    refine lv_iload_n hx hb dX4_wouldBe_21 rfl (lv_at hl 2 rfl) ?_
    refine lv_iload_n hx hb dX4_wouldBe_22 rfl (lv_at hl 4 rfl) ?_
    obtain ⟨r5, m6, e7, h⟩ := zb_some h
    refine z_calli hS (va_runV (As := [.int (x1), .int (x3)]) (rest := []) C (c_X4_clearOfCopy l G e7 _) (cwV 2 hts gX4_wouldBe_X4_clearOfCopy rfl rfl rfl hv_X4_clearOfCopy ⟨Nat.le_of_ble_eq_true rfl, Nat.le_of_ble_eq_true rfl⟩) (z_preV Z hS hP (by decide) (z_E_119 _) rfl rfl) rfl rfl hl.1 rfl (lv_room (Nat.le_of_ble_eq_true rfl)) dX4_wouldBe_23 ⟨Nat.zero_le _, Nat.zero_le _⟩) (fun H locs hP hS => ?_)
    cases h
    exact z_reti C hr hlk hP hS dX4_wouldBe_26
  · have h := z_in hc4 h
    refine lv_iload hx hb dX4_wouldBe_14 (lv_at hl 0 rfl) ?_
    refine lv_ineg hx hb dX4_wouldBe_16 ?_
    refine lv_goto (tgt := 26) hx hb dX4_wouldBe_17 (by decide) ?_
    cases h
    exact z_reti C hr hlk hP hS dX4_wouldBe_26
abbrev rm_X4_ifCopied : Room := { frames := 4, cells := 0, slots := 0, locals := 88 }
theorem hd_X4_ifCopied : yX4_ifCopied.cls ≠ "java/lang/invoke/MethodHandle" ∧ yX4_ifCopied.cls ≠ "java/lang/invoke/VarHandle" ∧ (parseMethodDescriptor yX4_ifCopied.desc).map (fun d => d.parameters.length) = some 3 := by decide +kernel
theorem hv_X4_ifCopied : yX4_ifCopied.cls = RX4 ∧ yX4_ifCopied.cls ≠ "java/lang/invoke/MethodHandle" ∧ yX4_ifCopied.cls ≠ "java/lang/invoke/VarHandle" ∧ (parseMethodDescriptor yX4_ifCopied.desc).map (fun d => d.parameters.length) = some 3 := ⟨rfl, hd_X4_ifCopied⟩
set_option maxHeartbeats 4000000 in
set_option maxRecDepth 100000 in
theorem L_X4_ifCopied_b20 {p : Program} {l : Launch} {e : Env} {s : State} {m : MethodId} {args : Array Value} {below : List Frame} {meth : Method} {c : Code} {G : zG} {r : Int32} {mu1 : Mm}  (C : CallFix p m c cX4_ifCopied 4 s args wsX4_ifCopied RX4) (hr : meth.sig.returnType = (some .int)) (hlk : meth.locks = false) (Z : z_Z G (z_A G s.heap.size) s)  :
    ∀ (x1 : Int32) (x2 : Int32) (x3 : Int32) (y0 : Int32) (μ : Mm), f_X4_ifCopied_b20  x1 x2 x3 y0 μ = some (r, mu1) → ∀ (H : Heap) (locs : List Loc), z_P G μ H → va_S (z_A G s.heap.size) s.heap H locs → ∀ ls : Array Slot, lv_has ls 4 [(0, .ref (G.2.1 (119))), (1, .int (x1)), (2, .int (x2)), (3, .int (x3))] → W p l e rm_X4_ifCopied s m args below meth c H locs 0 0 (MQ below (z_Qi G r mu1 s.heap.size) args s 0 0 (z_A G s.heap.size)) (F0 m 20 ls [.int (y0), .ref (G.2.1 (119))]) := by
  have hx := C.1
  have hb := C.2.1
  have hts := C.2.2.2.2
  intro x1 x2 x3 y0 μ h H locs hP hS ls hl
  unfold f_X4_ifCopied_b20 at h
  refine lv_iload_n hx hb dX4_ifCopied_20 rfl (lv_at hl 3 rfl) ?_
  refine lv_iconst (v := 1) hx hb dX4_ifCopied_21 (by decide) ?_
  refine lv_iconst (v := 3) hx hb dX4_ifCopied_22 (by decide) ?_
  obtain ⟨r5, m6, e7, h⟩ := zb_some h
  refine z_calli hS (va_runS (As := [.int (x3), .int (1), .int (3)]) (rest := [.int (y0), .ref (G.2.1 (119))]) C (c_X4_in l G e7 _) (va_cwS 3 hts gX4_ifCopied_X4_in rfl rfl rfl hd_X4_in ⟨Nat.le_of_ble_eq_true rfl, Nat.le_of_ble_eq_true rfl⟩) (z_preS Z hS hP) rfl rfl hl.1 rfl (lv_room (Nat.le_of_ble_eq_true rfl)) dX4_ifCopied_23 ⟨Nat.zero_le _, Nat.zero_le _⟩) (fun H locs hP hS => ?_)
  obtain ⟨r8, m9, e10, h⟩ := zb_some h
  refine z_calli hS (va_runV (As := [.int (y0), .int (r5)]) (rest := []) C (c_X4_goes l G e10 _) (cwV 2 hts gX4_ifCopied_X4_goes rfl rfl rfl hv_X4_goes ⟨Nat.le_of_ble_eq_true rfl, Nat.le_of_ble_eq_true rfl⟩) (z_preV Z hS hP (by decide) (z_E_119 _) rfl rfl) rfl rfl hl.1 rfl (lv_room (Nat.le_of_ble_eq_true rfl)) dX4_ifCopied_26 ⟨Nat.zero_le _, Nat.zero_le _⟩) (fun H locs hP hS => ?_)
  refine lv_if_eq (tgt := 42) hx hb dX4_ifCopied_29 (by decide) (fun hc11 => ?_) (fun hc11 => ?_)
  · have h := z_ip hc11 h
    refine lv_iconst (v := 0) hx hb dX4_ifCopied_42 (by decide) ?_
    cases h
    exact z_reti C hr hlk hP hS dX4_ifCopied_43
  · have h := z_in hc11 h
    refine lv_aload_n hx hb dX4_ifCopied_32 rfl (lv_at hl 0 rfl) ?_
    refine lv_iload_n hx hb dX4_ifCopied_33 rfl (lv_at hl 1 rfl) ?_
    refine lv_iload_n hx hb dX4_ifCopied_34 rfl (lv_at hl 2 rfl) ?_
    refine lv_iload_n hx hb dX4_ifCopied_35 rfl (lv_at hl 3 rfl) ?_
    obtain ⟨r12, m13, e14, h⟩ := zb_some h
    refine z_calli hS (va_runV (As := [.int (x1), .int (x2), .int (x3)]) (rest := []) C (c_X4_wouldBe l G e14 _) (cwV 3 hts gX4_ifCopied_X4_wouldBe rfl rfl rfl hv_X4_wouldBe ⟨Nat.le_of_ble_eq_true rfl, Nat.le_of_ble_eq_true rfl⟩) (z_preV Z hS hP (by decide) (z_E_119 _) rfl rfl) rfl rfl hl.1 rfl (lv_room (Nat.le_of_ble_eq_true rfl)) dX4_ifCopied_36 ⟨Nat.zero_le _, Nat.zero_le _⟩) (fun H locs hP hS => ?_)
    refine lv_goto (tgt := 43) hx hb dX4_ifCopied_39 (by decide) ?_
    cases h
    exact z_reti C hr hlk hP hS dX4_ifCopied_43
set_option maxHeartbeats 4000000 in
set_option maxRecDepth 100000 in
theorem c_X4_ifCopied (l : Launch) (G : zG) {x1 : Int32} {x2 : Int32} {x3 : Int32} {μ mu1 : Mm} {r : Int32} (h : f_X4_ifCopied x1 x2 x3 μ = some (r, mu1)) (sz : Nat) : Met l yX4_ifCopied wsX4_ifCopied rm_X4_ifCopied (z_Pre G μ [.ref (G.2.1 (119)), .int (x1), .int (x2), .int (x3)] sz) (z_Qi G r mu1 sz) 0 0 (z_A G sz) := by
  refine z_start (cc := cX4_ifCopied) (maxL := 4) (ret := (some .int)) (own := RX4) (by decide) rfl rfl (Nat.le_of_ble_eq_true rfl) (fun p e s m args below meth c C hr hlk Z hP ls hl => ?_) sz
  have hx := C.1
  have hb := C.2.1
  have hts := C.2.2.2.2
  have hS : va_S (z_A G s.heap.size) s.heap s.heap [] := va_S.rf
  have hl : lv_has ls 4 [(0, .ref (G.2.1 (119))), (1, .int (x1)), (2, .int (x2)), (3, .int (x3))] := hl
  unfold f_X4_ifCopied at h
  refine lv_aload_n hx hb dX4_ifCopied_0 rfl (lv_at hl 0 rfl) ?_
  refine lv_iload_n hx hb dX4_ifCopied_1 rfl (lv_at hl 1 rfl) ?_
  obtain ⟨r1, m2, e3, h⟩ := zb_some h
  refine z_calli hS (va_runS (As := [.int (x1)]) (rest := [.ref (G.2.1 (119))]) C (c_X4_isTrack l G e3 _) (va_cwS 1 hts gX4_ifCopied_X4_isTrack rfl rfl rfl hd_X4_isTrack ⟨Nat.le_of_ble_eq_true rfl, Nat.le_of_ble_eq_true rfl⟩) (z_preS Z hS hP) rfl rfl hl.1 rfl (lv_room (Nat.le_of_ble_eq_true rfl)) dX4_ifCopied_2 ⟨Nat.zero_le _, Nat.zero_le _⟩) (fun H locs hP hS => ?_)
  refine lv_if_eq (tgt := 19) hx hb dX4_ifCopied_5 (by decide) (fun hc4 => ?_) (fun hc4 => ?_)
  · have h := z_ip hc4 h
    refine lv_iconst (v := 0) hx hb dX4_ifCopied_19 (by decide) ?_
    exact L_X4_ifCopied_b20 C hr hlk Z _ _ _ _ _ h _ _ hP hS ls (lv_sub hl [0, 1, 2, 3] rfl)
  · have h := z_in hc4 h
    refine lv_iload_n hx hb dX4_ifCopied_8 rfl (lv_at hl 2 rfl) ?_
    obtain ⟨r15, m16, e17, h⟩ := zb_some h
    refine z_calli hS (va_runS (As := [.int (x2)]) (rest := [.ref (G.2.1 (119))]) C (c_X4_isTrack l G e17 _) (va_cwS 1 hts gX4_ifCopied_X4_isTrack rfl rfl rfl hd_X4_isTrack ⟨Nat.le_of_ble_eq_true rfl, Nat.le_of_ble_eq_true rfl⟩) (z_preS Z hS hP) rfl rfl hl.1 rfl (lv_room (Nat.le_of_ble_eq_true rfl)) dX4_ifCopied_9 ⟨Nat.zero_le _, Nat.zero_le _⟩) (fun H locs hP hS => ?_)
    refine lv_if_eq (tgt := 19) hx hb dX4_ifCopied_12 (by decide) (fun hc18 => ?_) (fun hc18 => ?_)
    · have h := z_ip hc18 h
      refine lv_iconst (v := 0) hx hb dX4_ifCopied_19 (by decide) ?_
      exact L_X4_ifCopied_b20 C hr hlk Z _ _ _ _ _ h _ _ hP hS ls (lv_sub hl [0, 1, 2, 3] rfl)
    · have h := z_in hc18 h
      refine lv_iconst (v := 1) hx hb dX4_ifCopied_15 (by decide) ?_
      refine lv_goto (tgt := 20) hx hb dX4_ifCopied_16 (by decide) ?_
      exact L_X4_ifCopied_b20 C hr hlk Z _ _ _ _ _ h _ _ hP hS ls (lv_sub hl [0, 1, 2, 3] rfl)
abbrev rm_X4_copied : Room := { frames := 1, cells := 0, slots := 0, locals := 21 }
theorem hd_X4_copied : yX4_copied.cls ≠ "java/lang/invoke/MethodHandle" ∧ yX4_copied.cls ≠ "java/lang/invoke/VarHandle" ∧ (parseMethodDescriptor yX4_copied.desc).map (fun d => d.parameters.length) = some 3 := by decide +kernel
theorem hv_X4_copied : yX4_copied.cls = RX4 ∧ yX4_copied.cls ≠ "java/lang/invoke/MethodHandle" ∧ yX4_copied.cls ≠ "java/lang/invoke/VarHandle" ∧ (parseMethodDescriptor yX4_copied.desc).map (fun d => d.parameters.length) = some 3 := ⟨rfl, hd_X4_copied⟩
set_option maxHeartbeats 4000000 in
set_option maxRecDepth 100000 in
theorem c_X4_copied (l : Launch) (G : zG) {x0 : Int32} {x1 : Int32} {x2 : Int32} {μ mu1 : Mm} {r : Int32} (h : f_X4_copied x0 x1 x2 μ = some (r, mu1)) (sz : Nat) : Met l yX4_copied wsX4_copied rm_X4_copied (z_Pre G μ [.int (x0), .int (x1), .int (x2)] sz) (z_Qi G r mu1 sz) 0 0 (z_A G sz) := by
  refine z_start (cc := cX4_copied) (maxL := 3) (ret := (some .int)) (own := RX4) (by decide) rfl rfl (Nat.le_of_ble_eq_true rfl) (fun p e s m args below meth c C hr hlk Z hP ls hl => ?_) sz
  have hx := C.1
  have hb := C.2.1
  have hts := C.2.2.2.2
  have hS : va_S (z_A G s.heap.size) s.heap s.heap [] := va_S.rf
  have hl : lv_has ls 3 [(0, .int (x0)), (1, .int (x1)), (2, .int (x2))] := hl
  unfold f_X4_copied at h
  refine lv_iload_n hx hb dX4_copied_0 rfl (lv_at hl 0 rfl) ?_
  refine lv_bipush (v := 12) hx hb dX4_copied_1 (by decide) ?_
  refine lv_iload_n hx hb dX4_copied_3 rfl (lv_at hl 1 rfl) ?_
  obtain ⟨hg1, h⟩ := z_g h
  refine lv_idiv hx hb dX4_copied_4 hg1 ?_
  refine lv_isub hx hb dX4_copied_5 ?_
  refine lv_iload_n hx hb dX4_copied_6 rfl (lv_at hl 2 rfl) ?_
  obtain ⟨r2, m3, e4, h⟩ := zb_some h
  refine z_calli hS (va_runS (As := [.int (x2)]) (rest := [.int ((x0 - (12 / x1)))]) C (c_X4_bluntness l G e4 _) (va_cwS 1 hts gX4_copied_X4_bluntness rfl rfl rfl hd_X4_bluntness ⟨Nat.le_of_ble_eq_true rfl, Nat.le_of_ble_eq_true rfl⟩) (z_preS Z hS hP) rfl rfl hl.1 rfl (lv_room (Nat.le_of_ble_eq_true rfl)) dX4_copied_7 ⟨Nat.zero_le _, Nat.zero_le _⟩) (fun H locs hP hS => ?_)
  refine lv_isub hx hb dX4_copied_10 ?_
  refine lv_iconst (v := 0) hx hb dX4_copied_11 (by decide) ?_
  obtain ⟨r5, m6, e7, h⟩ := zb_some h
  refine z_calli hS (va_runS (As := [.int (((x0 - (12 / x1)) - r2)), .int (0)]) (rest := []) C (c_X4_atLeast l G e7 _) (va_cwS 2 hts gX4_copied_X4_atLeast rfl rfl rfl hd_X4_atLeast ⟨Nat.le_of_ble_eq_true rfl, Nat.le_of_ble_eq_true rfl⟩) (z_preS Z hS hP) rfl rfl hl.1 rfl (lv_room (Nat.le_of_ble_eq_true rfl)) dX4_copied_12 ⟨Nat.zero_le _, Nat.zero_le _⟩) (fun H locs hP hS => ?_)
  cases h
  exact z_reti C hr hlk hP hS dX4_copied_15
abbrev rm_X4_bySteps : Room := { frames := 2, cells := 0, slots := 0, locals := 43 }
theorem hd_X4_bySteps : yX4_bySteps.cls ≠ "java/lang/invoke/MethodHandle" ∧ yX4_bySteps.cls ≠ "java/lang/invoke/VarHandle" ∧ (parseMethodDescriptor yX4_bySteps.desc).map (fun d => d.parameters.length) = some 2 := by decide +kernel
theorem hv_X4_bySteps : yX4_bySteps.cls = RX4 ∧ yX4_bySteps.cls ≠ "java/lang/invoke/MethodHandle" ∧ yX4_bySteps.cls ≠ "java/lang/invoke/VarHandle" ∧ (parseMethodDescriptor yX4_bySteps.desc).map (fun d => d.parameters.length) = some 2 := ⟨rfl, hd_X4_bySteps⟩
theorem wX4_bySteps_0 : Cond.fieldLink RX4 21 "WaxCopiesModel" "best" "[I" ∈ wsX4_bySteps := by decide +kernel
theorem inX4_bySteps_X4 : ∀ w ∈ wsX40, w ∈ wsX4_bySteps := by decide +kernel
theorem wX4_bySteps_2 : Cond.fieldLink RX4 7 "WaxCopiesModel" "s" "[I" ∈ wsX4_bySteps := by decide +kernel
theorem wX4_bySteps_3 : Cond.fieldLink RX4 24 "WaxCopiesModel" "next" "[I" ∈ wsX4_bySteps := by decide +kernel
set_option maxHeartbeats 4000000 in
set_option maxRecDepth 100000 in
theorem L_X4_bySteps_b241 {p : Program} {l : Launch} {e : Env} {s : State} {m : MethodId} {args : Array Value} {below : List Frame} {meth : Method} {c : Code} {G : zG} {r : Int32} {mu1 : Mm}  (C : CallFix p m c cX4_bySteps 8 s args wsX4_bySteps RX4) (hr : meth.sig.returnType = (some .int)) (hlk : meth.locks = false) (Z : z_Z G (z_A G s.heap.size) s)  :
    ∀ (n : Nat) (x3 : Int32) (x4 : Int32) (μ : Mm), f_X4_bySteps_b241  n x3 x4 μ = some (r, mu1) → ∀ (H : Heap) (locs : List Loc), z_P G μ H → va_S (z_A G s.heap.size) s.heap H locs → ∀ ls : Array Slot, lv_has ls 8 [(0, .ref (G.2.1 (119))), (3, .int (x3)), (4, .int (x4))] → W p l e rm_X4_bySteps s m args below meth c H locs 0 0 (MQ below (z_Qi G r mu1 s.heap.size) args s 0 0 (z_A G s.heap.size)) (F0 m 241 ls []) := by
  have hx := C.1
  have hb := C.2.1
  have hts := C.2.2.2.2
  intro n
  induction n with
  | zero =>
    intro x3 x4 μ h
    rw [f_X4_bySteps_b241] at h
    cases h
  | succ n ih =>
    intro x3 x4 μ h H locs hP hS ls hl
    rw [f_X4_bySteps_b241] at h
    refine lv_iload hx hb dX4_bySteps_241 (lv_at hl 2 rfl) ?_
    refine lv_sipush (v := 1010) hx hb dX4_bySteps_243 (by decide) ?_
    refine lv_icmp_ge (tgt := 267) hx hb dX4_bySteps_246 (by decide) (fun hc12 => ?_) (fun hc12 => ?_)
    · have h := z_ip hc12 h
      refine lv_iload_n hx hb dX4_bySteps_267 rfl (lv_at hl 1 rfl) ?_
      cases h
      exact z_reti C hr hlk hP hS dX4_bySteps_268
    · have h := z_in hc12 h
      refine lv_aload_n hx hb dX4_bySteps_249 rfl (lv_at hl 0 rfl) ?_
      refine z_get C Z hP (k := 119) (ci := 4) (j := 10) (N := 12) (v := .ref (G.2.1 (123))) (by decide) (z_E_119 _) rfl inX4_bySteps_X4 (by decide) wX4_bySteps_0 rfl dX4_bySteps_250 ?_
      refine lv_iload hx hb dX4_bySteps_253 (lv_at hl 2 rfl) ?_
      obtain ⟨hg13, h⟩ := z_g h
      refine z_iald C Z hP (k := 123) (n := 1010) (j := (x4).toNatClampNeg) (by decide) (z_E_123 _) hg13 rfl dX4_bySteps_255 ?_
      refine lv_iload_n hx hb dX4_bySteps_256 rfl (lv_at hl 1 rfl) ?_
      obtain ⟨r14, m15, e16, h⟩ := zb_some h
      refine z_calli hS (va_runS (As := [.int ((μ (123) ((x4).toNatClampNeg))), .int (x3)]) (rest := []) C (c_X4_atLeast l G e16 _) (va_cwS 2 hts gX4_bySteps_X4_atLeast rfl rfl rfl hd_X4_atLeast ⟨Nat.le_of_ble_eq_true rfl, Nat.le_of_ble_eq_true rfl⟩) (z_preS Z hS hP) rfl rfl hl.1 rfl (lv_room (Nat.le_of_ble_eq_true rfl)) dX4_bySteps_257 ⟨Nat.zero_le _, Nat.zero_le _⟩) (fun H locs hP hS => ?_)
      refine lv_istore_n (lv' := [(3, .int (r14)), (0, .ref (G.2.1 (119))), (4, .int (x4))]) hx hb dX4_bySteps_260 rfl hl (by decide) rfl (fun ls hl => ?_)
      refine lv_iinc (v := (x4 + 1)) (lv' := [(4, .int ((x4 + 1))), (3, .int (r14)), (0, .ref (G.2.1 (119)))]) hx hb dX4_bySteps_261 hl (k := 2) rfl rfl (by decide) rfl (fun ls hl => ?_)
      refine lv_goto (tgt := 241) hx hb dX4_bySteps_264 (by decide) ?_
      exact ih _ _ _ h _ _ hP hS ls (lv_sub hl [2, 1, 0] rfl)
set_option maxHeartbeats 4000000 in
set_option maxRecDepth 100000 in
theorem L_X4_bySteps_b202 {p : Program} {l : Launch} {e : Env} {s : State} {m : MethodId} {args : Array Value} {below : List Frame} {meth : Method} {c : Code} {G : zG} {r : Int32} {mu1 : Mm} {ag59 : Int32 → Int32 → Mm → Option (Int32 × Mm)} (C : CallFix p m c cX4_bySteps 8 s args wsX4_bySteps RX4) (hr : meth.sig.returnType = (some .int)) (hlk : meth.locks = false) (Z : z_Z G (z_A G s.heap.size) s) (hag59 : ∀ (x2 : Int32) (x3 : Int32) (μ : Mm), ag59 x2 x3 μ = some (r, mu1) → ∀ (H : Heap) (locs : List Loc), z_P G μ H → va_S (z_A G s.heap.size) s.heap H locs → ∀ ls : Array Slot, lv_has ls 8 [(0, .ref (G.2.1 (119))), (2, .int (x2)), (3, .int (x3))] → W p l e rm_X4_bySteps s m args below meth c H locs 0 0 (MQ below (z_Qi G r mu1 s.heap.size) args s 0 0 (z_A G s.heap.size)) (F0 m 59 ls [])) :
    ∀ (n : Nat) (x2 : Int32) (x3 : Int32) (x4 : Int32) (μ : Mm), f_X4_bySteps_b202 ag59 n x2 x3 x4 μ = some (r, mu1) → ∀ (H : Heap) (locs : List Loc), z_P G μ H → va_S (z_A G s.heap.size) s.heap H locs → ∀ ls : Array Slot, lv_has ls 8 [(0, .ref (G.2.1 (119))), (2, .int (x2)), (3, .int (x3)), (4, .int (x4))] → W p l e rm_X4_bySteps s m args below meth c H locs 0 0 (MQ below (z_Qi G r mu1 s.heap.size) args s 0 0 (z_A G s.heap.size)) (F0 m 202 ls []) := by
  have hx := C.1
  have hb := C.2.1
  have hts := C.2.2.2.2
  intro n
  induction n with
  | zero =>
    intro x2 x3 x4 μ h
    rw [f_X4_bySteps_b202] at h
    cases h
  | succ n ih =>
    intro x2 x3 x4 μ h H locs hP hS ls hl
    rw [f_X4_bySteps_b202] at h
    refine lv_iload hx hb dX4_bySteps_202 (lv_at hl 3 rfl) ?_
    refine lv_sipush (v := 1010) hx hb dX4_bySteps_204 (by decide) ?_
    refine lv_icmp_ge (tgt := 230) hx hb dX4_bySteps_207 (by decide) (fun hc19 => ?_) (fun hc19 => ?_)
    · have h := z_ip hc19 h
      refine lv_iinc (v := (x3 + 1)) (lv' := [(3, .int ((x3 + 1))), (0, .ref (G.2.1 (119))), (2, .int (x2)), (4, .int (x4))]) hx hb dX4_bySteps_230 hl (k := 2) rfl rfl (by decide) rfl (fun ls hl => ?_)
      refine lv_goto (tgt := 59) hx hb dX4_bySteps_233 (by decide) ?_
      exact hag59 _ _ _ h _ _ hP hS ls (lv_sub hl [1, 2, 0] rfl)
    · have h := z_in hc19 h
      refine lv_aload_n hx hb dX4_bySteps_210 rfl (lv_at hl 0 rfl) ?_
      refine z_get C Z hP (k := 119) (ci := 4) (j := 10) (N := 12) (v := .ref (G.2.1 (123))) (by decide) (z_E_119 _) rfl inX4_bySteps_X4 (by decide) wX4_bySteps_0 rfl dX4_bySteps_211 ?_
      refine lv_iload hx hb dX4_bySteps_214 (lv_at hl 3 rfl) ?_
      refine lv_aload_n hx hb dX4_bySteps_216 rfl (lv_at hl 0 rfl) ?_
      refine z_get C Z hP (k := 119) (ci := 4) (j := 11) (N := 12) (v := .ref (G.2.1 (124))) (by decide) (z_E_119 _) rfl inX4_bySteps_X4 (by decide) wX4_bySteps_3 rfl dX4_bySteps_217 ?_
      refine lv_iload hx hb dX4_bySteps_220 (lv_at hl 3 rfl) ?_
      obtain ⟨hg20, h⟩ := z_g h
      refine z_iald C Z hP (k := 124) (n := 1010) (j := (x4).toNatClampNeg) (by decide) (z_E_124 _) hg20 rfl dX4_bySteps_222 ?_
      refine z_iast C Z hP hS (k := 123) (n := 1010) (j := (x4).toNatClampNeg) (by decide) (fun r => z_E_123 r) hg20 rfl dX4_bySteps_223 (fun H locs hP hS => ?_)
      refine lv_iinc (v := (x4 + 1)) (lv' := [(4, .int ((x4 + 1))), (0, .ref (G.2.1 (119))), (2, .int (x2)), (3, .int (x3))]) hx hb dX4_bySteps_224 hl (k := 3) rfl rfl (by decide) rfl (fun ls hl => ?_)
      refine lv_goto (tgt := 202) hx hb dX4_bySteps_227 (by decide) ?_
      exact ih _ _ _ _ h _ _ hP hS ls (lv_sub hl [1, 2, 3, 0] rfl)
set_option maxHeartbeats 4000000 in
set_option maxRecDepth 100000 in
theorem L_X4_bySteps_b104 {p : Program} {l : Launch} {e : Env} {s : State} {m : MethodId} {args : Array Value} {below : List Frame} {meth : Method} {c : Code} {G : zG} {r : Int32} {mu1 : Mm} {ag59 : Int32 → Int32 → Mm → Option (Int32 × Mm)} {ag93 : Int32 → Int32 → Int32 → Mm → Option (Int32 × Mm)} (C : CallFix p m c cX4_bySteps 8 s args wsX4_bySteps RX4) (hr : meth.sig.returnType = (some .int)) (hlk : meth.locks = false) (Z : z_Z G (z_A G s.heap.size) s) (hag59 : ∀ (x2 : Int32) (x3 : Int32) (μ : Mm), ag59 x2 x3 μ = some (r, mu1) → ∀ (H : Heap) (locs : List Loc), z_P G μ H → va_S (z_A G s.heap.size) s.heap H locs → ∀ ls : Array Slot, lv_has ls 8 [(0, .ref (G.2.1 (119))), (2, .int (x2)), (3, .int (x3))] → W p l e rm_X4_bySteps s m args below meth c H locs 0 0 (MQ below (z_Qi G r mu1 s.heap.size) args s 0 0 (z_A G s.heap.size)) (F0 m 59 ls [])) (hag93 : ∀ (x2 : Int32) (x3 : Int32) (x4 : Int32) (μ : Mm), ag93 x2 x3 x4 μ = some (r, mu1) → ∀ (H : Heap) (locs : List Loc), z_P G μ H → va_S (z_A G s.heap.size) s.heap H locs → ∀ ls : Array Slot, lv_has ls 8 [(0, .ref (G.2.1 (119))), (2, .int (x2)), (3, .int (x3)), (4, .int (x4))] → W p l e rm_X4_bySteps s m args below meth c H locs 0 0 (MQ below (z_Qi G r mu1 s.heap.size) args s 0 0 (z_A G s.heap.size)) (F0 m 93 ls [])) :
    ∀ (n : Nat) (x2 : Int32) (x3 : Int32) (x4 : Int32) (x5 : Int32) (μ : Mm), f_X4_bySteps_b104 ag59 ag93 n x2 x3 x4 x5 μ = some (r, mu1) → ∀ (H : Heap) (locs : List Loc), z_P G μ H → va_S (z_A G s.heap.size) s.heap H locs → ∀ ls : Array Slot, lv_has ls 8 [(0, .ref (G.2.1 (119))), (2, .int (x2)), (3, .int (x3)), (4, .int (x4)), (5, .int (x5))] → W p l e rm_X4_bySteps s m args below meth c H locs 0 0 (MQ below (z_Qi G r mu1 s.heap.size) args s 0 0 (z_A G s.heap.size)) (F0 m 104 ls []) := by
  have hx := C.1
  have hb := C.2.1
  have hts := C.2.2.2.2
  intro n
  induction n with
  | zero =>
    intro x2 x3 x4 x5 μ h
    rw [f_X4_bySteps_b104] at h
    cases h
  | succ n ih =>
    intro x2 x3 x4 x5 μ h H locs hP hS ls hl
    rw [f_X4_bySteps_b104] at h
    refine lv_iload hx hb dX4_bySteps_104 (lv_at hl 4 rfl) ?_
    refine lv_iconst (v := 3) hx hb dX4_bySteps_106 (by decide) ?_
    refine lv_icmp_gt (tgt := 193) hx hb dX4_bySteps_107 (by decide) (fun hc21 => ?_) (fun hc21 => ?_)
    · have h := z_ip hc21 h
      refine lv_iinc (v := (x4 + 1)) (lv' := [(4, .int ((x4 + 1))), (0, .ref (G.2.1 (119))), (2, .int (x2)), (3, .int (x3)), (5, .int (x5))]) hx hb dX4_bySteps_193 hl (k := 3) rfl rfl (by decide) rfl (fun ls hl => ?_)
      refine lv_goto (tgt := 93) hx hb dX4_bySteps_196 (by decide) ?_
      exact hag93 _ _ _ _ h _ _ hP hS ls (lv_sub hl [1, 2, 3, 0] rfl)
    · have h := z_in hc21 h
      refine lv_aload_n hx hb dX4_bySteps_110 rfl (lv_at hl 0 rfl) ?_
      refine z_get C Z hP (k := 119) (ci := 4) (j := 10) (N := 12) (v := .ref (G.2.1 (123))) (by decide) (z_E_119 _) rfl inX4_bySteps_X4 (by decide) wX4_bySteps_0 rfl dX4_bySteps_111 ?_
      refine lv_iload hx hb dX4_bySteps_114 (lv_at hl 3 rfl) ?_
      obtain ⟨hg22, h⟩ := z_g h
      refine z_iald C Z hP (k := 123) (n := 1010) (j := (x4).toNatClampNeg) (by decide) (z_E_123 _) hg22 rfl dX4_bySteps_116 ?_
      refine lv_iconst (v := (-1)) hx hb dX4_bySteps_117 (by decide) ?_
      refine lv_icmp_eq (tgt := 193) hx hb dX4_bySteps_118 (by decide) (fun hc23 => ?_) (fun hc23 => ?_)
      · have h := z_ip hc23 h
        refine lv_iinc (v := (x4 + 1)) (lv' := [(4, .int ((x4 + 1))), (0, .ref (G.2.1 (119))), (2, .int (x2)), (3, .int (x3)), (5, .int (x5))]) hx hb dX4_bySteps_193 hl (k := 3) rfl rfl (by decide) rfl (fun ls hl => ?_)
        refine lv_goto (tgt := 93) hx hb dX4_bySteps_196 (by decide) ?_
        exact hag93 _ _ _ _ h _ _ hP hS ls (lv_sub hl [1, 2, 3, 0] rfl)
      · have h := z_in hc23 h
        refine lv_iload hx hb dX4_bySteps_121 (lv_at hl 3 rfl) ?_
        refine lv_bipush (v := 101) hx hb dX4_bySteps_123 (by decide) ?_
        refine lv_idiv hx hb dX4_bySteps_125 (by decide) ?_
        refine lv_iload hx hb dX4_bySteps_126 (lv_at hl 4 rfl) ?_
        obtain ⟨r24, m25, e26, h⟩ := zb_some h
        refine z_calli hS (va_runS (As := [.int ((x4 / 101)), .int (x5)]) (rest := []) C (c_X4_depthBy l G e26 _) (va_cwS 2 hts gX4_bySteps_X4_depthBy rfl rfl rfl hd_X4_depthBy ⟨Nat.le_of_ble_eq_true rfl, Nat.le_of_ble_eq_true rfl⟩) (z_preS Z hS hP) rfl rfl hl.1 rfl (lv_room (Nat.le_of_ble_eq_true rfl)) dX4_bySteps_128 ⟨Nat.zero_le _, Nat.zero_le _⟩) (fun H locs hP hS => ?_)
        refine lv_istore (lv' := [(6, .int (r24)), (0, .ref (G.2.1 (119))), (2, .int (x2)), (3, .int (x3)), (4, .int (x4)), (5, .int (x5))]) hx hb dX4_bySteps_131 hl (by decide) rfl (fun ls hl => ?_)
        refine lv_bipush (v := 101) hx hb dX4_bySteps_133 (by decide) ?_
        refine lv_iload hx hb dX4_bySteps_135 (lv_at hl 0 rfl) ?_
        refine lv_imul hx hb dX4_bySteps_137 ?_
        refine lv_iload hx hb dX4_bySteps_138 (lv_at hl 4 rfl) ?_
        refine lv_bipush (v := 101) hx hb dX4_bySteps_140 (by decide) ?_
        refine lv_irem hx hb dX4_bySteps_142 (by decide) ?_
        refine lv_iload hx hb dX4_bySteps_143 (lv_at hl 0 rfl) ?_
        refine lv_isub hx hb dX4_bySteps_145 ?_
        refine lv_iconst (v := 0) hx hb dX4_bySteps_146 (by decide) ?_
        obtain ⟨r27, m28, e29, h⟩ := zb_some h
        refine z_calli hS (va_runS (As := [.int (((x4 - x4 / 101 * 101) - r24)), .int (0)]) (rest := [.int ((101 * r24))]) C (c_X4_atLeast l G e29 _) (va_cwS 2 hts gX4_bySteps_X4_atLeast rfl rfl rfl hd_X4_atLeast ⟨Nat.le_of_ble_eq_true rfl, Nat.le_of_ble_eq_true rfl⟩) (z_preS Z hS hP) rfl rfl hl.1 rfl (lv_room (Nat.le_of_ble_eq_true rfl)) dX4_bySteps_147 ⟨Nat.zero_le _, Nat.zero_le _⟩) (fun H locs hP hS => ?_)
        refine lv_iadd hx hb dX4_bySteps_150 ?_
        refine lv_istore (lv' := [(7, .int (((101 * r24) + r27))), (6, .int (r24)), (0, .ref (G.2.1 (119))), (2, .int (x2)), (3, .int (x3)), (4, .int (x4)), (5, .int (x5))]) hx hb dX4_bySteps_151 hl (by decide) rfl (fun ls hl => ?_)
        refine lv_aload_n hx hb dX4_bySteps_153 rfl (lv_at hl 2 rfl) ?_
        refine z_get C Z hP (k := 119) (ci := 4) (j := 11) (N := 12) (v := .ref (G.2.1 (124))) (by decide) (z_E_119 _) rfl inX4_bySteps_X4 (by decide) wX4_bySteps_3 rfl dX4_bySteps_154 ?_
        refine lv_iload hx hb dX4_bySteps_157 (lv_at hl 0 rfl) ?_
        refine lv_aload_n hx hb dX4_bySteps_159 rfl (lv_at hl 2 rfl) ?_
        refine z_get C Z hP (k := 119) (ci := 4) (j := 10) (N := 12) (v := .ref (G.2.1 (123))) (by decide) (z_E_119 _) rfl inX4_bySteps_X4 (by decide) wX4_bySteps_0 rfl dX4_bySteps_160 ?_
        refine lv_iload hx hb dX4_bySteps_163 (lv_at hl 5 rfl) ?_
        refine z_iald C Z hP (k := 123) (n := 1010) (j := (x4).toNatClampNeg) (by decide) (z_E_123 _) hg22 rfl dX4_bySteps_165 ?_
        refine lv_iload hx hb dX4_bySteps_166 (lv_at hl 6 rfl) ?_
        refine lv_iload hx hb dX4_bySteps_168 (lv_at hl 5 rfl) ?_
        refine lv_bipush (v := 101) hx hb dX4_bySteps_170 (by decide) ?_
        refine lv_irem hx hb dX4_bySteps_172 (by decide) ?_
        obtain ⟨r30, m31, e32, h⟩ := zb_some h
        refine z_calli hS (va_runS (As := [.int ((m28 (123) ((x4).toNatClampNeg))), .int (x5), .int ((x4 - x4 / 101 * 101))]) (rest := [.int (((101 * r24) + r27)), .ref (G.2.1 (124))]) C (c_X4_copied l G e32 _) (va_cwS 3 hts gX4_bySteps_X4_copied rfl rfl rfl hd_X4_copied ⟨Nat.le_of_ble_eq_true rfl, Nat.le_of_ble_eq_true rfl⟩) (z_preS Z hS hP) rfl rfl hl.1 rfl (lv_room (Nat.le_of_ble_eq_true rfl)) dX4_bySteps_173 ⟨Nat.zero_le _, Nat.zero_le _⟩) (fun H locs hP hS => ?_)
        refine lv_aload_n hx hb dX4_bySteps_176 rfl (lv_at hl 2 rfl) ?_
        refine z_get C Z hP (k := 119) (ci := 4) (j := 11) (N := 12) (v := .ref (G.2.1 (124))) (by decide) (z_E_119 _) rfl inX4_bySteps_X4 (by decide) wX4_bySteps_3 rfl dX4_bySteps_177 ?_
        refine lv_iload hx hb dX4_bySteps_180 (lv_at hl 0 rfl) ?_
        obtain ⟨hg33, h⟩ := z_g h
        refine z_iald C Z hP (k := 124) (n := 1010) (j := (((101 * r24) + r27)).toNatClampNeg) (by decide) (z_E_124 _) hg33 rfl dX4_bySteps_182 ?_
        obtain ⟨r34, m35, e36, h⟩ := zb_some h
        refine z_calli hS (va_runS (As := [.int (r30), .int ((m31 (124) ((((101 * r24) + r27)).toNatClampNeg)))]) (rest := [.int (((101 * r24) + r27)), .ref (G.2.1 (124))]) C (c_X4_atLeast l G e36 _) (va_cwS 2 hts gX4_bySteps_X4_atLeast rfl rfl rfl hd_X4_atLeast ⟨Nat.le_of_ble_eq_true rfl, Nat.le_of_ble_eq_true rfl⟩) (z_preS Z hS hP) rfl rfl hl.1 rfl (lv_room (Nat.le_of_ble_eq_true rfl)) dX4_bySteps_183 ⟨Nat.zero_le _, Nat.zero_le _⟩) (fun H locs hP hS => ?_)
        refine z_iast C Z hP hS (k := 124) (n := 1010) (j := (((101 * r24) + r27)).toNatClampNeg) (by decide) (fun r => z_E_124 r) hg33 rfl dX4_bySteps_186 (fun H locs hP hS => ?_)
        refine lv_iinc (v := (x5 + 1)) (lv' := [(5, .int ((x5 + 1))), (7, .int (((101 * r24) + r27))), (6, .int (r24)), (0, .ref (G.2.1 (119))), (2, .int (x2)), (3, .int (x3)), (4, .int (x4))]) hx hb dX4_bySteps_187 hl (k := 6) rfl rfl (by decide) rfl (fun ls hl => ?_)
        refine lv_goto (tgt := 104) hx hb dX4_bySteps_190 (by decide) ?_
        exact ih _ _ _ _ _ h _ _ hP hS ls (lv_sub hl [3, 4, 5, 6, 0] rfl)
set_option maxHeartbeats 4000000 in
set_option maxRecDepth 100000 in
theorem L_X4_bySteps_b93 {p : Program} {l : Launch} {e : Env} {s : State} {m : MethodId} {args : Array Value} {below : List Frame} {meth : Method} {c : Code} {G : zG} {r : Int32} {mu1 : Mm} {ag59 : Int32 → Int32 → Mm → Option (Int32 × Mm)} (C : CallFix p m c cX4_bySteps 8 s args wsX4_bySteps RX4) (hr : meth.sig.returnType = (some .int)) (hlk : meth.locks = false) (Z : z_Z G (z_A G s.heap.size) s) (hag59 : ∀ (x2 : Int32) (x3 : Int32) (μ : Mm), ag59 x2 x3 μ = some (r, mu1) → ∀ (H : Heap) (locs : List Loc), z_P G μ H → va_S (z_A G s.heap.size) s.heap H locs → ∀ ls : Array Slot, lv_has ls 8 [(0, .ref (G.2.1 (119))), (2, .int (x2)), (3, .int (x3))] → W p l e rm_X4_bySteps s m args below meth c H locs 0 0 (MQ below (z_Qi G r mu1 s.heap.size) args s 0 0 (z_A G s.heap.size)) (F0 m 59 ls [])) :
    ∀ (n : Nat) (x2 : Int32) (x3 : Int32) (x4 : Int32) (μ : Mm), f_X4_bySteps_b93 ag59 n x2 x3 x4 μ = some (r, mu1) → ∀ (H : Heap) (locs : List Loc), z_P G μ H → va_S (z_A G s.heap.size) s.heap H locs → ∀ ls : Array Slot, lv_has ls 8 [(0, .ref (G.2.1 (119))), (2, .int (x2)), (3, .int (x3)), (4, .int (x4))] → W p l e rm_X4_bySteps s m args below meth c H locs 0 0 (MQ below (z_Qi G r mu1 s.heap.size) args s 0 0 (z_A G s.heap.size)) (F0 m 93 ls []) := by
  have hx := C.1
  have hb := C.2.1
  have hts := C.2.2.2.2
  intro n
  induction n with
  | zero =>
    intro x2 x3 x4 μ h
    rw [f_X4_bySteps_b93] at h
    cases h
  | succ n ih =>
    intro x2 x3 x4 μ h H locs hP hS ls hl
    rw [f_X4_bySteps_b93] at h
    refine lv_iload hx hb dX4_bySteps_93 (lv_at hl 3 rfl) ?_
    refine lv_sipush (v := 1010) hx hb dX4_bySteps_95 (by decide) ?_
    refine lv_icmp_ge (tgt := 199) hx hb dX4_bySteps_98 (by decide) (fun hc18 => ?_) (fun hc18 => ?_)
    · have h := z_ip hc18 h
      refine lv_iconst (v := 0) hx hb dX4_bySteps_199 (by decide) ?_
      refine lv_istore (lv' := [(4, .int (0)), (0, .ref (G.2.1 (119))), (2, .int (x2)), (3, .int (x3))]) hx hb dX4_bySteps_200 hl (by decide) rfl (fun ls hl => ?_)
      exact L_X4_bySteps_b202 C hr hlk Z hag59 z_F _ _ _ _ h _ _ hP hS ls (lv_sub hl [1, 2, 3, 0] rfl)
    · have h := z_in hc18 h
      refine lv_iconst (v := 1) hx hb dX4_bySteps_101 (by decide) ?_
      refine lv_istore (lv' := [(5, .int (1)), (0, .ref (G.2.1 (119))), (2, .int (x2)), (3, .int (x3)), (4, .int (x4))]) hx hb dX4_bySteps_102 hl (by decide) rfl (fun ls hl => ?_)
      exact L_X4_bySteps_b104 C hr hlk Z hag59 ih z_F _ _ _ _ _ h _ _ hP hS ls (lv_sub hl [1, 2, 3, 4, 0] rfl)
set_option maxHeartbeats 4000000 in
set_option maxRecDepth 100000 in
theorem L_X4_bySteps_b67 {p : Program} {l : Launch} {e : Env} {s : State} {m : MethodId} {args : Array Value} {below : List Frame} {meth : Method} {c : Code} {G : zG} {r : Int32} {mu1 : Mm} {ag59 : Int32 → Int32 → Mm → Option (Int32 × Mm)} (C : CallFix p m c cX4_bySteps 8 s args wsX4_bySteps RX4) (hr : meth.sig.returnType = (some .int)) (hlk : meth.locks = false) (Z : z_Z G (z_A G s.heap.size) s) (hag59 : ∀ (x2 : Int32) (x3 : Int32) (μ : Mm), ag59 x2 x3 μ = some (r, mu1) → ∀ (H : Heap) (locs : List Loc), z_P G μ H → va_S (z_A G s.heap.size) s.heap H locs → ∀ ls : Array Slot, lv_has ls 8 [(0, .ref (G.2.1 (119))), (2, .int (x2)), (3, .int (x3))] → W p l e rm_X4_bySteps s m args below meth c H locs 0 0 (MQ below (z_Qi G r mu1 s.heap.size) args s 0 0 (z_A G s.heap.size)) (F0 m 59 ls [])) :
    ∀ (n : Nat) (x2 : Int32) (x3 : Int32) (x4 : Int32) (μ : Mm), f_X4_bySteps_b67 ag59 n x2 x3 x4 μ = some (r, mu1) → ∀ (H : Heap) (locs : List Loc), z_P G μ H → va_S (z_A G s.heap.size) s.heap H locs → ∀ ls : Array Slot, lv_has ls 8 [(0, .ref (G.2.1 (119))), (2, .int (x2)), (3, .int (x3)), (4, .int (x4))] → W p l e rm_X4_bySteps s m args below meth c H locs 0 0 (MQ below (z_Qi G r mu1 s.heap.size) args s 0 0 (z_A G s.heap.size)) (F0 m 67 ls []) := by
  have hx := C.1
  have hb := C.2.1
  have hts := C.2.2.2.2
  intro n
  induction n with
  | zero =>
    intro x2 x3 x4 μ h
    rw [f_X4_bySteps_b67] at h
    cases h
  | succ n ih =>
    intro x2 x3 x4 μ h H locs hP hS ls hl
    rw [f_X4_bySteps_b67] at h
    refine lv_iload hx hb dX4_bySteps_67 (lv_at hl 3 rfl) ?_
    refine lv_sipush (v := 1010) hx hb dX4_bySteps_69 (by decide) ?_
    refine lv_icmp_ge (tgt := 89) hx hb dX4_bySteps_72 (by decide) (fun hc17 => ?_) (fun hc17 => ?_)
    · have h := z_ip hc17 h
      refine lv_bipush (v := 101) hx hb dX4_bySteps_89 (by decide) ?_
      refine lv_istore (lv' := [(4, .int (101)), (0, .ref (G.2.1 (119))), (2, .int (x2)), (3, .int (x3))]) hx hb dX4_bySteps_91 hl (by decide) rfl (fun ls hl => ?_)
      exact L_X4_bySteps_b93 C hr hlk Z hag59 z_F _ _ _ _ h _ _ hP hS ls (lv_sub hl [1, 2, 3, 0] rfl)
    · have h := z_in hc17 h
      refine lv_aload_n hx hb dX4_bySteps_75 rfl (lv_at hl 0 rfl) ?_
      refine z_get C Z hP (k := 119) (ci := 4) (j := 11) (N := 12) (v := .ref (G.2.1 (124))) (by decide) (z_E_119 _) rfl inX4_bySteps_X4 (by decide) wX4_bySteps_3 rfl dX4_bySteps_76 ?_
      refine lv_iload hx hb dX4_bySteps_79 (lv_at hl 3 rfl) ?_
      refine lv_iconst (v := (-1)) hx hb dX4_bySteps_81 (by decide) ?_
      obtain ⟨hg37, h⟩ := z_g h
      refine z_iast C Z hP hS (k := 124) (n := 1010) (j := (x4).toNatClampNeg) (by decide) (fun r => z_E_124 r) hg37 rfl dX4_bySteps_82 (fun H locs hP hS => ?_)
      refine lv_iinc (v := (x4 + 1)) (lv' := [(4, .int ((x4 + 1))), (0, .ref (G.2.1 (119))), (2, .int (x2)), (3, .int (x3))]) hx hb dX4_bySteps_83 hl (k := 3) rfl rfl (by decide) rfl (fun ls hl => ?_)
      refine lv_goto (tgt := 67) hx hb dX4_bySteps_86 (by decide) ?_
      exact ih _ _ _ _ h _ _ hP hS ls (lv_sub hl [1, 2, 3, 0] rfl)
set_option maxHeartbeats 4000000 in
set_option maxRecDepth 100000 in
theorem L_X4_bySteps_b59 {p : Program} {l : Launch} {e : Env} {s : State} {m : MethodId} {args : Array Value} {below : List Frame} {meth : Method} {c : Code} {G : zG} {r : Int32} {mu1 : Mm}  (C : CallFix p m c cX4_bySteps 8 s args wsX4_bySteps RX4) (hr : meth.sig.returnType = (some .int)) (hlk : meth.locks = false) (Z : z_Z G (z_A G s.heap.size) s)  :
    ∀ (n : Nat) (x2 : Int32) (x3 : Int32) (μ : Mm), f_X4_bySteps_b59  n x2 x3 μ = some (r, mu1) → ∀ (H : Heap) (locs : List Loc), z_P G μ H → va_S (z_A G s.heap.size) s.heap H locs → ∀ ls : Array Slot, lv_has ls 8 [(0, .ref (G.2.1 (119))), (2, .int (x2)), (3, .int (x3))] → W p l e rm_X4_bySteps s m args below meth c H locs 0 0 (MQ below (z_Qi G r mu1 s.heap.size) args s 0 0 (z_A G s.heap.size)) (F0 m 59 ls []) := by
  have hx := C.1
  have hb := C.2.1
  have hts := C.2.2.2.2
  intro n
  induction n with
  | zero =>
    intro x2 x3 μ h
    rw [f_X4_bySteps_b59] at h
    cases h
  | succ n ih =>
    intro x2 x3 μ h H locs hP hS ls hl
    rw [f_X4_bySteps_b59] at h
    refine lv_iload_n hx hb dX4_bySteps_59 rfl (lv_at hl 2 rfl) ?_
    refine lv_iload_n hx hb dX4_bySteps_60 rfl (lv_at hl 1 rfl) ?_
    refine lv_icmp_ge (tgt := 236) hx hb dX4_bySteps_61 (by decide) (fun hc11 => ?_) (fun hc11 => ?_)
    · have h := z_ip hc11 h
      refine lv_iconst (v := (-1)) hx hb dX4_bySteps_236 (by decide) ?_
      refine lv_istore_n (lv' := [(3, .int ((-1))), (0, .ref (G.2.1 (119))), (2, .int (x2))]) hx hb dX4_bySteps_237 rfl hl (by decide) rfl (fun ls hl => ?_)
      refine lv_iconst (v := 0) hx hb dX4_bySteps_238 (by decide) ?_
      refine lv_istore (lv' := [(4, .int (0)), (3, .int ((-1))), (0, .ref (G.2.1 (119))), (2, .int (x2))]) hx hb dX4_bySteps_239 hl (by decide) rfl (fun ls hl => ?_)
      exact L_X4_bySteps_b241 C hr hlk Z z_F _ _ _ h _ _ hP hS ls (lv_sub hl [2, 1, 0] rfl)
    · have h := z_in hc11 h
      refine lv_iconst (v := 0) hx hb dX4_bySteps_64 (by decide) ?_
      refine lv_istore (lv' := [(4, .int (0)), (0, .ref (G.2.1 (119))), (2, .int (x2)), (3, .int (x3))]) hx hb dX4_bySteps_65 hl (by decide) rfl (fun ls hl => ?_)
      exact L_X4_bySteps_b67 C hr hlk Z ih z_F _ _ _ _ h _ _ hP hS ls (lv_sub hl [1, 2, 3, 0] rfl)
set_option maxHeartbeats 4000000 in
set_option maxRecDepth 100000 in
theorem L_X4_bySteps_b2 {p : Program} {l : Launch} {e : Env} {s : State} {m : MethodId} {args : Array Value} {below : List Frame} {meth : Method} {c : Code} {G : zG} {r : Int32} {mu1 : Mm}  (C : CallFix p m c cX4_bySteps 8 s args wsX4_bySteps RX4) (hr : meth.sig.returnType = (some .int)) (hlk : meth.locks = false) (Z : z_Z G (z_A G s.heap.size) s)  :
    ∀ (n : Nat) (x1 : Int32) (x2 : Int32) (x3 : Int32) (μ : Mm), f_X4_bySteps_b2  n x1 x2 x3 μ = some (r, mu1) → ∀ (H : Heap) (locs : List Loc), z_P G μ H → va_S (z_A G s.heap.size) s.heap H locs → ∀ ls : Array Slot, lv_has ls 8 [(0, .ref (G.2.1 (119))), (1, .int (x1)), (2, .int (x2)), (3, .int (x3))] → W p l e rm_X4_bySteps s m args below meth c H locs 0 0 (MQ below (z_Qi G r mu1 s.heap.size) args s 0 0 (z_A G s.heap.size)) (F0 m 2 ls []) := by
  have hx := C.1
  have hb := C.2.1
  have hts := C.2.2.2.2
  intro n
  induction n with
  | zero =>
    intro x1 x2 x3 μ h
    rw [f_X4_bySteps_b2] at h
    cases h
  | succ n ih =>
    intro x1 x2 x3 μ h H locs hP hS ls hl
    rw [f_X4_bySteps_b2] at h
    refine lv_iload_n hx hb dX4_bySteps_2 rfl (lv_at hl 3 rfl) ?_
    refine lv_sipush (v := 1010) hx hb dX4_bySteps_3 (by decide) ?_
    refine lv_icmp_ge (tgt := 22) hx hb dX4_bySteps_6 (by decide) (fun hc1 => ?_) (fun hc1 => ?_)
    · have h := z_ip hc1 h
      refine lv_aload_n hx hb dX4_bySteps_22 rfl (lv_at hl 0 rfl) ?_
      refine z_get C Z hP (k := 119) (ci := 4) (j := 10) (N := 12) (v := .ref (G.2.1 (123))) (by decide) (z_E_119 _) rfl inX4_bySteps_X4 (by decide) wX4_bySteps_0 rfl dX4_bySteps_23 ?_
      refine lv_bipush (v := 101) hx hb dX4_bySteps_26 (by decide) ?_
      refine lv_aload_n hx hb dX4_bySteps_28 rfl (lv_at hl 0 rfl) ?_
      refine z_get C Z hP (k := 119) (ci := 4) (j := 0) (N := 12) (v := .ref (G.2.1 (120))) (by decide) (z_E_119 _) rfl inX4_bySteps_X4 (by decide) wX4_bySteps_2 rfl dX4_bySteps_29 ?_
      refine lv_iload_n hx hb dX4_bySteps_32 rfl (lv_at hl 1 rfl) ?_
      obtain ⟨r2, m3, e4, h⟩ := zb_some h
      refine z_calli hS (va_runS (As := [.int (x1)]) (rest := [.ref (G.2.1 (120)), .int (101), .ref (G.2.1 (123))]) C (c_X4_at l G e4 _) (va_cwS 1 hts gX4_bySteps_X4_at rfl rfl rfl hd_X4_at ⟨Nat.le_of_ble_eq_true rfl, Nat.le_of_ble_eq_true rfl⟩) (z_preS Z hS hP) rfl rfl hl.1 rfl (lv_room (Nat.le_of_ble_eq_true rfl)) dX4_bySteps_33 ⟨Nat.zero_le _, Nat.zero_le _⟩) (fun H locs hP hS => ?_)
      obtain ⟨hg5, h⟩ := z_g h
      refine z_iald C Z hP (k := 120) (n := 1710) (j := (r2).toNatClampNeg) (by decide) (z_E_120 _) hg5 rfl dX4_bySteps_36 ?_
      refine lv_imul hx hb dX4_bySteps_37 ?_
      refine lv_aload_n hx hb dX4_bySteps_38 rfl (lv_at hl 0 rfl) ?_
      refine z_get C Z hP (k := 119) (ci := 4) (j := 0) (N := 12) (v := .ref (G.2.1 (120))) (by decide) (z_E_119 _) rfl inX4_bySteps_X4 (by decide) wX4_bySteps_2 rfl dX4_bySteps_39 ?_
      refine lv_iconst (v := 0) hx hb dX4_bySteps_42 (by decide) ?_
      refine z_iald C Z hP (k := 120) (n := 1710) (j := 0) (by decide) (z_E_120 _) (show z_ix 0 1710 by decide) rfl dX4_bySteps_43 ?_
      refine lv_iadd hx hb dX4_bySteps_44 ?_
      refine lv_aload_n hx hb dX4_bySteps_45 rfl (lv_at hl 0 rfl) ?_
      refine z_get C Z hP (k := 119) (ci := 4) (j := 0) (N := 12) (v := .ref (G.2.1 (120))) (by decide) (z_E_119 _) rfl inX4_bySteps_X4 (by decide) wX4_bySteps_2 rfl dX4_bySteps_46 ?_
      refine lv_iload_n hx hb dX4_bySteps_49 rfl (lv_at hl 1 rfl) ?_
      obtain ⟨r6, m7, e8, h⟩ := zb_some h
      refine z_calli hS (va_runS (As := [.int (x1)]) (rest := [.ref (G.2.1 (120)), .int (((101 * (m3 (120) ((r2).toNatClampNeg))) + (m3 (120) 0))), .ref (G.2.1 (123))]) C (c_X4_at l G e8 _) (va_cwS 1 hts gX4_bySteps_X4_at rfl rfl rfl hd_X4_at ⟨Nat.le_of_ble_eq_true rfl, Nat.le_of_ble_eq_true rfl⟩) (z_preS Z hS hP) rfl rfl hl.1 rfl (lv_room (Nat.le_of_ble_eq_true rfl)) dX4_bySteps_50 ⟨Nat.zero_le _, Nat.zero_le _⟩) (fun H locs hP hS => ?_)
      refine lv_iconst (v := 1) hx hb dX4_bySteps_53 (by decide) ?_
      refine lv_iadd hx hb dX4_bySteps_54 ?_
      obtain ⟨hg9, h⟩ := z_g h
      refine z_iald C Z hP (k := 120) (n := 1710) (j := ((r6 + 1)).toNatClampNeg) (by decide) (z_E_120 _) hg9 rfl dX4_bySteps_55 ?_
      obtain ⟨hg10, h⟩ := z_g h
      refine z_iast C Z hP hS (k := 123) (n := 1010) (j := (((101 * (m3 (120) ((r2).toNatClampNeg))) + (m3 (120) 0))).toNatClampNeg) (by decide) (fun r => z_E_123 r) hg10 rfl dX4_bySteps_56 (fun H locs hP hS => ?_)
      refine lv_iconst (v := 0) hx hb dX4_bySteps_57 (by decide) ?_
      refine lv_istore_n (lv' := [(3, .int (0)), (0, .ref (G.2.1 (119))), (1, .int (x1)), (2, .int (x2))]) hx hb dX4_bySteps_58 rfl hl (by decide) rfl (fun ls hl => ?_)
      exact L_X4_bySteps_b59 C hr hlk Z z_F _ _ _ h _ _ hP hS ls (lv_sub hl [1, 3, 0] rfl)
    · have h := z_in hc1 h
      refine lv_aload_n hx hb dX4_bySteps_9 rfl (lv_at hl 0 rfl) ?_
      refine z_get C Z hP (k := 119) (ci := 4) (j := 10) (N := 12) (v := .ref (G.2.1 (123))) (by decide) (z_E_119 _) rfl inX4_bySteps_X4 (by decide) wX4_bySteps_0 rfl dX4_bySteps_10 ?_
      refine lv_iload_n hx hb dX4_bySteps_13 rfl (lv_at hl 3 rfl) ?_
      refine lv_iconst (v := (-1)) hx hb dX4_bySteps_14 (by decide) ?_
      obtain ⟨hg38, h⟩ := z_g h
      refine z_iast C Z hP hS (k := 123) (n := 1010) (j := (x3).toNatClampNeg) (by decide) (fun r => z_E_123 r) hg38 rfl dX4_bySteps_15 (fun H locs hP hS => ?_)
      refine lv_iinc (v := (x3 + 1)) (lv' := [(3, .int ((x3 + 1))), (0, .ref (G.2.1 (119))), (1, .int (x1)), (2, .int (x2))]) hx hb dX4_bySteps_16 hl (k := 3) rfl rfl (by decide) rfl (fun ls hl => ?_)
      refine lv_goto (tgt := 2) hx hb dX4_bySteps_19 (by decide) ?_
      exact ih _ _ _ _ h _ _ hP hS ls (lv_sub hl [1, 2, 3, 0] rfl)
set_option maxHeartbeats 4000000 in
set_option maxRecDepth 100000 in
theorem c_X4_bySteps (l : Launch) (G : zG) {x1 : Int32} {x2 : Int32} {μ mu1 : Mm} {r : Int32} (h : f_X4_bySteps x1 x2 μ = some (r, mu1)) (sz : Nat) : Met l yX4_bySteps wsX4_bySteps rm_X4_bySteps (z_Pre G μ [.ref (G.2.1 (119)), .int (x1), .int (x2)] sz) (z_Qi G r mu1 sz) 0 0 (z_A G sz) := by
  refine z_start (cc := cX4_bySteps) (maxL := 8) (ret := (some .int)) (own := RX4) (by decide) rfl rfl (Nat.le_of_ble_eq_true rfl) (fun p e s m args below meth c C hr hlk Z hP ls hl => ?_) sz
  have hx := C.1
  have hb := C.2.1
  have hts := C.2.2.2.2
  have hS : va_S (z_A G s.heap.size) s.heap s.heap [] := va_S.rf
  have hl : lv_has ls 8 [(0, .ref (G.2.1 (119))), (1, .int (x1)), (2, .int (x2))] := hl
  unfold f_X4_bySteps at h
  refine lv_iconst (v := 0) hx hb dX4_bySteps_0 (by decide) ?_
  refine lv_istore_n (lv' := [(3, .int (0)), (0, .ref (G.2.1 (119))), (1, .int (x1)), (2, .int (x2))]) hx hb dX4_bySteps_1 rfl hl (by decide) rfl (fun ls hl => ?_)
  exact L_X4_bySteps_b2 C hr hlk Z z_F _ _ _ _ h _ _ hP hS ls (lv_sub hl [1, 2, 3, 0] rfl)
abbrev rm_X4_byTrying : Room := { frames := 2, cells := 0, slots := 0, locals := 43 }
theorem hd_X4_byTrying : yX4_byTrying.cls ≠ "java/lang/invoke/MethodHandle" ∧ yX4_byTrying.cls ≠ "java/lang/invoke/VarHandle" ∧ (parseMethodDescriptor yX4_byTrying.desc).map (fun d => d.parameters.length) = some 2 := by decide +kernel
theorem hv_X4_byTrying : yX4_byTrying.cls = RX4 ∧ yX4_byTrying.cls ≠ "java/lang/invoke/MethodHandle" ∧ yX4_byTrying.cls ≠ "java/lang/invoke/VarHandle" ∧ (parseMethodDescriptor yX4_byTrying.desc).map (fun d => d.parameters.length) = some 2 := ⟨rfl, hd_X4_byTrying⟩
theorem wX4_byTrying_0 : Cond.fieldLink RX4 7 "WaxCopiesModel" "s" "[I" ∈ wsX4_byTrying := by decide +kernel
theorem inX4_byTrying_X4 : ∀ w ∈ wsX40, w ∈ wsX4_byTrying := by decide +kernel
set_option maxHeartbeats 4000000 in
set_option maxRecDepth 100000 in
theorem L_X4_byTrying_b72 {p : Program} {l : Launch} {e : Env} {s : State} {m : MethodId} {args : Array Value} {below : List Frame} {meth : Method} {c : Code} {G : zG} {r : Int32} {mu1 : Mm} {ag27 : Int32 → Int32 → Int32 → Int32 → Int32 → Mm → Option (Int32 × Mm)} (C : CallFix p m c cX4_byTrying 12 s args wsX4_byTrying RX4) (hr : meth.sig.returnType = (some .int)) (hlk : meth.locks = false) (Z : z_Z G (z_A G s.heap.size) s) (hag27 : ∀ (x1 : Int32) (x2 : Int32) (x3 : Int32) (x4 : Int32) (x5 : Int32) (μ : Mm), ag27 x1 x2 x3 x4 x5 μ = some (r, mu1) → ∀ (H : Heap) (locs : List Loc), z_P G μ H → va_S (z_A G s.heap.size) s.heap H locs → ∀ ls : Array Slot, lv_has ls 12 [(0, .ref (G.2.1 (119))), (1, .int (x1)), (2, .int (x2)), (3, .int (x3)), (4, .int (x4)), (5, .int (x5))] → W p l e rm_X4_byTrying s m args below meth c H locs 0 0 (MQ below (z_Qi G r mu1 s.heap.size) args s 0 0 (z_A G s.heap.size)) (F0 m 27 ls [])) :
    ∀ (n : Nat) (x1 : Int32) (x2 : Int32) (x3 : Int32) (x4 : Int32) (x5 : Int32) (x6 : Int32) (x7 : Int32) (x8 : Int32) (x9 : Int32) (x10 : Int32) (μ : Mm), f_X4_byTrying_b72 ag27 n x1 x2 x3 x4 x5 x6 x7 x8 x9 x10 μ = some (r, mu1) → ∀ (H : Heap) (locs : List Loc), z_P G μ H → va_S (z_A G s.heap.size) s.heap H locs → ∀ ls : Array Slot, lv_has ls 12 [(0, .ref (G.2.1 (119))), (1, .int (x1)), (2, .int (x2)), (3, .int (x3)), (4, .int (x4)), (5, .int (x5)), (6, .int (x6)), (7, .int (x7)), (8, .int (x8)), (9, .int (x9)), (10, .int (x10))] → W p l e rm_X4_byTrying s m args below meth c H locs 0 0 (MQ below (z_Qi G r mu1 s.heap.size) args s 0 0 (z_A G s.heap.size)) (F0 m 72 ls []) := by
  have hx := C.1
  have hb := C.2.1
  have hts := C.2.2.2.2
  intro n
  induction n with
  | zero =>
    intro x1 x2 x3 x4 x5 x6 x7 x8 x9 x10 μ h
    rw [f_X4_byTrying_b72] at h
    cases h
  | succ n ih =>
    intro x1 x2 x3 x4 x5 x6 x7 x8 x9 x10 μ h H locs hP hS ls hl
    rw [f_X4_byTrying_b72] at h
    refine lv_iload hx hb dX4_byTrying_72 (lv_at hl 10 rfl) ?_
    refine lv_iload_n hx hb dX4_byTrying_74 rfl (lv_at hl 2 rfl) ?_
    refine lv_icmp_ge (tgt := 129) hx hb dX4_byTrying_75 (by decide) (fun hc11 => ?_) (fun hc11 => ?_)
    · have h := z_ip hc11 h
      refine lv_iload hx hb dX4_byTrying_129 (lv_at hl 9 rfl) ?_
      refine lv_iload hx hb dX4_byTrying_131 (lv_at hl 4 rfl) ?_
      obtain ⟨r12, m13, e14, h⟩ := zb_some h
      refine z_calli hS (va_runS (As := [.int (x9), .int (x4)]) (rest := []) C (c_X4_atLeast l G e14 _) (va_cwS 2 hts gX4_byTrying_X4_atLeast rfl rfl rfl hd_X4_atLeast ⟨Nat.le_of_ble_eq_true rfl, Nat.le_of_ble_eq_true rfl⟩) (z_preS Z hS hP) rfl rfl hl.1 rfl (lv_room (Nat.le_of_ble_eq_true rfl)) dX4_byTrying_133 ⟨Nat.zero_le _, Nat.zero_le _⟩) (fun H locs hP hS => ?_)
      refine lv_istore (lv' := [(4, .int (r12)), (0, .ref (G.2.1 (119))), (1, .int (x1)), (2, .int (x2)), (3, .int (x3)), (5, .int (x5)), (6, .int (x6)), (7, .int (x7)), (8, .int (x8)), (9, .int (x9)), (10, .int (x10))]) hx hb dX4_byTrying_136 hl (by decide) rfl (fun ls hl => ?_)
      refine lv_iinc (v := (x5 + 1)) (lv' := [(5, .int ((x5 + 1))), (4, .int (r12)), (0, .ref (G.2.1 (119))), (1, .int (x1)), (2, .int (x2)), (3, .int (x3)), (6, .int (x6)), (7, .int (x7)), (8, .int (x8)), (9, .int (x9)), (10, .int (x10))]) hx hb dX4_byTrying_138 hl (k := 5) rfl rfl (by decide) rfl (fun ls hl => ?_)
      refine lv_goto (tgt := 27) hx hb dX4_byTrying_141 (by decide) ?_
      exact hag27 _ _ _ _ _ _ h _ _ hP hS ls (lv_sub hl [2, 3, 4, 5, 1, 0] rfl)
    · have h := z_in hc11 h
      refine lv_iconst (v := 1) hx hb dX4_byTrying_78 (by decide) ?_
      refine lv_iload hx hb dX4_byTrying_79 (lv_at hl 6 rfl) ?_
      refine lv_iconst (v := 3) hx hb dX4_byTrying_81 (by decide) ?_
      refine lv_irem hx hb dX4_byTrying_82 (by decide) ?_
      refine lv_iadd hx hb dX4_byTrying_83 ?_
      refine lv_istore (lv' := [(11, .int ((1 + (x6 - x6 / 3 * 3)))), (0, .ref (G.2.1 (119))), (1, .int (x1)), (2, .int (x2)), (3, .int (x3)), (4, .int (x4)), (5, .int (x5)), (6, .int (x6)), (7, .int (x7)), (8, .int (x8)), (9, .int (x9)), (10, .int (x10))]) hx hb dX4_byTrying_84 hl (by decide) rfl (fun ls hl => ?_)
      refine lv_iload hx hb dX4_byTrying_86 (lv_at hl 7 rfl) ?_
      refine lv_iconst (v := 3) hx hb dX4_byTrying_88 (by decide) ?_
      refine lv_idiv hx hb dX4_byTrying_89 (by decide) ?_
      refine lv_istore (lv' := [(6, .int ((x6 / 3))), (11, .int ((1 + (x6 - x6 / 3 * 3)))), (0, .ref (G.2.1 (119))), (1, .int (x1)), (2, .int (x2)), (3, .int (x3)), (4, .int (x4)), (5, .int (x5)), (7, .int (x7)), (8, .int (x8)), (9, .int (x9)), (10, .int (x10))]) hx hb dX4_byTrying_90 hl (by decide) rfl (fun ls hl => ?_)
      refine lv_iload hx hb dX4_byTrying_92 (lv_at hl 8 rfl) ?_
      refine lv_iload hx hb dX4_byTrying_94 (lv_at hl 1 rfl) ?_
      obtain ⟨r15, m16, e17, h⟩ := zb_some h
      refine z_calli hS (va_runS (As := [.int (x7), .int ((1 + (x6 - x6 / 3 * 3)))]) (rest := []) C (c_X4_depthBy l G e17 _) (va_cwS 2 hts gX4_byTrying_X4_depthBy rfl rfl rfl hd_X4_depthBy ⟨Nat.le_of_ble_eq_true rfl, Nat.le_of_ble_eq_true rfl⟩) (z_preS Z hS hP) rfl rfl hl.1 rfl (lv_room (Nat.le_of_ble_eq_true rfl)) dX4_byTrying_96 ⟨Nat.zero_le _, Nat.zero_le _⟩) (fun H locs hP hS => ?_)
      refine lv_istore (lv' := [(7, .int (r15)), (6, .int ((x6 / 3))), (11, .int ((1 + (x6 - x6 / 3 * 3)))), (0, .ref (G.2.1 (119))), (1, .int (x1)), (2, .int (x2)), (3, .int (x3)), (4, .int (x4)), (5, .int (x5)), (8, .int (x8)), (9, .int (x9)), (10, .int (x10))]) hx hb dX4_byTrying_99 hl (by decide) rfl (fun ls hl => ?_)
      refine lv_iload hx hb dX4_byTrying_101 (lv_at hl 10 rfl) ?_
      refine lv_iload hx hb dX4_byTrying_103 (lv_at hl 2 rfl) ?_
      refine lv_iload hx hb dX4_byTrying_105 (lv_at hl 9 rfl) ?_
      obtain ⟨r18, m19, e20, h⟩ := zb_some h
      refine z_calli hS (va_runS (As := [.int (x9), .int ((1 + (x6 - x6 / 3 * 3))), .int (x8)]) (rest := []) C (c_X4_copied l G e20 _) (va_cwS 3 hts gX4_byTrying_X4_copied rfl rfl rfl hd_X4_copied ⟨Nat.le_of_ble_eq_true rfl, Nat.le_of_ble_eq_true rfl⟩) (z_preS Z hS hP) rfl rfl hl.1 rfl (lv_room (Nat.le_of_ble_eq_true rfl)) dX4_byTrying_107 ⟨Nat.zero_le _, Nat.zero_le _⟩) (fun H locs hP hS => ?_)
      refine lv_istore (lv' := [(9, .int (r18)), (7, .int (r15)), (6, .int ((x6 / 3))), (11, .int ((1 + (x6 - x6 / 3 * 3)))), (0, .ref (G.2.1 (119))), (1, .int (x1)), (2, .int (x2)), (3, .int (x3)), (4, .int (x4)), (5, .int (x5)), (8, .int (x8)), (10, .int (x10))]) hx hb dX4_byTrying_110 hl (by decide) rfl (fun ls hl => ?_)
      refine lv_iload hx hb dX4_byTrying_112 (lv_at hl 10 rfl) ?_
      refine lv_iload hx hb dX4_byTrying_114 (lv_at hl 1 rfl) ?_
      refine lv_isub hx hb dX4_byTrying_116 ?_
      refine lv_iconst (v := 0) hx hb dX4_byTrying_117 (by decide) ?_
      obtain ⟨r21, m22, e23, h⟩ := zb_some h
      refine z_calli hS (va_runS (As := [.int ((x8 - r15)), .int (0)]) (rest := []) C (c_X4_atLeast l G e23 _) (va_cwS 2 hts gX4_byTrying_X4_atLeast rfl rfl rfl hd_X4_atLeast ⟨Nat.le_of_ble_eq_true rfl, Nat.le_of_ble_eq_true rfl⟩) (z_preS Z hS hP) rfl rfl hl.1 rfl (lv_room (Nat.le_of_ble_eq_true rfl)) dX4_byTrying_118 ⟨Nat.zero_le _, Nat.zero_le _⟩) (fun H locs hP hS => ?_)
      refine lv_istore (lv' := [(8, .int (r21)), (9, .int (r18)), (7, .int (r15)), (6, .int ((x6 / 3))), (11, .int ((1 + (x6 - x6 / 3 * 3)))), (0, .ref (G.2.1 (119))), (1, .int (x1)), (2, .int (x2)), (3, .int (x3)), (4, .int (x4)), (5, .int (x5)), (10, .int (x10))]) hx hb dX4_byTrying_121 hl (by decide) rfl (fun ls hl => ?_)
      refine lv_iinc (v := (x10 + 1)) (lv' := [(10, .int ((x10 + 1))), (8, .int (r21)), (9, .int (r18)), (7, .int (r15)), (6, .int ((x6 / 3))), (11, .int ((1 + (x6 - x6 / 3 * 3)))), (0, .ref (G.2.1 (119))), (1, .int (x1)), (2, .int (x2)), (3, .int (x3)), (4, .int (x4)), (5, .int (x5))]) hx hb dX4_byTrying_123 hl (k := 11) rfl rfl (by decide) rfl (fun ls hl => ?_)
      refine lv_goto (tgt := 72) hx hb dX4_byTrying_126 (by decide) ?_
      exact ih _ _ _ _ _ _ _ _ _ _ _ h _ _ hP hS ls (lv_sub hl [6, 7, 8, 9, 10, 11, 4, 3, 1, 2, 0] rfl)
set_option maxHeartbeats 4000000 in
set_option maxRecDepth 100000 in
theorem L_X4_byTrying_b27 {p : Program} {l : Launch} {e : Env} {s : State} {m : MethodId} {args : Array Value} {below : List Frame} {meth : Method} {c : Code} {G : zG} {r : Int32} {mu1 : Mm}  (C : CallFix p m c cX4_byTrying 12 s args wsX4_byTrying RX4) (hr : meth.sig.returnType = (some .int)) (hlk : meth.locks = false) (Z : z_Z G (z_A G s.heap.size) s)  :
    ∀ (n : Nat) (x1 : Int32) (x2 : Int32) (x3 : Int32) (x4 : Int32) (x5 : Int32) (μ : Mm), f_X4_byTrying_b27  n x1 x2 x3 x4 x5 μ = some (r, mu1) → ∀ (H : Heap) (locs : List Loc), z_P G μ H → va_S (z_A G s.heap.size) s.heap H locs → ∀ ls : Array Slot, lv_has ls 12 [(0, .ref (G.2.1 (119))), (1, .int (x1)), (2, .int (x2)), (3, .int (x3)), (4, .int (x4)), (5, .int (x5))] → W p l e rm_X4_byTrying s m args below meth c H locs 0 0 (MQ below (z_Qi G r mu1 s.heap.size) args s 0 0 (z_A G s.heap.size)) (F0 m 27 ls []) := by
  have hx := C.1
  have hb := C.2.1
  have hts := C.2.2.2.2
  intro n
  induction n with
  | zero =>
    intro x1 x2 x3 x4 x5 μ h
    rw [f_X4_byTrying_b27] at h
    cases h
  | succ n ih =>
    intro x1 x2 x3 x4 x5 μ h H locs hP hS ls hl
    rw [f_X4_byTrying_b27] at h
    refine lv_iload hx hb dX4_byTrying_27 (lv_at hl 5 rfl) ?_
    refine lv_iload_n hx hb dX4_byTrying_29 rfl (lv_at hl 3 rfl) ?_
    refine lv_icmp_ge (tgt := 144) hx hb dX4_byTrying_30 (by decide) (fun hc2 => ?_) (fun hc2 => ?_)
    · have h := z_ip hc2 h
      refine lv_iload hx hb dX4_byTrying_144 (lv_at hl 4 rfl) ?_
      cases h
      exact z_reti C hr hlk hP hS dX4_byTrying_146
    · have h := z_in hc2 h
      refine lv_iload hx hb dX4_byTrying_33 (lv_at hl 5 rfl) ?_
      refine lv_istore (lv' := [(6, .int (x5)), (0, .ref (G.2.1 (119))), (1, .int (x1)), (2, .int (x2)), (3, .int (x3)), (4, .int (x4)), (5, .int (x5))]) hx hb dX4_byTrying_35 hl (by decide) rfl (fun ls hl => ?_)
      refine lv_aload_n hx hb dX4_byTrying_37 rfl (lv_at hl 1 rfl) ?_
      refine z_get C Z hP (k := 119) (ci := 4) (j := 0) (N := 12) (v := .ref (G.2.1 (120))) (by decide) (z_E_119 _) rfl inX4_byTrying_X4 (by decide) wX4_byTrying_0 rfl dX4_byTrying_38 ?_
      refine lv_iload_n hx hb dX4_byTrying_41 rfl (lv_at hl 2 rfl) ?_
      obtain ⟨r3, m4, e5, h⟩ := zb_some h
      refine z_calli hS (va_runS (As := [.int (x1)]) (rest := [.ref (G.2.1 (120))]) C (c_X4_at l G e5 _) (va_cwS 1 hts gX4_byTrying_X4_at rfl rfl rfl hd_X4_at ⟨Nat.le_of_ble_eq_true rfl, Nat.le_of_ble_eq_true rfl⟩) (z_preS Z hS hP) rfl rfl hl.1 rfl (lv_room (Nat.le_of_ble_eq_true rfl)) dX4_byTrying_42 ⟨Nat.zero_le _, Nat.zero_le _⟩) (fun H locs hP hS => ?_)
      obtain ⟨hg6, h⟩ := z_g h
      refine z_iald C Z hP (k := 120) (n := 1710) (j := (r3).toNatClampNeg) (by decide) (z_E_120 _) hg6 rfl dX4_byTrying_45 ?_
      refine lv_istore (lv' := [(7, .int ((m4 (120) ((r3).toNatClampNeg)))), (6, .int (x5)), (0, .ref (G.2.1 (119))), (1, .int (x1)), (2, .int (x2)), (3, .int (x3)), (4, .int (x4)), (5, .int (x5))]) hx hb dX4_byTrying_46 hl (by decide) rfl (fun ls hl => ?_)
      refine lv_aload_n hx hb dX4_byTrying_48 rfl (lv_at hl 2 rfl) ?_
      refine z_get C Z hP (k := 119) (ci := 4) (j := 0) (N := 12) (v := .ref (G.2.1 (120))) (by decide) (z_E_119 _) rfl inX4_byTrying_X4 (by decide) wX4_byTrying_0 rfl dX4_byTrying_49 ?_
      refine lv_iconst (v := 0) hx hb dX4_byTrying_52 (by decide) ?_
      refine z_iald C Z hP (k := 120) (n := 1710) (j := 0) (by decide) (z_E_120 _) (show z_ix 0 1710 by decide) rfl dX4_byTrying_53 ?_
      refine lv_istore (lv' := [(8, .int ((m4 (120) 0))), (7, .int ((m4 (120) ((r3).toNatClampNeg)))), (6, .int (x5)), (0, .ref (G.2.1 (119))), (1, .int (x1)), (2, .int (x2)), (3, .int (x3)), (4, .int (x4)), (5, .int (x5))]) hx hb dX4_byTrying_54 hl (by decide) rfl (fun ls hl => ?_)
      refine lv_aload_n hx hb dX4_byTrying_56 rfl (lv_at hl 3 rfl) ?_
      refine z_get C Z hP (k := 119) (ci := 4) (j := 0) (N := 12) (v := .ref (G.2.1 (120))) (by decide) (z_E_119 _) rfl inX4_byTrying_X4 (by decide) wX4_byTrying_0 rfl dX4_byTrying_57 ?_
      refine lv_iload_n hx hb dX4_byTrying_60 rfl (lv_at hl 4 rfl) ?_
      obtain ⟨r7, m8, e9, h⟩ := zb_some h
      refine z_calli hS (va_runS (As := [.int (x1)]) (rest := [.ref (G.2.1 (120))]) C (c_X4_at l G e9 _) (va_cwS 1 hts gX4_byTrying_X4_at rfl rfl rfl hd_X4_at ⟨Nat.le_of_ble_eq_true rfl, Nat.le_of_ble_eq_true rfl⟩) (z_preS Z hS hP) rfl rfl hl.1 rfl (lv_room (Nat.le_of_ble_eq_true rfl)) dX4_byTrying_61 ⟨Nat.zero_le _, Nat.zero_le _⟩) (fun H locs hP hS => ?_)
      refine lv_iconst (v := 1) hx hb dX4_byTrying_64 (by decide) ?_
      refine lv_iadd hx hb dX4_byTrying_65 ?_
      obtain ⟨hg10, h⟩ := z_g h
      refine z_iald C Z hP (k := 120) (n := 1710) (j := ((r7 + 1)).toNatClampNeg) (by decide) (z_E_120 _) hg10 rfl dX4_byTrying_66 ?_
      refine lv_istore (lv' := [(9, .int ((m8 (120) (((r7 + 1)).toNatClampNeg)))), (8, .int ((m4 (120) 0))), (7, .int ((m4 (120) ((r3).toNatClampNeg)))), (6, .int (x5)), (0, .ref (G.2.1 (119))), (1, .int (x1)), (2, .int (x2)), (3, .int (x3)), (4, .int (x4)), (5, .int (x5))]) hx hb dX4_byTrying_67 hl (by decide) rfl (fun ls hl => ?_)
      refine lv_iconst (v := 0) hx hb dX4_byTrying_69 (by decide) ?_
      refine lv_istore (lv' := [(10, .int (0)), (9, .int ((m8 (120) (((r7 + 1)).toNatClampNeg)))), (8, .int ((m4 (120) 0))), (7, .int ((m4 (120) ((r3).toNatClampNeg)))), (6, .int (x5)), (0, .ref (G.2.1 (119))), (1, .int (x1)), (2, .int (x2)), (3, .int (x3)), (4, .int (x4)), (5, .int (x5))]) hx hb dX4_byTrying_70 hl (by decide) rfl (fun ls hl => ?_)
      exact L_X4_byTrying_b72 C hr hlk Z ih z_F _ _ _ _ _ _ _ _ _ _ _ h _ _ hP hS ls (lv_sub hl [5, 6, 7, 8, 9, 10, 4, 3, 2, 1, 0] rfl)
set_option maxHeartbeats 4000000 in
set_option maxRecDepth 100000 in
theorem L_X4_byTrying_b5 {p : Program} {l : Launch} {e : Env} {s : State} {m : MethodId} {args : Array Value} {below : List Frame} {meth : Method} {c : Code} {G : zG} {r : Int32} {mu1 : Mm}  (C : CallFix p m c cX4_byTrying 12 s args wsX4_byTrying RX4) (hr : meth.sig.returnType = (some .int)) (hlk : meth.locks = false) (Z : z_Z G (z_A G s.heap.size) s)  :
    ∀ (n : Nat) (x1 : Int32) (x2 : Int32) (x3 : Int32) (x4 : Int32) (μ : Mm), f_X4_byTrying_b5  n x1 x2 x3 x4 μ = some (r, mu1) → ∀ (H : Heap) (locs : List Loc), z_P G μ H → va_S (z_A G s.heap.size) s.heap H locs → ∀ ls : Array Slot, lv_has ls 12 [(0, .ref (G.2.1 (119))), (1, .int (x1)), (2, .int (x2)), (3, .int (x3)), (4, .int (x4))] → W p l e rm_X4_byTrying s m args below meth c H locs 0 0 (MQ below (z_Qi G r mu1 s.heap.size) args s 0 0 (z_A G s.heap.size)) (F0 m 5 ls []) := by
  have hx := C.1
  have hb := C.2.1
  have hts := C.2.2.2.2
  intro n
  induction n with
  | zero =>
    intro x1 x2 x3 x4 μ h
    rw [f_X4_byTrying_b5] at h
    cases h
  | succ n ih =>
    intro x1 x2 x3 x4 μ h H locs hP hS ls hl
    rw [f_X4_byTrying_b5] at h
    refine lv_iload hx hb dX4_byTrying_5 (lv_at hl 4 rfl) ?_
    refine lv_iload_n hx hb dX4_byTrying_7 rfl (lv_at hl 2 rfl) ?_
    refine lv_icmp_ge (tgt := 21) hx hb dX4_byTrying_8 (by decide) (fun hc1 => ?_) (fun hc1 => ?_)
    · have h := z_ip hc1 h
      refine lv_iconst (v := (-1)) hx hb dX4_byTrying_21 (by decide) ?_
      refine lv_istore (lv' := [(4, .int ((-1))), (0, .ref (G.2.1 (119))), (1, .int (x1)), (2, .int (x2)), (3, .int (x3))]) hx hb dX4_byTrying_22 hl (by decide) rfl (fun ls hl => ?_)
      refine lv_iconst (v := 0) hx hb dX4_byTrying_24 (by decide) ?_
      refine lv_istore (lv' := [(5, .int (0)), (4, .int ((-1))), (0, .ref (G.2.1 (119))), (1, .int (x1)), (2, .int (x2)), (3, .int (x3))]) hx hb dX4_byTrying_25 hl (by decide) rfl (fun ls hl => ?_)
      exact L_X4_byTrying_b27 C hr hlk Z z_F _ _ _ _ _ _ h _ _ hP hS ls (lv_sub hl [2, 3, 4, 5, 1, 0] rfl)
    · have h := z_in hc1 h
      refine lv_iload_n hx hb dX4_byTrying_11 rfl (lv_at hl 3 rfl) ?_
      refine lv_iconst (v := 3) hx hb dX4_byTrying_12 (by decide) ?_
      refine lv_imul hx hb dX4_byTrying_13 ?_
      refine lv_istore_n (lv' := [(3, .int ((x3 * 3))), (0, .ref (G.2.1 (119))), (1, .int (x1)), (2, .int (x2)), (4, .int (x4))]) hx hb dX4_byTrying_14 rfl hl (by decide) rfl (fun ls hl => ?_)
      refine lv_iinc (v := (x4 + 1)) (lv' := [(4, .int ((x4 + 1))), (3, .int ((x3 * 3))), (0, .ref (G.2.1 (119))), (1, .int (x1)), (2, .int (x2))]) hx hb dX4_byTrying_15 hl (k := 4) rfl rfl (by decide) rfl (fun ls hl => ?_)
      refine lv_goto (tgt := 5) hx hb dX4_byTrying_18 (by decide) ?_
      exact ih _ _ _ _ _ h _ _ hP hS ls (lv_sub hl [2, 3, 4, 1, 0] rfl)
set_option maxHeartbeats 4000000 in
set_option maxRecDepth 100000 in
theorem c_X4_byTrying (l : Launch) (G : zG) {x1 : Int32} {x2 : Int32} {μ mu1 : Mm} {r : Int32} (h : f_X4_byTrying x1 x2 μ = some (r, mu1)) (sz : Nat) : Met l yX4_byTrying wsX4_byTrying rm_X4_byTrying (z_Pre G μ [.ref (G.2.1 (119)), .int (x1), .int (x2)] sz) (z_Qi G r mu1 sz) 0 0 (z_A G sz) := by
  refine z_start (cc := cX4_byTrying) (maxL := 12) (ret := (some .int)) (own := RX4) (by decide) rfl rfl (Nat.le_of_ble_eq_true rfl) (fun p e s m args below meth c C hr hlk Z hP ls hl => ?_) sz
  have hx := C.1
  have hb := C.2.1
  have hts := C.2.2.2.2
  have hS : va_S (z_A G s.heap.size) s.heap s.heap [] := va_S.rf
  have hl : lv_has ls 12 [(0, .ref (G.2.1 (119))), (1, .int (x1)), (2, .int (x2))] := hl
  unfold f_X4_byTrying at h
  refine lv_iconst (v := 1) hx hb dX4_byTrying_0 (by decide) ?_
  refine lv_istore_n (lv' := [(3, .int (1)), (0, .ref (G.2.1 (119))), (1, .int (x1)), (2, .int (x2))]) hx hb dX4_byTrying_1 rfl hl (by decide) rfl (fun ls hl => ?_)
  refine lv_iconst (v := 0) hx hb dX4_byTrying_2 (by decide) ?_
  refine lv_istore (lv' := [(4, .int (0)), (3, .int (1)), (0, .ref (G.2.1 (119))), (1, .int (x1)), (2, .int (x2))]) hx hb dX4_byTrying_3 hl (by decide) rfl (fun ls hl => ?_)
  exact L_X4_byTrying_b5 C hr hlk Z z_F _ _ _ _ _ h _ _ hP hS ls (lv_sub hl [2, 3, 4, 1, 0] rfl)
abbrev rm_X4_chained : Room := { frames := 3, cells := 0, slots := 0, locals := 74 }
theorem hd_X4_chained : yX4_chained.cls ≠ "java/lang/invoke/MethodHandle" ∧ yX4_chained.cls ≠ "java/lang/invoke/VarHandle" ∧ (parseMethodDescriptor yX4_chained.desc).map (fun d => d.parameters.length) = some 3 := by decide +kernel
theorem hv_X4_chained : yX4_chained.cls = RX4 ∧ yX4_chained.cls ≠ "java/lang/invoke/MethodHandle" ∧ yX4_chained.cls ≠ "java/lang/invoke/VarHandle" ∧ (parseMethodDescriptor yX4_chained.desc).map (fun d => d.parameters.length) = some 3 := ⟨rfl, hd_X4_chained⟩
set_option maxHeartbeats 4000000 in
set_option maxRecDepth 100000 in
theorem c_X4_chained (l : Launch) (G : zG) {x1 : Int32} {x2 : Int32} {x3 : Int32} {μ mu1 : Mm} {r : Int32} (h : f_X4_chained x1 x2 x3 μ = some (r, mu1)) (sz : Nat) : Met l yX4_chained wsX4_chained rm_X4_chained (z_Pre G μ [.ref (G.2.1 (119)), .int (x1), .int (x2), .int (x3)] sz) (z_Qi G r mu1 sz) 0 0 (z_A G sz) := by
  refine z_start (cc := cX4_chained) (maxL := 4) (ret := (some .int)) (own := RX4) (by decide) rfl rfl (Nat.le_of_ble_eq_true rfl) (fun p e s m args below meth c C hr hlk Z hP ls hl => ?_) sz
  have hx := C.1
  have hb := C.2.1
  have hts := C.2.2.2.2
  have hS : va_S (z_A G s.heap.size) s.heap s.heap [] := va_S.rf
  have hl : lv_has ls 4 [(0, .ref (G.2.1 (119))), (1, .int (x1)), (2, .int (x2)), (3, .int (x3))] := hl
  unfold f_X4_chained at h
  refine lv_aload_n hx hb dX4_chained_0 rfl (lv_at hl 0 rfl) ?_
  refine lv_iload_n hx hb dX4_chained_1 rfl (lv_at hl 1 rfl) ?_
  obtain ⟨r1, m2, e3, h⟩ := zb_some h
  refine z_calli hS (va_runV (As := [.int (x1)]) (rest := []) C (c_X4_isCut l G e3 _) (cwV 1 hts gX4_chained_X4_isCut rfl rfl rfl hv_X4_isCut ⟨Nat.le_of_ble_eq_true rfl, Nat.le_of_ble_eq_true rfl⟩) (z_preV Z hS hP (by decide) (z_E_119 _) rfl rfl) rfl rfl hl.1 rfl (lv_room (Nat.le_of_ble_eq_true rfl)) dX4_chained_2 ⟨Nat.zero_le _, Nat.zero_le _⟩) (fun H locs hP hS => ?_)
  refine lv_if_ne (tgt := 12) hx hb dX4_chained_5 (by decide) (fun hc4 => ?_) (fun hc4 => ?_)
  · have h := z_in hc4 h
    refine lv_iload_n hx hb dX4_chained_12 rfl (lv_at hl 3 rfl) ?_
    refine lv_if_ne (tgt := 25) hx hb dX4_chained_13 (by decide) (fun hc5 => ?_) (fun hc5 => ?_)
    · have h := z_in hc5 h
      refine lv_aload_n hx hb dX4_chained_25 rfl (lv_at hl 0 rfl) ?_
      refine lv_iload_n hx hb dX4_chained_26 rfl (lv_at hl 1 rfl) ?_
      refine lv_iload_n hx hb dX4_chained_27 rfl (lv_at hl 2 rfl) ?_
      obtain ⟨r6, m7, e8, h⟩ := zb_some h
      refine z_calli hS (va_runV (As := [.int (x1), .int (x2)]) (rest := []) C (c_X4_byTrying l G e8 _) (cwV 2 hts gX4_chained_X4_byTrying rfl rfl rfl hv_X4_byTrying ⟨Nat.le_of_ble_eq_true rfl, Nat.le_of_ble_eq_true rfl⟩) (z_preV Z hS hP (by decide) (z_E_119 _) rfl rfl) rfl rfl hl.1 rfl (lv_room (Nat.le_of_ble_eq_true rfl)) dX4_chained_28 ⟨Nat.zero_le _, Nat.zero_le _⟩) (fun H locs hP hS => ?_)
      cases h
      exact z_reti C hr hlk hP hS dX4_chained_31
    · have h := z_ip hc5 h
      refine lv_aload_n hx hb dX4_chained_16 rfl (lv_at hl 0 rfl) ?_
      refine lv_iload_n hx hb dX4_chained_17 rfl (lv_at hl 1 rfl) ?_
      refine lv_iload_n hx hb dX4_chained_18 rfl (lv_at hl 2 rfl) ?_
      obtain ⟨r9, m10, e11, h⟩ := zb_some h
      refine z_calli hS (va_runV (As := [.int (x1), .int (x2)]) (rest := []) C (c_X4_bySteps l G e11 _) (cwV 2 hts gX4_chained_X4_bySteps rfl rfl rfl hv_X4_bySteps ⟨Nat.le_of_ble_eq_true rfl, Nat.le_of_ble_eq_true rfl⟩) (z_preV Z hS hP (by decide) (z_E_119 _) rfl rfl) rfl rfl hl.1 rfl (lv_room (Nat.le_of_ble_eq_true rfl)) dX4_chained_19 ⟨Nat.zero_le _, Nat.zero_le _⟩) (fun H locs hP hS => ?_)
      refine lv_goto (tgt := 31) hx hb dX4_chained_22 (by decide) ?_
      cases h
      exact z_reti C hr hlk hP hS dX4_chained_31
  · have h := z_ip hc4 h
    refine lv_iconst (v := (-1)) hx hb dX4_chained_8 (by decide) ?_
    refine lv_goto (tgt := 31) hx hb dX4_chained_9 (by decide) ?_
    cases h
    exact z_reti C hr hlk hP hS dX4_chained_31
abbrev rm_X4_chain : Room := { frames := 4, cells := 0, slots := 0, locals := 97 }
theorem hd_X4_chain : yX4_chain.cls ≠ "java/lang/invoke/MethodHandle" ∧ yX4_chain.cls ≠ "java/lang/invoke/VarHandle" ∧ (parseMethodDescriptor yX4_chain.desc).map (fun d => d.parameters.length) = some 3 := by decide +kernel
theorem hv_X4_chain : yX4_chain.cls = RX4 ∧ yX4_chain.cls ≠ "java/lang/invoke/MethodHandle" ∧ yX4_chain.cls ≠ "java/lang/invoke/VarHandle" ∧ (parseMethodDescriptor yX4_chain.desc).map (fun d => d.parameters.length) = some 3 := ⟨rfl, hd_X4_chain⟩
set_option maxHeartbeats 4000000 in
set_option maxRecDepth 100000 in
theorem L_X4_chain_b28 {p : Program} {l : Launch} {e : Env} {s : State} {m : MethodId} {args : Array Value} {below : List Frame} {meth : Method} {c : Code} {G : zG} {r : Int32} {mu1 : Mm}  (C : CallFix p m c cX4_chain 4 s args wsX4_chain RX4) (hr : meth.sig.returnType = (some .int)) (hlk : meth.locks = false) (Z : z_Z G (z_A G s.heap.size) s)  :
    ∀ (x1 : Int32) (x2 : Int32) (x3 : Int32) (y0 : Int32) (y1 : Int32) (μ : Mm), f_X4_chain_b28  x1 x2 x3 y0 y1 μ = some (r, mu1) → ∀ (H : Heap) (locs : List Loc), z_P G μ H → va_S (z_A G s.heap.size) s.heap H locs → ∀ ls : Array Slot, lv_has ls 4 [(0, .ref (G.2.1 (119))), (1, .int (x1)), (2, .int (x2)), (3, .int (x3))] → W p l e rm_X4_chain s m args below meth c H locs 0 0 (MQ below (z_Qi G r mu1 s.heap.size) args s 0 0 (z_A G s.heap.size)) (F0 m 28 ls [.int (y0), .int (y1), .ref (G.2.1 (119))]) := by
  have hx := C.1
  have hb := C.2.1
  have hts := C.2.2.2.2
  intro x1 x2 x3 y0 y1 μ h H locs hP hS ls hl
  unfold f_X4_chain_b28 at h
  obtain ⟨r8, m9, e10, h⟩ := zb_some h
  refine z_calli hS (va_runV (As := [.int (y1), .int (y0)]) (rest := []) C (c_X4_goes l G e10 _) (cwV 2 hts gX4_chain_X4_goes rfl rfl rfl hv_X4_goes ⟨Nat.le_of_ble_eq_true rfl, Nat.le_of_ble_eq_true rfl⟩) (z_preV Z hS hP (by decide) (z_E_119 _) rfl rfl) rfl rfl hl.1 rfl (lv_room (Nat.le_of_ble_eq_true rfl)) dX4_chain_28 ⟨Nat.zero_le _, Nat.zero_le _⟩) (fun H locs hP hS => ?_)
  refine lv_if_eq (tgt := 44) hx hb dX4_chain_31 (by decide) (fun hc11 => ?_) (fun hc11 => ?_)
  · have h := z_ip hc11 h
    refine lv_iconst (v := 0) hx hb dX4_chain_44 (by decide) ?_
    cases h
    exact z_reti C hr hlk hP hS dX4_chain_45
  · have h := z_in hc11 h
    refine lv_aload_n hx hb dX4_chain_34 rfl (lv_at hl 0 rfl) ?_
    refine lv_iload_n hx hb dX4_chain_35 rfl (lv_at hl 1 rfl) ?_
    refine lv_iload_n hx hb dX4_chain_36 rfl (lv_at hl 2 rfl) ?_
    refine lv_iload_n hx hb dX4_chain_37 rfl (lv_at hl 3 rfl) ?_
    obtain ⟨r12, m13, e14, h⟩ := zb_some h
    refine z_calli hS (va_runV (As := [.int (x1), .int (x2), .int (x3)]) (rest := []) C (c_X4_chained l G e14 _) (cwV 3 hts gX4_chain_X4_chained rfl rfl rfl hv_X4_chained ⟨Nat.le_of_ble_eq_true rfl, Nat.le_of_ble_eq_true rfl⟩) (z_preV Z hS hP (by decide) (z_E_119 _) rfl rfl) rfl rfl hl.1 rfl (lv_room (Nat.le_of_ble_eq_true rfl)) dX4_chain_38 ⟨Nat.zero_le _, Nat.zero_le _⟩) (fun H locs hP hS => ?_)
    refine lv_goto (tgt := 45) hx hb dX4_chain_41 (by decide) ?_
    cases h
    exact z_reti C hr hlk hP hS dX4_chain_45
set_option maxHeartbeats 4000000 in
set_option maxRecDepth 100000 in
theorem c_X4_chain (l : Launch) (G : zG) {x1 : Int32} {x2 : Int32} {x3 : Int32} {μ mu1 : Mm} {r : Int32} (h : f_X4_chain x1 x2 x3 μ = some (r, mu1)) (sz : Nat) : Met l yX4_chain wsX4_chain rm_X4_chain (z_Pre G μ [.ref (G.2.1 (119)), .int (x1), .int (x2), .int (x3)] sz) (z_Qi G r mu1 sz) 0 0 (z_A G sz) := by
  refine z_start (cc := cX4_chain) (maxL := 4) (ret := (some .int)) (own := RX4) (by decide) rfl rfl (Nat.le_of_ble_eq_true rfl) (fun p e s m args below meth c C hr hlk Z hP ls hl => ?_) sz
  have hx := C.1
  have hb := C.2.1
  have hts := C.2.2.2.2
  have hS : va_S (z_A G s.heap.size) s.heap s.heap [] := va_S.rf
  have hl : lv_has ls 4 [(0, .ref (G.2.1 (119))), (1, .int (x1)), (2, .int (x2)), (3, .int (x3))] := hl
  unfold f_X4_chain at h
  refine lv_aload_n hx hb dX4_chain_0 rfl (lv_at hl 0 rfl) ?_
  refine lv_iload_n hx hb dX4_chain_1 rfl (lv_at hl 1 rfl) ?_
  obtain ⟨r1, m2, e3, h⟩ := zb_some h
  refine z_calli hS (va_runS (As := [.int (x1)]) (rest := [.ref (G.2.1 (119))]) C (c_X4_isTrack l G e3 _) (va_cwS 1 hts gX4_chain_X4_isTrack rfl rfl rfl hd_X4_isTrack ⟨Nat.le_of_ble_eq_true rfl, Nat.le_of_ble_eq_true rfl⟩) (z_preS Z hS hP) rfl rfl hl.1 rfl (lv_room (Nat.le_of_ble_eq_true rfl)) dX4_chain_2 ⟨Nat.zero_le _, Nat.zero_le _⟩) (fun H locs hP hS => ?_)
  refine lv_iload_n hx hb dX4_chain_5 rfl (lv_at hl 2 rfl) ?_
  refine lv_iconst (v := 1) hx hb dX4_chain_6 (by decide) ?_
  refine lv_iconst (v := 5) hx hb dX4_chain_7 (by decide) ?_
  obtain ⟨r4, m5, e6, h⟩ := zb_some h
  refine z_calli hS (va_runS (As := [.int (x2), .int (1), .int (5)]) (rest := [.int (r1), .ref (G.2.1 (119))]) C (c_X4_in l G e6 _) (va_cwS 3 hts gX4_chain_X4_in rfl rfl rfl hd_X4_in ⟨Nat.le_of_ble_eq_true rfl, Nat.le_of_ble_eq_true rfl⟩) (z_preS Z hS hP) rfl rfl hl.1 rfl (lv_room (Nat.le_of_ble_eq_true rfl)) dX4_chain_8 ⟨Nat.zero_le _, Nat.zero_le _⟩) (fun H locs hP hS => ?_)
  refine lv_if_eq (tgt := 27) hx hb dX4_chain_11 (by decide) (fun hc7 => ?_) (fun hc7 => ?_)
  · have h := z_ip hc7 h
    refine lv_iconst (v := 0) hx hb dX4_chain_27 (by decide) ?_
    exact L_X4_chain_b28 C hr hlk Z _ _ _ _ _ _ h _ _ hP hS ls (lv_sub hl [0, 1, 2, 3] rfl)
  · have h := z_in hc7 h
    refine lv_iload_n hx hb dX4_chain_14 rfl (lv_at hl 3 rfl) ?_
    refine lv_iconst (v := 0) hx hb dX4_chain_15 (by decide) ?_
    refine lv_iconst (v := 1) hx hb dX4_chain_16 (by decide) ?_
    obtain ⟨r15, m16, e17, h⟩ := zb_some h
    refine z_calli hS (va_runS (As := [.int (x3), .int (0), .int (1)]) (rest := [.int (r1), .ref (G.2.1 (119))]) C (c_X4_in l G e17 _) (va_cwS 3 hts gX4_chain_X4_in rfl rfl rfl hd_X4_in ⟨Nat.le_of_ble_eq_true rfl, Nat.le_of_ble_eq_true rfl⟩) (z_preS Z hS hP) rfl rfl hl.1 rfl (lv_room (Nat.le_of_ble_eq_true rfl)) dX4_chain_17 ⟨Nat.zero_le _, Nat.zero_le _⟩) (fun H locs hP hS => ?_)
    refine lv_if_eq (tgt := 27) hx hb dX4_chain_20 (by decide) (fun hc18 => ?_) (fun hc18 => ?_)
    · have h := z_ip hc18 h
      refine lv_iconst (v := 0) hx hb dX4_chain_27 (by decide) ?_
      exact L_X4_chain_b28 C hr hlk Z _ _ _ _ _ _ h _ _ hP hS ls (lv_sub hl [0, 1, 2, 3] rfl)
    · have h := z_in hc18 h
      refine lv_iconst (v := 1) hx hb dX4_chain_23 (by decide) ?_
      refine lv_goto (tgt := 28) hx hb dX4_chain_24 (by decide) ?_
      exact L_X4_chain_b28 C hr hlk Z _ _ _ _ _ _ h _ _ hP hS ls (lv_sub hl [0, 1, 2, 3] rfl)
abbrev rm_X4_clearestTrack : Room := { frames := 2, cells := 0, slots := 0, locals := 41 }
theorem hd_X4_clearestTrack : yX4_clearestTrack.cls ≠ "java/lang/invoke/MethodHandle" ∧ yX4_clearestTrack.cls ≠ "java/lang/invoke/VarHandle" ∧ (parseMethodDescriptor yX4_clearestTrack.desc).map (fun d => d.parameters.length) = some 0 := by decide +kernel
theorem hv_X4_clearestTrack : yX4_clearestTrack.cls = RX4 ∧ yX4_clearestTrack.cls ≠ "java/lang/invoke/MethodHandle" ∧ yX4_clearestTrack.cls ≠ "java/lang/invoke/VarHandle" ∧ (parseMethodDescriptor yX4_clearestTrack.desc).map (fun d => d.parameters.length) = some 0 := ⟨rfl, hd_X4_clearestTrack⟩
theorem wX4_clearestTrack_0 : Cond.fieldLink RX4 7 "WaxCopiesModel" "s" "[I" ∈ wsX4_clearestTrack := by decide +kernel
theorem inX4_clearestTrack_X4 : ∀ w ∈ wsX40, w ∈ wsX4_clearestTrack := by decide +kernel
set_option maxHeartbeats 4000000 in
set_option maxRecDepth 100000 in
theorem L_X4_clearestTrack_b99 {p : Program} {l : Launch} {e : Env} {s : State} {m : MethodId} {args : Array Value} {below : List Frame} {meth : Method} {c : Code} {G : zG} {r : Int32} {mu1 : Mm} {ag4 : Int32 → Int32 → Mm → Option (Int32 × Mm)} (C : CallFix p m c cX4_clearestTrack 5 s args wsX4_clearestTrack RX4) (hr : meth.sig.returnType = (some .int)) (hlk : meth.locks = false) (Z : z_Z G (z_A G s.heap.size) s) (hag4 : ∀ (x1 : Int32) (x2 : Int32) (μ : Mm), ag4 x1 x2 μ = some (r, mu1) → ∀ (H : Heap) (locs : List Loc), z_P G μ H → va_S (z_A G s.heap.size) s.heap H locs → ∀ ls : Array Slot, lv_has ls 5 [(0, .ref (G.2.1 (119))), (1, .int (x1)), (2, .int (x2))] → W p l e rm_X4_clearestTrack s m args below meth c H locs 0 0 (MQ below (z_Qi G r mu1 s.heap.size) args s 0 0 (z_A G s.heap.size)) (F0 m 4 ls [])) :
    ∀ (x1 : Int32) (x2 : Int32) (y0 : Int32) (μ : Mm), f_X4_clearestTrack_b99 ag4 x1 x2 y0 μ = some (r, mu1) → ∀ (H : Heap) (locs : List Loc), z_P G μ H → va_S (z_A G s.heap.size) s.heap H locs → ∀ ls : Array Slot, lv_has ls 5 [(0, .ref (G.2.1 (119))), (1, .int (x1)), (2, .int (x2))] → W p l e rm_X4_clearestTrack s m args below meth c H locs 0 0 (MQ below (z_Qi G r mu1 s.heap.size) args s 0 0 (z_A G s.heap.size)) (F0 m 99 ls [.int (y0)]) := by
  have hx := C.1
  have hb := C.2.1
  have hts := C.2.2.2.2
  intro x1 x2 y0 μ h H locs hP hS ls hl
  unfold f_X4_clearestTrack_b99 at h
  refine lv_istore (lv' := [(4, .int (y0)), (0, .ref (G.2.1 (119))), (1, .int (x1)), (2, .int (x2))]) hx hb dX4_clearestTrack_99 hl (by decide) rfl (fun ls hl => ?_)
  refine lv_iload hx hb dX4_clearestTrack_101 (lv_at hl 0 rfl) ?_
  refine lv_if_eq (tgt := 110) hx hb dX4_clearestTrack_103 (by decide) (fun hc9 => ?_) (fun hc9 => ?_)
  · have h := z_ip hc9 h
    refine lv_iload_n hx hb dX4_clearestTrack_110 rfl (lv_at hl 2 rfl) ?_
    refine lv_istore_n (lv' := [(1, .int (x1)), (4, .int (y0)), (0, .ref (G.2.1 (119))), (2, .int (x2))]) hx hb dX4_clearestTrack_111 rfl hl (by decide) rfl (fun ls hl => ?_)
    refine lv_iinc (v := (x2 + 1)) (lv' := [(2, .int ((x2 + 1))), (1, .int (x1)), (4, .int (y0)), (0, .ref (G.2.1 (119)))]) hx hb dX4_clearestTrack_112 hl (k := 3) rfl rfl (by decide) rfl (fun ls hl => ?_)
    refine lv_goto (tgt := 4) hx hb dX4_clearestTrack_115 (by decide) ?_
    exact hag4 _ _ _ h _ _ hP hS ls (lv_sub hl [3, 1, 0] rfl)
  · have h := z_in hc9 h
    refine lv_iload_n hx hb dX4_clearestTrack_106 rfl (lv_at hl 3 rfl) ?_
    refine lv_goto (tgt := 111) hx hb dX4_clearestTrack_107 (by decide) ?_
    refine lv_istore_n (lv' := [(1, .int (x2)), (4, .int (y0)), (0, .ref (G.2.1 (119))), (2, .int (x2))]) hx hb dX4_clearestTrack_111 rfl hl (by decide) rfl (fun ls hl => ?_)
    refine lv_iinc (v := (x2 + 1)) (lv' := [(2, .int ((x2 + 1))), (1, .int (x2)), (4, .int (y0)), (0, .ref (G.2.1 (119)))]) hx hb dX4_clearestTrack_112 hl (k := 3) rfl rfl (by decide) rfl (fun ls hl => ?_)
    refine lv_goto (tgt := 4) hx hb dX4_clearestTrack_115 (by decide) ?_
    exact hag4 _ _ _ h _ _ hP hS ls (lv_sub hl [3, 1, 0] rfl)
set_option maxHeartbeats 4000000 in
set_option maxRecDepth 100000 in
theorem L_X4_clearestTrack_b4 {p : Program} {l : Launch} {e : Env} {s : State} {m : MethodId} {args : Array Value} {below : List Frame} {meth : Method} {c : Code} {G : zG} {r : Int32} {mu1 : Mm}  (C : CallFix p m c cX4_clearestTrack 5 s args wsX4_clearestTrack RX4) (hr : meth.sig.returnType = (some .int)) (hlk : meth.locks = false) (Z : z_Z G (z_A G s.heap.size) s)  :
    ∀ (n : Nat) (x1 : Int32) (x2 : Int32) (μ : Mm), f_X4_clearestTrack_b4  n x1 x2 μ = some (r, mu1) → ∀ (H : Heap) (locs : List Loc), z_P G μ H → va_S (z_A G s.heap.size) s.heap H locs → ∀ ls : Array Slot, lv_has ls 5 [(0, .ref (G.2.1 (119))), (1, .int (x1)), (2, .int (x2))] → W p l e rm_X4_clearestTrack s m args below meth c H locs 0 0 (MQ below (z_Qi G r mu1 s.heap.size) args s 0 0 (z_A G s.heap.size)) (F0 m 4 ls []) := by
  have hx := C.1
  have hb := C.2.1
  have hts := C.2.2.2.2
  intro n
  induction n with
  | zero =>
    intro x1 x2 μ h
    rw [f_X4_clearestTrack_b4] at h
    cases h
  | succ n ih =>
    intro x1 x2 μ h H locs hP hS ls hl
    rw [f_X4_clearestTrack_b4] at h
    refine lv_iload_n hx hb dX4_clearestTrack_4 rfl (lv_at hl 2 rfl) ?_
    refine lv_bipush (v := 24) hx hb dX4_clearestTrack_5 (by decide) ?_
    refine lv_icmp_ge (tgt := 118) hx hb dX4_clearestTrack_7 (by decide) (fun hc1 => ?_) (fun hc1 => ?_)
    · have h := z_ip hc1 h
      refine lv_iload_n hx hb dX4_clearestTrack_118 rfl (lv_at hl 1 rfl) ?_
      cases h
      exact z_reti C hr hlk hP hS dX4_clearestTrack_119
    · have h := z_in hc1 h
      refine lv_iload_n hx hb dX4_clearestTrack_10 rfl (lv_at hl 2 rfl) ?_
      obtain ⟨r2, m3, e4, h⟩ := zb_some h
      refine z_calli hS (va_runS (As := [.int (x2)]) (rest := []) C (c_X4_at l G e4 _) (va_cwS 1 hts gX4_clearestTrack_X4_at rfl rfl rfl hd_X4_at ⟨Nat.le_of_ble_eq_true rfl, Nat.le_of_ble_eq_true rfl⟩) (z_preS Z hS hP) rfl rfl hl.1 rfl (lv_room (Nat.le_of_ble_eq_true rfl)) dX4_clearestTrack_11 ⟨Nat.zero_le _, Nat.zero_le _⟩) (fun H locs hP hS => ?_)
      refine lv_istore_n (lv' := [(3, .int (r2)), (0, .ref (G.2.1 (119))), (1, .int (x1)), (2, .int (x2))]) hx hb dX4_clearestTrack_14 rfl hl (by decide) rfl (fun ls hl => ?_)
      refine lv_aload_n hx hb dX4_clearestTrack_15 rfl (lv_at hl 1 rfl) ?_
      refine lv_iload_n hx hb dX4_clearestTrack_16 rfl (lv_at hl 3 rfl) ?_
      obtain ⟨r5, m6, e7, h⟩ := zb_some h
      refine z_calli hS (va_runV (As := [.int (x2)]) (rest := []) C (c_X4_isCut l G e7 _) (cwV 1 hts gX4_clearestTrack_X4_isCut rfl rfl rfl hv_X4_isCut ⟨Nat.le_of_ble_eq_true rfl, Nat.le_of_ble_eq_true rfl⟩) (z_preV Z hS hP (by decide) (z_E_119 _) rfl rfl) rfl rfl hl.1 rfl (lv_room (Nat.le_of_ble_eq_true rfl)) dX4_clearestTrack_17 ⟨Nat.zero_le _, Nat.zero_le _⟩) (fun H locs hP hS => ?_)
      refine lv_if_eq (tgt := 98) hx hb dX4_clearestTrack_20 (by decide) (fun hc8 => ?_) (fun hc8 => ?_)
      · have h := z_ip hc8 h
        refine lv_iconst (v := 0) hx hb dX4_clearestTrack_98 (by decide) ?_
        exact L_X4_clearestTrack_b99 C hr hlk Z ih _ _ _ _ h _ _ hP hS ls (lv_sub hl [1, 2, 3] rfl)
      · have h := z_in hc8 h
        refine lv_iload_n hx hb dX4_clearestTrack_23 rfl (lv_at hl 2 rfl) ?_
        refine lv_iconst (v := (-1)) hx hb dX4_clearestTrack_24 (by decide) ?_
        refine lv_icmp_eq (tgt := 94) hx hb dX4_clearestTrack_25 (by decide) (fun hc10 => ?_) (fun hc10 => ?_)
        · have h := z_ip hc10 h
          refine lv_iconst (v := 1) hx hb dX4_clearestTrack_94 (by decide) ?_
          refine lv_goto (tgt := 99) hx hb dX4_clearestTrack_95 (by decide) ?_
          exact L_X4_clearestTrack_b99 C hr hlk Z ih _ _ _ _ h _ _ hP hS ls (lv_sub hl [1, 2, 3] rfl)
        · have h := z_in hc10 h
          refine lv_aload_n hx hb dX4_clearestTrack_28 rfl (lv_at hl 1 rfl) ?_
          refine z_get C Z hP (k := 119) (ci := 4) (j := 0) (N := 12) (v := .ref (G.2.1 (120))) (by decide) (z_E_119 _) rfl inX4_clearestTrack_X4 (by decide) wX4_clearestTrack_0 rfl dX4_clearestTrack_29 ?_
          refine lv_iload_n hx hb dX4_clearestTrack_32 rfl (lv_at hl 0 rfl) ?_
          refine lv_iconst (v := 1) hx hb dX4_clearestTrack_33 (by decide) ?_
          refine lv_iadd hx hb dX4_clearestTrack_34 ?_
          obtain ⟨hg11, h⟩ := z_g h
          refine z_iald C Z hP (k := 120) (n := 1710) (j := ((r2 + 1)).toNatClampNeg) (by decide) (z_E_120 _) hg11 rfl dX4_clearestTrack_35 ?_
          refine lv_aload_n hx hb dX4_clearestTrack_36 rfl (lv_at hl 1 rfl) ?_
          refine z_get C Z hP (k := 119) (ci := 4) (j := 0) (N := 12) (v := .ref (G.2.1 (120))) (by decide) (z_E_119 _) rfl inX4_clearestTrack_X4 (by decide) wX4_clearestTrack_0 rfl dX4_clearestTrack_37 ?_
          refine lv_iload_n hx hb dX4_clearestTrack_40 rfl (lv_at hl 2 rfl) ?_
          obtain ⟨r12, m13, e14, h⟩ := zb_some h
          refine z_calli hS (va_runS (As := [.int (x1)]) (rest := [.ref (G.2.1 (120)), .int ((m6 (120) (((r2 + 1)).toNatClampNeg)))]) C (c_X4_at l G e14 _) (va_cwS 1 hts gX4_clearestTrack_X4_at rfl rfl rfl hd_X4_at ⟨Nat.le_of_ble_eq_true rfl, Nat.le_of_ble_eq_true rfl⟩) (z_preS Z hS hP) rfl rfl hl.1 rfl (lv_room (Nat.le_of_ble_eq_true rfl)) dX4_clearestTrack_41 ⟨Nat.zero_le _, Nat.zero_le _⟩) (fun H locs hP hS => ?_)
          refine lv_iconst (v := 1) hx hb dX4_clearestTrack_44 (by decide) ?_
          refine lv_iadd hx hb dX4_clearestTrack_45 ?_
          obtain ⟨hg15, h⟩ := z_g h
          refine z_iald C Z hP (k := 120) (n := 1710) (j := ((r12 + 1)).toNatClampNeg) (by decide) (z_E_120 _) hg15 rfl dX4_clearestTrack_46 ?_
          refine lv_icmp_gt (tgt := 94) hx hb dX4_clearestTrack_47 (by decide) (fun hc16 => ?_) (fun hc16 => ?_)
          · have h := z_ip hc16 h
            refine lv_iconst (v := 1) hx hb dX4_clearestTrack_94 (by decide) ?_
            refine lv_goto (tgt := 99) hx hb dX4_clearestTrack_95 (by decide) ?_
            exact L_X4_clearestTrack_b99 C hr hlk Z ih _ _ _ _ h _ _ hP hS ls (lv_sub hl [1, 2, 3] rfl)
          · have h := z_in hc16 h
            refine lv_aload_n hx hb dX4_clearestTrack_50 rfl (lv_at hl 1 rfl) ?_
            refine z_get C Z hP (k := 119) (ci := 4) (j := 0) (N := 12) (v := .ref (G.2.1 (120))) (by decide) (z_E_119 _) rfl inX4_clearestTrack_X4 (by decide) wX4_clearestTrack_0 rfl dX4_clearestTrack_51 ?_
            refine lv_iload_n hx hb dX4_clearestTrack_54 rfl (lv_at hl 0 rfl) ?_
            refine lv_iconst (v := 1) hx hb dX4_clearestTrack_55 (by decide) ?_
            refine lv_iadd hx hb dX4_clearestTrack_56 ?_
            refine z_iald C Z hP (k := 120) (n := 1710) (j := ((r2 + 1)).toNatClampNeg) (by decide) (z_E_120 _) hg11 rfl dX4_clearestTrack_57 ?_
            refine lv_aload_n hx hb dX4_clearestTrack_58 rfl (lv_at hl 1 rfl) ?_
            refine z_get C Z hP (k := 119) (ci := 4) (j := 0) (N := 12) (v := .ref (G.2.1 (120))) (by decide) (z_E_119 _) rfl inX4_clearestTrack_X4 (by decide) wX4_clearestTrack_0 rfl dX4_clearestTrack_59 ?_
            refine lv_iload_n hx hb dX4_clearestTrack_62 rfl (lv_at hl 2 rfl) ?_
            obtain ⟨r17, m18, e19, h⟩ := zb_some h
            refine z_calli hS (va_runS (As := [.int (x1)]) (rest := [.ref (G.2.1 (120)), .int ((m13 (120) (((r2 + 1)).toNatClampNeg)))]) C (c_X4_at l G e19 _) (va_cwS 1 hts gX4_clearestTrack_X4_at rfl rfl rfl hd_X4_at ⟨Nat.le_of_ble_eq_true rfl, Nat.le_of_ble_eq_true rfl⟩) (z_preS Z hS hP) rfl rfl hl.1 rfl (lv_room (Nat.le_of_ble_eq_true rfl)) dX4_clearestTrack_63 ⟨Nat.zero_le _, Nat.zero_le _⟩) (fun H locs hP hS => ?_)
            refine lv_iconst (v := 1) hx hb dX4_clearestTrack_66 (by decide) ?_
            refine lv_iadd hx hb dX4_clearestTrack_67 ?_
            obtain ⟨hg20, h⟩ := z_g h
            refine z_iald C Z hP (k := 120) (n := 1710) (j := ((r17 + 1)).toNatClampNeg) (by decide) (z_E_120 _) hg20 rfl dX4_clearestTrack_68 ?_
            refine lv_icmp_ne (tgt := 98) hx hb dX4_clearestTrack_69 (by decide) (fun hc21 => ?_) (fun hc21 => ?_)
            · have h := z_in hc21 h
              refine lv_iconst (v := 0) hx hb dX4_clearestTrack_98 (by decide) ?_
              exact L_X4_clearestTrack_b99 C hr hlk Z ih _ _ _ _ h _ _ hP hS ls (lv_sub hl [1, 2, 3] rfl)
            · have h := z_ip hc21 h
              refine lv_aload_n hx hb dX4_clearestTrack_72 rfl (lv_at hl 1 rfl) ?_
              refine z_get C Z hP (k := 119) (ci := 4) (j := 0) (N := 12) (v := .ref (G.2.1 (120))) (by decide) (z_E_119 _) rfl inX4_clearestTrack_X4 (by decide) wX4_clearestTrack_0 rfl dX4_clearestTrack_73 ?_
              refine lv_iload_n hx hb dX4_clearestTrack_76 rfl (lv_at hl 0 rfl) ?_
              refine lv_iconst (v := 2) hx hb dX4_clearestTrack_77 (by decide) ?_
              refine lv_iadd hx hb dX4_clearestTrack_78 ?_
              obtain ⟨hg22, h⟩ := z_g h
              refine z_iald C Z hP (k := 120) (n := 1710) (j := ((r2 + 2)).toNatClampNeg) (by decide) (z_E_120 _) hg22 rfl dX4_clearestTrack_79 ?_
              refine lv_aload_n hx hb dX4_clearestTrack_80 rfl (lv_at hl 1 rfl) ?_
              refine z_get C Z hP (k := 119) (ci := 4) (j := 0) (N := 12) (v := .ref (G.2.1 (120))) (by decide) (z_E_119 _) rfl inX4_clearestTrack_X4 (by decide) wX4_clearestTrack_0 rfl dX4_clearestTrack_81 ?_
              refine lv_iload_n hx hb dX4_clearestTrack_84 rfl (lv_at hl 2 rfl) ?_
              obtain ⟨r23, m24, e25, h⟩ := zb_some h
              refine z_calli hS (va_runS (As := [.int (x1)]) (rest := [.ref (G.2.1 (120)), .int ((m18 (120) (((r2 + 2)).toNatClampNeg)))]) C (c_X4_at l G e25 _) (va_cwS 1 hts gX4_clearestTrack_X4_at rfl rfl rfl hd_X4_at ⟨Nat.le_of_ble_eq_true rfl, Nat.le_of_ble_eq_true rfl⟩) (z_preS Z hS hP) rfl rfl hl.1 rfl (lv_room (Nat.le_of_ble_eq_true rfl)) dX4_clearestTrack_85 ⟨Nat.zero_le _, Nat.zero_le _⟩) (fun H locs hP hS => ?_)
              refine lv_iconst (v := 2) hx hb dX4_clearestTrack_88 (by decide) ?_
              refine lv_iadd hx hb dX4_clearestTrack_89 ?_
              obtain ⟨hg26, h⟩ := z_g h
              refine z_iald C Z hP (k := 120) (n := 1710) (j := ((r23 + 2)).toNatClampNeg) (by decide) (z_E_120 _) hg26 rfl dX4_clearestTrack_90 ?_
              refine lv_icmp_ge (tgt := 98) hx hb dX4_clearestTrack_91 (by decide) (fun hc27 => ?_) (fun hc27 => ?_)
              · have h := z_ip hc27 h
                refine lv_iconst (v := 0) hx hb dX4_clearestTrack_98 (by decide) ?_
                exact L_X4_clearestTrack_b99 C hr hlk Z ih _ _ _ _ h _ _ hP hS ls (lv_sub hl [1, 2, 3] rfl)
              · have h := z_in hc27 h
                refine lv_iconst (v := 1) hx hb dX4_clearestTrack_94 (by decide) ?_
                refine lv_goto (tgt := 99) hx hb dX4_clearestTrack_95 (by decide) ?_
                exact L_X4_clearestTrack_b99 C hr hlk Z ih _ _ _ _ h _ _ hP hS ls (lv_sub hl [1, 2, 3] rfl)
set_option maxHeartbeats 4000000 in
set_option maxRecDepth 100000 in
theorem c_X4_clearestTrack (l : Launch) (G : zG) {μ mu1 : Mm} {r : Int32} (h : f_X4_clearestTrack μ = some (r, mu1)) (sz : Nat) : Met l yX4_clearestTrack wsX4_clearestTrack rm_X4_clearestTrack (z_Pre G μ [.ref (G.2.1 (119))] sz) (z_Qi G r mu1 sz) 0 0 (z_A G sz) := by
  refine z_start (cc := cX4_clearestTrack) (maxL := 5) (ret := (some .int)) (own := RX4) (by decide) rfl rfl (Nat.le_of_ble_eq_true rfl) (fun p e s m args below meth c C hr hlk Z hP ls hl => ?_) sz
  have hx := C.1
  have hb := C.2.1
  have hts := C.2.2.2.2
  have hS : va_S (z_A G s.heap.size) s.heap s.heap [] := va_S.rf
  have hl : lv_has ls 5 [(0, .ref (G.2.1 (119)))] := hl
  unfold f_X4_clearestTrack at h
  refine lv_iconst (v := (-1)) hx hb dX4_clearestTrack_0 (by decide) ?_
  refine lv_istore_n (lv' := [(1, .int ((-1))), (0, .ref (G.2.1 (119)))]) hx hb dX4_clearestTrack_1 rfl hl (by decide) rfl (fun ls hl => ?_)
  refine lv_iconst (v := 0) hx hb dX4_clearestTrack_2 (by decide) ?_
  refine lv_istore_n (lv' := [(2, .int (0)), (1, .int ((-1))), (0, .ref (G.2.1 (119)))]) hx hb dX4_clearestTrack_3 rfl hl (by decide) rfl (fun ls hl => ?_)
  exact L_X4_clearestTrack_b4 C hr hlk Z z_F _ _ _ h _ _ hP hS ls (lv_sub hl [2, 1, 0] rfl)
abbrev rm_X4_clearest : Room := { frames := 3, cells := 0, slots := 0, locals := 65 }
theorem hd_X4_clearest : yX4_clearest.cls ≠ "java/lang/invoke/MethodHandle" ∧ yX4_clearest.cls ≠ "java/lang/invoke/VarHandle" ∧ (parseMethodDescriptor yX4_clearest.desc).map (fun d => d.parameters.length) = some 0 := by decide +kernel
theorem hv_X4_clearest : yX4_clearest.cls = RX4 ∧ yX4_clearest.cls ≠ "java/lang/invoke/MethodHandle" ∧ yX4_clearest.cls ≠ "java/lang/invoke/VarHandle" ∧ (parseMethodDescriptor yX4_clearest.desc).map (fun d => d.parameters.length) = some 0 := ⟨rfl, hd_X4_clearest⟩
theorem wX4_clearest_0 : Cond.fieldLink RX4 27 "WaxCopiesModel" "thrown" "I" ∈ wsX4_clearest := by decide +kernel
theorem inX4_clearest_X4 : ∀ w ∈ wsX40, w ∈ wsX4_clearest := by decide +kernel
set_option maxHeartbeats 4000000 in
set_option maxRecDepth 100000 in
theorem c_X4_clearest (l : Launch) (G : zG) {μ mu1 : Mm} {r : Int32} (h : f_X4_clearest μ = some (r, mu1)) (sz : Nat) : Met l yX4_clearest wsX4_clearest rm_X4_clearest (z_Pre G μ [.ref (G.2.1 (119))] sz) (z_Qi G r mu1 sz) 0 0 (z_A G sz) := by
  refine z_start (cc := cX4_clearest) (maxL := 1) (ret := (some .int)) (own := RX4) (by decide) rfl rfl (Nat.le_of_ble_eq_true rfl) (fun p e s m args below meth c C hr hlk Z hP ls hl => ?_) sz
  have hx := C.1
  have hb := C.2.1
  have hts := C.2.2.2.2
  have hS : va_S (z_A G s.heap.size) s.heap s.heap [] := va_S.rf
  have hl : lv_has ls 1 [(0, .ref (G.2.1 (119)))] := hl
  unfold f_X4_clearest at h
  refine lv_aload_n hx hb dX4_clearest_0 rfl (lv_at hl 0 rfl) ?_
  refine lv_iconst (v := 0) hx hb dX4_clearest_1 (by decide) ?_
  refine z_put C Z hP hS (k := 119) (ci := 4) (j := 5) (N := 12) (x := 0) (v := .int (0)) (ty := .int) (by decide) (z_E_119 _) rfl inX4_clearest_X4 tyX4_ok nmX4 (by decide) wX4_clearest_0 rfl (by decide +kernel) rfl rfl (Nat.le_of_ble_eq_true rfl) (z_S_119_5 _ _) dX4_clearest_2 (fun H locs hP hS => ?_)
  refine lv_aload_n hx hb dX4_clearest_5 rfl (lv_at hl 0 rfl) ?_
  obtain ⟨r1, m2, e3, h⟩ := zb_some h
  refine z_calli hS (va_runV (As := []) (rest := []) C (c_X4_clearestTrack l G e3 _) (cwV 0 hts gX4_clearest_X4_clearestTrack rfl rfl rfl hv_X4_clearestTrack ⟨Nat.le_of_ble_eq_true rfl, Nat.le_of_ble_eq_true rfl⟩) (z_preV Z hS hP (by decide) (z_E_119 _) rfl rfl) rfl rfl hl.1 rfl (lv_room (Nat.le_of_ble_eq_true rfl)) dX4_clearest_6 ⟨Nat.zero_le _, Nat.zero_le _⟩) (fun H locs hP hS => ?_)
  cases h
  exact z_reti C hr hlk hP hS dX4_clearest_9
abbrev rm_X4_comes : Room := { frames := 2, cells := 0, slots := 0, locals := 41 }
theorem hd_X4_comes : yX4_comes.cls ≠ "java/lang/invoke/MethodHandle" ∧ yX4_comes.cls ≠ "java/lang/invoke/VarHandle" ∧ (parseMethodDescriptor yX4_comes.desc).map (fun d => d.parameters.length) = some 2 := by decide +kernel
theorem hv_X4_comes : yX4_comes.cls = RX4 ∧ yX4_comes.cls ≠ "java/lang/invoke/MethodHandle" ∧ yX4_comes.cls ≠ "java/lang/invoke/VarHandle" ∧ (parseMethodDescriptor yX4_comes.desc).map (fun d => d.parameters.length) = some 2 := ⟨rfl, hd_X4_comes⟩
theorem wX4_comes_0 : Cond.fieldLink RX4 7 "WaxCopiesModel" "s" "[I" ∈ wsX4_comes := by decide +kernel
theorem inX4_comes_X4 : ∀ w ∈ wsX40, w ∈ wsX4_comes := by decide +kernel
set_option maxHeartbeats 4000000 in
set_option maxRecDepth 100000 in
theorem L_X4_comes_b5 {p : Program} {l : Launch} {e : Env} {s : State} {m : MethodId} {args : Array Value} {below : List Frame} {meth : Method} {c : Code} {G : zG} {r : Int32} {mu1 : Mm}  (C : CallFix p m c cX4_comes 5 s args wsX4_comes RX4) (hr : meth.sig.returnType = (some .boolean)) (hlk : meth.locks = false) (Z : z_Z G (z_A G s.heap.size) s)  :
    ∀ (n : Nat) (x2 : Int32) (x3 : Int32) (x4 : Int32) (μ : Mm), f_X4_comes_b5  n x2 x3 x4 μ = some (r, mu1) → ∀ (H : Heap) (locs : List Loc), z_P G μ H → va_S (z_A G s.heap.size) s.heap H locs → ∀ ls : Array Slot, lv_has ls 5 [(0, .ref (G.2.1 (119))), (2, .int (x2)), (3, .int (x3)), (4, .int (x4))] → W p l e rm_X4_comes s m args below meth c H locs 0 0 (MQ below (z_Qi G r mu1 s.heap.size) args s 0 0 (z_A G s.heap.size)) (F0 m 5 ls []) := by
  have hx := C.1
  have hb := C.2.1
  have hts := C.2.2.2.2
  intro n
  induction n with
  | zero =>
    intro x2 x3 x4 μ h
    rw [f_X4_comes_b5] at h
    cases h
  | succ n ih =>
    intro x2 x3 x4 μ h H locs hP hS ls hl
    rw [f_X4_comes_b5] at h
    refine lv_iload hx hb dX4_comes_5 (lv_at hl 3 rfl) ?_
    refine lv_bipush (v := 24) hx hb dX4_comes_7 (by decide) ?_
    refine lv_icmp_ge (tgt := 54) hx hb dX4_comes_9 (by decide) (fun hc1 => ?_) (fun hc1 => ?_)
    · have h := z_ip hc1 h
      refine lv_iconst (v := 0) hx hb dX4_comes_54 (by decide) ?_
      cases h
      exact z_retz C hr hlk rfl hP hS dX4_comes_55
    · have h := z_in hc1 h
      refine lv_iload_n hx hb dX4_comes_12 rfl (lv_at hl 2 rfl) ?_
      refine lv_iconst (v := (-1)) hx hb dX4_comes_13 (by decide) ?_
      refine lv_icmp_eq (tgt := 54) hx hb dX4_comes_14 (by decide) (fun hc2 => ?_) (fun hc2 => ?_)
      · have h := z_ip hc2 h
        refine lv_iconst (v := 0) hx hb dX4_comes_54 (by decide) ?_
        cases h
        exact z_retz C hr hlk rfl hP hS dX4_comes_55
      · have h := z_in hc2 h
        refine lv_aload_n hx hb dX4_comes_17 rfl (lv_at hl 0 rfl) ?_
        refine lv_iload_n hx hb dX4_comes_18 rfl (lv_at hl 2 rfl) ?_
        obtain ⟨r3, m4, e5, h⟩ := zb_some h
        refine z_calli hS (va_runV (As := [.int (x3)]) (rest := []) C (c_X4_isCut l G e5 _) (cwV 1 hts gX4_comes_X4_isCut rfl rfl rfl hv_X4_isCut ⟨Nat.le_of_ble_eq_true rfl, Nat.le_of_ble_eq_true rfl⟩) (z_preV Z hS hP (by decide) (z_E_119 _) rfl rfl) rfl rfl hl.1 rfl (lv_room (Nat.le_of_ble_eq_true rfl)) dX4_comes_19 ⟨Nat.zero_le _, Nat.zero_le _⟩) (fun H locs hP hS => ?_)
        refine lv_if_eq (tgt := 39) hx hb dX4_comes_22 (by decide) (fun hc6 => ?_) (fun hc6 => ?_)
        · have h := z_ip hc6 h
          refine lv_iconst (v := (-1)) hx hb dX4_comes_39 (by decide) ?_
          refine lv_istore_n (lv' := [(3, .int ((-1))), (0, .ref (G.2.1 (119))), (2, .int (x2)), (4, .int (x4))]) hx hb dX4_comes_40 rfl hl (by decide) rfl (fun ls hl => ?_)
          refine lv_iload_n hx hb dX4_comes_41 rfl (lv_at hl 0 rfl) ?_
          refine lv_iload_n hx hb dX4_comes_42 rfl (lv_at hl 2 rfl) ?_
          refine lv_icmp_ne (tgt := 48) hx hb dX4_comes_43 (by decide) (fun hc7 => ?_) (fun hc7 => ?_)
          · have h := z_in hc7 h
            refine lv_iinc (v := (x4 + 1)) (lv' := [(4, .int ((x4 + 1))), (3, .int ((-1))), (0, .ref (G.2.1 (119))), (2, .int (x2))]) hx hb dX4_comes_48 hl (k := 3) rfl rfl (by decide) rfl (fun ls hl => ?_)
            refine lv_goto (tgt := 5) hx hb dX4_comes_51 (by decide) ?_
            exact ih _ _ _ _ h _ _ hP hS ls (lv_sub hl [2, 3, 1, 0] rfl)
          · have h := z_ip hc7 h
            refine lv_iconst (v := 1) hx hb dX4_comes_46 (by decide) ?_
            cases h
            exact z_retz C hr hlk rfl hP hS dX4_comes_47
        · have h := z_in hc6 h
          refine lv_aload_n hx hb dX4_comes_25 rfl (lv_at hl 0 rfl) ?_
          refine z_get C Z hP (k := 119) (ci := 4) (j := 0) (N := 12) (v := .ref (G.2.1 (120))) (by decide) (z_E_119 _) rfl inX4_comes_X4 (by decide) wX4_comes_0 rfl dX4_comes_26 ?_
          refine lv_iload_n hx hb dX4_comes_29 rfl (lv_at hl 2 rfl) ?_
          obtain ⟨r8, m9, e10, h⟩ := zb_some h
          refine z_calli hS (va_runS (As := [.int (x3)]) (rest := [.ref (G.2.1 (120))]) C (c_X4_at l G e10 _) (va_cwS 1 hts gX4_comes_X4_at rfl rfl rfl hd_X4_at ⟨Nat.le_of_ble_eq_true rfl, Nat.le_of_ble_eq_true rfl⟩) (z_preS Z hS hP) rfl rfl hl.1 rfl (lv_room (Nat.le_of_ble_eq_true rfl)) dX4_comes_30 ⟨Nat.zero_le _, Nat.zero_le _⟩) (fun H locs hP hS => ?_)
          refine lv_iconst (v := 4) hx hb dX4_comes_33 (by decide) ?_
          refine lv_iadd hx hb dX4_comes_34 ?_
          obtain ⟨hg11, h⟩ := z_g h
          refine z_iald C Z hP (k := 120) (n := 1710) (j := ((r8 + 4)).toNatClampNeg) (by decide) (z_E_120 _) hg11 rfl dX4_comes_35 ?_
          refine lv_goto (tgt := 40) hx hb dX4_comes_36 (by decide) ?_
          refine lv_istore_n (lv' := [(3, .int ((m9 (120) (((r8 + 4)).toNatClampNeg)))), (0, .ref (G.2.1 (119))), (2, .int (x2)), (4, .int (x4))]) hx hb dX4_comes_40 rfl hl (by decide) rfl (fun ls hl => ?_)
          refine lv_iload_n hx hb dX4_comes_41 rfl (lv_at hl 0 rfl) ?_
          refine lv_iload_n hx hb dX4_comes_42 rfl (lv_at hl 2 rfl) ?_
          refine lv_icmp_ne (tgt := 48) hx hb dX4_comes_43 (by decide) (fun hc12 => ?_) (fun hc12 => ?_)
          · have h := z_in hc12 h
            refine lv_iinc (v := (x4 + 1)) (lv' := [(4, .int ((x4 + 1))), (3, .int ((m9 (120) (((r8 + 4)).toNatClampNeg)))), (0, .ref (G.2.1 (119))), (2, .int (x2))]) hx hb dX4_comes_48 hl (k := 3) rfl rfl (by decide) rfl (fun ls hl => ?_)
            refine lv_goto (tgt := 5) hx hb dX4_comes_51 (by decide) ?_
            exact ih _ _ _ _ h _ _ hP hS ls (lv_sub hl [2, 3, 1, 0] rfl)
          · have h := z_ip hc12 h
            refine lv_iconst (v := 1) hx hb dX4_comes_46 (by decide) ?_
            cases h
            exact z_retz C hr hlk rfl hP hS dX4_comes_47
set_option maxHeartbeats 4000000 in
set_option maxRecDepth 100000 in
theorem c_X4_comes (l : Launch) (G : zG) {x1 : Int32} {x2 : Int32} {μ mu1 : Mm} {r : Int32} (h : f_X4_comes x1 x2 μ = some (r, mu1)) (sz : Nat) : Met l yX4_comes wsX4_comes rm_X4_comes (z_Pre G μ [.ref (G.2.1 (119)), .int (x1), .int (x2)] sz) (z_Qi G r mu1 sz) 0 0 (z_A G sz) := by
  refine z_start (cc := cX4_comes) (maxL := 5) (ret := (some .boolean)) (own := RX4) (by decide) rfl rfl (Nat.le_of_ble_eq_true rfl) (fun p e s m args below meth c C hr hlk Z hP ls hl => ?_) sz
  have hx := C.1
  have hb := C.2.1
  have hts := C.2.2.2.2
  have hS : va_S (z_A G s.heap.size) s.heap s.heap [] := va_S.rf
  have hl : lv_has ls 5 [(0, .ref (G.2.1 (119))), (1, .int (x1)), (2, .int (x2))] := hl
  unfold f_X4_comes at h
  refine lv_iload_n hx hb dX4_comes_0 rfl (lv_at hl 1 rfl) ?_
  refine lv_istore_n (lv' := [(3, .int (x1)), (0, .ref (G.2.1 (119))), (1, .int (x1)), (2, .int (x2))]) hx hb dX4_comes_1 rfl hl (by decide) rfl (fun ls hl => ?_)
  refine lv_iconst (v := 0) hx hb dX4_comes_2 (by decide) ?_
  refine lv_istore (lv' := [(4, .int (0)), (3, .int (x1)), (0, .ref (G.2.1 (119))), (1, .int (x1)), (2, .int (x2))]) hx hb dX4_comes_3 hl (by decide) rfl (fun ls hl => ?_)
  exact L_X4_comes_b5 C hr hlk Z z_F _ _ _ _ h _ _ hP hS ls (lv_sub hl [2, 4, 1, 0] rfl)
abbrev rm_X4_manyDaughters : Room := { frames := 3, cells := 0, slots := 0, locals := 65 }
theorem hd_X4_manyDaughters : yX4_manyDaughters.cls ≠ "java/lang/invoke/MethodHandle" ∧ yX4_manyDaughters.cls ≠ "java/lang/invoke/VarHandle" ∧ (parseMethodDescriptor yX4_manyDaughters.desc).map (fun d => d.parameters.length) = some 1 := by decide +kernel
theorem hv_X4_manyDaughters : yX4_manyDaughters.cls = RX4 ∧ yX4_manyDaughters.cls ≠ "java/lang/invoke/MethodHandle" ∧ yX4_manyDaughters.cls ≠ "java/lang/invoke/VarHandle" ∧ (parseMethodDescriptor yX4_manyDaughters.desc).map (fun d => d.parameters.length) = some 1 := ⟨rfl, hd_X4_manyDaughters⟩
set_option maxHeartbeats 4000000 in
set_option maxRecDepth 100000 in
theorem L_X4_manyDaughters_b4 {p : Program} {l : Launch} {e : Env} {s : State} {m : MethodId} {args : Array Value} {below : List Frame} {meth : Method} {c : Code} {G : zG} {r : Int32} {mu1 : Mm}  (C : CallFix p m c cX4_manyDaughters 4 s args wsX4_manyDaughters RX4) (hr : meth.sig.returnType = (some .int)) (hlk : meth.locks = false) (Z : z_Z G (z_A G s.heap.size) s)  :
    ∀ (n : Nat) (x1 : Int32) (x2 : Int32) (x3 : Int32) (μ : Mm), f_X4_manyDaughters_b4  n x1 x2 x3 μ = some (r, mu1) → ∀ (H : Heap) (locs : List Loc), z_P G μ H → va_S (z_A G s.heap.size) s.heap H locs → ∀ ls : Array Slot, lv_has ls 4 [(0, .ref (G.2.1 (119))), (1, .int (x1)), (2, .int (x2)), (3, .int (x3))] → W p l e rm_X4_manyDaughters s m args below meth c H locs 0 0 (MQ below (z_Qi G r mu1 s.heap.size) args s 0 0 (z_A G s.heap.size)) (F0 m 4 ls []) := by
  have hx := C.1
  have hb := C.2.1
  have hts := C.2.2.2.2
  intro n
  induction n with
  | zero =>
    intro x1 x2 x3 μ h
    rw [f_X4_manyDaughters_b4] at h
    cases h
  | succ n ih =>
    intro x1 x2 x3 μ h H locs hP hS ls hl
    rw [f_X4_manyDaughters_b4] at h
    refine lv_iload_n hx hb dX4_manyDaughters_4 rfl (lv_at hl 3 rfl) ?_
    refine lv_bipush (v := 24) hx hb dX4_manyDaughters_5 (by decide) ?_
    refine lv_icmp_ge (tgt := 38) hx hb dX4_manyDaughters_7 (by decide) (fun hc1 => ?_) (fun hc1 => ?_)
    · have h := z_ip hc1 h
      refine lv_iload_n hx hb dX4_manyDaughters_38 rfl (lv_at hl 2 rfl) ?_
      cases h
      exact z_reti C hr hlk hP hS dX4_manyDaughters_39
    · have h := z_in hc1 h
      refine lv_iload_n hx hb dX4_manyDaughters_10 rfl (lv_at hl 2 rfl) ?_
      refine lv_iload_n hx hb dX4_manyDaughters_11 rfl (lv_at hl 3 rfl) ?_
      refine lv_iload_n hx hb dX4_manyDaughters_12 rfl (lv_at hl 1 rfl) ?_
      refine lv_icmp_eq (tgt := 29) hx hb dX4_manyDaughters_13 (by decide) (fun hc2 => ?_) (fun hc2 => ?_)
      · have h := z_ip hc2 h
        refine lv_iconst (v := 0) hx hb dX4_manyDaughters_29 (by decide) ?_
        refine lv_iadd hx hb dX4_manyDaughters_30 ?_
        refine lv_istore_n (lv' := [(2, .int ((x2 + 0))), (0, .ref (G.2.1 (119))), (1, .int (x1)), (3, .int (x3))]) hx hb dX4_manyDaughters_31 rfl hl (by decide) rfl (fun ls hl => ?_)
        refine lv_iinc (v := (x3 + 1)) (lv' := [(3, .int ((x3 + 1))), (2, .int ((x2 + 0))), (0, .ref (G.2.1 (119))), (1, .int (x1))]) hx hb dX4_manyDaughters_32 hl (k := 3) rfl rfl (by decide) rfl (fun ls hl => ?_)
        refine lv_goto (tgt := 4) hx hb dX4_manyDaughters_35 (by decide) ?_
        exact ih _ _ _ _ h _ _ hP hS ls (lv_sub hl [2, 3, 1, 0] rfl)
      · have h := z_in hc2 h
        refine lv_aload_n hx hb dX4_manyDaughters_16 rfl (lv_at hl 0 rfl) ?_
        refine lv_iload_n hx hb dX4_manyDaughters_17 rfl (lv_at hl 3 rfl) ?_
        refine lv_iload_n hx hb dX4_manyDaughters_18 rfl (lv_at hl 1 rfl) ?_
        obtain ⟨r3, m4, e5, h⟩ := zb_some h
        refine z_calli hS (va_runV (As := [.int (x3), .int (x1)]) (rest := [.int (x2)]) C (c_X4_comes l G e5 _) (cwV 2 hts gX4_manyDaughters_X4_comes rfl rfl rfl hv_X4_comes ⟨Nat.le_of_ble_eq_true rfl, Nat.le_of_ble_eq_true rfl⟩) (z_preV Z hS hP (by decide) (z_E_119 _) rfl rfl) rfl rfl hl.1 rfl (lv_room (Nat.le_of_ble_eq_true rfl)) dX4_manyDaughters_19 ⟨Nat.zero_le _, Nat.zero_le _⟩) (fun H locs hP hS => ?_)
        refine lv_if_eq (tgt := 29) hx hb dX4_manyDaughters_22 (by decide) (fun hc6 => ?_) (fun hc6 => ?_)
        · have h := z_ip hc6 h
          refine lv_iconst (v := 0) hx hb dX4_manyDaughters_29 (by decide) ?_
          refine lv_iadd hx hb dX4_manyDaughters_30 ?_
          refine lv_istore_n (lv' := [(2, .int ((x2 + 0))), (0, .ref (G.2.1 (119))), (1, .int (x1)), (3, .int (x3))]) hx hb dX4_manyDaughters_31 rfl hl (by decide) rfl (fun ls hl => ?_)
          refine lv_iinc (v := (x3 + 1)) (lv' := [(3, .int ((x3 + 1))), (2, .int ((x2 + 0))), (0, .ref (G.2.1 (119))), (1, .int (x1))]) hx hb dX4_manyDaughters_32 hl (k := 3) rfl rfl (by decide) rfl (fun ls hl => ?_)
          refine lv_goto (tgt := 4) hx hb dX4_manyDaughters_35 (by decide) ?_
          exact ih _ _ _ _ h _ _ hP hS ls (lv_sub hl [2, 3, 1, 0] rfl)
        · have h := z_in hc6 h
          refine lv_iconst (v := 1) hx hb dX4_manyDaughters_25 (by decide) ?_
          refine lv_goto (tgt := 30) hx hb dX4_manyDaughters_26 (by decide) ?_
          refine lv_iadd hx hb dX4_manyDaughters_30 ?_
          refine lv_istore_n (lv' := [(2, .int ((x2 + 1))), (0, .ref (G.2.1 (119))), (1, .int (x1)), (3, .int (x3))]) hx hb dX4_manyDaughters_31 rfl hl (by decide) rfl (fun ls hl => ?_)
          refine lv_iinc (v := (x3 + 1)) (lv' := [(3, .int ((x3 + 1))), (2, .int ((x2 + 1))), (0, .ref (G.2.1 (119))), (1, .int (x1))]) hx hb dX4_manyDaughters_32 hl (k := 3) rfl rfl (by decide) rfl (fun ls hl => ?_)
          refine lv_goto (tgt := 4) hx hb dX4_manyDaughters_35 (by decide) ?_
          exact ih _ _ _ _ h _ _ hP hS ls (lv_sub hl [2, 3, 1, 0] rfl)
set_option maxHeartbeats 4000000 in
set_option maxRecDepth 100000 in
theorem c_X4_manyDaughters (l : Launch) (G : zG) {x1 : Int32} {μ mu1 : Mm} {r : Int32} (h : f_X4_manyDaughters x1 μ = some (r, mu1)) (sz : Nat) : Met l yX4_manyDaughters wsX4_manyDaughters rm_X4_manyDaughters (z_Pre G μ [.ref (G.2.1 (119)), .int (x1)] sz) (z_Qi G r mu1 sz) 0 0 (z_A G sz) := by
  refine z_start (cc := cX4_manyDaughters) (maxL := 4) (ret := (some .int)) (own := RX4) (by decide) rfl rfl (Nat.le_of_ble_eq_true rfl) (fun p e s m args below meth c C hr hlk Z hP ls hl => ?_) sz
  have hx := C.1
  have hb := C.2.1
  have hts := C.2.2.2.2
  have hS : va_S (z_A G s.heap.size) s.heap s.heap [] := va_S.rf
  have hl : lv_has ls 4 [(0, .ref (G.2.1 (119))), (1, .int (x1))] := hl
  unfold f_X4_manyDaughters at h
  refine lv_iconst (v := 0) hx hb dX4_manyDaughters_0 (by decide) ?_
  refine lv_istore_n (lv' := [(2, .int (0)), (0, .ref (G.2.1 (119))), (1, .int (x1))]) hx hb dX4_manyDaughters_1 rfl hl (by decide) rfl (fun ls hl => ?_)
  refine lv_iconst (v := 0) hx hb dX4_manyDaughters_2 (by decide) ?_
  refine lv_istore_n (lv' := [(3, .int (0)), (2, .int (0)), (0, .ref (G.2.1 (119))), (1, .int (x1))]) hx hb dX4_manyDaughters_3 rfl hl (by decide) rfl (fun ls hl => ?_)
  exact L_X4_manyDaughters_b4 C hr hlk Z z_F _ _ _ _ h _ _ hP hS ls (lv_sub hl [2, 3, 1, 0] rfl)
abbrev rm_X4_daughters : Room := { frames := 4, cells := 0, slots := 0, locals := 88 }
theorem hd_X4_daughters : yX4_daughters.cls ≠ "java/lang/invoke/MethodHandle" ∧ yX4_daughters.cls ≠ "java/lang/invoke/VarHandle" ∧ (parseMethodDescriptor yX4_daughters.desc).map (fun d => d.parameters.length) = some 1 := by decide +kernel
theorem hv_X4_daughters : yX4_daughters.cls = RX4 ∧ yX4_daughters.cls ≠ "java/lang/invoke/MethodHandle" ∧ yX4_daughters.cls ≠ "java/lang/invoke/VarHandle" ∧ (parseMethodDescriptor yX4_daughters.desc).map (fun d => d.parameters.length) = some 1 := ⟨rfl, hd_X4_daughters⟩
set_option maxHeartbeats 4000000 in
set_option maxRecDepth 100000 in
theorem c_X4_daughters (l : Launch) (G : zG) {x1 : Int32} {μ mu1 : Mm} {r : Int32} (h : f_X4_daughters x1 μ = some (r, mu1)) (sz : Nat) : Met l yX4_daughters wsX4_daughters rm_X4_daughters (z_Pre G μ [.ref (G.2.1 (119)), .int (x1)] sz) (z_Qi G r mu1 sz) 0 0 (z_A G sz) := by
  refine z_start (cc := cX4_daughters) (maxL := 2) (ret := (some .int)) (own := RX4) (by decide) rfl rfl (Nat.le_of_ble_eq_true rfl) (fun p e s m args below meth c C hr hlk Z hP ls hl => ?_) sz
  have hx := C.1
  have hb := C.2.1
  have hts := C.2.2.2.2
  have hS : va_S (z_A G s.heap.size) s.heap s.heap [] := va_S.rf
  have hl : lv_has ls 2 [(0, .ref (G.2.1 (119))), (1, .int (x1))] := hl
  unfold f_X4_daughters at h
  refine lv_aload_n hx hb dX4_daughters_0 rfl (lv_at hl 0 rfl) ?_
  refine lv_iload_n hx hb dX4_daughters_1 rfl (lv_at hl 1 rfl) ?_
  obtain ⟨r1, m2, e3, h⟩ := zb_some h
  refine z_calli hS (va_runS (As := [.int (x1)]) (rest := [.ref (G.2.1 (119))]) C (c_X4_isTrack l G e3 _) (va_cwS 1 hts gX4_daughters_X4_isTrack rfl rfl rfl hd_X4_isTrack ⟨Nat.le_of_ble_eq_true rfl, Nat.le_of_ble_eq_true rfl⟩) (z_preS Z hS hP) rfl rfl hl.1 rfl (lv_room (Nat.le_of_ble_eq_true rfl)) dX4_daughters_2 ⟨Nat.zero_le _, Nat.zero_le _⟩) (fun H locs hP hS => ?_)
  refine lv_iconst (v := 1) hx hb dX4_daughters_5 (by decide) ?_
  obtain ⟨r4, m5, e6, h⟩ := zb_some h
  refine z_calli hS (va_runV (As := [.int (r1), .int (1)]) (rest := []) C (c_X4_goes l G e6 _) (cwV 2 hts gX4_daughters_X4_goes rfl rfl rfl hv_X4_goes ⟨Nat.le_of_ble_eq_true rfl, Nat.le_of_ble_eq_true rfl⟩) (z_preV Z hS hP (by decide) (z_E_119 _) rfl rfl) rfl rfl hl.1 rfl (lv_room (Nat.le_of_ble_eq_true rfl)) dX4_daughters_6 ⟨Nat.zero_le _, Nat.zero_le _⟩) (fun H locs hP hS => ?_)
  refine lv_if_eq (tgt := 20) hx hb dX4_daughters_9 (by decide) (fun hc7 => ?_) (fun hc7 => ?_)
  · have h := z_ip hc7 h
    refine lv_iconst (v := 0) hx hb dX4_daughters_20 (by decide) ?_
    cases h
    exact z_reti C hr hlk hP hS dX4_daughters_21
  · have h := z_in hc7 h
    refine lv_aload_n hx hb dX4_daughters_12 rfl (lv_at hl 0 rfl) ?_
    refine lv_iload_n hx hb dX4_daughters_13 rfl (lv_at hl 1 rfl) ?_
    obtain ⟨r8, m9, e10, h⟩ := zb_some h
    refine z_calli hS (va_runV (As := [.int (x1)]) (rest := []) C (c_X4_manyDaughters l G e10 _) (cwV 1 hts gX4_daughters_X4_manyDaughters rfl rfl rfl hv_X4_manyDaughters ⟨Nat.le_of_ble_eq_true rfl, Nat.le_of_ble_eq_true rfl⟩) (z_preV Z hS hP (by decide) (z_E_119 _) rfl rfl) rfl rfl hl.1 rfl (lv_room (Nat.le_of_ble_eq_true rfl)) dX4_daughters_14 ⟨Nat.zero_le _, Nat.zero_le _⟩) (fun H locs hP hS => ?_)
    refine lv_goto (tgt := 21) hx hb dX4_daughters_17 (by decide) ?_
    cases h
    exact z_reti C hr hlk hP hS dX4_daughters_21
abbrev rm_X4_sum : Room := { frames := 2, cells := 0, slots := 0, locals := 41 }
theorem hd_X4_sum : yX4_sum.cls ≠ "java/lang/invoke/MethodHandle" ∧ yX4_sum.cls ≠ "java/lang/invoke/VarHandle" ∧ (parseMethodDescriptor yX4_sum.desc).map (fun d => d.parameters.length) = some 1 := by decide +kernel
theorem hv_X4_sum : yX4_sum.cls = RX4 ∧ yX4_sum.cls ≠ "java/lang/invoke/MethodHandle" ∧ yX4_sum.cls ≠ "java/lang/invoke/VarHandle" ∧ (parseMethodDescriptor yX4_sum.desc).map (fun d => d.parameters.length) = some 1 := ⟨rfl, hd_X4_sum⟩
theorem wX4_sum_0 : Cond.fieldLink RX4 7 "WaxCopiesModel" "s" "[I" ∈ wsX4_sum := by decide +kernel
theorem inX4_sum_X4 : ∀ w ∈ wsX40, w ∈ wsX4_sum := by decide +kernel
set_option maxHeartbeats 4000000 in
set_option maxRecDepth 100000 in
theorem L_X4_sum_b4 {p : Program} {l : Launch} {e : Env} {s : State} {m : MethodId} {args : Array Value} {below : List Frame} {meth : Method} {c : Code} {G : zG} {r : Int32} {mu1 : Mm}  (C : CallFix p m c cX4_sum 4 s args wsX4_sum RX4) (hr : meth.sig.returnType = (some .int)) (hlk : meth.locks = false) (Z : z_Z G (z_A G s.heap.size) s)  :
    ∀ (n : Nat) (x1 : Int32) (x2 : Int32) (x3 : Int32) (μ : Mm), f_X4_sum_b4  n x1 x2 x3 μ = some (r, mu1) → ∀ (H : Heap) (locs : List Loc), z_P G μ H → va_S (z_A G s.heap.size) s.heap H locs → ∀ ls : Array Slot, lv_has ls 4 [(0, .ref (G.2.1 (119))), (1, .int (x1)), (2, .int (x2)), (3, .int (x3))] → W p l e rm_X4_sum s m args below meth c H locs 0 0 (MQ below (z_Qi G r mu1 s.heap.size) args s 0 0 (z_A G s.heap.size)) (F0 m 4 ls []) := by
  have hx := C.1
  have hb := C.2.1
  have hts := C.2.2.2.2
  intro n
  induction n with
  | zero =>
    intro x1 x2 x3 μ h
    rw [f_X4_sum_b4] at h
    cases h
  | succ n ih =>
    intro x1 x2 x3 μ h H locs hP hS ls hl
    rw [f_X4_sum_b4] at h
    refine lv_iload_n hx hb dX4_sum_4 rfl (lv_at hl 3 rfl) ?_
    refine lv_bipush (v := 24) hx hb dX4_sum_5 (by decide) ?_
    refine lv_icmp_ge (tgt := 42) hx hb dX4_sum_7 (by decide) (fun hc1 => ?_) (fun hc1 => ?_)
    · have h := z_ip hc1 h
      refine lv_iload_n hx hb dX4_sum_42 rfl (lv_at hl 2 rfl) ?_
      cases h
      exact z_reti C hr hlk hP hS dX4_sum_43
    · have h := z_in hc1 h
      refine lv_iload_n hx hb dX4_sum_10 rfl (lv_at hl 2 rfl) ?_
      refine lv_aload_n hx hb dX4_sum_11 rfl (lv_at hl 0 rfl) ?_
      refine lv_iload_n hx hb dX4_sum_12 rfl (lv_at hl 3 rfl) ?_
      obtain ⟨r2, m3, e4, h⟩ := zb_some h
      refine z_calli hS (va_runV (As := [.int (x3)]) (rest := [.int (x2)]) C (c_X4_isCut l G e4 _) (cwV 1 hts gX4_sum_X4_isCut rfl rfl rfl hv_X4_isCut ⟨Nat.le_of_ble_eq_true rfl, Nat.le_of_ble_eq_true rfl⟩) (z_preV Z hS hP (by decide) (z_E_119 _) rfl rfl) rfl rfl hl.1 rfl (lv_room (Nat.le_of_ble_eq_true rfl)) dX4_sum_13 ⟨Nat.zero_le _, Nat.zero_le _⟩) (fun H locs hP hS => ?_)
      refine lv_if_eq (tgt := 33) hx hb dX4_sum_16 (by decide) (fun hc5 => ?_) (fun hc5 => ?_)
      · have h := z_ip hc5 h
        refine lv_iconst (v := 0) hx hb dX4_sum_33 (by decide) ?_
        refine lv_iadd hx hb dX4_sum_34 ?_
        refine lv_istore_n (lv' := [(2, .int ((x2 + 0))), (0, .ref (G.2.1 (119))), (1, .int (x1)), (3, .int (x3))]) hx hb dX4_sum_35 rfl hl (by decide) rfl (fun ls hl => ?_)
        refine lv_iinc (v := (x3 + 1)) (lv' := [(3, .int ((x3 + 1))), (2, .int ((x2 + 0))), (0, .ref (G.2.1 (119))), (1, .int (x1))]) hx hb dX4_sum_36 hl (k := 3) rfl rfl (by decide) rfl (fun ls hl => ?_)
        refine lv_goto (tgt := 4) hx hb dX4_sum_39 (by decide) ?_
        exact ih _ _ _ _ h _ _ hP hS ls (lv_sub hl [2, 3, 1, 0] rfl)
      · have h := z_in hc5 h
        refine lv_aload_n hx hb dX4_sum_19 rfl (lv_at hl 0 rfl) ?_
        refine z_get C Z hP (k := 119) (ci := 4) (j := 0) (N := 12) (v := .ref (G.2.1 (120))) (by decide) (z_E_119 _) rfl inX4_sum_X4 (by decide) wX4_sum_0 rfl dX4_sum_20 ?_
        refine lv_iload_n hx hb dX4_sum_23 rfl (lv_at hl 3 rfl) ?_
        obtain ⟨r6, m7, e8, h⟩ := zb_some h
        refine z_calli hS (va_runS (As := [.int (x3)]) (rest := [.ref (G.2.1 (120)), .int (x2)]) C (c_X4_at l G e8 _) (va_cwS 1 hts gX4_sum_X4_at rfl rfl rfl hd_X4_at ⟨Nat.le_of_ble_eq_true rfl, Nat.le_of_ble_eq_true rfl⟩) (z_preS Z hS hP) rfl rfl hl.1 rfl (lv_room (Nat.le_of_ble_eq_true rfl)) dX4_sum_24 ⟨Nat.zero_le _, Nat.zero_le _⟩) (fun H locs hP hS => ?_)
        refine lv_iload_n hx hb dX4_sum_27 rfl (lv_at hl 1 rfl) ?_
        refine lv_iadd hx hb dX4_sum_28 ?_
        obtain ⟨hg9, h⟩ := z_g h
        refine z_iald C Z hP (k := 120) (n := 1710) (j := ((r6 + x1)).toNatClampNeg) (by decide) (z_E_120 _) hg9 rfl dX4_sum_29 ?_
        refine lv_goto (tgt := 34) hx hb dX4_sum_30 (by decide) ?_
        refine lv_iadd hx hb dX4_sum_34 ?_
        refine lv_istore_n (lv' := [(2, .int ((x2 + (m7 (120) (((r6 + x1)).toNatClampNeg))))), (0, .ref (G.2.1 (119))), (1, .int (x1)), (3, .int (x3))]) hx hb dX4_sum_35 rfl hl (by decide) rfl (fun ls hl => ?_)
        refine lv_iinc (v := (x3 + 1)) (lv' := [(3, .int ((x3 + 1))), (2, .int ((x2 + (m7 (120) (((r6 + x1)).toNatClampNeg))))), (0, .ref (G.2.1 (119))), (1, .int (x1))]) hx hb dX4_sum_36 hl (k := 3) rfl rfl (by decide) rfl (fun ls hl => ?_)
        refine lv_goto (tgt := 4) hx hb dX4_sum_39 (by decide) ?_
        exact ih _ _ _ _ h _ _ hP hS ls (lv_sub hl [2, 3, 1, 0] rfl)
set_option maxHeartbeats 4000000 in
set_option maxRecDepth 100000 in
theorem c_X4_sum (l : Launch) (G : zG) {x1 : Int32} {μ mu1 : Mm} {r : Int32} (h : f_X4_sum x1 μ = some (r, mu1)) (sz : Nat) : Met l yX4_sum wsX4_sum rm_X4_sum (z_Pre G μ [.ref (G.2.1 (119)), .int (x1)] sz) (z_Qi G r mu1 sz) 0 0 (z_A G sz) := by
  refine z_start (cc := cX4_sum) (maxL := 4) (ret := (some .int)) (own := RX4) (by decide) rfl rfl (Nat.le_of_ble_eq_true rfl) (fun p e s m args below meth c C hr hlk Z hP ls hl => ?_) sz
  have hx := C.1
  have hb := C.2.1
  have hts := C.2.2.2.2
  have hS : va_S (z_A G s.heap.size) s.heap s.heap [] := va_S.rf
  have hl : lv_has ls 4 [(0, .ref (G.2.1 (119))), (1, .int (x1))] := hl
  unfold f_X4_sum at h
  refine lv_iconst (v := 0) hx hb dX4_sum_0 (by decide) ?_
  refine lv_istore_n (lv' := [(2, .int (0)), (0, .ref (G.2.1 (119))), (1, .int (x1))]) hx hb dX4_sum_1 rfl hl (by decide) rfl (fun ls hl => ?_)
  refine lv_iconst (v := 0) hx hb dX4_sum_2 (by decide) ?_
  refine lv_istore_n (lv' := [(3, .int (0)), (2, .int (0)), (0, .ref (G.2.1 (119))), (1, .int (x1))]) hx hb dX4_sum_3 rfl hl (by decide) rfl (fun ls hl => ?_)
  exact L_X4_sum_b4 C hr hlk Z z_F _ _ _ _ h _ _ hP hS ls (lv_sub hl [2, 3, 1, 0] rfl)
abbrev rm_X4_meanDepth : Room := { frames := 3, cells := 0, slots := 0, locals := 64 }
theorem hd_X4_meanDepth : yX4_meanDepth.cls ≠ "java/lang/invoke/MethodHandle" ∧ yX4_meanDepth.cls ≠ "java/lang/invoke/VarHandle" ∧ (parseMethodDescriptor yX4_meanDepth.desc).map (fun d => d.parameters.length) = some 0 := by decide +kernel
theorem hv_X4_meanDepth : yX4_meanDepth.cls = RX4 ∧ yX4_meanDepth.cls ≠ "java/lang/invoke/MethodHandle" ∧ yX4_meanDepth.cls ≠ "java/lang/invoke/VarHandle" ∧ (parseMethodDescriptor yX4_meanDepth.desc).map (fun d => d.parameters.length) = some 0 := ⟨rfl, hd_X4_meanDepth⟩
theorem wX4_meanDepth_0 : Cond.fieldLink RX4 27 "WaxCopiesModel" "thrown" "I" ∈ wsX4_meanDepth := by decide +kernel
theorem inX4_meanDepth_X4 : ∀ w ∈ wsX40, w ∈ wsX4_meanDepth := by decide +kernel
set_option maxHeartbeats 4000000 in
set_option maxRecDepth 100000 in
theorem c_X4_meanDepth (l : Launch) (G : zG) {μ mu1 : Mm} {r : UInt32} (h : f_X4_meanDepth μ = some (r, mu1)) (sz : Nat) : Met l yX4_meanDepth wsX4_meanDepth rm_X4_meanDepth (z_Pre G μ [.ref (G.2.1 (119))] sz) (z_Qf G r mu1 sz) 0 0 (z_A G sz) := by
  refine z_start (cc := cX4_meanDepth) (maxL := 1) (ret := (some .float)) (own := RX4) (by decide) rfl rfl (Nat.le_of_ble_eq_true rfl) (fun p e s m args below meth c C hr hlk Z hP ls hl => ?_) sz
  have hx := C.1
  have hb := C.2.1
  have hts := C.2.2.2.2
  have hS : va_S (z_A G s.heap.size) s.heap s.heap [] := va_S.rf
  have hl : lv_has ls 1 [(0, .ref (G.2.1 (119)))] := hl
  unfold f_X4_meanDepth at h
  refine lv_aload_n hx hb dX4_meanDepth_0 rfl (lv_at hl 0 rfl) ?_
  refine lv_iconst (v := 0) hx hb dX4_meanDepth_1 (by decide) ?_
  refine z_put C Z hP hS (k := 119) (ci := 4) (j := 5) (N := 12) (x := 0) (v := .int (0)) (ty := .int) (by decide) (z_E_119 _) rfl inX4_meanDepth_X4 tyX4_ok nmX4 (by decide) wX4_meanDepth_0 rfl (by decide +kernel) rfl rfl (Nat.le_of_ble_eq_true rfl) (z_S_119_5 _ _) dX4_meanDepth_2 (fun H locs hP hS => ?_)
  refine lv_aload_n hx hb dX4_meanDepth_5 rfl (lv_at hl 0 rfl) ?_
  obtain ⟨r1, m2, e3, h⟩ := zb_some h
  refine z_calli hS (va_runV (As := []) (rest := []) C (c_X4_cuts l G e3 _) (cwV 0 hts gX4_meanDepth_X4_cuts rfl rfl rfl hv_X4_cuts ⟨Nat.le_of_ble_eq_true rfl, Nat.le_of_ble_eq_true rfl⟩) (z_preV Z hS hP (by decide) (z_E_119 _) rfl rfl) rfl rfl hl.1 rfl (lv_room (Nat.le_of_ble_eq_true rfl)) dX4_meanDepth_6 ⟨Nat.zero_le _, Nat.zero_le _⟩) (fun H locs hP hS => ?_)
  refine lv_if_ne (tgt := 16) hx hb dX4_meanDepth_9 (by decide) (fun hc4 => ?_) (fun hc4 => ?_)
  · have h := z_in hc4 h
    refine lv_aload_n hx hb dX4_meanDepth_16 rfl (lv_at hl 0 rfl) ?_
    refine lv_iconst (v := 0) hx hb dX4_meanDepth_17 (by decide) ?_
    obtain ⟨r5, m6, e7, h⟩ := zb_some h
    refine z_calli hS (va_runV (As := [.int (0)]) (rest := []) C (c_X4_sum l G e7 _) (cwV 1 hts gX4_meanDepth_X4_sum rfl rfl rfl hv_X4_sum ⟨Nat.le_of_ble_eq_true rfl, Nat.le_of_ble_eq_true rfl⟩) (z_preV Z hS hP (by decide) (z_E_119 _) rfl rfl) rfl rfl hl.1 rfl (lv_room (Nat.le_of_ble_eq_true rfl)) dX4_meanDepth_18 ⟨Nat.zero_le _, Nat.zero_le _⟩) (fun H locs hP hS => ?_)
    refine lv_i2f hx hb dX4_meanDepth_21 ?_
    refine lv_aload_n hx hb dX4_meanDepth_22 rfl (lv_at hl 0 rfl) ?_
    obtain ⟨r8, m9, e10, h⟩ := zb_some h
    refine z_calli hS (va_runV (As := []) (rest := [.float ((FP.i2f r5))]) C (c_X4_cuts l G e10 _) (cwV 0 hts gX4_meanDepth_X4_cuts rfl rfl rfl hv_X4_cuts ⟨Nat.le_of_ble_eq_true rfl, Nat.le_of_ble_eq_true rfl⟩) (z_preV Z hS hP (by decide) (z_E_119 _) rfl rfl) rfl rfl hl.1 rfl (lv_room (Nat.le_of_ble_eq_true rfl)) dX4_meanDepth_23 ⟨Nat.zero_le _, Nat.zero_le _⟩) (fun H locs hP hS => ?_)
    refine lv_i2f hx hb dX4_meanDepth_26 ?_
    obtain ⟨hg11, h⟩ := z_g h
    refine lv_fdiv hx hb dX4_meanDepth_27 hg11 ?_
    cases h
    exact z_retf C hr hlk hP hS dX4_meanDepth_28
  · have h := z_ip hc4 h
    refine lv_fconst0 hx hb dX4_meanDepth_12 ?_
    refine lv_goto (tgt := 28) hx hb dX4_meanDepth_13 (by decide) ?_
    cases h
    exact z_retf C hr hlk hP hS dX4_meanDepth_28
abbrev rm_X4_clearShare : Room := { frames := 3, cells := 0, slots := 0, locals := 64 }
theorem hd_X4_clearShare : yX4_clearShare.cls ≠ "java/lang/invoke/MethodHandle" ∧ yX4_clearShare.cls ≠ "java/lang/invoke/VarHandle" ∧ (parseMethodDescriptor yX4_clearShare.desc).map (fun d => d.parameters.length) = some 0 := by decide +kernel
theorem hv_X4_clearShare : yX4_clearShare.cls = RX4 ∧ yX4_clearShare.cls ≠ "java/lang/invoke/MethodHandle" ∧ yX4_clearShare.cls ≠ "java/lang/invoke/VarHandle" ∧ (parseMethodDescriptor yX4_clearShare.desc).map (fun d => d.parameters.length) = some 0 := ⟨rfl, hd_X4_clearShare⟩
theorem wX4_clearShare_0 : Cond.fieldLink RX4 27 "WaxCopiesModel" "thrown" "I" ∈ wsX4_clearShare := by decide +kernel
theorem inX4_clearShare_X4 : ∀ w ∈ wsX40, w ∈ wsX4_clearShare := by decide +kernel
set_option maxHeartbeats 4000000 in
set_option maxRecDepth 100000 in
theorem c_X4_clearShare (l : Launch) (G : zG) {μ mu1 : Mm} {r : UInt64} (h : f_X4_clearShare μ = some (r, mu1)) (sz : Nat) : Met l yX4_clearShare wsX4_clearShare rm_X4_clearShare (z_Pre G μ [.ref (G.2.1 (119))] sz) (z_Qd G r mu1 sz) 0 0 (z_A G sz) := by
  refine z_start (cc := cX4_clearShare) (maxL := 1) (ret := (some .double)) (own := RX4) (by decide) rfl rfl (Nat.le_of_ble_eq_true rfl) (fun p e s m args below meth c C hr hlk Z hP ls hl => ?_) sz
  have hx := C.1
  have hb := C.2.1
  have hts := C.2.2.2.2
  have hS : va_S (z_A G s.heap.size) s.heap s.heap [] := va_S.rf
  have hl : lv_has ls 1 [(0, .ref (G.2.1 (119)))] := hl
  unfold f_X4_clearShare at h
  refine lv_aload_n hx hb dX4_clearShare_0 rfl (lv_at hl 0 rfl) ?_
  refine lv_iconst (v := 0) hx hb dX4_clearShare_1 (by decide) ?_
  refine z_put C Z hP hS (k := 119) (ci := 4) (j := 5) (N := 12) (x := 0) (v := .int (0)) (ty := .int) (by decide) (z_E_119 _) rfl inX4_clearShare_X4 tyX4_ok nmX4 (by decide) wX4_clearShare_0 rfl (by decide +kernel) rfl rfl (Nat.le_of_ble_eq_true rfl) (z_S_119_5 _ _) dX4_clearShare_2 (fun H locs hP hS => ?_)
  refine lv_aload_n hx hb dX4_clearShare_5 rfl (lv_at hl 0 rfl) ?_
  obtain ⟨r1, m2, e3, h⟩ := zb_some h
  refine z_calli hS (va_runV (As := []) (rest := []) C (c_X4_cuts l G e3 _) (cwV 0 hts gX4_clearShare_X4_cuts rfl rfl rfl hv_X4_cuts ⟨Nat.le_of_ble_eq_true rfl, Nat.le_of_ble_eq_true rfl⟩) (z_preV Z hS hP (by decide) (z_E_119 _) rfl rfl) rfl rfl hl.1 rfl (lv_room (Nat.le_of_ble_eq_true rfl)) dX4_clearShare_6 ⟨Nat.zero_le _, Nat.zero_le _⟩) (fun H locs hP hS => ?_)
  refine lv_if_ne (tgt := 16) hx hb dX4_clearShare_9 (by decide) (fun hc4 => ?_) (fun hc4 => ?_)
  · have h := z_in hc4 h
    refine lv_aload_n hx hb dX4_clearShare_16 rfl (lv_at hl 0 rfl) ?_
    refine lv_iconst (v := 1) hx hb dX4_clearShare_17 (by decide) ?_
    obtain ⟨r5, m6, e7, h⟩ := zb_some h
    refine z_calli hS (va_runV (As := [.int (1)]) (rest := []) C (c_X4_sum l G e7 _) (cwV 1 hts gX4_clearShare_X4_sum rfl rfl rfl hv_X4_sum ⟨Nat.le_of_ble_eq_true rfl, Nat.le_of_ble_eq_true rfl⟩) (z_preV Z hS hP (by decide) (z_E_119 _) rfl rfl) rfl rfl hl.1 rfl (lv_room (Nat.le_of_ble_eq_true rfl)) dX4_clearShare_18 ⟨Nat.zero_le _, Nat.zero_le _⟩) (fun H locs hP hS => ?_)
    refine lv_i2d hx hb dX4_clearShare_21 ?_
    refine lv_bipush (v := 100) hx hb dX4_clearShare_22 (by decide) ?_
    refine lv_aload_n hx hb dX4_clearShare_24 rfl (lv_at hl 0 rfl) ?_
    obtain ⟨r8, m9, e10, h⟩ := zb_some h
    refine z_calli hS (va_runV (As := []) (rest := [.int (100), .double ((FP.i2d r5))]) C (c_X4_cuts l G e10 _) (cwV 0 hts gX4_clearShare_X4_cuts rfl rfl rfl hv_X4_cuts ⟨Nat.le_of_ble_eq_true rfl, Nat.le_of_ble_eq_true rfl⟩) (z_preV Z hS hP (by decide) (z_E_119 _) rfl rfl) rfl rfl hl.1 rfl (lv_room (Nat.le_of_ble_eq_true rfl)) dX4_clearShare_25 ⟨Nat.zero_le _, Nat.zero_le _⟩) (fun H locs hP hS => ?_)
    refine lv_imul hx hb dX4_clearShare_28 ?_
    refine lv_i2d hx hb dX4_clearShare_29 ?_
    obtain ⟨hg11, h⟩ := z_g h
    refine lv_ddiv hx hb dX4_clearShare_30 hg11 ?_
    cases h
    exact z_retd C hr hlk hP hS dX4_clearShare_31
  · have h := z_ip hc4 h
    refine lv_dconst0 hx hb dX4_clearShare_12 ?_
    refine lv_goto (tgt := 31) hx hb dX4_clearShare_13 (by decide) ?_
    cases h
    exact z_retd C hr hlk hP hS dX4_clearShare_31
abbrev rm_X4_ofTrack : Room := { frames := 4, cells := 0, slots := 0, locals := 97 }
theorem hd_X4_ofTrack : yX4_ofTrack.cls ≠ "java/lang/invoke/MethodHandle" ∧ yX4_ofTrack.cls ≠ "java/lang/invoke/VarHandle" ∧ (parseMethodDescriptor yX4_ofTrack.desc).map (fun d => d.parameters.length) = some 2 := by decide +kernel
theorem hv_X4_ofTrack : yX4_ofTrack.cls = RX4 ∧ yX4_ofTrack.cls ≠ "java/lang/invoke/MethodHandle" ∧ yX4_ofTrack.cls ≠ "java/lang/invoke/VarHandle" ∧ (parseMethodDescriptor yX4_ofTrack.desc).map (fun d => d.parameters.length) = some 2 := ⟨rfl, hd_X4_ofTrack⟩
theorem wX4_ofTrack_0 : Cond.constantLong RX4 203 (31) ∈ wsX4_ofTrack := by decide +kernel
set_option maxHeartbeats 4000000 in
set_option maxRecDepth 100000 in
theorem L_X4_ofTrack_b6 {p : Program} {l : Launch} {e : Env} {s : State} {m : MethodId} {args : Array Value} {below : List Frame} {meth : Method} {c : Code} {G : zG} {r : Int64} {mu1 : Mm}  (C : CallFix p m c cX4_ofTrack 7 s args wsX4_ofTrack RX4) (hr : meth.sig.returnType = (some .long)) (hlk : meth.locks = false) (Z : z_Z G (z_A G s.heap.size) s)  :
    ∀ (n : Nat) (x3 : Int32) (x4 : Int64) (x6 : Int32) (μ : Mm), f_X4_ofTrack_b6  n x3 x4 x6 μ = some (r, mu1) → ∀ (H : Heap) (locs : List Loc), z_P G μ H → va_S (z_A G s.heap.size) s.heap H locs → ∀ ls : Array Slot, lv_has ls 7 [(0, .ref (G.2.1 (119))), (3, .int (x3)), (4, .long (x4)), (6, .int (x6))] → W p l e rm_X4_ofTrack s m args below meth c H locs 0 0 (MQ below (z_Ql G r mu1 s.heap.size) args s 0 0 (z_A G s.heap.size)) (F0 m 6 ls []) := by
  have hx := C.1
  have hb := C.2.1
  have hts := C.2.2.2.2
  intro n
  induction n with
  | zero =>
    intro x3 x4 x6 μ h
    rw [f_X4_ofTrack_b6] at h
    cases h
  | succ n ih =>
    intro x3 x4 x6 μ h H locs hP hS ls hl
    rw [f_X4_ofTrack_b6] at h
    refine lv_iload hx hb dX4_ofTrack_6 (lv_at hl 3 rfl) ?_
    refine lv_bipush (v := 7) hx hb dX4_ofTrack_8 (by decide) ?_
    refine lv_icmp_ge (tgt := 36) hx hb dX4_ofTrack_10 (by decide) (fun hc1 => ?_) (fun hc1 => ?_)
    · have h := z_ip hc1 h
      refine lv_ldc2 hx hb C.2.2.2.1 (C.2.2.2.2 _ wX4_ofTrack_0) dX4_ofTrack_36 ?_
      refine lv_lload hx hb dX4_ofTrack_39 (lv_at hl 2 rfl) ?_
      refine lv_lmul hx hb dX4_ofTrack_41 ?_
      refine lv_aload_n hx hb dX4_ofTrack_42 rfl (lv_at hl 0 rfl) ?_
      refine lv_iload_n hx hb dX4_ofTrack_43 rfl (lv_at hl 1 rfl) ?_
      refine lv_iconst (v := 5) hx hb dX4_ofTrack_44 (by decide) ?_
      obtain ⟨r2, m3, e4, h⟩ := zb_some h
      refine z_calli hS (va_runV (As := [.int (x3), .int (5)]) (rest := [.long (((31 : Int64) * x4))]) C (c_X4_speakReason l G e4 _) (cwV 2 hts gX4_ofTrack_X4_speakReason rfl rfl rfl hv_X4_speakReason ⟨Nat.le_of_ble_eq_true rfl, Nat.le_of_ble_eq_true rfl⟩) (z_preV Z hS hP (by decide) (z_E_119 _) rfl rfl) rfl rfl hl.1 rfl (lv_room (Nat.le_of_ble_eq_true rfl)) dX4_ofTrack_45 ⟨Nat.zero_le _, Nat.zero_le _⟩) (fun H locs hP hS => ?_)
      refine lv_i2l (v := ((r2).toInt64)) hx hb dX4_ofTrack_48 rfl ?_
      refine lv_ladd hx hb dX4_ofTrack_49 ?_
      refine lv_lstore (lv' := [(4, .long ((((31 : Int64) * x4) + ((r2).toInt64)))), (0, .ref (G.2.1 (119))), (3, .int (x3)), (6, .int (x6))]) hx hb dX4_ofTrack_50 hl (by decide) rfl (fun ls hl => ?_)
      refine lv_ldc2 hx hb C.2.2.2.1 (C.2.2.2.2 _ wX4_ofTrack_0) dX4_ofTrack_52 ?_
      refine lv_lload hx hb dX4_ofTrack_55 (lv_at hl 0 rfl) ?_
      refine lv_lmul hx hb dX4_ofTrack_57 ?_
      refine lv_aload_n hx hb dX4_ofTrack_58 rfl (lv_at hl 1 rfl) ?_
      refine lv_iload_n hx hb dX4_ofTrack_59 rfl (lv_at hl 2 rfl) ?_
      obtain ⟨r5, m6, e7, h⟩ := zb_some h
      refine z_calli hS (va_runV (As := [.int (x3)]) (rest := [.long (((31 : Int64) * (((31 : Int64) * x4) + ((r2).toInt64))))]) C (c_X4_manyDaughters l G e7 _) (cwV 1 hts gX4_ofTrack_X4_manyDaughters rfl rfl rfl hv_X4_manyDaughters ⟨Nat.le_of_ble_eq_true rfl, Nat.le_of_ble_eq_true rfl⟩) (z_preV Z hS hP (by decide) (z_E_119 _) rfl rfl) rfl rfl hl.1 rfl (lv_room (Nat.le_of_ble_eq_true rfl)) dX4_ofTrack_60 ⟨Nat.zero_le _, Nat.zero_le _⟩) (fun H locs hP hS => ?_)
      refine lv_i2l (v := ((r5).toInt64)) hx hb dX4_ofTrack_63 rfl ?_
      refine lv_ladd hx hb dX4_ofTrack_64 ?_
      refine lv_lstore (lv' := [(4, .long ((((31 : Int64) * (((31 : Int64) * x4) + ((r2).toInt64))) + ((r5).toInt64)))), (0, .ref (G.2.1 (119))), (3, .int (x3)), (6, .int (x6))]) hx hb dX4_ofTrack_65 hl (by decide) rfl (fun ls hl => ?_)
      refine lv_ldc2 hx hb C.2.2.2.1 (C.2.2.2.2 _ wX4_ofTrack_0) dX4_ofTrack_67 ?_
      refine lv_lload hx hb dX4_ofTrack_70 (lv_at hl 0 rfl) ?_
      refine lv_lmul hx hb dX4_ofTrack_72 ?_
      refine lv_aload_n hx hb dX4_ofTrack_73 rfl (lv_at hl 1 rfl) ?_
      refine lv_iload_n hx hb dX4_ofTrack_74 rfl (lv_at hl 2 rfl) ?_
      refine lv_iconst (v := 1) hx hb dX4_ofTrack_75 (by decide) ?_
      refine lv_iconst (v := 0) hx hb dX4_ofTrack_76 (by decide) ?_
      obtain ⟨r8, m9, e10, h⟩ := zb_some h
      refine z_calli hS (va_runV (As := [.int (x3), .int (1), .int (0)]) (rest := [.long (((31 : Int64) * (((31 : Int64) * (((31 : Int64) * x4) + ((r2).toInt64))) + ((r5).toInt64))))]) C (c_X4_chained l G e10 _) (cwV 3 hts gX4_ofTrack_X4_chained rfl rfl rfl hv_X4_chained ⟨Nat.le_of_ble_eq_true rfl, Nat.le_of_ble_eq_true rfl⟩) (z_preV Z hS hP (by decide) (z_E_119 _) rfl rfl) rfl rfl hl.1 rfl (lv_room (Nat.le_of_ble_eq_true rfl)) dX4_ofTrack_77 ⟨Nat.zero_le _, Nat.zero_le _⟩) (fun H locs hP hS => ?_)
      refine lv_i2l (v := ((r8).toInt64)) hx hb dX4_ofTrack_80 rfl ?_
      refine lv_ladd hx hb dX4_ofTrack_81 ?_
      refine lv_lstore (lv' := [(4, .long ((((31 : Int64) * (((31 : Int64) * (((31 : Int64) * x4) + ((r2).toInt64))) + ((r5).toInt64))) + ((r8).toInt64)))), (0, .ref (G.2.1 (119))), (3, .int (x3)), (6, .int (x6))]) hx hb dX4_ofTrack_82 hl (by decide) rfl (fun ls hl => ?_)
      refine lv_ldc2 hx hb C.2.2.2.1 (C.2.2.2.2 _ wX4_ofTrack_0) dX4_ofTrack_84 ?_
      refine lv_lload hx hb dX4_ofTrack_87 (lv_at hl 0 rfl) ?_
      refine lv_lmul hx hb dX4_ofTrack_89 ?_
      refine lv_aload_n hx hb dX4_ofTrack_90 rfl (lv_at hl 1 rfl) ?_
      refine lv_iload_n hx hb dX4_ofTrack_91 rfl (lv_at hl 2 rfl) ?_
      refine lv_iconst (v := 1) hx hb dX4_ofTrack_92 (by decide) ?_
      refine lv_iconst (v := 1) hx hb dX4_ofTrack_93 (by decide) ?_
      obtain ⟨r11, m12, e13, h⟩ := zb_some h
      refine z_calli hS (va_runV (As := [.int (x3), .int (1), .int (1)]) (rest := [.long (((31 : Int64) * (((31 : Int64) * (((31 : Int64) * (((31 : Int64) * x4) + ((r2).toInt64))) + ((r5).toInt64))) + ((r8).toInt64))))]) C (c_X4_chained l G e13 _) (cwV 3 hts gX4_ofTrack_X4_chained rfl rfl rfl hv_X4_chained ⟨Nat.le_of_ble_eq_true rfl, Nat.le_of_ble_eq_true rfl⟩) (z_preV Z hS hP (by decide) (z_E_119 _) rfl rfl) rfl rfl hl.1 rfl (lv_room (Nat.le_of_ble_eq_true rfl)) dX4_ofTrack_94 ⟨Nat.zero_le _, Nat.zero_le _⟩) (fun H locs hP hS => ?_)
      refine lv_i2l (v := ((r11).toInt64)) hx hb dX4_ofTrack_97 rfl ?_
      refine lv_ladd hx hb dX4_ofTrack_98 ?_
      refine lv_lstore (lv' := [(4, .long ((((31 : Int64) * (((31 : Int64) * (((31 : Int64) * (((31 : Int64) * x4) + ((r2).toInt64))) + ((r5).toInt64))) + ((r8).toInt64))) + ((r11).toInt64)))), (0, .ref (G.2.1 (119))), (3, .int (x3)), (6, .int (x6))]) hx hb dX4_ofTrack_99 hl (by decide) rfl (fun ls hl => ?_)
      refine lv_ldc2 hx hb C.2.2.2.1 (C.2.2.2.2 _ wX4_ofTrack_0) dX4_ofTrack_101 ?_
      refine lv_lload hx hb dX4_ofTrack_104 (lv_at hl 0 rfl) ?_
      refine lv_lmul hx hb dX4_ofTrack_106 ?_
      refine lv_aload_n hx hb dX4_ofTrack_107 rfl (lv_at hl 1 rfl) ?_
      refine lv_iload_n hx hb dX4_ofTrack_108 rfl (lv_at hl 2 rfl) ?_
      refine lv_iconst (v := 3) hx hb dX4_ofTrack_109 (by decide) ?_
      refine lv_iconst (v := 0) hx hb dX4_ofTrack_110 (by decide) ?_
      obtain ⟨r14, m15, e16, h⟩ := zb_some h
      refine z_calli hS (va_runV (As := [.int (x3), .int (3), .int (0)]) (rest := [.long (((31 : Int64) * (((31 : Int64) * (((31 : Int64) * (((31 : Int64) * (((31 : Int64) * x4) + ((r2).toInt64))) + ((r5).toInt64))) + ((r8).toInt64))) + ((r11).toInt64))))]) C (c_X4_chained l G e16 _) (cwV 3 hts gX4_ofTrack_X4_chained rfl rfl rfl hv_X4_chained ⟨Nat.le_of_ble_eq_true rfl, Nat.le_of_ble_eq_true rfl⟩) (z_preV Z hS hP (by decide) (z_E_119 _) rfl rfl) rfl rfl hl.1 rfl (lv_room (Nat.le_of_ble_eq_true rfl)) dX4_ofTrack_111 ⟨Nat.zero_le _, Nat.zero_le _⟩) (fun H locs hP hS => ?_)
      refine lv_i2l (v := ((r14).toInt64)) hx hb dX4_ofTrack_114 rfl ?_
      refine lv_ladd hx hb dX4_ofTrack_115 ?_
      refine lv_lstore (lv' := [(4, .long ((((31 : Int64) * (((31 : Int64) * (((31 : Int64) * (((31 : Int64) * (((31 : Int64) * x4) + ((r2).toInt64))) + ((r5).toInt64))) + ((r8).toInt64))) + ((r11).toInt64))) + ((r14).toInt64)))), (0, .ref (G.2.1 (119))), (3, .int (x3)), (6, .int (x6))]) hx hb dX4_ofTrack_116 hl (by decide) rfl (fun ls hl => ?_)
      refine lv_ldc2 hx hb C.2.2.2.1 (C.2.2.2.2 _ wX4_ofTrack_0) dX4_ofTrack_118 ?_
      refine lv_lload hx hb dX4_ofTrack_121 (lv_at hl 0 rfl) ?_
      refine lv_lmul hx hb dX4_ofTrack_123 ?_
      refine lv_aload_n hx hb dX4_ofTrack_124 rfl (lv_at hl 1 rfl) ?_
      refine lv_iload_n hx hb dX4_ofTrack_125 rfl (lv_at hl 2 rfl) ?_
      refine lv_iconst (v := 3) hx hb dX4_ofTrack_126 (by decide) ?_
      refine lv_iconst (v := 1) hx hb dX4_ofTrack_127 (by decide) ?_
      obtain ⟨r17, m18, e19, h⟩ := zb_some h
      refine z_calli hS (va_runV (As := [.int (x3), .int (3), .int (1)]) (rest := [.long (((31 : Int64) * (((31 : Int64) * (((31 : Int64) * (((31 : Int64) * (((31 : Int64) * (((31 : Int64) * x4) + ((r2).toInt64))) + ((r5).toInt64))) + ((r8).toInt64))) + ((r11).toInt64))) + ((r14).toInt64))))]) C (c_X4_chained l G e19 _) (cwV 3 hts gX4_ofTrack_X4_chained rfl rfl rfl hv_X4_chained ⟨Nat.le_of_ble_eq_true rfl, Nat.le_of_ble_eq_true rfl⟩) (z_preV Z hS hP (by decide) (z_E_119 _) rfl rfl) rfl rfl hl.1 rfl (lv_room (Nat.le_of_ble_eq_true rfl)) dX4_ofTrack_128 ⟨Nat.zero_le _, Nat.zero_le _⟩) (fun H locs hP hS => ?_)
      refine lv_i2l (v := ((r17).toInt64)) hx hb dX4_ofTrack_131 rfl ?_
      refine lv_ladd hx hb dX4_ofTrack_132 ?_
      cases h
      exact z_retl C hr hlk hP hS dX4_ofTrack_133
    · have h := z_in hc1 h
      refine lv_ldc2 hx hb C.2.2.2.1 (C.2.2.2.2 _ wX4_ofTrack_0) dX4_ofTrack_13 ?_
      refine lv_lload hx hb dX4_ofTrack_16 (lv_at hl 2 rfl) ?_
      refine lv_lmul hx hb dX4_ofTrack_18 ?_
      refine lv_aload_n hx hb dX4_ofTrack_19 rfl (lv_at hl 0 rfl) ?_
      refine lv_iload_n hx hb dX4_ofTrack_20 rfl (lv_at hl 1 rfl) ?_
      refine lv_iload hx hb dX4_ofTrack_21 (lv_at hl 3 rfl) ?_
      obtain ⟨r20, m21, e22, h⟩ := zb_some h
      refine z_calli hS (va_runV (As := [.int (x3), .int (x6)]) (rest := [.long (((31 : Int64) * x4))]) C (c_X4_property l G e22 _) (cwV 2 hts gX4_ofTrack_X4_property rfl rfl rfl hv_X4_property ⟨Nat.le_of_ble_eq_true rfl, Nat.le_of_ble_eq_true rfl⟩) (z_preV Z hS hP (by decide) (z_E_119 _) rfl rfl) rfl rfl hl.1 rfl (lv_room (Nat.le_of_ble_eq_true rfl)) dX4_ofTrack_23 ⟨Nat.zero_le _, Nat.zero_le _⟩) (fun H locs hP hS => ?_)
      refine lv_i2l (v := ((r20).toInt64)) hx hb dX4_ofTrack_26 rfl ?_
      refine lv_ladd hx hb dX4_ofTrack_27 ?_
      refine lv_lstore (lv' := [(4, .long ((((31 : Int64) * x4) + ((r20).toInt64)))), (0, .ref (G.2.1 (119))), (3, .int (x3)), (6, .int (x6))]) hx hb dX4_ofTrack_28 hl (by decide) rfl (fun ls hl => ?_)
      refine lv_iinc (v := (x6 + 1)) (lv' := [(6, .int ((x6 + 1))), (4, .long ((((31 : Int64) * x4) + ((r20).toInt64)))), (0, .ref (G.2.1 (119))), (3, .int (x3))]) hx hb dX4_ofTrack_30 hl (k := 3) rfl rfl (by decide) rfl (fun ls hl => ?_)
      refine lv_goto (tgt := 6) hx hb dX4_ofTrack_33 (by decide) ?_
      exact ih _ _ _ _ h _ _ hP hS ls (lv_sub hl [2, 3, 1, 0] rfl)
set_option maxHeartbeats 4000000 in
set_option maxRecDepth 100000 in
theorem c_X4_ofTrack (l : Launch) (G : zG) {x1 : Int64} {x3 : Int32} {μ mu1 : Mm} {r : Int64} (h : f_X4_ofTrack x1 x3 μ = some (r, mu1)) (sz : Nat) : Met l yX4_ofTrack wsX4_ofTrack rm_X4_ofTrack (z_Pre G μ [.ref (G.2.1 (119)), .long (x1), .int (x3)] sz) (z_Ql G r mu1 sz) 0 0 (z_A G sz) := by
  refine z_start (cc := cX4_ofTrack) (maxL := 7) (ret := (some .long)) (own := RX4) (by decide) rfl rfl (Nat.le_of_ble_eq_true rfl) (fun p e s m args below meth c C hr hlk Z hP ls hl => ?_) sz
  have hx := C.1
  have hb := C.2.1
  have hts := C.2.2.2.2
  have hS : va_S (z_A G s.heap.size) s.heap s.heap [] := va_S.rf
  have hl : lv_has ls 7 [(0, .ref (G.2.1 (119))), (1, .long (x1)), (3, .int (x3))] := hl
  unfold f_X4_ofTrack at h
  refine lv_lload_n hx hb dX4_ofTrack_0 rfl (lv_at hl 1 rfl) ?_
  refine lv_lstore (lv' := [(4, .long (x1)), (0, .ref (G.2.1 (119))), (1, .long (x1)), (3, .int (x3))]) hx hb dX4_ofTrack_1 hl (by decide) rfl (fun ls hl => ?_)
  refine lv_iconst (v := 0) hx hb dX4_ofTrack_3 (by decide) ?_
  refine lv_istore (lv' := [(6, .int (0)), (4, .long (x1)), (0, .ref (G.2.1 (119))), (1, .long (x1)), (3, .int (x3))]) hx hb dX4_ofTrack_4 hl (by decide) rfl (fun ls hl => ?_)
  exact L_X4_ofTrack_b6 C hr hlk Z z_F _ _ _ _ h _ _ hP hS ls (lv_sub hl [2, 4, 1, 0] rfl)
abbrev rm_X4_digest : Room := { frames := 5, cells := 0, slots := 0, locals := 123 }
theorem hd_X4_digest : yX4_digest.cls ≠ "java/lang/invoke/MethodHandle" ∧ yX4_digest.cls ≠ "java/lang/invoke/VarHandle" ∧ (parseMethodDescriptor yX4_digest.desc).map (fun d => d.parameters.length) = some 0 := by decide +kernel
theorem hv_X4_digest : yX4_digest.cls = RX4 ∧ yX4_digest.cls ≠ "java/lang/invoke/MethodHandle" ∧ yX4_digest.cls ≠ "java/lang/invoke/VarHandle" ∧ (parseMethodDescriptor yX4_digest.desc).map (fun d => d.parameters.length) = some 0 := ⟨rfl, hd_X4_digest⟩
theorem wX4_digest_0 : Cond.constantLong RX4 205 (3559) ∈ wsX4_digest := by decide +kernel
theorem wX4_digest_1 : Cond.constantLong RX4 203 (31) ∈ wsX4_digest := by decide +kernel
theorem wX4_digest_2 : Cond.fieldLink RX4 7 "WaxCopiesModel" "s" "[I" ∈ wsX4_digest := by decide +kernel
theorem inX4_digest_X4 : ∀ w ∈ wsX40, w ∈ wsX4_digest := by decide +kernel
theorem wX4_digest_4 : Cond.fieldLink RX4 13 "WaxCopiesModel" "isKept" "[Z" ∈ wsX4_digest := by decide +kernel
theorem wX4_digest_5 : Cond.fieldLink RX4 119 "WaxCopiesModel" "typed" "I" ∈ wsX4_digest := by decide +kernel
theorem wX4_digest_6 : Cond.fieldLink RX4 17 "WaxCopiesModel" "buffer" "[C" ∈ wsX4_digest := by decide +kernel
set_option maxHeartbeats 4000000 in
set_option maxRecDepth 100000 in
theorem L_X4_digest_b244 {p : Program} {l : Launch} {e : Env} {s : State} {m : MethodId} {args : Array Value} {below : List Frame} {meth : Method} {c : Code} {G : zG} {r : Int64} {mu1 : Mm}  (C : CallFix p m c cX4_digest 4 s args wsX4_digest RX4) (hr : meth.sig.returnType = (some .long)) (hlk : meth.locks = false) (Z : z_Z G (z_A G s.heap.size) s)  :
    ∀ (n : Nat) (x1 : Int64) (x3 : Int32) (μ : Mm), f_X4_digest_b244  n x1 x3 μ = some (r, mu1) → ∀ (H : Heap) (locs : List Loc), z_P G μ H → va_S (z_A G s.heap.size) s.heap H locs → ∀ ls : Array Slot, lv_has ls 4 [(0, .ref (G.2.1 (119))), (1, .long (x1)), (3, .int (x3))] → W p l e rm_X4_digest s m args below meth c H locs 0 0 (MQ below (z_Ql G r mu1 s.heap.size) args s 0 0 (z_A G s.heap.size)) (F0 m 244 ls []) := by
  have hx := C.1
  have hb := C.2.1
  have hts := C.2.2.2.2
  intro n
  induction n with
  | zero =>
    intro x1 x3 μ h
    rw [f_X4_digest_b244] at h
    cases h
  | succ n ih =>
    intro x1 x3 μ h H locs hP hS ls hl
    rw [f_X4_digest_b244] at h
    refine lv_iload_n hx hb dX4_digest_244 rfl (lv_at hl 2 rfl) ?_
    refine lv_aload_n hx hb dX4_digest_245 rfl (lv_at hl 0 rfl) ?_
    refine z_get C Z hP (k := 119) (ci := 4) (j := 4) (N := 12) (v := .int ((μ 119 4))) (by decide) (z_E_119 _) rfl inX4_digest_X4 (by decide) wX4_digest_5 rfl dX4_digest_246 ?_
    refine lv_icmp_ge (tgt := 272) hx hb dX4_digest_249 (by decide) (fun hc30 => ?_) (fun hc30 => ?_)
    · have h := z_ip hc30 h
      refine lv_lload_n hx hb dX4_digest_272 rfl (lv_at hl 1 rfl) ?_
      cases h
      exact z_retl C hr hlk hP hS dX4_digest_273
    · have h := z_in hc30 h
      refine lv_ldc2 hx hb C.2.2.2.1 (C.2.2.2.2 _ wX4_digest_1) dX4_digest_252 ?_
      refine lv_lload_n hx hb dX4_digest_255 rfl (lv_at hl 1 rfl) ?_
      refine lv_lmul hx hb dX4_digest_256 ?_
      refine lv_aload_n hx hb dX4_digest_257 rfl (lv_at hl 0 rfl) ?_
      refine z_get C Z hP (k := 119) (ci := 4) (j := 3) (N := 12) (v := .ref (G.2.1 (122))) (by decide) (z_E_119 _) rfl inX4_digest_X4 (by decide) wX4_digest_6 rfl dX4_digest_258 ?_
      refine lv_iload_n hx hb dX4_digest_261 rfl (lv_at hl 2 rfl) ?_
      obtain ⟨hg31, h⟩ := z_g h
      refine z_cald C Z hP (k := 122) (n := 60) (j := (x3).toNatClampNeg) (by decide) (z_E_122 _) hg31 rfl dX4_digest_262 ?_
      refine lv_i2l (v := (((μ (122) ((x3).toNatClampNeg))).toInt64)) hx hb dX4_digest_263 rfl ?_
      refine lv_ladd hx hb dX4_digest_264 ?_
      refine lv_lstore_n (lv' := [(1, .long ((((31 : Int64) * x1) + (((μ (122) ((x3).toNatClampNeg))).toInt64)))), (0, .ref (G.2.1 (119))), (3, .int (x3))]) hx hb dX4_digest_265 rfl hl (by decide) rfl (fun ls hl => ?_)
      refine lv_iinc (v := (x3 + 1)) (lv' := [(3, .int ((x3 + 1))), (1, .long ((((31 : Int64) * x1) + (((μ (122) ((x3).toNatClampNeg))).toInt64)))), (0, .ref (G.2.1 (119)))]) hx hb dX4_digest_266 hl (k := 2) rfl rfl (by decide) rfl (fun ls hl => ?_)
      refine lv_goto (tgt := 244) hx hb dX4_digest_269 (by decide) ?_
      exact ih _ _ _ h _ _ hP hS ls (lv_sub hl [2, 1, 0] rfl)
set_option maxHeartbeats 4000000 in
set_option maxRecDepth 100000 in
theorem L_X4_digest_b227 {p : Program} {l : Launch} {e : Env} {s : State} {m : MethodId} {args : Array Value} {below : List Frame} {meth : Method} {c : Code} {G : zG} {r : Int64} {mu1 : Mm}  (C : CallFix p m c cX4_digest 4 s args wsX4_digest RX4) (hr : meth.sig.returnType = (some .long)) (hlk : meth.locks = false) (Z : z_Z G (z_A G s.heap.size) s)  :
    ∀ (y0 : Int32) (y1 : Int64) (μ : Mm), f_X4_digest_b227  y0 y1 μ = some (r, mu1) → ∀ (H : Heap) (locs : List Loc), z_P G μ H → va_S (z_A G s.heap.size) s.heap H locs → ∀ ls : Array Slot, lv_has ls 4 [(0, .ref (G.2.1 (119)))] → W p l e rm_X4_digest s m args below meth c H locs 0 0 (MQ below (z_Ql G r mu1 s.heap.size) args s 0 0 (z_A G s.heap.size)) (F0 m 227 ls [.int (y0), .long (y1)]) := by
  have hx := C.1
  have hb := C.2.1
  have hts := C.2.2.2.2
  intro y0 y1 μ h H locs hP hS ls hl
  unfold f_X4_digest_b227 at h
  refine lv_i2l (v := ((y0).toInt64)) hx hb dX4_digest_227 rfl ?_
  refine lv_ladd hx hb dX4_digest_228 ?_
  refine lv_lstore_n (lv' := [(1, .long ((y1 + ((y0).toInt64)))), (0, .ref (G.2.1 (119)))]) hx hb dX4_digest_229 rfl hl (by decide) rfl (fun ls hl => ?_)
  refine lv_ldc2 hx hb C.2.2.2.1 (C.2.2.2.2 _ wX4_digest_1) dX4_digest_230 ?_
  refine lv_lload_n hx hb dX4_digest_233 rfl (lv_at hl 0 rfl) ?_
  refine lv_lmul hx hb dX4_digest_234 ?_
  refine lv_aload_n hx hb dX4_digest_235 rfl (lv_at hl 1 rfl) ?_
  refine z_get C Z hP (k := 119) (ci := 4) (j := 4) (N := 12) (v := .int ((μ 119 4))) (by decide) (z_E_119 _) rfl inX4_digest_X4 (by decide) wX4_digest_5 rfl dX4_digest_236 ?_
  refine lv_i2l (v := (((μ 119 4)).toInt64)) hx hb dX4_digest_239 rfl ?_
  refine lv_ladd hx hb dX4_digest_240 ?_
  refine lv_lstore_n (lv' := [(1, .long ((((31 : Int64) * (y1 + ((y0).toInt64))) + (((μ 119 4)).toInt64)))), (0, .ref (G.2.1 (119)))]) hx hb dX4_digest_241 rfl hl (by decide) rfl (fun ls hl => ?_)
  refine lv_iconst (v := 0) hx hb dX4_digest_242 (by decide) ?_
  refine lv_istore_n (lv' := [(3, .int (0)), (1, .long ((((31 : Int64) * (y1 + ((y0).toInt64))) + (((μ 119 4)).toInt64)))), (0, .ref (G.2.1 (119)))]) hx hb dX4_digest_243 rfl hl (by decide) rfl (fun ls hl => ?_)
  exact L_X4_digest_b244 C hr hlk Z z_F _ _ _ h _ _ hP hS ls (lv_sub hl [2, 1, 0] rfl)
set_option maxHeartbeats 4000000 in
set_option maxRecDepth 100000 in
theorem L_X4_digest_b205 {p : Program} {l : Launch} {e : Env} {s : State} {m : MethodId} {args : Array Value} {below : List Frame} {meth : Method} {c : Code} {G : zG} {r : Int64} {mu1 : Mm}  (C : CallFix p m c cX4_digest 4 s args wsX4_digest RX4) (hr : meth.sig.returnType = (some .long)) (hlk : meth.locks = false) (Z : z_Z G (z_A G s.heap.size) s)  :
    ∀ (y0 : Int32) (y1 : Int64) (μ : Mm), f_X4_digest_b205  y0 y1 μ = some (r, mu1) → ∀ (H : Heap) (locs : List Loc), z_P G μ H → va_S (z_A G s.heap.size) s.heap H locs → ∀ ls : Array Slot, lv_has ls 4 [(0, .ref (G.2.1 (119)))] → W p l e rm_X4_digest s m args below meth c H locs 0 0 (MQ below (z_Ql G r mu1 s.heap.size) args s 0 0 (z_A G s.heap.size)) (F0 m 205 ls [.int (y0), .long (y1)]) := by
  have hx := C.1
  have hb := C.2.1
  have hts := C.2.2.2.2
  intro y0 y1 μ h H locs hP hS ls hl
  unfold f_X4_digest_b205 at h
  refine lv_i2l (v := ((y0).toInt64)) hx hb dX4_digest_205 rfl ?_
  refine lv_ladd hx hb dX4_digest_206 ?_
  refine lv_lstore_n (lv' := [(1, .long ((y1 + ((y0).toInt64)))), (0, .ref (G.2.1 (119)))]) hx hb dX4_digest_207 rfl hl (by decide) rfl (fun ls hl => ?_)
  refine lv_ldc2 hx hb C.2.2.2.1 (C.2.2.2.2 _ wX4_digest_1) dX4_digest_208 ?_
  refine lv_lload_n hx hb dX4_digest_211 rfl (lv_at hl 0 rfl) ?_
  refine lv_lmul hx hb dX4_digest_212 ?_
  refine lv_aload_n hx hb dX4_digest_213 rfl (lv_at hl 1 rfl) ?_
  refine z_get C Z hP (k := 119) (ci := 4) (j := 2) (N := 12) (v := .ref (G.2.1 (121))) (by decide) (z_E_119 _) rfl inX4_digest_X4 (by decide) wX4_digest_4 rfl dX4_digest_214 ?_
  refine lv_iconst (v := 1) hx hb dX4_digest_217 (by decide) ?_
  refine z_zald C Z hP (k := 121) (n := 2) (j := 1) (by decide) (z_E_121 _) (show z_ix 1 2 by decide) rfl dX4_digest_218 ?_
  refine lv_if_eq (tgt := 226) hx hb dX4_digest_219 (by decide) (fun hc29 => ?_) (fun hc29 => ?_)
  · have h := z_ip hc29 h
    refine lv_iconst (v := 0) hx hb dX4_digest_226 (by decide) ?_
    exact L_X4_digest_b227 C hr hlk Z _ _ _ h _ _ hP hS ls (lv_sub hl [1] rfl)
  · have h := z_in hc29 h
    refine lv_iconst (v := 1) hx hb dX4_digest_222 (by decide) ?_
    refine lv_goto (tgt := 227) hx hb dX4_digest_223 (by decide) ?_
    exact L_X4_digest_b227 C hr hlk Z _ _ _ h _ _ hP hS ls (lv_sub hl [1] rfl)
set_option maxHeartbeats 4000000 in
set_option maxRecDepth 100000 in
theorem L_X4_digest_b68 {p : Program} {l : Launch} {e : Env} {s : State} {m : MethodId} {args : Array Value} {below : List Frame} {meth : Method} {c : Code} {G : zG} {r : Int64} {mu1 : Mm}  (C : CallFix p m c cX4_digest 4 s args wsX4_digest RX4) (hr : meth.sig.returnType = (some .long)) (hlk : meth.locks = false) (Z : z_Z G (z_A G s.heap.size) s)  :
    ∀ (n : Nat) (x1 : Int64) (x3 : Int32) (μ : Mm), f_X4_digest_b68  n x1 x3 μ = some (r, mu1) → ∀ (H : Heap) (locs : List Loc), z_P G μ H → va_S (z_A G s.heap.size) s.heap H locs → ∀ ls : Array Slot, lv_has ls 4 [(0, .ref (G.2.1 (119))), (1, .long (x1)), (3, .int (x3))] → W p l e rm_X4_digest s m args below meth c H locs 0 0 (MQ below (z_Ql G r mu1 s.heap.size) args s 0 0 (z_A G s.heap.size)) (F0 m 68 ls []) := by
  have hx := C.1
  have hb := C.2.1
  have hts := C.2.2.2.2
  intro n
  induction n with
  | zero =>
    intro x1 x3 μ h
    rw [f_X4_digest_b68] at h
    cases h
  | succ n ih =>
    intro x1 x3 μ h H locs hP hS ls hl
    rw [f_X4_digest_b68] at h
    refine lv_iload_n hx hb dX4_digest_68 rfl (lv_at hl 2 rfl) ?_
    refine lv_bipush (v := 30) hx hb dX4_digest_69 (by decide) ?_
    refine lv_icmp_ge (tgt := 98) hx hb dX4_digest_71 (by decide) (fun hc3 => ?_) (fun hc3 => ?_)
    · have h := z_ip hc3 h
      refine lv_ldc2 hx hb C.2.2.2.1 (C.2.2.2.2 _ wX4_digest_1) dX4_digest_98 ?_
      refine lv_lload_n hx hb dX4_digest_101 rfl (lv_at hl 1 rfl) ?_
      refine lv_lmul hx hb dX4_digest_102 ?_
      refine lv_aload_n hx hb dX4_digest_103 rfl (lv_at hl 0 rfl) ?_
      refine lv_iconst (v := 0) hx hb dX4_digest_104 (by decide) ?_
      refine lv_iconst (v := 4) hx hb dX4_digest_105 (by decide) ?_
      refine lv_iconst (v := 2) hx hb dX4_digest_106 (by decide) ?_
      obtain ⟨r4, m5, e6, h⟩ := zb_some h
      refine z_calli hS (va_runV (As := [.int (0), .int (4), .int (2)]) (rest := [.long (((31 : Int64) * x1))]) C (c_X4_wouldBe l G e6 _) (cwV 3 hts gX4_digest_X4_wouldBe rfl rfl rfl hv_X4_wouldBe ⟨Nat.le_of_ble_eq_true rfl, Nat.le_of_ble_eq_true rfl⟩) (z_preV Z hS hP (by decide) (z_E_119 _) rfl rfl) rfl rfl hl.1 rfl (lv_room (Nat.le_of_ble_eq_true rfl)) dX4_digest_107 ⟨Nat.zero_le _, Nat.zero_le _⟩) (fun H locs hP hS => ?_)
      refine lv_i2l (v := ((r4).toInt64)) hx hb dX4_digest_110 rfl ?_
      refine lv_ladd hx hb dX4_digest_111 ?_
      refine lv_lstore_n (lv' := [(1, .long ((((31 : Int64) * x1) + ((r4).toInt64)))), (0, .ref (G.2.1 (119))), (3, .int (x3))]) hx hb dX4_digest_112 rfl hl (by decide) rfl (fun ls hl => ?_)
      refine lv_ldc2 hx hb C.2.2.2.1 (C.2.2.2.2 _ wX4_digest_1) dX4_digest_113 ?_
      refine lv_lload_n hx hb dX4_digest_116 rfl (lv_at hl 0 rfl) ?_
      refine lv_lmul hx hb dX4_digest_117 ?_
      refine lv_aload_n hx hb dX4_digest_118 rfl (lv_at hl 1 rfl) ?_
      refine lv_iconst (v := 4) hx hb dX4_digest_119 (by decide) ?_
      refine lv_bipush (v := 9) hx hb dX4_digest_120 (by decide) ?_
      refine lv_iconst (v := 2) hx hb dX4_digest_122 (by decide) ?_
      obtain ⟨r7, m8, e9, h⟩ := zb_some h
      refine z_calli hS (va_runV (As := [.int (4), .int (9), .int (2)]) (rest := [.long (((31 : Int64) * (((31 : Int64) * x1) + ((r4).toInt64))))]) C (c_X4_wouldBe l G e9 _) (cwV 3 hts gX4_digest_X4_wouldBe rfl rfl rfl hv_X4_wouldBe ⟨Nat.le_of_ble_eq_true rfl, Nat.le_of_ble_eq_true rfl⟩) (z_preV Z hS hP (by decide) (z_E_119 _) rfl rfl) rfl rfl hl.1 rfl (lv_room (Nat.le_of_ble_eq_true rfl)) dX4_digest_123 ⟨Nat.zero_le _, Nat.zero_le _⟩) (fun H locs hP hS => ?_)
      refine lv_i2l (v := ((r7).toInt64)) hx hb dX4_digest_126 rfl ?_
      refine lv_ladd hx hb dX4_digest_127 ?_
      refine lv_lstore_n (lv' := [(1, .long ((((31 : Int64) * (((31 : Int64) * x1) + ((r4).toInt64))) + ((r7).toInt64)))), (0, .ref (G.2.1 (119))), (3, .int (x3))]) hx hb dX4_digest_128 rfl hl (by decide) rfl (fun ls hl => ?_)
      refine lv_ldc2 hx hb C.2.2.2.1 (C.2.2.2.2 _ wX4_digest_1) dX4_digest_129 ?_
      refine lv_lload_n hx hb dX4_digest_132 rfl (lv_at hl 0 rfl) ?_
      refine lv_lmul hx hb dX4_digest_133 ?_
      refine lv_aload_n hx hb dX4_digest_134 rfl (lv_at hl 1 rfl) ?_
      refine lv_bipush (v := 9) hx hb dX4_digest_135 (by decide) ?_
      refine lv_iconst (v := 0) hx hb dX4_digest_137 (by decide) ?_
      refine lv_iconst (v := 2) hx hb dX4_digest_138 (by decide) ?_
      obtain ⟨r10, m11, e12, h⟩ := zb_some h
      refine z_calli hS (va_runV (As := [.int (9), .int (0), .int (2)]) (rest := [.long (((31 : Int64) * (((31 : Int64) * (((31 : Int64) * x1) + ((r4).toInt64))) + ((r7).toInt64))))]) C (c_X4_wouldBe l G e12 _) (cwV 3 hts gX4_digest_X4_wouldBe rfl rfl rfl hv_X4_wouldBe ⟨Nat.le_of_ble_eq_true rfl, Nat.le_of_ble_eq_true rfl⟩) (z_preV Z hS hP (by decide) (z_E_119 _) rfl rfl) rfl rfl hl.1 rfl (lv_room (Nat.le_of_ble_eq_true rfl)) dX4_digest_139 ⟨Nat.zero_le _, Nat.zero_le _⟩) (fun H locs hP hS => ?_)
      refine lv_i2l (v := ((r10).toInt64)) hx hb dX4_digest_142 rfl ?_
      refine lv_ladd hx hb dX4_digest_143 ?_
      refine lv_lstore_n (lv' := [(1, .long ((((31 : Int64) * (((31 : Int64) * (((31 : Int64) * x1) + ((r4).toInt64))) + ((r7).toInt64))) + ((r10).toInt64)))), (0, .ref (G.2.1 (119))), (3, .int (x3))]) hx hb dX4_digest_144 rfl hl (by decide) rfl (fun ls hl => ?_)
      refine lv_ldc2 hx hb C.2.2.2.1 (C.2.2.2.2 _ wX4_digest_1) dX4_digest_145 ?_
      refine lv_lload_n hx hb dX4_digest_148 rfl (lv_at hl 0 rfl) ?_
      refine lv_lmul hx hb dX4_digest_149 ?_
      refine lv_aload_n hx hb dX4_digest_150 rfl (lv_at hl 1 rfl) ?_
      obtain ⟨r13, m14, e15, h⟩ := zb_some h
      refine z_calli hS (va_runV (As := []) (rest := [.long (((31 : Int64) * (((31 : Int64) * (((31 : Int64) * (((31 : Int64) * x1) + ((r4).toInt64))) + ((r7).toInt64))) + ((r10).toInt64))))]) C (c_X4_clearestTrack l G e15 _) (cwV 0 hts gX4_digest_X4_clearestTrack rfl rfl rfl hv_X4_clearestTrack ⟨Nat.le_of_ble_eq_true rfl, Nat.le_of_ble_eq_true rfl⟩) (z_preV Z hS hP (by decide) (z_E_119 _) rfl rfl) rfl rfl hl.1 rfl (lv_room (Nat.le_of_ble_eq_true rfl)) dX4_digest_151 ⟨Nat.zero_le _, Nat.zero_le _⟩) (fun H locs hP hS => ?_)
      refine lv_i2l (v := ((r13).toInt64)) hx hb dX4_digest_154 rfl ?_
      refine lv_ladd hx hb dX4_digest_155 ?_
      refine lv_lstore_n (lv' := [(1, .long ((((31 : Int64) * (((31 : Int64) * (((31 : Int64) * (((31 : Int64) * x1) + ((r4).toInt64))) + ((r7).toInt64))) + ((r10).toInt64))) + ((r13).toInt64)))), (0, .ref (G.2.1 (119))), (3, .int (x3))]) hx hb dX4_digest_156 rfl hl (by decide) rfl (fun ls hl => ?_)
      refine lv_ldc2 hx hb C.2.2.2.1 (C.2.2.2.2 _ wX4_digest_1) dX4_digest_157 ?_
      refine lv_lload_n hx hb dX4_digest_160 rfl (lv_at hl 0 rfl) ?_
      refine lv_lmul hx hb dX4_digest_161 ?_
      refine lv_aload_n hx hb dX4_digest_162 rfl (lv_at hl 1 rfl) ?_
      obtain ⟨r16, m17, e18, h⟩ := zb_some h
      refine z_callf hS (va_runV (As := []) (rest := [.long (((31 : Int64) * (((31 : Int64) * (((31 : Int64) * (((31 : Int64) * (((31 : Int64) * x1) + ((r4).toInt64))) + ((r7).toInt64))) + ((r10).toInt64))) + ((r13).toInt64))))]) C (c_X4_meanDepth l G e18 _) (cwV 0 hts gX4_digest_X4_meanDepth rfl rfl rfl hv_X4_meanDepth ⟨Nat.le_of_ble_eq_true rfl, Nat.le_of_ble_eq_true rfl⟩) (z_preV Z hS hP (by decide) (z_E_119 _) rfl rfl) rfl rfl hl.1 rfl (lv_room (Nat.le_of_ble_eq_true rfl)) dX4_digest_163 ⟨Nat.zero_le _, Nat.zero_le _⟩) (fun H locs hP hS => ?_)
      obtain ⟨r19, m20, e21, h⟩ := zb_some h
      refine z_calli hS (va_runS (As := [.float (r16)]) (rest := [.long (((31 : Int64) * (((31 : Int64) * (((31 : Int64) * (((31 : Int64) * (((31 : Int64) * x1) + ((r4).toInt64))) + ((r7).toInt64))) + ((r10).toInt64))) + ((r13).toInt64))))]) C (c_Jxf58ca_floatToIntBits_5c35a l G e21 _) (va_cwS 1 hts gX4_digest_Jxf58ca_floatToIntBits_5c35a rfl rfl rfl hd_Jxf58ca_floatToIntBits_5c35a ⟨Nat.le_of_ble_eq_true rfl, Nat.le_of_ble_eq_true rfl⟩) (z_preS Z hS hP) rfl rfl hl.1 rfl (lv_room (Nat.le_of_ble_eq_true rfl)) dX4_digest_166 ⟨Nat.zero_le _, Nat.zero_le _⟩) (fun H locs hP hS => ?_)
      refine lv_i2l (v := ((r19).toInt64)) hx hb dX4_digest_169 rfl ?_
      refine lv_ladd hx hb dX4_digest_170 ?_
      refine lv_lstore_n (lv' := [(1, .long ((((31 : Int64) * (((31 : Int64) * (((31 : Int64) * (((31 : Int64) * (((31 : Int64) * x1) + ((r4).toInt64))) + ((r7).toInt64))) + ((r10).toInt64))) + ((r13).toInt64))) + ((r19).toInt64)))), (0, .ref (G.2.1 (119))), (3, .int (x3))]) hx hb dX4_digest_171 rfl hl (by decide) rfl (fun ls hl => ?_)
      refine lv_ldc2 hx hb C.2.2.2.1 (C.2.2.2.2 _ wX4_digest_1) dX4_digest_172 ?_
      refine lv_lload_n hx hb dX4_digest_175 rfl (lv_at hl 0 rfl) ?_
      refine lv_lmul hx hb dX4_digest_176 ?_
      refine lv_aload_n hx hb dX4_digest_177 rfl (lv_at hl 1 rfl) ?_
      obtain ⟨r22, m23, e24, h⟩ := zb_some h
      refine z_calld hS (va_runV (As := []) (rest := [.long (((31 : Int64) * (((31 : Int64) * (((31 : Int64) * (((31 : Int64) * (((31 : Int64) * (((31 : Int64) * x1) + ((r4).toInt64))) + ((r7).toInt64))) + ((r10).toInt64))) + ((r13).toInt64))) + ((r19).toInt64))))]) C (c_X4_clearShare l G e24 _) (cwV 0 hts gX4_digest_X4_clearShare rfl rfl rfl hv_X4_clearShare ⟨Nat.le_of_ble_eq_true rfl, Nat.le_of_ble_eq_true rfl⟩) (z_preV Z hS hP (by decide) (z_E_119 _) rfl rfl) rfl rfl hl.1 rfl (lv_room (Nat.le_of_ble_eq_true rfl)) dX4_digest_178 ⟨Nat.zero_le _, Nat.zero_le _⟩) (fun H locs hP hS => ?_)
      obtain ⟨r25, m26, e27, h⟩ := zb_some h
      refine z_calll hS (va_runS (As := [.double (r22)]) (rest := [.long (((31 : Int64) * (((31 : Int64) * (((31 : Int64) * (((31 : Int64) * (((31 : Int64) * (((31 : Int64) * x1) + ((r4).toInt64))) + ((r7).toInt64))) + ((r10).toInt64))) + ((r13).toInt64))) + ((r19).toInt64))))]) C (c_Jxe99ae_doubleToLongBits_ccdee l G e27 _) (va_cwS 1 hts gX4_digest_Jxe99ae_doubleToLongBits_ccdee rfl rfl rfl hd_Jxe99ae_doubleToLongBits_ccdee ⟨Nat.le_of_ble_eq_true rfl, Nat.le_of_ble_eq_true rfl⟩) (z_preS Z hS hP) rfl rfl hl.1 rfl (lv_room (Nat.le_of_ble_eq_true rfl)) dX4_digest_181 ⟨Nat.zero_le _, Nat.zero_le _⟩) (fun H locs hP hS => ?_)
      refine lv_ladd hx hb dX4_digest_184 ?_
      refine lv_lstore_n (lv' := [(1, .long ((((31 : Int64) * (((31 : Int64) * (((31 : Int64) * (((31 : Int64) * (((31 : Int64) * (((31 : Int64) * x1) + ((r4).toInt64))) + ((r7).toInt64))) + ((r10).toInt64))) + ((r13).toInt64))) + ((r19).toInt64))) + r25))), (0, .ref (G.2.1 (119))), (3, .int (x3))]) hx hb dX4_digest_185 rfl hl (by decide) rfl (fun ls hl => ?_)
      refine lv_ldc2 hx hb C.2.2.2.1 (C.2.2.2.2 _ wX4_digest_1) dX4_digest_186 ?_
      refine lv_lload_n hx hb dX4_digest_189 rfl (lv_at hl 0 rfl) ?_
      refine lv_lmul hx hb dX4_digest_190 ?_
      refine lv_aload_n hx hb dX4_digest_191 rfl (lv_at hl 1 rfl) ?_
      refine z_get C Z hP (k := 119) (ci := 4) (j := 2) (N := 12) (v := .ref (G.2.1 (121))) (by decide) (z_E_119 _) rfl inX4_digest_X4 (by decide) wX4_digest_4 rfl dX4_digest_192 ?_
      refine lv_iconst (v := 0) hx hb dX4_digest_195 (by decide) ?_
      refine z_zald C Z hP (k := 121) (n := 2) (j := 0) (by decide) (z_E_121 _) (show z_ix 0 2 by decide) rfl dX4_digest_196 ?_
      refine lv_if_eq (tgt := 204) hx hb dX4_digest_197 (by decide) (fun hc28 => ?_) (fun hc28 => ?_)
      · have h := z_ip hc28 h
        refine lv_iconst (v := 0) hx hb dX4_digest_204 (by decide) ?_
        exact L_X4_digest_b205 C hr hlk Z _ _ _ h _ _ hP hS ls (lv_sub hl [1] rfl)
      · have h := z_in hc28 h
        refine lv_iconst (v := 1) hx hb dX4_digest_200 (by decide) ?_
        refine lv_goto (tgt := 205) hx hb dX4_digest_201 (by decide) ?_
        exact L_X4_digest_b205 C hr hlk Z _ _ _ h _ _ hP hS ls (lv_sub hl [1] rfl)
    · have h := z_in hc3 h
      refine lv_ldc2 hx hb C.2.2.2.1 (C.2.2.2.2 _ wX4_digest_1) dX4_digest_74 ?_
      refine lv_lload_n hx hb dX4_digest_77 rfl (lv_at hl 1 rfl) ?_
      refine lv_lmul hx hb dX4_digest_78 ?_
      refine lv_aload_n hx hb dX4_digest_79 rfl (lv_at hl 0 rfl) ?_
      refine lv_iload_n hx hb dX4_digest_80 rfl (lv_at hl 2 rfl) ?_
      refine lv_iconst (v := 5) hx hb dX4_digest_81 (by decide) ?_
      refine lv_idiv hx hb dX4_digest_82 (by decide) ?_
      refine lv_iload_n hx hb dX4_digest_83 rfl (lv_at hl 2 rfl) ?_
      refine lv_iconst (v := 5) hx hb dX4_digest_84 (by decide) ?_
      refine lv_irem hx hb dX4_digest_85 (by decide) ?_
      obtain ⟨r32, m33, e34, h⟩ := zb_some h
      refine z_calli hS (va_runV (As := [.int ((x3 / 5)), .int ((x3 - x3 / 5 * 5))]) (rest := [.long (((31 : Int64) * x1))]) C (c_X4_propertyOf l G e34 _) (cwV 2 hts gX4_digest_X4_propertyOf rfl rfl rfl hv_X4_propertyOf ⟨Nat.le_of_ble_eq_true rfl, Nat.le_of_ble_eq_true rfl⟩) (z_preV Z hS hP (by decide) (z_E_119 _) rfl rfl) rfl rfl hl.1 rfl (lv_room (Nat.le_of_ble_eq_true rfl)) dX4_digest_86 ⟨Nat.zero_le _, Nat.zero_le _⟩) (fun H locs hP hS => ?_)
      refine lv_i2l (v := ((r32).toInt64)) hx hb dX4_digest_89 rfl ?_
      refine lv_ladd hx hb dX4_digest_90 ?_
      refine lv_lstore_n (lv' := [(1, .long ((((31 : Int64) * x1) + ((r32).toInt64)))), (0, .ref (G.2.1 (119))), (3, .int (x3))]) hx hb dX4_digest_91 rfl hl (by decide) rfl (fun ls hl => ?_)
      refine lv_iinc (v := (x3 + 1)) (lv' := [(3, .int ((x3 + 1))), (1, .long ((((31 : Int64) * x1) + ((r32).toInt64)))), (0, .ref (G.2.1 (119)))]) hx hb dX4_digest_92 hl (k := 2) rfl rfl (by decide) rfl (fun ls hl => ?_)
      refine lv_goto (tgt := 68) hx hb dX4_digest_95 (by decide) ?_
      exact ih _ _ _ h _ _ hP hS ls (lv_sub hl [2, 1, 0] rfl)
set_option maxHeartbeats 4000000 in
set_option maxRecDepth 100000 in
theorem L_X4_digest_b47 {p : Program} {l : Launch} {e : Env} {s : State} {m : MethodId} {args : Array Value} {below : List Frame} {meth : Method} {c : Code} {G : zG} {r : Int64} {mu1 : Mm}  (C : CallFix p m c cX4_digest 4 s args wsX4_digest RX4) (hr : meth.sig.returnType = (some .long)) (hlk : meth.locks = false) (Z : z_Z G (z_A G s.heap.size) s)  :
    ∀ (n : Nat) (x1 : Int64) (x3 : Int32) (μ : Mm), f_X4_digest_b47  n x1 x3 μ = some (r, mu1) → ∀ (H : Heap) (locs : List Loc), z_P G μ H → va_S (z_A G s.heap.size) s.heap H locs → ∀ ls : Array Slot, lv_has ls 4 [(0, .ref (G.2.1 (119))), (1, .long (x1)), (3, .int (x3))] → W p l e rm_X4_digest s m args below meth c H locs 0 0 (MQ below (z_Ql G r mu1 s.heap.size) args s 0 0 (z_A G s.heap.size)) (F0 m 47 ls []) := by
  have hx := C.1
  have hb := C.2.1
  have hts := C.2.2.2.2
  intro n
  induction n with
  | zero =>
    intro x1 x3 μ h
    rw [f_X4_digest_b47] at h
    cases h
  | succ n ih =>
    intro x1 x3 μ h H locs hP hS ls hl
    rw [f_X4_digest_b47] at h
    refine lv_iload_n hx hb dX4_digest_47 rfl (lv_at hl 2 rfl) ?_
    refine lv_bipush (v := 24) hx hb dX4_digest_48 (by decide) ?_
    refine lv_icmp_ge (tgt := 66) hx hb dX4_digest_50 (by decide) (fun hc2 => ?_) (fun hc2 => ?_)
    · have h := z_ip hc2 h
      refine lv_iconst (v := 0) hx hb dX4_digest_66 (by decide) ?_
      refine lv_istore_n (lv' := [(3, .int (0)), (0, .ref (G.2.1 (119))), (1, .long (x1))]) hx hb dX4_digest_67 rfl hl (by decide) rfl (fun ls hl => ?_)
      exact L_X4_digest_b68 C hr hlk Z z_F _ _ _ h _ _ hP hS ls (lv_sub hl [1, 2, 0] rfl)
    · have h := z_in hc2 h
      refine lv_aload_n hx hb dX4_digest_53 rfl (lv_at hl 0 rfl) ?_
      refine lv_lload_n hx hb dX4_digest_54 rfl (lv_at hl 1 rfl) ?_
      refine lv_iload_n hx hb dX4_digest_55 rfl (lv_at hl 2 rfl) ?_
      obtain ⟨r35, m36, e37, h⟩ := zb_some h
      refine z_calll hS (va_runV (As := [.long (x1), .int (x3)]) (rest := []) C (c_X4_ofTrack l G e37 _) (cwV 2 hts gX4_digest_X4_ofTrack rfl rfl rfl hv_X4_ofTrack ⟨Nat.le_of_ble_eq_true rfl, Nat.le_of_ble_eq_true rfl⟩) (z_preV Z hS hP (by decide) (z_E_119 _) rfl rfl) rfl rfl hl.1 rfl (lv_room (Nat.le_of_ble_eq_true rfl)) dX4_digest_56 ⟨Nat.zero_le _, Nat.zero_le _⟩) (fun H locs hP hS => ?_)
      refine lv_lstore_n (lv' := [(1, .long (r35)), (0, .ref (G.2.1 (119))), (3, .int (x3))]) hx hb dX4_digest_59 rfl hl (by decide) rfl (fun ls hl => ?_)
      refine lv_iinc (v := (x3 + 1)) (lv' := [(3, .int ((x3 + 1))), (1, .long (r35)), (0, .ref (G.2.1 (119)))]) hx hb dX4_digest_60 hl (k := 2) rfl rfl (by decide) rfl (fun ls hl => ?_)
      refine lv_goto (tgt := 47) hx hb dX4_digest_63 (by decide) ?_
      exact ih _ _ _ h _ _ hP hS ls (lv_sub hl [2, 1, 0] rfl)
set_option maxHeartbeats 4000000 in
set_option maxRecDepth 100000 in
theorem L_X4_digest_b6 {p : Program} {l : Launch} {e : Env} {s : State} {m : MethodId} {args : Array Value} {below : List Frame} {meth : Method} {c : Code} {G : zG} {r : Int64} {mu1 : Mm}  (C : CallFix p m c cX4_digest 4 s args wsX4_digest RX4) (hr : meth.sig.returnType = (some .long)) (hlk : meth.locks = false) (Z : z_Z G (z_A G s.heap.size) s)  :
    ∀ (n : Nat) (x1 : Int64) (x3 : Int32) (μ : Mm), f_X4_digest_b6  n x1 x3 μ = some (r, mu1) → ∀ (H : Heap) (locs : List Loc), z_P G μ H → va_S (z_A G s.heap.size) s.heap H locs → ∀ ls : Array Slot, lv_has ls 4 [(0, .ref (G.2.1 (119))), (1, .long (x1)), (3, .int (x3))] → W p l e rm_X4_digest s m args below meth c H locs 0 0 (MQ below (z_Ql G r mu1 s.heap.size) args s 0 0 (z_A G s.heap.size)) (F0 m 6 ls []) := by
  have hx := C.1
  have hb := C.2.1
  have hts := C.2.2.2.2
  intro n
  induction n with
  | zero =>
    intro x1 x3 μ h
    rw [f_X4_digest_b6] at h
    cases h
  | succ n ih =>
    intro x1 x3 μ h H locs hP hS ls hl
    rw [f_X4_digest_b6] at h
    refine lv_iload_n hx hb dX4_digest_6 rfl (lv_at hl 2 rfl) ?_
    refine lv_bipush (v := 13) hx hb dX4_digest_7 (by decide) ?_
    refine lv_icmp_ge (tgt := 31) hx hb dX4_digest_9 (by decide) (fun hc1 => ?_) (fun hc1 => ?_)
    · have h := z_ip hc1 h
      refine lv_ldc2 hx hb C.2.2.2.1 (C.2.2.2.2 _ wX4_digest_1) dX4_digest_31 ?_
      refine lv_lload_n hx hb dX4_digest_34 rfl (lv_at hl 1 rfl) ?_
      refine lv_lmul hx hb dX4_digest_35 ?_
      refine lv_aload_n hx hb dX4_digest_36 rfl (lv_at hl 0 rfl) ?_
      refine z_get C Z hP (k := 119) (ci := 4) (j := 0) (N := 12) (v := .ref (G.2.1 (120))) (by decide) (z_E_119 _) rfl inX4_digest_X4 (by decide) wX4_digest_2 rfl dX4_digest_37 ?_
      refine lv_iconst (v := 2) hx hb dX4_digest_40 (by decide) ?_
      refine z_iald C Z hP (k := 120) (n := 1710) (j := 2) (by decide) (z_E_120 _) (show z_ix 2 1710 by decide) rfl dX4_digest_41 ?_
      refine lv_i2l (v := (((μ (120) 2)).toInt64)) hx hb dX4_digest_42 rfl ?_
      refine lv_ladd hx hb dX4_digest_43 ?_
      refine lv_lstore_n (lv' := [(1, .long ((((31 : Int64) * x1) + (((μ (120) 2)).toInt64)))), (0, .ref (G.2.1 (119))), (3, .int (x3))]) hx hb dX4_digest_44 rfl hl (by decide) rfl (fun ls hl => ?_)
      refine lv_iconst (v := 0) hx hb dX4_digest_45 (by decide) ?_
      refine lv_istore_n (lv' := [(3, .int (0)), (1, .long ((((31 : Int64) * x1) + (((μ (120) 2)).toInt64)))), (0, .ref (G.2.1 (119)))]) hx hb dX4_digest_46 rfl hl (by decide) rfl (fun ls hl => ?_)
      exact L_X4_digest_b47 C hr hlk Z z_F _ _ _ h _ _ hP hS ls (lv_sub hl [2, 1, 0] rfl)
    · have h := z_in hc1 h
      refine lv_ldc2 hx hb C.2.2.2.1 (C.2.2.2.2 _ wX4_digest_1) dX4_digest_12 ?_
      refine lv_lload_n hx hb dX4_digest_15 rfl (lv_at hl 1 rfl) ?_
      refine lv_lmul hx hb dX4_digest_16 ?_
      refine lv_aload_n hx hb dX4_digest_17 rfl (lv_at hl 0 rfl) ?_
      refine lv_iload_n hx hb dX4_digest_18 rfl (lv_at hl 2 rfl) ?_
      obtain ⟨r38, m39, e40, h⟩ := zb_some h
      refine z_calli hS (va_runV (As := [.int (x3)]) (rest := [.long (((31 : Int64) * x1))]) C (c_X4_counted l G e40 _) (cwV 1 hts gX4_digest_X4_counted rfl rfl rfl hv_X4_counted ⟨Nat.le_of_ble_eq_true rfl, Nat.le_of_ble_eq_true rfl⟩) (z_preV Z hS hP (by decide) (z_E_119 _) rfl rfl) rfl rfl hl.1 rfl (lv_room (Nat.le_of_ble_eq_true rfl)) dX4_digest_19 ⟨Nat.zero_le _, Nat.zero_le _⟩) (fun H locs hP hS => ?_)
      refine lv_i2l (v := ((r38).toInt64)) hx hb dX4_digest_22 rfl ?_
      refine lv_ladd hx hb dX4_digest_23 ?_
      refine lv_lstore_n (lv' := [(1, .long ((((31 : Int64) * x1) + ((r38).toInt64)))), (0, .ref (G.2.1 (119))), (3, .int (x3))]) hx hb dX4_digest_24 rfl hl (by decide) rfl (fun ls hl => ?_)
      refine lv_iinc (v := (x3 + 1)) (lv' := [(3, .int ((x3 + 1))), (1, .long ((((31 : Int64) * x1) + ((r38).toInt64)))), (0, .ref (G.2.1 (119)))]) hx hb dX4_digest_25 hl (k := 2) rfl rfl (by decide) rfl (fun ls hl => ?_)
      refine lv_goto (tgt := 6) hx hb dX4_digest_28 (by decide) ?_
      exact ih _ _ _ h _ _ hP hS ls (lv_sub hl [2, 1, 0] rfl)
set_option maxHeartbeats 4000000 in
set_option maxRecDepth 100000 in
theorem c_X4_digest (l : Launch) (G : zG) {μ mu1 : Mm} {r : Int64} (h : f_X4_digest μ = some (r, mu1)) (sz : Nat) : Met l yX4_digest wsX4_digest rm_X4_digest (z_Pre G μ [.ref (G.2.1 (119))] sz) (z_Ql G r mu1 sz) 0 0 (z_A G sz) := by
  refine z_start (cc := cX4_digest) (maxL := 4) (ret := (some .long)) (own := RX4) (by decide) rfl rfl (Nat.le_of_ble_eq_true rfl) (fun p e s m args below meth c C hr hlk Z hP ls hl => ?_) sz
  have hx := C.1
  have hb := C.2.1
  have hts := C.2.2.2.2
  have hS : va_S (z_A G s.heap.size) s.heap s.heap [] := va_S.rf
  have hl : lv_has ls 4 [(0, .ref (G.2.1 (119)))] := hl
  unfold f_X4_digest at h
  refine lv_ldc2 hx hb C.2.2.2.1 (C.2.2.2.2 _ wX4_digest_0) dX4_digest_0 ?_
  refine lv_lstore_n (lv' := [(1, .long ((3559 : Int64))), (0, .ref (G.2.1 (119)))]) hx hb dX4_digest_3 rfl hl (by decide) rfl (fun ls hl => ?_)
  refine lv_iconst (v := 0) hx hb dX4_digest_4 (by decide) ?_
  refine lv_istore_n (lv' := [(3, .int (0)), (1, .long ((3559 : Int64))), (0, .ref (G.2.1 (119)))]) hx hb dX4_digest_5 rfl hl (by decide) rfl (fun ls hl => ?_)
  exact L_X4_digest_b6 C hr hlk Z z_F _ _ _ h _ _ hP hS ls (lv_sub hl [2, 1, 0] rfl)
