abbrev rm_X4_shaves : Room := { frames := 2, cells := 0, slots := 0, locals := 44 }
theorem hd_X4_shaves : yX4_shaves.cls ≠ "java/lang/invoke/MethodHandle" ∧ yX4_shaves.cls ≠ "java/lang/invoke/VarHandle" ∧ (parseMethodDescriptor yX4_shaves.desc).map (fun d => d.parameters.length) = some 1 := by decide +kernel
theorem hv_X4_shaves : yX4_shaves.cls = RX4 ∧ yX4_shaves.cls ≠ "java/lang/invoke/MethodHandle" ∧ yX4_shaves.cls ≠ "java/lang/invoke/VarHandle" ∧ (parseMethodDescriptor yX4_shaves.desc).map (fun d => d.parameters.length) = some 1 := ⟨rfl, hd_X4_shaves⟩
theorem wX4_shaves_0 : Cond.fieldLink RX4 7 "WaxCopiesModel" "s" "[I" ∈ wsX4_shaves := by decide +kernel
theorem inX4_shaves_X4 : ∀ w ∈ wsX40, w ∈ wsX4_shaves := by decide +kernel
set_option maxHeartbeats 4000000 in
set_option maxRecDepth 100000 in
theorem c_X4_shaves (l : Launch) (G : zG) {x1 : Int32} {μ mu1 : Mm} {r : Int32} (h : f_X4_shaves x1 μ = some (r, mu1)) (sz : Nat) : Met l yX4_shaves wsX4_shaves rm_X4_shaves (z_Pre G μ [.ref (G.2.1 (119)), .int (x1)] sz) (z_Qi G r mu1 sz) 0 0 (z_A G sz) := by
  refine z_start (cc := cX4_shaves) (maxL := 3) (ret := (some .int)) (own := RX4) (by decide) rfl rfl (Nat.le_of_ble_eq_true rfl) (fun p e s m args below meth c C hr hlk Z hP ls hl => ?_) sz
  have hx := C.1
  have hb := C.2.1
  have hts := C.2.2.2.2
  have hS : va_S (z_A G s.heap.size) s.heap s.heap [] := va_S.rf
  have hl : lv_has ls 3 [(0, .ref (G.2.1 (119))), (1, .int (x1))] := hl
  unfold f_X4_shaves at h
  refine lv_aload_n hx hb dX4_shaves_0 rfl (lv_at hl 0 rfl) ?_
  refine lv_iload_n hx hb dX4_shaves_1 rfl (lv_at hl 1 rfl) ?_
  obtain ⟨r1, m2, e3, h⟩ := zb_some h
  refine z_calli hS (va_runV (As := [.int (x1)]) (rest := []) C (c_X4_deepest l G e3 _) (cwV 1 hts gX4_shaves_X4_deepest rfl rfl rfl hv_X4_deepest ⟨Nat.le_of_ble_eq_true rfl, Nat.le_of_ble_eq_true rfl⟩) (z_preV Z hS hP (by decide) (z_E_119 _) rfl rfl) rfl rfl hl.1 rfl (lv_room (Nat.le_of_ble_eq_true rfl)) dX4_shaves_2 ⟨Nat.zero_le _, Nat.zero_le _⟩) (fun H locs hP hS => ?_)
  refine lv_istore_n (lv' := [(2, .int (r1)), (0, .ref (G.2.1 (119))), (1, .int (x1))]) hx hb dX4_shaves_5 rfl hl (by decide) rfl (fun ls hl => ?_)
  refine lv_iload_n hx hb dX4_shaves_6 rfl (lv_at hl 0 rfl) ?_
  refine lv_if_ne (tgt := 23) hx hb dX4_shaves_7 (by decide) (fun hc4 => ?_) (fun hc4 => ?_)
  · have h := z_in hc4 h
    refine lv_aload_n hx hb dX4_shaves_23 rfl (lv_at hl 1 rfl) ?_
    refine z_get C Z hP (k := 119) (ci := 4) (j := 0) (N := 12) (v := .ref (G.2.1 (120))) (by decide) (z_E_119 _) rfl inX4_shaves_X4 (by decide) wX4_shaves_0 rfl dX4_shaves_24 ?_
    refine lv_bipush (v := 10) hx hb dX4_shaves_27 (by decide) ?_
    refine lv_iconst (v := 2) hx hb dX4_shaves_29 (by decide) ?_
    refine lv_iload_n hx hb dX4_shaves_30 rfl (lv_at hl 2 rfl) ?_
    refine lv_imul hx hb dX4_shaves_31 ?_
    refine lv_iadd hx hb dX4_shaves_32 ?_
    refine lv_dup2_11 hx hb dX4_shaves_33 rfl rfl ?_
    obtain ⟨hg5, h⟩ := z_g h
    refine z_iald C Z hP (k := 120) (n := 1710) (j := ((10 + (2 * x1))).toNatClampNeg) (by decide) (z_E_120 _) hg5 rfl dX4_shaves_34 ?_
    refine lv_iload_n hx hb dX4_shaves_35 rfl (lv_at hl 0 rfl) ?_
    refine lv_isub hx hb dX4_shaves_36 ?_
    refine z_iast C Z hP hS (k := 120) (n := 1710) (j := ((10 + (2 * x1))).toNatClampNeg) (by decide) (fun r => z_E_120 r) hg5 rfl dX4_shaves_37 (fun H locs hP hS => ?_)
    refine lv_aload_n hx hb dX4_shaves_38 rfl (lv_at hl 1 rfl) ?_
    obtain ⟨m6, hm7, h⟩ := zm_some h
    rw [← hm7] at hP
    refine z_get C Z hP (k := 119) (ci := 4) (j := 0) (N := 12) (v := .ref (G.2.1 (120))) (by decide) (z_E_119 _) rfl inX4_shaves_X4 (by decide) wX4_shaves_0 rfl dX4_shaves_39 ?_
    refine lv_bipush (v := 10) hx hb dX4_shaves_42 (by decide) ?_
    refine lv_iconst (v := 2) hx hb dX4_shaves_44 (by decide) ?_
    refine lv_iload_n hx hb dX4_shaves_45 rfl (lv_at hl 2 rfl) ?_
    refine lv_imul hx hb dX4_shaves_46 ?_
    refine lv_iadd hx hb dX4_shaves_47 ?_
    refine lv_iconst (v := 1) hx hb dX4_shaves_48 (by decide) ?_
    refine lv_iadd hx hb dX4_shaves_49 ?_
    refine lv_dup2_11 hx hb dX4_shaves_50 rfl rfl ?_
    obtain ⟨hg8, h⟩ := z_g h
    refine z_iald C Z hP (k := 120) (n := 1710) (j := (((10 + (2 * x1)) + 1)).toNatClampNeg) (by decide) (z_E_120 _) hg8 rfl dX4_shaves_51 ?_
    refine lv_iconst (v := 1) hx hb dX4_shaves_52 (by decide) ?_
    refine lv_iadd hx hb dX4_shaves_53 ?_
    refine z_iast C Z hP hS (k := 120) (n := 1710) (j := (((10 + (2 * x1)) + 1)).toNatClampNeg) (by decide) (fun r => z_E_120 r) hg8 rfl dX4_shaves_54 (fun H locs hP hS => ?_)
    refine lv_aload_n hx hb dX4_shaves_55 rfl (lv_at hl 1 rfl) ?_
    obtain ⟨m9, hm10, h⟩ := zm_some h
    rw [← hm10] at hP
    refine z_get C Z hP (k := 119) (ci := 4) (j := 0) (N := 12) (v := .ref (G.2.1 (120))) (by decide) (z_E_119 _) rfl inX4_shaves_X4 (by decide) wX4_shaves_0 rfl dX4_shaves_56 ?_
    refine lv_bipush (v := 6) hx hb dX4_shaves_59 (by decide) ?_
    refine lv_dup2_11 hx hb dX4_shaves_61 rfl rfl ?_
    refine z_iald C Z hP (k := 120) (n := 1710) (j := 6) (by decide) (z_E_120 _) (show z_ix 6 1710 by decide) rfl dX4_shaves_62 ?_
    refine lv_iload_n hx hb dX4_shaves_63 rfl (lv_at hl 0 rfl) ?_
    refine lv_iadd hx hb dX4_shaves_64 ?_
    refine z_iast C Z hP hS (k := 120) (n := 1710) (j := 6) (by decide) (fun r => z_E_120 r) (show z_ix 6 1710 by decide) rfl dX4_shaves_65 (fun H locs hP hS => ?_)
    refine lv_aload_n hx hb dX4_shaves_66 rfl (lv_at hl 1 rfl) ?_
    refine lv_iload_n hx hb dX4_shaves_67 rfl (lv_at hl 2 rfl) ?_
    obtain ⟨r11, m12, e13, h⟩ := zb_some h
    refine z_callv hS (va_runV (As := [.int (x1)]) (rest := []) C (c_X4_smooths l G e13 _) (cwV 1 hts gX4_shaves_X4_smooths rfl rfl rfl hv_X4_smooths ⟨Nat.le_of_ble_eq_true rfl, Nat.le_of_ble_eq_true rfl⟩) (z_preV Z hS hP (by decide) (z_E_119 _) rfl rfl) rfl rfl hl.1 rfl (lv_room (Nat.le_of_ble_eq_true rfl)) dX4_shaves_68 ⟨Nat.zero_le _, Nat.zero_le _⟩) (fun H locs hP hS => ?_)
    refine lv_iload_n hx hb dX4_shaves_71 rfl (lv_at hl 0 rfl) ?_
    cases h
    exact z_reti C hr hlk hP hS dX4_shaves_72
  · have h := z_ip hc4 h
    refine lv_aload_n hx hb dX4_shaves_10 rfl (lv_at hl 1 rfl) ?_
    refine z_get C Z hP (k := 119) (ci := 4) (j := 0) (N := 12) (v := .ref (G.2.1 (120))) (by decide) (z_E_119 _) rfl inX4_shaves_X4 (by decide) wX4_shaves_0 rfl dX4_shaves_11 ?_
    refine lv_bipush (v := 9) hx hb dX4_shaves_14 (by decide) ?_
    refine lv_dup2_11 hx hb dX4_shaves_16 rfl rfl ?_
    refine z_iald C Z hP (k := 120) (n := 1710) (j := 9) (by decide) (z_E_120 _) (show z_ix 9 1710 by decide) rfl dX4_shaves_17 ?_
    refine lv_iconst (v := 1) hx hb dX4_shaves_18 (by decide) ?_
    refine lv_iadd hx hb dX4_shaves_19 ?_
    refine z_iast C Z hP hS (k := 120) (n := 1710) (j := 9) (by decide) (fun r => z_E_120 r) (show z_ix 9 1710 by decide) rfl dX4_shaves_20 (fun H locs hP hS => ?_)
    refine lv_iconst (v := (-1)) hx hb dX4_shaves_21 (by decide) ?_
    cases h
    exact z_reti C hr hlk hP hS dX4_shaves_22
abbrev rm_X4_speak : Room := { frames := 4, cells := 0, slots := 0, locals := 86 }
theorem hd_X4_speak : yX4_speak.cls ≠ "java/lang/invoke/MethodHandle" ∧ yX4_speak.cls ≠ "java/lang/invoke/VarHandle" ∧ (parseMethodDescriptor yX4_speak.desc).map (fun d => d.parameters.length) = some 2 := by decide +kernel
theorem hv_X4_speak : yX4_speak.cls = RX4 ∧ yX4_speak.cls ≠ "java/lang/invoke/MethodHandle" ∧ yX4_speak.cls ≠ "java/lang/invoke/VarHandle" ∧ (parseMethodDescriptor yX4_speak.desc).map (fun d => d.parameters.length) = some 2 := ⟨rfl, hd_X4_speak⟩
set_option maxHeartbeats 4000000 in
set_option maxRecDepth 100000 in
theorem c_X4_speak (l : Launch) (G : zG) {x1 : Int32} {x2 : Int32} {μ mu1 : Mm} {r : Int32} (h : f_X4_speak x1 x2 μ = some (r, mu1)) (sz : Nat) : Met l yX4_speak wsX4_speak rm_X4_speak (z_Pre G μ [.ref (G.2.1 (119)), .int (x1), .int (x2)] sz) (z_Qi G r mu1 sz) 0 0 (z_A G sz) := by
  refine z_start (cc := cX4_speak) (maxL := 3) (ret := (some .int)) (own := RX4) (by decide) rfl rfl (Nat.le_of_ble_eq_true rfl) (fun p e s m args below meth c C hr hlk Z hP ls hl => ?_) sz
  have hx := C.1
  have hb := C.2.1
  have hts := C.2.2.2.2
  have hS : va_S (z_A G s.heap.size) s.heap s.heap [] := va_S.rf
  have hl : lv_has ls 3 [(0, .ref (G.2.1 (119))), (1, .int (x1)), (2, .int (x2))] := hl
  unfold f_X4_speak at h
  refine lv_aload_n hx hb dX4_speak_0 rfl (lv_at hl 0 rfl) ?_
  refine lv_iload_n hx hb dX4_speak_1 rfl (lv_at hl 1 rfl) ?_
  obtain ⟨r1, m2, e3, h⟩ := zb_some h
  refine z_calli hS (va_runS (As := [.int (x1)]) (rest := [.ref (G.2.1 (119))]) C (c_X4_isTrack l G e3 _) (va_cwS 1 hts gX4_speak_X4_isTrack rfl rfl rfl hd_X4_isTrack ⟨Nat.le_of_ble_eq_true rfl, Nat.le_of_ble_eq_true rfl⟩) (z_preS Z hS hP) rfl rfl hl.1 rfl (lv_room (Nat.le_of_ble_eq_true rfl)) dX4_speak_2 ⟨Nat.zero_le _, Nat.zero_le _⟩) (fun H locs hP hS => ?_)
  refine lv_iload_n hx hb dX4_speak_5 rfl (lv_at hl 2 rfl) ?_
  refine lv_iconst (v := 1) hx hb dX4_speak_6 (by decide) ?_
  refine lv_bipush (v := 9) hx hb dX4_speak_7 (by decide) ?_
  obtain ⟨r4, m5, e6, h⟩ := zb_some h
  refine z_calli hS (va_runS (As := [.int (x2), .int (1), .int (9)]) (rest := [.int (r1), .ref (G.2.1 (119))]) C (c_X4_in l G e6 _) (va_cwS 3 hts gX4_speak_X4_in rfl rfl rfl hd_X4_in ⟨Nat.le_of_ble_eq_true rfl, Nat.le_of_ble_eq_true rfl⟩) (z_preS Z hS hP) rfl rfl hl.1 rfl (lv_room (Nat.le_of_ble_eq_true rfl)) dX4_speak_9 ⟨Nat.zero_le _, Nat.zero_le _⟩) (fun H locs hP hS => ?_)
  obtain ⟨r7, m8, e9, h⟩ := zb_some h
  refine z_calli hS (va_runV (As := [.int (r1), .int (r4)]) (rest := []) C (c_X4_goes l G e9 _) (cwV 2 hts gX4_speak_X4_goes rfl rfl rfl hv_X4_goes ⟨Nat.le_of_ble_eq_true rfl, Nat.le_of_ble_eq_true rfl⟩) (z_preV Z hS hP (by decide) (z_E_119 _) rfl rfl) rfl rfl hl.1 rfl (lv_room (Nat.le_of_ble_eq_true rfl)) dX4_speak_12 ⟨Nat.zero_le _, Nat.zero_le _⟩) (fun H locs hP hS => ?_)
  refine lv_if_ne (tgt := 20) hx hb dX4_speak_15 (by decide) (fun hc10 => ?_) (fun hc10 => ?_)
  · have h := z_in hc10 h
    refine lv_aload_n hx hb dX4_speak_20 rfl (lv_at hl 0 rfl) ?_
    obtain ⟨r11, m12, e13, h⟩ := zb_some h
    refine z_callv hS (va_runV (As := []) (rest := []) C (c_X4_saves l G e13 _) (cwV 0 hts gX4_speak_X4_saves rfl rfl rfl hv_X4_saves ⟨Nat.le_of_ble_eq_true rfl, Nat.le_of_ble_eq_true rfl⟩) (z_preV Z hS hP (by decide) (z_E_119 _) rfl rfl) rfl rfl hl.1 rfl (lv_room (Nat.le_of_ble_eq_true rfl)) dX4_speak_21 ⟨Nat.zero_le _, Nat.zero_le _⟩) (fun H locs hP hS => ?_)
    refine lv_aload_n hx hb dX4_speak_24 rfl (lv_at hl 0 rfl) ?_
    refine lv_iload_n hx hb dX4_speak_25 rfl (lv_at hl 1 rfl) ?_
    refine lv_iload_n hx hb dX4_speak_26 rfl (lv_at hl 2 rfl) ?_
    obtain ⟨r14, m15, e16, h⟩ := zb_some h
    refine z_calli hS (va_runV (As := [.int (x1), .int (x2)]) (rest := []) C (c_X4_speaks l G e16 _) (cwV 2 hts gX4_speak_X4_speaks rfl rfl rfl hv_X4_speaks ⟨Nat.le_of_ble_eq_true rfl, Nat.le_of_ble_eq_true rfl⟩) (z_preV Z hS hP (by decide) (z_E_119 _) rfl rfl) rfl rfl hl.1 rfl (lv_room (Nat.le_of_ble_eq_true rfl)) dX4_speak_27 ⟨Nat.zero_le _, Nat.zero_le _⟩) (fun H locs hP hS => ?_)
    cases h
    exact z_reti C hr hlk hP hS dX4_speak_30
  · have h := z_ip hc10 h
    refine lv_iconst (v := 0) hx hb dX4_speak_18 (by decide) ?_
    cases h
    exact z_reti C hr hlk hP hS dX4_speak_19
abbrev rm_X4_copy : Room := { frames := 4, cells := 0, slots := 0, locals := 90 }
theorem hd_X4_copy : yX4_copy.cls ≠ "java/lang/invoke/MethodHandle" ∧ yX4_copy.cls ≠ "java/lang/invoke/VarHandle" ∧ (parseMethodDescriptor yX4_copy.desc).map (fun d => d.parameters.length) = some 3 := by decide +kernel
theorem hv_X4_copy : yX4_copy.cls = RX4 ∧ yX4_copy.cls ≠ "java/lang/invoke/MethodHandle" ∧ yX4_copy.cls ≠ "java/lang/invoke/VarHandle" ∧ (parseMethodDescriptor yX4_copy.desc).map (fun d => d.parameters.length) = some 3 := ⟨rfl, hd_X4_copy⟩
set_option maxHeartbeats 4000000 in
set_option maxRecDepth 100000 in
theorem L_X4_copy_b20 {p : Program} {l : Launch} {e : Env} {s : State} {m : MethodId} {args : Array Value} {below : List Frame} {meth : Method} {c : Code} {G : zG} {r : Int32} {mu1 : Mm}  (C : CallFix p m c cX4_copy 4 s args wsX4_copy RX4) (hr : meth.sig.returnType = (some .int)) (hlk : meth.locks = false) (Z : z_Z G (z_A G s.heap.size) s)  :
    ∀ (x1 : Int32) (x2 : Int32) (x3 : Int32) (y0 : Int32) (μ : Mm), f_X4_copy_b20  x1 x2 x3 y0 μ = some (r, mu1) → ∀ (H : Heap) (locs : List Loc), z_P G μ H → va_S (z_A G s.heap.size) s.heap H locs → ∀ ls : Array Slot, lv_has ls 4 [(0, .ref (G.2.1 (119))), (1, .int (x1)), (2, .int (x2)), (3, .int (x3))] → W p l e rm_X4_copy s m args below meth c H locs 0 0 (MQ below (z_Qi G r mu1 s.heap.size) args s 0 0 (z_A G s.heap.size)) (F0 m 20 ls [.int (y0), .ref (G.2.1 (119))]) := by
  have hx := C.1
  have hb := C.2.1
  have hts := C.2.2.2.2
  intro x1 x2 x3 y0 μ h H locs hP hS ls hl
  unfold f_X4_copy_b20 at h
  refine lv_iload_n hx hb dX4_copy_20 rfl (lv_at hl 3 rfl) ?_
  refine lv_iconst (v := 1) hx hb dX4_copy_21 (by decide) ?_
  refine lv_iconst (v := 3) hx hb dX4_copy_22 (by decide) ?_
  obtain ⟨r5, m6, e7, h⟩ := zb_some h
  refine z_calli hS (va_runS (As := [.int (x3), .int (1), .int (3)]) (rest := [.int (y0), .ref (G.2.1 (119))]) C (c_X4_in l G e7 _) (va_cwS 3 hts gX4_copy_X4_in rfl rfl rfl hd_X4_in ⟨Nat.le_of_ble_eq_true rfl, Nat.le_of_ble_eq_true rfl⟩) (z_preS Z hS hP) rfl rfl hl.1 rfl (lv_room (Nat.le_of_ble_eq_true rfl)) dX4_copy_23 ⟨Nat.zero_le _, Nat.zero_le _⟩) (fun H locs hP hS => ?_)
  obtain ⟨r8, m9, e10, h⟩ := zb_some h
  refine z_calli hS (va_runV (As := [.int (y0), .int (r5)]) (rest := []) C (c_X4_goes l G e10 _) (cwV 2 hts gX4_copy_X4_goes rfl rfl rfl hv_X4_goes ⟨Nat.le_of_ble_eq_true rfl, Nat.le_of_ble_eq_true rfl⟩) (z_preV Z hS hP (by decide) (z_E_119 _) rfl rfl) rfl rfl hl.1 rfl (lv_room (Nat.le_of_ble_eq_true rfl)) dX4_copy_26 ⟨Nat.zero_le _, Nat.zero_le _⟩) (fun H locs hP hS => ?_)
  refine lv_if_ne (tgt := 34) hx hb dX4_copy_29 (by decide) (fun hc11 => ?_) (fun hc11 => ?_)
  · have h := z_in hc11 h
    refine lv_aload_n hx hb dX4_copy_34 rfl (lv_at hl 0 rfl) ?_
    obtain ⟨r12, m13, e14, h⟩ := zb_some h
    refine z_callv hS (va_runV (As := []) (rest := []) C (c_X4_saves l G e14 _) (cwV 0 hts gX4_copy_X4_saves rfl rfl rfl hv_X4_saves ⟨Nat.le_of_ble_eq_true rfl, Nat.le_of_ble_eq_true rfl⟩) (z_preV Z hS hP (by decide) (z_E_119 _) rfl rfl) rfl rfl hl.1 rfl (lv_room (Nat.le_of_ble_eq_true rfl)) dX4_copy_35 ⟨Nat.zero_le _, Nat.zero_le _⟩) (fun H locs hP hS => ?_)
    refine lv_aload_n hx hb dX4_copy_38 rfl (lv_at hl 0 rfl) ?_
    refine lv_iload_n hx hb dX4_copy_39 rfl (lv_at hl 1 rfl) ?_
    refine lv_iload_n hx hb dX4_copy_40 rfl (lv_at hl 2 rfl) ?_
    refine lv_iload_n hx hb dX4_copy_41 rfl (lv_at hl 3 rfl) ?_
    obtain ⟨r15, m16, e17, h⟩ := zb_some h
    refine z_calli hS (va_runV (As := [.int (x1), .int (x2), .int (x3)]) (rest := []) C (c_X4_makes l G e17 _) (cwV 3 hts gX4_copy_X4_makes rfl rfl rfl hv_X4_makes ⟨Nat.le_of_ble_eq_true rfl, Nat.le_of_ble_eq_true rfl⟩) (z_preV Z hS hP (by decide) (z_E_119 _) rfl rfl) rfl rfl hl.1 rfl (lv_room (Nat.le_of_ble_eq_true rfl)) dX4_copy_42 ⟨Nat.zero_le _, Nat.zero_le _⟩) (fun H locs hP hS => ?_)
    cases h
    exact z_reti C hr hlk hP hS dX4_copy_45
  · have h := z_ip hc11 h
    refine lv_iconst (v := 0) hx hb dX4_copy_32 (by decide) ?_
    cases h
    exact z_reti C hr hlk hP hS dX4_copy_33
set_option maxHeartbeats 4000000 in
set_option maxRecDepth 100000 in
theorem c_X4_copy (l : Launch) (G : zG) {x1 : Int32} {x2 : Int32} {x3 : Int32} {μ mu1 : Mm} {r : Int32} (h : f_X4_copy x1 x2 x3 μ = some (r, mu1)) (sz : Nat) : Met l yX4_copy wsX4_copy rm_X4_copy (z_Pre G μ [.ref (G.2.1 (119)), .int (x1), .int (x2), .int (x3)] sz) (z_Qi G r mu1 sz) 0 0 (z_A G sz) := by
  refine z_start (cc := cX4_copy) (maxL := 4) (ret := (some .int)) (own := RX4) (by decide) rfl rfl (Nat.le_of_ble_eq_true rfl) (fun p e s m args below meth c C hr hlk Z hP ls hl => ?_) sz
  have hx := C.1
  have hb := C.2.1
  have hts := C.2.2.2.2
  have hS : va_S (z_A G s.heap.size) s.heap s.heap [] := va_S.rf
  have hl : lv_has ls 4 [(0, .ref (G.2.1 (119))), (1, .int (x1)), (2, .int (x2)), (3, .int (x3))] := hl
  unfold f_X4_copy at h
  refine lv_aload_n hx hb dX4_copy_0 rfl (lv_at hl 0 rfl) ?_
  refine lv_iload_n hx hb dX4_copy_1 rfl (lv_at hl 1 rfl) ?_
  obtain ⟨r1, m2, e3, h⟩ := zb_some h
  refine z_calli hS (va_runS (As := [.int (x1)]) (rest := [.ref (G.2.1 (119))]) C (c_X4_isTrack l G e3 _) (va_cwS 1 hts gX4_copy_X4_isTrack rfl rfl rfl hd_X4_isTrack ⟨Nat.le_of_ble_eq_true rfl, Nat.le_of_ble_eq_true rfl⟩) (z_preS Z hS hP) rfl rfl hl.1 rfl (lv_room (Nat.le_of_ble_eq_true rfl)) dX4_copy_2 ⟨Nat.zero_le _, Nat.zero_le _⟩) (fun H locs hP hS => ?_)
  refine lv_if_eq (tgt := 19) hx hb dX4_copy_5 (by decide) (fun hc4 => ?_) (fun hc4 => ?_)
  · have h := z_ip hc4 h
    refine lv_iconst (v := 0) hx hb dX4_copy_19 (by decide) ?_
    exact L_X4_copy_b20 C hr hlk Z _ _ _ _ _ h _ _ hP hS ls (lv_sub hl [0, 1, 2, 3] rfl)
  · have h := z_in hc4 h
    refine lv_iload_n hx hb dX4_copy_8 rfl (lv_at hl 2 rfl) ?_
    obtain ⟨r18, m19, e20, h⟩ := zb_some h
    refine z_calli hS (va_runS (As := [.int (x2)]) (rest := [.ref (G.2.1 (119))]) C (c_X4_isTrack l G e20 _) (va_cwS 1 hts gX4_copy_X4_isTrack rfl rfl rfl hd_X4_isTrack ⟨Nat.le_of_ble_eq_true rfl, Nat.le_of_ble_eq_true rfl⟩) (z_preS Z hS hP) rfl rfl hl.1 rfl (lv_room (Nat.le_of_ble_eq_true rfl)) dX4_copy_9 ⟨Nat.zero_le _, Nat.zero_le _⟩) (fun H locs hP hS => ?_)
    refine lv_if_eq (tgt := 19) hx hb dX4_copy_12 (by decide) (fun hc21 => ?_) (fun hc21 => ?_)
    · have h := z_ip hc21 h
      refine lv_iconst (v := 0) hx hb dX4_copy_19 (by decide) ?_
      exact L_X4_copy_b20 C hr hlk Z _ _ _ _ _ h _ _ hP hS ls (lv_sub hl [0, 1, 2, 3] rfl)
    · have h := z_in hc21 h
      refine lv_iconst (v := 1) hx hb dX4_copy_15 (by decide) ?_
      refine lv_goto (tgt := 20) hx hb dX4_copy_16 (by decide) ?_
      exact L_X4_copy_b20 C hr hlk Z _ _ _ _ _ h _ _ hP hS ls (lv_sub hl [0, 1, 2, 3] rfl)
abbrev rm_X4_play : Room := { frames := 4, cells := 0, slots := 0, locals := 85 }
theorem hd_X4_play : yX4_play.cls ≠ "java/lang/invoke/MethodHandle" ∧ yX4_play.cls ≠ "java/lang/invoke/VarHandle" ∧ (parseMethodDescriptor yX4_play.desc).map (fun d => d.parameters.length) = some 1 := by decide +kernel
theorem hv_X4_play : yX4_play.cls = RX4 ∧ yX4_play.cls ≠ "java/lang/invoke/MethodHandle" ∧ yX4_play.cls ≠ "java/lang/invoke/VarHandle" ∧ (parseMethodDescriptor yX4_play.desc).map (fun d => d.parameters.length) = some 1 := ⟨rfl, hd_X4_play⟩
set_option maxHeartbeats 4000000 in
set_option maxRecDepth 100000 in
theorem c_X4_play (l : Launch) (G : zG) {x1 : Int32} {μ mu1 : Mm} {r : Int32} (h : f_X4_play x1 μ = some (r, mu1)) (sz : Nat) : Met l yX4_play wsX4_play rm_X4_play (z_Pre G μ [.ref (G.2.1 (119)), .int (x1)] sz) (z_Qi G r mu1 sz) 0 0 (z_A G sz) := by
  refine z_start (cc := cX4_play) (maxL := 2) (ret := (some .int)) (own := RX4) (by decide) rfl rfl (Nat.le_of_ble_eq_true rfl) (fun p e s m args below meth c C hr hlk Z hP ls hl => ?_) sz
  have hx := C.1
  have hb := C.2.1
  have hts := C.2.2.2.2
  have hS : va_S (z_A G s.heap.size) s.heap s.heap [] := va_S.rf
  have hl : lv_has ls 2 [(0, .ref (G.2.1 (119))), (1, .int (x1))] := hl
  unfold f_X4_play at h
  refine lv_aload_n hx hb dX4_play_0 rfl (lv_at hl 0 rfl) ?_
  refine lv_iload_n hx hb dX4_play_1 rfl (lv_at hl 1 rfl) ?_
  obtain ⟨r1, m2, e3, h⟩ := zb_some h
  refine z_calli hS (va_runS (As := [.int (x1)]) (rest := [.ref (G.2.1 (119))]) C (c_X4_isTrack l G e3 _) (va_cwS 1 hts gX4_play_X4_isTrack rfl rfl rfl hd_X4_isTrack ⟨Nat.le_of_ble_eq_true rfl, Nat.le_of_ble_eq_true rfl⟩) (z_preS Z hS hP) rfl rfl hl.1 rfl (lv_room (Nat.le_of_ble_eq_true rfl)) dX4_play_2 ⟨Nat.zero_le _, Nat.zero_le _⟩) (fun H locs hP hS => ?_)
  refine lv_iconst (v := 1) hx hb dX4_play_5 (by decide) ?_
  obtain ⟨r4, m5, e6, h⟩ := zb_some h
  refine z_calli hS (va_runV (As := [.int (r1), .int (1)]) (rest := []) C (c_X4_goes l G e6 _) (cwV 2 hts gX4_play_X4_goes rfl rfl rfl hv_X4_goes ⟨Nat.le_of_ble_eq_true rfl, Nat.le_of_ble_eq_true rfl⟩) (z_preV Z hS hP (by decide) (z_E_119 _) rfl rfl) rfl rfl hl.1 rfl (lv_room (Nat.le_of_ble_eq_true rfl)) dX4_play_6 ⟨Nat.zero_le _, Nat.zero_le _⟩) (fun H locs hP hS => ?_)
  refine lv_if_ne (tgt := 14) hx hb dX4_play_9 (by decide) (fun hc7 => ?_) (fun hc7 => ?_)
  · have h := z_in hc7 h
    refine lv_aload_n hx hb dX4_play_14 rfl (lv_at hl 0 rfl) ?_
    obtain ⟨r8, m9, e10, h⟩ := zb_some h
    refine z_callv hS (va_runV (As := []) (rest := []) C (c_X4_saves l G e10 _) (cwV 0 hts gX4_play_X4_saves rfl rfl rfl hv_X4_saves ⟨Nat.le_of_ble_eq_true rfl, Nat.le_of_ble_eq_true rfl⟩) (z_preV Z hS hP (by decide) (z_E_119 _) rfl rfl) rfl rfl hl.1 rfl (lv_room (Nat.le_of_ble_eq_true rfl)) dX4_play_15 ⟨Nat.zero_le _, Nat.zero_le _⟩) (fun H locs hP hS => ?_)
    refine lv_aload_n hx hb dX4_play_18 rfl (lv_at hl 0 rfl) ?_
    refine lv_iload_n hx hb dX4_play_19 rfl (lv_at hl 1 rfl) ?_
    obtain ⟨r11, m12, e13, h⟩ := zb_some h
    refine z_calli hS (va_runV (As := [.int (x1)]) (rest := []) C (c_X4_plays l G e13 _) (cwV 1 hts gX4_play_X4_plays rfl rfl rfl hv_X4_plays ⟨Nat.le_of_ble_eq_true rfl, Nat.le_of_ble_eq_true rfl⟩) (z_preV Z hS hP (by decide) (z_E_119 _) rfl rfl) rfl rfl hl.1 rfl (lv_room (Nat.le_of_ble_eq_true rfl)) dX4_play_20 ⟨Nat.zero_le _, Nat.zero_le _⟩) (fun H locs hP hS => ?_)
    cases h
    exact z_reti C hr hlk hP hS dX4_play_23
  · have h := z_ip hc7 h
    refine lv_iconst (v := 0) hx hb dX4_play_12 (by decide) ?_
    cases h
    exact z_reti C hr hlk hP hS dX4_play_13
abbrev rm_X4_shave : Room := { frames := 3, cells := 0, slots := 0, locals := 66 }
theorem hd_X4_shave : yX4_shave.cls ≠ "java/lang/invoke/MethodHandle" ∧ yX4_shave.cls ≠ "java/lang/invoke/VarHandle" ∧ (parseMethodDescriptor yX4_shave.desc).map (fun d => d.parameters.length) = some 1 := by decide +kernel
theorem hv_X4_shave : yX4_shave.cls = RX4 ∧ yX4_shave.cls ≠ "java/lang/invoke/MethodHandle" ∧ yX4_shave.cls ≠ "java/lang/invoke/VarHandle" ∧ (parseMethodDescriptor yX4_shave.desc).map (fun d => d.parameters.length) = some 1 := ⟨rfl, hd_X4_shave⟩
set_option maxHeartbeats 4000000 in
set_option maxRecDepth 100000 in
theorem c_X4_shave (l : Launch) (G : zG) {x1 : Int32} {μ mu1 : Mm} {r : Int32} (h : f_X4_shave x1 μ = some (r, mu1)) (sz : Nat) : Met l yX4_shave wsX4_shave rm_X4_shave (z_Pre G μ [.ref (G.2.1 (119)), .int (x1)] sz) (z_Qi G r mu1 sz) 0 0 (z_A G sz) := by
  refine z_start (cc := cX4_shave) (maxL := 2) (ret := (some .int)) (own := RX4) (by decide) rfl rfl (Nat.le_of_ble_eq_true rfl) (fun p e s m args below meth c C hr hlk Z hP ls hl => ?_) sz
  have hx := C.1
  have hb := C.2.1
  have hts := C.2.2.2.2
  have hS : va_S (z_A G s.heap.size) s.heap s.heap [] := va_S.rf
  have hl : lv_has ls 2 [(0, .ref (G.2.1 (119))), (1, .int (x1))] := hl
  unfold f_X4_shave at h
  refine lv_aload_n hx hb dX4_shave_0 rfl (lv_at hl 0 rfl) ?_
  refine lv_iload_n hx hb dX4_shave_1 rfl (lv_at hl 1 rfl) ?_
  obtain ⟨r1, m2, e3, h⟩ := zb_some h
  refine z_calli hS (va_runS (As := [.int (x1)]) (rest := [.ref (G.2.1 (119))]) C (c_X4_isCylinder l G e3 _) (va_cwS 1 hts gX4_shave_X4_isCylinder rfl rfl rfl hd_X4_isCylinder ⟨Nat.le_of_ble_eq_true rfl, Nat.le_of_ble_eq_true rfl⟩) (z_preS Z hS hP) rfl rfl hl.1 rfl (lv_room (Nat.le_of_ble_eq_true rfl)) dX4_shave_2 ⟨Nat.zero_le _, Nat.zero_le _⟩) (fun H locs hP hS => ?_)
  refine lv_iconst (v := 1) hx hb dX4_shave_5 (by decide) ?_
  obtain ⟨r4, m5, e6, h⟩ := zb_some h
  refine z_calli hS (va_runV (As := [.int (r1), .int (1)]) (rest := []) C (c_X4_goes l G e6 _) (cwV 2 hts gX4_shave_X4_goes rfl rfl rfl hv_X4_goes ⟨Nat.le_of_ble_eq_true rfl, Nat.le_of_ble_eq_true rfl⟩) (z_preV Z hS hP (by decide) (z_E_119 _) rfl rfl) rfl rfl hl.1 rfl (lv_room (Nat.le_of_ble_eq_true rfl)) dX4_shave_6 ⟨Nat.zero_le _, Nat.zero_le _⟩) (fun H locs hP hS => ?_)
  refine lv_if_ne (tgt := 14) hx hb dX4_shave_9 (by decide) (fun hc7 => ?_) (fun hc7 => ?_)
  · have h := z_in hc7 h
    refine lv_aload_n hx hb dX4_shave_14 rfl (lv_at hl 0 rfl) ?_
    obtain ⟨r8, m9, e10, h⟩ := zb_some h
    refine z_callv hS (va_runV (As := []) (rest := []) C (c_X4_saves l G e10 _) (cwV 0 hts gX4_shave_X4_saves rfl rfl rfl hv_X4_saves ⟨Nat.le_of_ble_eq_true rfl, Nat.le_of_ble_eq_true rfl⟩) (z_preV Z hS hP (by decide) (z_E_119 _) rfl rfl) rfl rfl hl.1 rfl (lv_room (Nat.le_of_ble_eq_true rfl)) dX4_shave_15 ⟨Nat.zero_le _, Nat.zero_le _⟩) (fun H locs hP hS => ?_)
    refine lv_aload_n hx hb dX4_shave_18 rfl (lv_at hl 0 rfl) ?_
    refine lv_iload_n hx hb dX4_shave_19 rfl (lv_at hl 1 rfl) ?_
    obtain ⟨r11, m12, e13, h⟩ := zb_some h
    refine z_calli hS (va_runV (As := [.int (x1)]) (rest := []) C (c_X4_shaves l G e13 _) (cwV 1 hts gX4_shave_X4_shaves rfl rfl rfl hv_X4_shaves ⟨Nat.le_of_ble_eq_true rfl, Nat.le_of_ble_eq_true rfl⟩) (z_preV Z hS hP (by decide) (z_E_119 _) rfl rfl) rfl rfl hl.1 rfl (lv_room (Nat.le_of_ble_eq_true rfl)) dX4_shave_20 ⟨Nat.zero_le _, Nat.zero_le _⟩) (fun H locs hP hS => ?_)
    cases h
    exact z_reti C hr hlk hP hS dX4_shave_23
  · have h := z_ip hc7 h
    refine lv_iconst (v := 0) hx hb dX4_shave_12 (by decide) ?_
    cases h
    exact z_reti C hr hlk hP hS dX4_shave_13
abbrev rm_X4_fillsUp : Room := { frames := 0, cells := 0, slots := 0, locals := 0 }
theorem hd_X4_fillsUp : yX4_fillsUp.cls ≠ "java/lang/invoke/MethodHandle" ∧ yX4_fillsUp.cls ≠ "java/lang/invoke/VarHandle" ∧ (parseMethodDescriptor yX4_fillsUp.desc).map (fun d => d.parameters.length) = some 1 := by decide +kernel
theorem hv_X4_fillsUp : yX4_fillsUp.cls = RX4 ∧ yX4_fillsUp.cls ≠ "java/lang/invoke/MethodHandle" ∧ yX4_fillsUp.cls ≠ "java/lang/invoke/VarHandle" ∧ (parseMethodDescriptor yX4_fillsUp.desc).map (fun d => d.parameters.length) = some 1 := ⟨rfl, hd_X4_fillsUp⟩
theorem wX4_fillsUp_0 : Cond.fieldLink RX4 7 "WaxCopiesModel" "s" "[I" ∈ wsX4_fillsUp := by decide +kernel
theorem inX4_fillsUp_X4 : ∀ w ∈ wsX40, w ∈ wsX4_fillsUp := by decide +kernel
set_option maxHeartbeats 4000000 in
set_option maxRecDepth 100000 in
theorem c_X4_fillsUp (l : Launch) (G : zG) {x1 : Int32} {μ mu1 : Mm} {r : Int32} (h : f_X4_fillsUp x1 μ = some (r, mu1)) (sz : Nat) : Met l yX4_fillsUp wsX4_fillsUp rm_X4_fillsUp (z_Pre G μ [.ref (G.2.1 (119)), .int (x1)] sz) (z_Qi G r mu1 sz) 0 0 (z_A G sz) := by
  refine z_start (cc := cX4_fillsUp) (maxL := 3) (ret := (some .int)) (own := RX4) (by decide) rfl rfl (Nat.le_of_ble_eq_true rfl) (fun p e s m args below meth c C hr hlk Z hP ls hl => ?_) sz
  have hx := C.1
  have hb := C.2.1
  have hts := C.2.2.2.2
  have hS : va_S (z_A G s.heap.size) s.heap s.heap [] := va_S.rf
  have hl : lv_has ls 3 [(0, .ref (G.2.1 (119))), (1, .int (x1))] := hl
  unfold f_X4_fillsUp at h
  refine lv_bipush (v := 100) hx hb dX4_fillsUp_0 (by decide) ?_
  refine lv_aload_n hx hb dX4_fillsUp_2 rfl (lv_at hl 0 rfl) ?_
  refine z_get C Z hP (k := 119) (ci := 4) (j := 0) (N := 12) (v := .ref (G.2.1 (120))) (by decide) (z_E_119 _) rfl inX4_fillsUp_X4 (by decide) wX4_fillsUp_0 rfl dX4_fillsUp_3 ?_
  refine lv_iload_n hx hb dX4_fillsUp_6 rfl (lv_at hl 1 rfl) ?_
  obtain ⟨hg1, h⟩ := z_g h
  refine z_iald C Z hP (k := 120) (n := 1710) (j := (x1).toNatClampNeg) (by decide) (z_E_120 _) hg1 rfl dX4_fillsUp_7 ?_
  refine lv_isub hx hb dX4_fillsUp_8 ?_
  refine lv_istore_n (lv' := [(2, .int ((100 - (μ (120) ((x1).toNatClampNeg))))), (0, .ref (G.2.1 (119))), (1, .int (x1))]) hx hb dX4_fillsUp_9 rfl hl (by decide) rfl (fun ls hl => ?_)
  refine lv_aload_n hx hb dX4_fillsUp_10 rfl (lv_at hl 1 rfl) ?_
  refine z_get C Z hP (k := 119) (ci := 4) (j := 0) (N := 12) (v := .ref (G.2.1 (120))) (by decide) (z_E_119 _) rfl inX4_fillsUp_X4 (by decide) wX4_fillsUp_0 rfl dX4_fillsUp_11 ?_
  refine lv_iload_n hx hb dX4_fillsUp_14 rfl (lv_at hl 2 rfl) ?_
  refine lv_bipush (v := 100) hx hb dX4_fillsUp_15 (by decide) ?_
  refine z_iast C Z hP hS (k := 120) (n := 1710) (j := (x1).toNatClampNeg) (by decide) (fun r => z_E_120 r) hg1 rfl dX4_fillsUp_17 (fun H locs hP hS => ?_)
  refine lv_iload_n hx hb dX4_fillsUp_18 rfl (lv_at hl 0 rfl) ?_
  cases h
  exact z_reti C hr hlk hP hS dX4_fillsUp_19
abbrev rm_X4_wind : Room := { frames := 2, cells := 0, slots := 0, locals := 44 }
theorem hd_X4_wind : yX4_wind.cls ≠ "java/lang/invoke/MethodHandle" ∧ yX4_wind.cls ≠ "java/lang/invoke/VarHandle" ∧ (parseMethodDescriptor yX4_wind.desc).map (fun d => d.parameters.length) = some 0 := by decide +kernel
theorem hv_X4_wind : yX4_wind.cls = RX4 ∧ yX4_wind.cls ≠ "java/lang/invoke/MethodHandle" ∧ yX4_wind.cls ≠ "java/lang/invoke/VarHandle" ∧ (parseMethodDescriptor yX4_wind.desc).map (fun d => d.parameters.length) = some 0 := ⟨rfl, hd_X4_wind⟩
theorem wX4_wind_0 : Cond.fieldLink RX4 27 "WaxCopiesModel" "thrown" "I" ∈ wsX4_wind := by decide +kernel
theorem inX4_wind_X4 : ∀ w ∈ wsX40, w ∈ wsX4_wind := by decide +kernel
set_option maxHeartbeats 4000000 in
set_option maxRecDepth 100000 in
theorem c_X4_wind (l : Launch) (G : zG) {μ mu1 : Mm} {r : Int32} (h : f_X4_wind μ = some (r, mu1)) (sz : Nat) : Met l yX4_wind wsX4_wind rm_X4_wind (z_Pre G μ [.ref (G.2.1 (119))] sz) (z_Qi G r mu1 sz) 0 0 (z_A G sz) := by
  refine z_start (cc := cX4_wind) (maxL := 1) (ret := (some .int)) (own := RX4) (by decide) rfl rfl (Nat.le_of_ble_eq_true rfl) (fun p e s m args below meth c C hr hlk Z hP ls hl => ?_) sz
  have hx := C.1
  have hb := C.2.1
  have hts := C.2.2.2.2
  have hS : va_S (z_A G s.heap.size) s.heap s.heap [] := va_S.rf
  have hl : lv_has ls 1 [(0, .ref (G.2.1 (119)))] := hl
  unfold f_X4_wind at h
  refine lv_aload_n hx hb dX4_wind_0 rfl (lv_at hl 0 rfl) ?_
  refine lv_iconst (v := 0) hx hb dX4_wind_1 (by decide) ?_
  refine z_put C Z hP hS (k := 119) (ci := 4) (j := 5) (N := 12) (x := 0) (v := .int (0)) (ty := .int) (by decide) (z_E_119 _) rfl inX4_wind_X4 tyX4_ok nmX4 (by decide) wX4_wind_0 rfl (by decide +kernel) rfl rfl (Nat.le_of_ble_eq_true rfl) (z_S_119_5 _ _) dX4_wind_2 (fun H locs hP hS => ?_)
  refine lv_aload_n hx hb dX4_wind_5 rfl (lv_at hl 0 rfl) ?_
  obtain ⟨r1, m2, e3, h⟩ := zb_some h
  refine z_callv hS (va_runV (As := []) (rest := []) C (c_X4_saves l G e3 _) (cwV 0 hts gX4_wind_X4_saves rfl rfl rfl hv_X4_saves ⟨Nat.le_of_ble_eq_true rfl, Nat.le_of_ble_eq_true rfl⟩) (z_preV Z hS hP (by decide) (z_E_119 _) rfl rfl) rfl rfl hl.1 rfl (lv_room (Nat.le_of_ble_eq_true rfl)) dX4_wind_6 ⟨Nat.zero_le _, Nat.zero_le _⟩) (fun H locs hP hS => ?_)
  refine lv_aload_n hx hb dX4_wind_9 rfl (lv_at hl 0 rfl) ?_
  refine lv_iconst (v := 1) hx hb dX4_wind_10 (by decide) ?_
  obtain ⟨r4, m5, e6, h⟩ := zb_some h
  refine z_calli hS (va_runV (As := [.int (1)]) (rest := []) C (c_X4_fillsUp l G e6 _) (cwV 1 hts gX4_wind_X4_fillsUp rfl rfl rfl hv_X4_fillsUp ⟨Nat.le_of_ble_eq_true rfl, Nat.le_of_ble_eq_true rfl⟩) (z_preV Z hS hP (by decide) (z_E_119 _) rfl rfl) rfl rfl hl.1 rfl (lv_room (Nat.le_of_ble_eq_true rfl)) dX4_wind_11 ⟨Nat.zero_le _, Nat.zero_le _⟩) (fun H locs hP hS => ?_)
  cases h
  exact z_reti C hr hlk hP hS dX4_wind_14
abbrev rm_X4_sharpen : Room := { frames := 2, cells := 0, slots := 0, locals := 44 }
theorem hd_X4_sharpen : yX4_sharpen.cls ≠ "java/lang/invoke/MethodHandle" ∧ yX4_sharpen.cls ≠ "java/lang/invoke/VarHandle" ∧ (parseMethodDescriptor yX4_sharpen.desc).map (fun d => d.parameters.length) = some 0 := by decide +kernel
theorem hv_X4_sharpen : yX4_sharpen.cls = RX4 ∧ yX4_sharpen.cls ≠ "java/lang/invoke/MethodHandle" ∧ yX4_sharpen.cls ≠ "java/lang/invoke/VarHandle" ∧ (parseMethodDescriptor yX4_sharpen.desc).map (fun d => d.parameters.length) = some 0 := ⟨rfl, hd_X4_sharpen⟩
theorem wX4_sharpen_0 : Cond.fieldLink RX4 27 "WaxCopiesModel" "thrown" "I" ∈ wsX4_sharpen := by decide +kernel
theorem inX4_sharpen_X4 : ∀ w ∈ wsX40, w ∈ wsX4_sharpen := by decide +kernel
set_option maxHeartbeats 4000000 in
set_option maxRecDepth 100000 in
theorem c_X4_sharpen (l : Launch) (G : zG) {μ mu1 : Mm} {r : Int32} (h : f_X4_sharpen μ = some (r, mu1)) (sz : Nat) : Met l yX4_sharpen wsX4_sharpen rm_X4_sharpen (z_Pre G μ [.ref (G.2.1 (119))] sz) (z_Qi G r mu1 sz) 0 0 (z_A G sz) := by
  refine z_start (cc := cX4_sharpen) (maxL := 1) (ret := (some .int)) (own := RX4) (by decide) rfl rfl (Nat.le_of_ble_eq_true rfl) (fun p e s m args below meth c C hr hlk Z hP ls hl => ?_) sz
  have hx := C.1
  have hb := C.2.1
  have hts := C.2.2.2.2
  have hS : va_S (z_A G s.heap.size) s.heap s.heap [] := va_S.rf
  have hl : lv_has ls 1 [(0, .ref (G.2.1 (119)))] := hl
  unfold f_X4_sharpen at h
  refine lv_aload_n hx hb dX4_sharpen_0 rfl (lv_at hl 0 rfl) ?_
  refine lv_iconst (v := 0) hx hb dX4_sharpen_1 (by decide) ?_
  refine z_put C Z hP hS (k := 119) (ci := 4) (j := 5) (N := 12) (x := 0) (v := .int (0)) (ty := .int) (by decide) (z_E_119 _) rfl inX4_sharpen_X4 tyX4_ok nmX4 (by decide) wX4_sharpen_0 rfl (by decide +kernel) rfl rfl (Nat.le_of_ble_eq_true rfl) (z_S_119_5 _ _) dX4_sharpen_2 (fun H locs hP hS => ?_)
  refine lv_aload_n hx hb dX4_sharpen_5 rfl (lv_at hl 0 rfl) ?_
  obtain ⟨r1, m2, e3, h⟩ := zb_some h
  refine z_callv hS (va_runV (As := []) (rest := []) C (c_X4_saves l G e3 _) (cwV 0 hts gX4_sharpen_X4_saves rfl rfl rfl hv_X4_saves ⟨Nat.le_of_ble_eq_true rfl, Nat.le_of_ble_eq_true rfl⟩) (z_preV Z hS hP (by decide) (z_E_119 _) rfl rfl) rfl rfl hl.1 rfl (lv_room (Nat.le_of_ble_eq_true rfl)) dX4_sharpen_6 ⟨Nat.zero_le _, Nat.zero_le _⟩) (fun H locs hP hS => ?_)
  refine lv_aload_n hx hb dX4_sharpen_9 rfl (lv_at hl 0 rfl) ?_
  refine lv_iconst (v := 0) hx hb dX4_sharpen_10 (by decide) ?_
  obtain ⟨r4, m5, e6, h⟩ := zb_some h
  refine z_calli hS (va_runV (As := [.int (0)]) (rest := []) C (c_X4_fillsUp l G e6 _) (cwV 1 hts gX4_sharpen_X4_fillsUp rfl rfl rfl hv_X4_fillsUp ⟨Nat.le_of_ble_eq_true rfl, Nat.le_of_ble_eq_true rfl⟩) (z_preV Z hS hP (by decide) (z_E_119 _) rfl rfl) rfl rfl hl.1 rfl (lv_room (Nat.le_of_ble_eq_true rfl)) dX4_sharpen_11 ⟨Nat.zero_le _, Nat.zero_le _⟩) (fun H locs hP hS => ?_)
  cases h
  exact z_reti C hr hlk hP hS dX4_sharpen_14
abbrev rm_X4_renew : Room := { frames := 2, cells := 0, slots := 0, locals := 44 }
theorem hd_X4_renew : yX4_renew.cls ≠ "java/lang/invoke/MethodHandle" ∧ yX4_renew.cls ≠ "java/lang/invoke/VarHandle" ∧ (parseMethodDescriptor yX4_renew.desc).map (fun d => d.parameters.length) = some 2 := by decide +kernel
theorem hv_X4_renew : yX4_renew.cls = RX4 ∧ yX4_renew.cls ≠ "java/lang/invoke/MethodHandle" ∧ yX4_renew.cls ≠ "java/lang/invoke/VarHandle" ∧ (parseMethodDescriptor yX4_renew.desc).map (fun d => d.parameters.length) = some 2 := ⟨rfl, hd_X4_renew⟩
theorem wX4_renew_0 : Cond.fieldLink RX4 7 "WaxCopiesModel" "s" "[I" ∈ wsX4_renew := by decide +kernel
theorem inX4_renew_X4 : ∀ w ∈ wsX40, w ∈ wsX4_renew := by decide +kernel
set_option maxHeartbeats 4000000 in
set_option maxRecDepth 100000 in
theorem c_X4_renew (l : Launch) (G : zG) {x1 : Int32} {x2 : Int32} {μ mu1 : Mm} {r : Int32} (h : f_X4_renew x1 x2 μ = some (r, mu1)) (sz : Nat) : Met l yX4_renew wsX4_renew rm_X4_renew (z_Pre G μ [.ref (G.2.1 (119)), .int (x1), .int (x2)] sz) (z_Qi G r mu1 sz) 0 0 (z_A G sz) := by
  refine z_start (cc := cX4_renew) (maxL := 4) (ret := (some .int)) (own := RX4) (by decide) rfl rfl (Nat.le_of_ble_eq_true rfl) (fun p e s m args below meth c C hr hlk Z hP ls hl => ?_) sz
  have hx := C.1
  have hb := C.2.1
  have hts := C.2.2.2.2
  have hS : va_S (z_A G s.heap.size) s.heap s.heap [] := va_S.rf
  have hl : lv_has ls 4 [(0, .ref (G.2.1 (119))), (1, .int (x1)), (2, .int (x2))] := hl
  unfold f_X4_renew at h
  refine lv_aload_n hx hb dX4_renew_0 rfl (lv_at hl 0 rfl) ?_
  refine lv_iload_n hx hb dX4_renew_1 rfl (lv_at hl 1 rfl) ?_
  obtain ⟨r1, m2, e3, h⟩ := zb_some h
  refine z_calli hS (va_runS (As := [.int (x1)]) (rest := [.ref (G.2.1 (119))]) C (c_X4_isCylinder l G e3 _) (va_cwS 1 hts gX4_renew_X4_isCylinder rfl rfl rfl hd_X4_isCylinder ⟨Nat.le_of_ble_eq_true rfl, Nat.le_of_ble_eq_true rfl⟩) (z_preS Z hS hP) rfl rfl hl.1 rfl (lv_room (Nat.le_of_ble_eq_true rfl)) dX4_renew_2 ⟨Nat.zero_le _, Nat.zero_le _⟩) (fun H locs hP hS => ?_)
  refine lv_iload_n hx hb dX4_renew_5 rfl (lv_at hl 2 rfl) ?_
  refine lv_iconst (v := 0) hx hb dX4_renew_6 (by decide) ?_
  refine lv_bipush (v := 100) hx hb dX4_renew_7 (by decide) ?_
  obtain ⟨r4, m5, e6, h⟩ := zb_some h
  refine z_calli hS (va_runS (As := [.int (x2), .int (0), .int (100)]) (rest := [.int (r1), .ref (G.2.1 (119))]) C (c_X4_in l G e6 _) (va_cwS 3 hts gX4_renew_X4_in rfl rfl rfl hd_X4_in ⟨Nat.le_of_ble_eq_true rfl, Nat.le_of_ble_eq_true rfl⟩) (z_preS Z hS hP) rfl rfl hl.1 rfl (lv_room (Nat.le_of_ble_eq_true rfl)) dX4_renew_9 ⟨Nat.zero_le _, Nat.zero_le _⟩) (fun H locs hP hS => ?_)
  obtain ⟨r7, m8, e9, h⟩ := zb_some h
  refine z_calli hS (va_runV (As := [.int (r1), .int (r4)]) (rest := []) C (c_X4_goes l G e9 _) (cwV 2 hts gX4_renew_X4_goes rfl rfl rfl hv_X4_goes ⟨Nat.le_of_ble_eq_true rfl, Nat.le_of_ble_eq_true rfl⟩) (z_preV Z hS hP (by decide) (z_E_119 _) rfl rfl) rfl rfl hl.1 rfl (lv_room (Nat.le_of_ble_eq_true rfl)) dX4_renew_12 ⟨Nat.zero_le _, Nat.zero_le _⟩) (fun H locs hP hS => ?_)
  refine lv_if_ne (tgt := 20) hx hb dX4_renew_15 (by decide) (fun hc10 => ?_) (fun hc10 => ?_)
  · have h := z_in hc10 h
    refine lv_aload_n hx hb dX4_renew_20 rfl (lv_at hl 0 rfl) ?_
    obtain ⟨r11, m12, e13, h⟩ := zb_some h
    refine z_callv hS (va_runV (As := []) (rest := []) C (c_X4_saves l G e13 _) (cwV 0 hts gX4_renew_X4_saves rfl rfl rfl hv_X4_saves ⟨Nat.le_of_ble_eq_true rfl, Nat.le_of_ble_eq_true rfl⟩) (z_preV Z hS hP (by decide) (z_E_119 _) rfl rfl) rfl rfl hl.1 rfl (lv_room (Nat.le_of_ble_eq_true rfl)) dX4_renew_21 ⟨Nat.zero_le _, Nat.zero_le _⟩) (fun H locs hP hS => ?_)
    refine lv_aload_n hx hb dX4_renew_24 rfl (lv_at hl 0 rfl) ?_
    refine z_get C Z hP (k := 119) (ci := 4) (j := 0) (N := 12) (v := .ref (G.2.1 (120))) (by decide) (z_E_119 _) rfl inX4_renew_X4 (by decide) wX4_renew_0 rfl dX4_renew_25 ?_
    refine lv_bipush (v := 10) hx hb dX4_renew_28 (by decide) ?_
    refine lv_iconst (v := 2) hx hb dX4_renew_30 (by decide) ?_
    refine lv_iload_n hx hb dX4_renew_31 rfl (lv_at hl 1 rfl) ?_
    refine lv_imul hx hb dX4_renew_32 ?_
    refine lv_iadd hx hb dX4_renew_33 ?_
    obtain ⟨hg14, h⟩ := z_g h
    refine z_iald C Z hP (k := 120) (n := 1710) (j := ((10 + (2 * x1))).toNatClampNeg) (by decide) (z_E_120 _) hg14 rfl dX4_renew_34 ?_
    refine lv_istore_n (lv' := [(3, .int ((m12 (120) (((10 + (2 * x1))).toNatClampNeg)))), (0, .ref (G.2.1 (119))), (1, .int (x1)), (2, .int (x2))]) hx hb dX4_renew_35 rfl hl (by decide) rfl (fun ls hl => ?_)
    refine lv_aload_n hx hb dX4_renew_36 rfl (lv_at hl 1 rfl) ?_
    refine z_get C Z hP (k := 119) (ci := 4) (j := 0) (N := 12) (v := .ref (G.2.1 (120))) (by decide) (z_E_119 _) rfl inX4_renew_X4 (by decide) wX4_renew_0 rfl dX4_renew_37 ?_
    refine lv_bipush (v := 10) hx hb dX4_renew_40 (by decide) ?_
    refine lv_iconst (v := 2) hx hb dX4_renew_42 (by decide) ?_
    refine lv_iload_n hx hb dX4_renew_43 rfl (lv_at hl 2 rfl) ?_
    refine lv_imul hx hb dX4_renew_44 ?_
    refine lv_iadd hx hb dX4_renew_45 ?_
    refine lv_iload_n hx hb dX4_renew_46 rfl (lv_at hl 3 rfl) ?_
    refine z_iast C Z hP hS (k := 120) (n := 1710) (j := ((10 + (2 * x1))).toNatClampNeg) (by decide) (fun r => z_E_120 r) hg14 rfl dX4_renew_47 (fun H locs hP hS => ?_)
    refine lv_aload_n hx hb dX4_renew_48 rfl (lv_at hl 1 rfl) ?_
    refine z_get C Z hP (k := 119) (ci := 4) (j := 0) (N := 12) (v := .ref (G.2.1 (120))) (by decide) (z_E_119 _) rfl inX4_renew_X4 (by decide) wX4_renew_0 rfl dX4_renew_49 ?_
    refine lv_bipush (v := 10) hx hb dX4_renew_52 (by decide) ?_
    refine lv_iconst (v := 2) hx hb dX4_renew_54 (by decide) ?_
    refine lv_iload_n hx hb dX4_renew_55 rfl (lv_at hl 2 rfl) ?_
    refine lv_imul hx hb dX4_renew_56 ?_
    refine lv_iadd hx hb dX4_renew_57 ?_
    refine lv_iconst (v := 1) hx hb dX4_renew_58 (by decide) ?_
    refine lv_iadd hx hb dX4_renew_59 ?_
    refine lv_iconst (v := 0) hx hb dX4_renew_60 (by decide) ?_
    obtain ⟨hg15, h⟩ := z_g h
    refine z_iast C Z hP hS (k := 120) (n := 1710) (j := (((10 + (2 * x1)) + 1)).toNatClampNeg) (by decide) (fun r => z_E_120 r) hg15 rfl dX4_renew_61 (fun H locs hP hS => ?_)
    refine lv_aload_n hx hb dX4_renew_62 rfl (lv_at hl 1 rfl) ?_
    obtain ⟨m16, hm17, h⟩ := zm_some h
    rw [← hm17] at hP
    refine z_get C Z hP (k := 119) (ci := 4) (j := 0) (N := 12) (v := .ref (G.2.1 (120))) (by decide) (z_E_119 _) rfl inX4_renew_X4 (by decide) wX4_renew_0 rfl dX4_renew_63 ?_
    refine lv_bipush (v := 7) hx hb dX4_renew_66 (by decide) ?_
    refine lv_dup2_11 hx hb dX4_renew_68 rfl rfl ?_
    refine z_iald C Z hP (k := 120) (n := 1710) (j := 7) (by decide) (z_E_120 _) (show z_ix 7 1710 by decide) rfl dX4_renew_69 ?_
    refine lv_iload_n hx hb dX4_renew_70 rfl (lv_at hl 3 rfl) ?_
    refine lv_iadd hx hb dX4_renew_71 ?_
    refine z_iast C Z hP hS (k := 120) (n := 1710) (j := 7) (by decide) (fun r => z_E_120 r) (show z_ix 7 1710 by decide) rfl dX4_renew_72 (fun H locs hP hS => ?_)
    refine lv_aload_n hx hb dX4_renew_73 rfl (lv_at hl 1 rfl) ?_
    refine z_get C Z hP (k := 119) (ci := 4) (j := 0) (N := 12) (v := .ref (G.2.1 (120))) (by decide) (z_E_119 _) rfl inX4_renew_X4 (by decide) wX4_renew_0 rfl dX4_renew_74 ?_
    refine lv_bipush (v := 8) hx hb dX4_renew_77 (by decide) ?_
    refine lv_dup2_11 hx hb dX4_renew_79 rfl rfl ?_
    refine z_iald C Z hP (k := 120) (n := 1710) (j := 8) (by decide) (z_E_120 _) (show z_ix 8 1710 by decide) rfl dX4_renew_80 ?_
    refine lv_iload_n hx hb dX4_renew_81 rfl (lv_at hl 0 rfl) ?_
    refine lv_iadd hx hb dX4_renew_82 ?_
    refine z_iast C Z hP hS (k := 120) (n := 1710) (j := 8) (by decide) (fun r => z_E_120 r) (show z_ix 8 1710 by decide) rfl dX4_renew_83 (fun H locs hP hS => ?_)
    refine lv_aload_n hx hb dX4_renew_84 rfl (lv_at hl 1 rfl) ?_
    refine lv_iload_n hx hb dX4_renew_85 rfl (lv_at hl 2 rfl) ?_
    obtain ⟨m18, hm19, h⟩ := zm_some h
    rw [← hm19] at hP
    obtain ⟨r20, m21, e22, h⟩ := zb_some h
    refine z_callv hS (va_runV (As := [.int (x1)]) (rest := []) C (c_X4_smooths l G e22 _) (cwV 1 hts gX4_renew_X4_smooths rfl rfl rfl hv_X4_smooths ⟨Nat.le_of_ble_eq_true rfl, Nat.le_of_ble_eq_true rfl⟩) (z_preV Z hS hP (by decide) (z_E_119 _) rfl rfl) rfl rfl hl.1 rfl (lv_room (Nat.le_of_ble_eq_true rfl)) dX4_renew_86 ⟨Nat.zero_le _, Nat.zero_le _⟩) (fun H locs hP hS => ?_)
    refine lv_iload_n hx hb dX4_renew_89 rfl (lv_at hl 0 rfl) ?_
    cases h
    exact z_reti C hr hlk hP hS dX4_renew_90
  · have h := z_ip hc10 h
    refine lv_iconst (v := 0) hx hb dX4_renew_18 (by decide) ?_
    cases h
    exact z_reti C hr hlk hP hS dX4_renew_19
abbrev rm_X4_set : Room := { frames := 2, cells := 0, slots := 0, locals := 44 }
theorem hd_X4_set : yX4_set.cls ≠ "java/lang/invoke/MethodHandle" ∧ yX4_set.cls ≠ "java/lang/invoke/VarHandle" ∧ (parseMethodDescriptor yX4_set.desc).map (fun d => d.parameters.length) = some 1 := by decide +kernel
theorem hv_X4_set : yX4_set.cls = RX4 ∧ yX4_set.cls ≠ "java/lang/invoke/MethodHandle" ∧ yX4_set.cls ≠ "java/lang/invoke/VarHandle" ∧ (parseMethodDescriptor yX4_set.desc).map (fun d => d.parameters.length) = some 1 := ⟨rfl, hd_X4_set⟩
theorem wX4_set_0 : Cond.fieldLink RX4 7 "WaxCopiesModel" "s" "[I" ∈ wsX4_set := by decide +kernel
theorem inX4_set_X4 : ∀ w ∈ wsX40, w ∈ wsX4_set := by decide +kernel
set_option maxHeartbeats 4000000 in
set_option maxRecDepth 100000 in
theorem c_X4_set (l : Launch) (G : zG) {x1 : Int32} {μ mu1 : Mm} {r : Int32} (h : f_X4_set x1 μ = some (r, mu1)) (sz : Nat) : Met l yX4_set wsX4_set rm_X4_set (z_Pre G μ [.ref (G.2.1 (119)), .int (x1)] sz) (z_Qi G r mu1 sz) 0 0 (z_A G sz) := by
  refine z_start (cc := cX4_set) (maxL := 3) (ret := (some .int)) (own := RX4) (by decide) rfl rfl (Nat.le_of_ble_eq_true rfl) (fun p e s m args below meth c C hr hlk Z hP ls hl => ?_) sz
  have hx := C.1
  have hb := C.2.1
  have hts := C.2.2.2.2
  have hS : va_S (z_A G s.heap.size) s.heap s.heap [] := va_S.rf
  have hl : lv_has ls 3 [(0, .ref (G.2.1 (119))), (1, .int (x1))] := hl
  unfold f_X4_set at h
  refine lv_aload_n hx hb dX4_set_0 rfl (lv_at hl 0 rfl) ?_
  refine lv_iload_n hx hb dX4_set_1 rfl (lv_at hl 1 rfl) ?_
  refine lv_iconst (v := 0) hx hb dX4_set_2 (by decide) ?_
  refine lv_bipush (v := 20) hx hb dX4_set_3 (by decide) ?_
  obtain ⟨r1, m2, e3, h⟩ := zb_some h
  refine z_calli hS (va_runS (As := [.int (x1), .int (0), .int (20)]) (rest := [.ref (G.2.1 (119))]) C (c_X4_in l G e3 _) (va_cwS 3 hts gX4_set_X4_in rfl rfl rfl hd_X4_in ⟨Nat.le_of_ble_eq_true rfl, Nat.le_of_ble_eq_true rfl⟩) (z_preS Z hS hP) rfl rfl hl.1 rfl (lv_room (Nat.le_of_ble_eq_true rfl)) dX4_set_5 ⟨Nat.zero_le _, Nat.zero_le _⟩) (fun H locs hP hS => ?_)
  refine lv_iconst (v := 1) hx hb dX4_set_8 (by decide) ?_
  obtain ⟨r4, m5, e6, h⟩ := zb_some h
  refine z_calli hS (va_runV (As := [.int (r1), .int (1)]) (rest := []) C (c_X4_goes l G e6 _) (cwV 2 hts gX4_set_X4_goes rfl rfl rfl hv_X4_goes ⟨Nat.le_of_ble_eq_true rfl, Nat.le_of_ble_eq_true rfl⟩) (z_preV Z hS hP (by decide) (z_E_119 _) rfl rfl) rfl rfl hl.1 rfl (lv_room (Nat.le_of_ble_eq_true rfl)) dX4_set_9 ⟨Nat.zero_le _, Nat.zero_le _⟩) (fun H locs hP hS => ?_)
  refine lv_if_ne (tgt := 17) hx hb dX4_set_12 (by decide) (fun hc7 => ?_) (fun hc7 => ?_)
  · have h := z_in hc7 h
    refine lv_aload_n hx hb dX4_set_17 rfl (lv_at hl 0 rfl) ?_
    obtain ⟨r8, m9, e10, h⟩ := zb_some h
    refine z_callv hS (va_runV (As := []) (rest := []) C (c_X4_saves l G e10 _) (cwV 0 hts gX4_set_X4_saves rfl rfl rfl hv_X4_saves ⟨Nat.le_of_ble_eq_true rfl, Nat.le_of_ble_eq_true rfl⟩) (z_preV Z hS hP (by decide) (z_E_119 _) rfl rfl) rfl rfl hl.1 rfl (lv_room (Nat.le_of_ble_eq_true rfl)) dX4_set_18 ⟨Nat.zero_le _, Nat.zero_le _⟩) (fun H locs hP hS => ?_)
    refine lv_aload_n hx hb dX4_set_21 rfl (lv_at hl 0 rfl) ?_
    refine z_get C Z hP (k := 119) (ci := 4) (j := 0) (N := 12) (v := .ref (G.2.1 (120))) (by decide) (z_E_119 _) rfl inX4_set_X4 (by decide) wX4_set_0 rfl dX4_set_22 ?_
    refine lv_iconst (v := 2) hx hb dX4_set_25 (by decide) ?_
    refine z_iald C Z hP (k := 120) (n := 1710) (j := 2) (by decide) (z_E_120 _) (show z_ix 2 1710 by decide) rfl dX4_set_26 ?_
    refine lv_istore_n (lv' := [(2, .int ((m9 (120) 2))), (0, .ref (G.2.1 (119))), (1, .int (x1))]) hx hb dX4_set_27 rfl hl (by decide) rfl (fun ls hl => ?_)
    refine lv_aload_n hx hb dX4_set_28 rfl (lv_at hl 1 rfl) ?_
    refine z_get C Z hP (k := 119) (ci := 4) (j := 0) (N := 12) (v := .ref (G.2.1 (120))) (by decide) (z_E_119 _) rfl inX4_set_X4 (by decide) wX4_set_0 rfl dX4_set_29 ?_
    refine lv_iconst (v := 2) hx hb dX4_set_32 (by decide) ?_
    refine lv_iload_n hx hb dX4_set_33 rfl (lv_at hl 2 rfl) ?_
    refine z_iast C Z hP hS (k := 120) (n := 1710) (j := 2) (by decide) (fun r => z_E_120 r) (show z_ix 2 1710 by decide) rfl dX4_set_34 (fun H locs hP hS => ?_)
    refine lv_iload_n hx hb dX4_set_35 rfl (lv_at hl 0 rfl) ?_
    cases h
    exact z_reti C hr hlk hP hS dX4_set_36
  · have h := z_ip hc7 h
    refine lv_iconst (v := 0) hx hb dX4_set_15 (by decide) ?_
    cases h
    exact z_reti C hr hlk hP hS dX4_set_16
abbrev rm_X4_append : Room := { frames := 1, cells := 0, slots := 0, locals := 22 }
theorem hd_X4_append : yX4_append.cls ≠ "java/lang/invoke/MethodHandle" ∧ yX4_append.cls ≠ "java/lang/invoke/VarHandle" ∧ (parseMethodDescriptor yX4_append.desc).map (fun d => d.parameters.length) = some 1 := by decide +kernel
theorem hv_X4_append : yX4_append.cls = RX4 ∧ yX4_append.cls ≠ "java/lang/invoke/MethodHandle" ∧ yX4_append.cls ≠ "java/lang/invoke/VarHandle" ∧ (parseMethodDescriptor yX4_append.desc).map (fun d => d.parameters.length) = some 1 := ⟨rfl, hd_X4_append⟩
theorem wX4_append_0 : Cond.fieldLink RX4 119 "WaxCopiesModel" "typed" "I" ∈ wsX4_append := by decide +kernel
theorem inX4_append_X4 : ∀ w ∈ wsX40, w ∈ wsX4_append := by decide +kernel
theorem wX4_append_2 : Cond.fieldLink RX4 17 "WaxCopiesModel" "buffer" "[C" ∈ wsX4_append := by decide +kernel
set_option maxHeartbeats 4000000 in
set_option maxRecDepth 100000 in
theorem L_X4_append_b23 {p : Program} {l : Launch} {e : Env} {s : State} {m : MethodId} {args : Array Value} {below : List Frame} {meth : Method} {c : Code} {G : zG} {r : Int32} {mu1 : Mm}  (C : CallFix p m c cX4_append 2 s args wsX4_append RX4) (hr : meth.sig.returnType = (some .int)) (hlk : meth.locks = false) (Z : z_Z G (z_A G s.heap.size) s)  :
    ∀ (x1 : Int32) (y0 : Int32) (y1 : Int32) (μ : Mm), f_X4_append_b23  x1 y0 y1 μ = some (r, mu1) → ∀ (H : Heap) (locs : List Loc), z_P G μ H → va_S (z_A G s.heap.size) s.heap H locs → ∀ ls : Array Slot, lv_has ls 2 [(0, .ref (G.2.1 (119))), (1, .int (x1))] → W p l e rm_X4_append s m args below meth c H locs 0 0 (MQ below (z_Qi G r mu1 s.heap.size) args s 0 0 (z_A G s.heap.size)) (F0 m 23 ls [.int (y0), .int (y1), .ref (G.2.1 (119))]) := by
  have hx := C.1
  have hb := C.2.1
  have hts := C.2.2.2.2
  intro x1 y0 y1 μ h H locs hP hS ls hl
  unfold f_X4_append_b23 at h
  obtain ⟨r5, m6, e7, h⟩ := zb_some h
  refine z_calli hS (va_runV (As := [.int (y1), .int (y0)]) (rest := []) C (c_X4_goes l G e7 _) (cwV 2 hts gX4_append_X4_goes rfl rfl rfl hv_X4_goes ⟨Nat.le_of_ble_eq_true rfl, Nat.le_of_ble_eq_true rfl⟩) (z_preV Z hS hP (by decide) (z_E_119 _) rfl rfl) rfl rfl hl.1 rfl (lv_room (Nat.le_of_ble_eq_true rfl)) dX4_append_23 ⟨Nat.zero_le _, Nat.zero_le _⟩) (fun H locs hP hS => ?_)
  refine lv_if_ne (tgt := 31) hx hb dX4_append_26 (by decide) (fun hc8 => ?_) (fun hc8 => ?_)
  · have h := z_in hc8 h
    refine lv_aload_n hx hb dX4_append_31 rfl (lv_at hl 0 rfl) ?_
    refine z_get C Z hP (k := 119) (ci := 4) (j := 3) (N := 12) (v := .ref (G.2.1 (122))) (by decide) (z_E_119 _) rfl inX4_append_X4 (by decide) wX4_append_2 rfl dX4_append_32 ?_
    refine lv_aload_n hx hb dX4_append_35 rfl (lv_at hl 0 rfl) ?_
    refine z_get C Z hP (k := 119) (ci := 4) (j := 4) (N := 12) (v := .int ((m6 119 4))) (by decide) (z_E_119 _) rfl inX4_append_X4 (by decide) wX4_append_0 rfl dX4_append_36 ?_
    refine lv_iload_n hx hb dX4_append_39 rfl (lv_at hl 1 rfl) ?_
    refine lv_i2c (v := (((x1).toUInt32 % 65536).toInt32)) hx hb dX4_append_40 rfl ?_
    obtain ⟨hg9, h⟩ := z_g h
    refine z_cast_ C Z hP hS (k := 122) (n := 60) (j := ((m6 119 4)).toNatClampNeg) (by decide) (fun r => z_E_122 r) hg9 rfl dX4_append_41 (fun H locs hP hS => ?_)
    refine lv_aload_n hx hb dX4_append_42 rfl (lv_at hl 0 rfl) ?_
    refine lv_dup hx hb dX4_append_43 rfl ?_
    obtain ⟨m10, hm11, h⟩ := zm_some h
    rw [← hm11] at hP
    refine z_get C Z hP (k := 119) (ci := 4) (j := 4) (N := 12) (v := .int ((m10 119 4))) (by decide) (z_E_119 _) rfl inX4_append_X4 (by decide) wX4_append_0 rfl dX4_append_44 ?_
    refine lv_iconst (v := 1) hx hb dX4_append_47 (by decide) ?_
    refine lv_iadd hx hb dX4_append_48 ?_
    refine z_put C Z hP hS (k := 119) (ci := 4) (j := 4) (N := 12) (x := ((m10 119 4) + 1)) (v := .int (((m10 119 4) + 1))) (ty := .int) (by decide) (z_E_119 _) rfl inX4_append_X4 tyX4_ok nmX4 (by decide) wX4_append_0 rfl (by decide +kernel) rfl rfl (Nat.le_of_ble_eq_true rfl) (z_S_119_4 _ _) dX4_append_49 (fun H locs hP hS => ?_)
    refine lv_aload_n hx hb dX4_append_52 rfl (lv_at hl 0 rfl) ?_
    refine z_get C Z hP (k := 119) (ci := 4) (j := 4) (N := 12) (v := .int (((z_up m10 (119) 4 ((m10 119 4) + 1)) 119 4))) (by decide) (z_E_119 _) rfl inX4_append_X4 (by decide) wX4_append_0 rfl dX4_append_53 ?_
    cases h
    exact z_reti C hr hlk hP hS dX4_append_56
  · have h := z_ip hc8 h
    refine lv_iconst (v := 0) hx hb dX4_append_29 (by decide) ?_
    cases h
    exact z_reti C hr hlk hP hS dX4_append_30
set_option maxHeartbeats 4000000 in
set_option maxRecDepth 100000 in
theorem c_X4_append (l : Launch) (G : zG) {x1 : Int32} {μ mu1 : Mm} {r : Int32} (h : f_X4_append x1 μ = some (r, mu1)) (sz : Nat) : Met l yX4_append wsX4_append rm_X4_append (z_Pre G μ [.ref (G.2.1 (119)), .int (x1)] sz) (z_Qi G r mu1 sz) 0 0 (z_A G sz) := by
  refine z_start (cc := cX4_append) (maxL := 2) (ret := (some .int)) (own := RX4) (by decide) rfl rfl (Nat.le_of_ble_eq_true rfl) (fun p e s m args below meth c C hr hlk Z hP ls hl => ?_) sz
  have hx := C.1
  have hb := C.2.1
  have hts := C.2.2.2.2
  have hS : va_S (z_A G s.heap.size) s.heap s.heap [] := va_S.rf
  have hl : lv_has ls 2 [(0, .ref (G.2.1 (119))), (1, .int (x1))] := hl
  unfold f_X4_append at h
  refine lv_aload_n hx hb dX4_append_0 rfl (lv_at hl 0 rfl) ?_
  refine lv_iload_n hx hb dX4_append_1 rfl (lv_at hl 1 rfl) ?_
  refine lv_bipush (v := 33) hx hb dX4_append_2 (by decide) ?_
  refine lv_bipush (v := 126) hx hb dX4_append_4 (by decide) ?_
  obtain ⟨r1, m2, e3, h⟩ := zb_some h
  refine z_calli hS (va_runS (As := [.int (x1), .int (33), .int (126)]) (rest := [.ref (G.2.1 (119))]) C (c_X4_in l G e3 _) (va_cwS 3 hts gX4_append_X4_in rfl rfl rfl hd_X4_in ⟨Nat.le_of_ble_eq_true rfl, Nat.le_of_ble_eq_true rfl⟩) (z_preS Z hS hP) rfl rfl hl.1 rfl (lv_room (Nat.le_of_ble_eq_true rfl)) dX4_append_6 ⟨Nat.zero_le _, Nat.zero_le _⟩) (fun H locs hP hS => ?_)
  refine lv_aload_n hx hb dX4_append_9 rfl (lv_at hl 0 rfl) ?_
  refine z_get C Z hP (k := 119) (ci := 4) (j := 4) (N := 12) (v := .int ((m2 119 4))) (by decide) (z_E_119 _) rfl inX4_append_X4 (by decide) wX4_append_0 rfl dX4_append_10 ?_
  refine lv_bipush (v := 60) hx hb dX4_append_13 (by decide) ?_
  refine lv_icmp_ge (tgt := 22) hx hb dX4_append_15 (by decide) (fun hc4 => ?_) (fun hc4 => ?_)
  · have h := z_ip hc4 h
    refine lv_iconst (v := 0) hx hb dX4_append_22 (by decide) ?_
    exact L_X4_append_b23 C hr hlk Z _ _ _ _ h _ _ hP hS ls (lv_sub hl [0, 1] rfl)
  · have h := z_in hc4 h
    refine lv_iconst (v := 1) hx hb dX4_append_18 (by decide) ?_
    refine lv_goto (tgt := 23) hx hb dX4_append_19 (by decide) ?_
    exact L_X4_append_b23 C hr hlk Z _ _ _ _ h _ _ hP hS ls (lv_sub hl [0, 1] rfl)
abbrev rm_X4_clearBuffer : Room := { frames := 0, cells := 0, slots := 0, locals := 0 }
theorem hd_X4_clearBuffer : yX4_clearBuffer.cls ≠ "java/lang/invoke/MethodHandle" ∧ yX4_clearBuffer.cls ≠ "java/lang/invoke/VarHandle" ∧ (parseMethodDescriptor yX4_clearBuffer.desc).map (fun d => d.parameters.length) = some 0 := by decide +kernel
theorem hv_X4_clearBuffer : yX4_clearBuffer.cls = RX4 ∧ yX4_clearBuffer.cls ≠ "java/lang/invoke/MethodHandle" ∧ yX4_clearBuffer.cls ≠ "java/lang/invoke/VarHandle" ∧ (parseMethodDescriptor yX4_clearBuffer.desc).map (fun d => d.parameters.length) = some 0 := ⟨rfl, hd_X4_clearBuffer⟩
theorem wX4_clearBuffer_0 : Cond.fieldLink RX4 27 "WaxCopiesModel" "thrown" "I" ∈ wsX4_clearBuffer := by decide +kernel
theorem inX4_clearBuffer_X4 : ∀ w ∈ wsX40, w ∈ wsX4_clearBuffer := by decide +kernel
theorem wX4_clearBuffer_2 : Cond.fieldLink RX4 119 "WaxCopiesModel" "typed" "I" ∈ wsX4_clearBuffer := by decide +kernel
set_option maxHeartbeats 4000000 in
set_option maxRecDepth 100000 in
theorem c_X4_clearBuffer (l : Launch) (G : zG) {μ mu1 : Mm} {r : Int32} (h : f_X4_clearBuffer μ = some (r, mu1)) (sz : Nat) : Met l yX4_clearBuffer wsX4_clearBuffer rm_X4_clearBuffer (z_Pre G μ [.ref (G.2.1 (119))] sz) (z_Qi G r mu1 sz) 0 0 (z_A G sz) := by
  refine z_start (cc := cX4_clearBuffer) (maxL := 2) (ret := (some .int)) (own := RX4) (by decide) rfl rfl (Nat.le_of_ble_eq_true rfl) (fun p e s m args below meth c C hr hlk Z hP ls hl => ?_) sz
  have hx := C.1
  have hb := C.2.1
  have hts := C.2.2.2.2
  have hS : va_S (z_A G s.heap.size) s.heap s.heap [] := va_S.rf
  have hl : lv_has ls 2 [(0, .ref (G.2.1 (119)))] := hl
  unfold f_X4_clearBuffer at h
  refine lv_aload_n hx hb dX4_clearBuffer_0 rfl (lv_at hl 0 rfl) ?_
  refine lv_iconst (v := 0) hx hb dX4_clearBuffer_1 (by decide) ?_
  refine z_put C Z hP hS (k := 119) (ci := 4) (j := 5) (N := 12) (x := 0) (v := .int (0)) (ty := .int) (by decide) (z_E_119 _) rfl inX4_clearBuffer_X4 tyX4_ok nmX4 (by decide) wX4_clearBuffer_0 rfl (by decide +kernel) rfl rfl (Nat.le_of_ble_eq_true rfl) (z_S_119_5 _ _) dX4_clearBuffer_2 (fun H locs hP hS => ?_)
  refine lv_aload_n hx hb dX4_clearBuffer_5 rfl (lv_at hl 0 rfl) ?_
  refine z_get C Z hP (k := 119) (ci := 4) (j := 4) (N := 12) (v := .int (((z_up μ (119) 5 0) 119 4))) (by decide) (z_E_119 _) rfl inX4_clearBuffer_X4 (by decide) wX4_clearBuffer_2 rfl dX4_clearBuffer_6 ?_
  refine lv_istore_n (lv' := [(1, .int (((z_up μ (119) 5 0) 119 4))), (0, .ref (G.2.1 (119)))]) hx hb dX4_clearBuffer_9 rfl hl (by decide) rfl (fun ls hl => ?_)
  refine lv_aload_n hx hb dX4_clearBuffer_10 rfl (lv_at hl 1 rfl) ?_
  refine lv_iconst (v := 0) hx hb dX4_clearBuffer_11 (by decide) ?_
  refine z_put C Z hP hS (k := 119) (ci := 4) (j := 4) (N := 12) (x := 0) (v := .int (0)) (ty := .int) (by decide) (z_E_119 _) rfl inX4_clearBuffer_X4 tyX4_ok nmX4 (by decide) wX4_clearBuffer_2 rfl (by decide +kernel) rfl rfl (Nat.le_of_ble_eq_true rfl) (z_S_119_4 _ _) dX4_clearBuffer_12 (fun H locs hP hS => ?_)
  refine lv_iload_n hx hb dX4_clearBuffer_15 rfl (lv_at hl 0 rfl) ?_
  cases h
  exact z_reti C hr hlk hP hS dX4_clearBuffer_16
abbrev rm_X4_takes : Room := { frames := 1, cells := 0, slots := 0, locals := 22 }
theorem hd_X4_takes : yX4_takes.cls ≠ "java/lang/invoke/MethodHandle" ∧ yX4_takes.cls ≠ "java/lang/invoke/VarHandle" ∧ (parseMethodDescriptor yX4_takes.desc).map (fun d => d.parameters.length) = some 2 := by decide +kernel
theorem hv_X4_takes : yX4_takes.cls = RX4 ∧ yX4_takes.cls ≠ "java/lang/invoke/MethodHandle" ∧ yX4_takes.cls ≠ "java/lang/invoke/VarHandle" ∧ (parseMethodDescriptor yX4_takes.desc).map (fun d => d.parameters.length) = some 2 := ⟨rfl, hd_X4_takes⟩
theorem wX4_takes_0 : Cond.fieldLink RX4 122 "WaxCopiesModel" "spot" "I" ∈ wsX4_takes := by decide +kernel
theorem inX4_takes_X4 : ∀ w ∈ wsX40, w ∈ wsX4_takes := by decide +kernel
theorem wX4_takes_2 : Cond.fieldLink RX4 119 "WaxCopiesModel" "typed" "I" ∈ wsX4_takes := by decide +kernel
theorem wX4_takes_3 : Cond.fieldLink RX4 17 "WaxCopiesModel" "buffer" "[C" ∈ wsX4_takes := by decide +kernel
set_option maxHeartbeats 4000000 in
set_option maxRecDepth 100000 in
theorem c_X4_takes (l : Launch) (G : zG) {x1 : Int32} {x2 : Int32} {μ mu1 : Mm} {r : Int32} (h : f_X4_takes x1 x2 μ = some (r, mu1)) (sz : Nat) : Met l yX4_takes wsX4_takes rm_X4_takes (z_Pre G μ [.ref (G.2.1 (119)), .int (x1), .int (x2)] sz) (z_Qi G r mu1 sz) 0 0 (z_A G sz) := by
  refine z_start (cc := cX4_takes) (maxL := 3) (ret := (some .int)) (own := RX4) (by decide) rfl rfl (Nat.le_of_ble_eq_true rfl) (fun p e s m args below meth c C hr hlk Z hP ls hl => ?_) sz
  have hx := C.1
  have hb := C.2.1
  have hts := C.2.2.2.2
  have hS : va_S (z_A G s.heap.size) s.heap s.heap [] := va_S.rf
  have hl : lv_has ls 3 [(0, .ref (G.2.1 (119))), (1, .int (x1)), (2, .int (x2))] := hl
  unfold f_X4_takes at h
  refine lv_aload_n hx hb dX4_takes_0 rfl (lv_at hl 0 rfl) ?_
  refine z_get C Z hP (k := 119) (ci := 4) (j := 6) (N := 12) (v := .int ((μ 119 6))) (by decide) (z_E_119 _) rfl inX4_takes_X4 (by decide) wX4_takes_0 rfl dX4_takes_1 ?_
  refine lv_aload_n hx hb dX4_takes_4 rfl (lv_at hl 0 rfl) ?_
  refine z_get C Z hP (k := 119) (ci := 4) (j := 4) (N := 12) (v := .int ((μ 119 4))) (by decide) (z_E_119 _) rfl inX4_takes_X4 (by decide) wX4_takes_2 rfl dX4_takes_5 ?_
  refine lv_icmp_eq (tgt := 28) hx hb dX4_takes_8 (by decide) (fun hc1 => ?_) (fun hc1 => ?_)
  · have h := z_ip hc1 h
    refine lv_iconst (v := (-1)) hx hb dX4_takes_28 (by decide) ?_
    cases h
    exact z_reti C hr hlk hP hS dX4_takes_29
  · have h := z_in hc1 h
    refine lv_aload_n hx hb dX4_takes_11 rfl (lv_at hl 0 rfl) ?_
    refine z_get C Z hP (k := 119) (ci := 4) (j := 3) (N := 12) (v := .ref (G.2.1 (122))) (by decide) (z_E_119 _) rfl inX4_takes_X4 (by decide) wX4_takes_3 rfl dX4_takes_12 ?_
    refine lv_aload_n hx hb dX4_takes_15 rfl (lv_at hl 0 rfl) ?_
    refine z_get C Z hP (k := 119) (ci := 4) (j := 6) (N := 12) (v := .int ((μ 119 6))) (by decide) (z_E_119 _) rfl inX4_takes_X4 (by decide) wX4_takes_0 rfl dX4_takes_16 ?_
    obtain ⟨hg2, h⟩ := z_g h
    refine z_cald C Z hP (k := 122) (n := 60) (j := ((μ 119 6)).toNatClampNeg) (by decide) (z_E_122 _) hg2 rfl dX4_takes_19 ?_
    refine lv_iload_n hx hb dX4_takes_20 rfl (lv_at hl 1 rfl) ?_
    refine lv_iload_n hx hb dX4_takes_21 rfl (lv_at hl 2 rfl) ?_
    obtain ⟨r3, m4, e5, h⟩ := zb_some h
    refine z_calli hS (va_runS (As := [.int ((μ (122) (((μ 119 6)).toNatClampNeg))), .int (x1), .int (x2)]) (rest := []) C (c_X4_in l G e5 _) (va_cwS 3 hts gX4_takes_X4_in rfl rfl rfl hd_X4_in ⟨Nat.le_of_ble_eq_true rfl, Nat.le_of_ble_eq_true rfl⟩) (z_preS Z hS hP) rfl rfl hl.1 rfl (lv_room (Nat.le_of_ble_eq_true rfl)) dX4_takes_22 ⟨Nat.zero_le _, Nat.zero_le _⟩) (fun H locs hP hS => ?_)
    refine lv_if_ne (tgt := 30) hx hb dX4_takes_25 (by decide) (fun hc6 => ?_) (fun hc6 => ?_)
    · have h := z_in hc6 h
      refine lv_aload_n hx hb dX4_takes_30 rfl (lv_at hl 0 rfl) ?_
      refine lv_dup hx hb dX4_takes_31 rfl ?_
      refine z_get C Z hP (k := 119) (ci := 4) (j := 6) (N := 12) (v := .int ((m4 119 6))) (by decide) (z_E_119 _) rfl inX4_takes_X4 (by decide) wX4_takes_0 rfl dX4_takes_32 ?_
      refine lv_iconst (v := 1) hx hb dX4_takes_35 (by decide) ?_
      refine lv_iadd hx hb dX4_takes_36 ?_
      refine z_put C Z hP hS (k := 119) (ci := 4) (j := 6) (N := 12) (x := ((m4 119 6) + 1)) (v := .int (((m4 119 6) + 1))) (ty := .int) (by decide) (z_E_119 _) rfl inX4_takes_X4 tyX4_ok nmX4 (by decide) wX4_takes_0 rfl (by decide +kernel) rfl rfl (Nat.le_of_ble_eq_true rfl) (z_S_119_6 _ _) dX4_takes_37 (fun H locs hP hS => ?_)
      refine lv_aload_n hx hb dX4_takes_40 rfl (lv_at hl 0 rfl) ?_
      refine z_get C Z hP (k := 119) (ci := 4) (j := 3) (N := 12) (v := .ref (G.2.1 (122))) (by decide) (z_E_119 _) rfl inX4_takes_X4 (by decide) wX4_takes_3 rfl dX4_takes_41 ?_
      refine lv_aload_n hx hb dX4_takes_44 rfl (lv_at hl 0 rfl) ?_
      refine z_get C Z hP (k := 119) (ci := 4) (j := 6) (N := 12) (v := .int (((z_up m4 (119) 6 ((m4 119 6) + 1)) 119 6))) (by decide) (z_E_119 _) rfl inX4_takes_X4 (by decide) wX4_takes_0 rfl dX4_takes_45 ?_
      refine lv_iconst (v := 1) hx hb dX4_takes_48 (by decide) ?_
      refine lv_isub hx hb dX4_takes_49 ?_
      obtain ⟨hg7, h⟩ := z_g h
      refine z_cald C Z hP (k := 122) (n := 60) (j := ((((z_up m4 (119) 6 ((m4 119 6) + 1)) 119 6) - 1)).toNatClampNeg) (by decide) (z_E_122 _) hg7 rfl dX4_takes_50 ?_
      refine lv_iload_n hx hb dX4_takes_51 rfl (lv_at hl 1 rfl) ?_
      refine lv_isub hx hb dX4_takes_52 ?_
      cases h
      exact z_reti C hr hlk hP hS dX4_takes_53
    · have h := z_ip hc6 h
      refine lv_iconst (v := (-1)) hx hb dX4_takes_28 (by decide) ?_
      cases h
      exact z_reti C hr hlk hP hS dX4_takes_29
abbrev rm_X4_readsTrack : Room := { frames := 2, cells := 0, slots := 0, locals := 44 }
theorem hd_X4_readsTrack : yX4_readsTrack.cls ≠ "java/lang/invoke/MethodHandle" ∧ yX4_readsTrack.cls ≠ "java/lang/invoke/VarHandle" ∧ (parseMethodDescriptor yX4_readsTrack.desc).map (fun d => d.parameters.length) = some 0 := by decide +kernel
theorem hv_X4_readsTrack : yX4_readsTrack.cls = RX4 ∧ yX4_readsTrack.cls ≠ "java/lang/invoke/MethodHandle" ∧ yX4_readsTrack.cls ≠ "java/lang/invoke/VarHandle" ∧ (parseMethodDescriptor yX4_readsTrack.desc).map (fun d => d.parameters.length) = some 0 := ⟨rfl, hd_X4_readsTrack⟩
set_option maxHeartbeats 4000000 in
set_option maxRecDepth 100000 in
theorem L_X4_readsTrack_b26 {p : Program} {l : Launch} {e : Env} {s : State} {m : MethodId} {args : Array Value} {below : List Frame} {meth : Method} {c : Code} {G : zG} {r : Int32} {mu1 : Mm}  (C : CallFix p m c cX4_readsTrack 3 s args wsX4_readsTrack RX4) (hr : meth.sig.returnType = (some .int)) (hlk : meth.locks = false) (Z : z_Z G (z_A G s.heap.size) s)  :
    ∀ (x1 : Int32) (y0 : Int32) (μ : Mm), f_X4_readsTrack_b26  x1 y0 μ = some (r, mu1) → ∀ (H : Heap) (locs : List Loc), z_P G μ H → va_S (z_A G s.heap.size) s.heap H locs → ∀ ls : Array Slot, lv_has ls 3 [(1, .int (x1))] → W p l e rm_X4_readsTrack s m args below meth c H locs 0 0 (MQ below (z_Qi G r mu1 s.heap.size) args s 0 0 (z_A G s.heap.size)) (F0 m 26 ls [.int (y0)]) := by
  have hx := C.1
  have hb := C.2.1
  have hts := C.2.2.2.2
  intro x1 y0 μ h H locs hP hS ls hl
  unfold f_X4_readsTrack_b26 at h
  refine lv_istore_n (lv' := [(2, .int (y0)), (1, .int (x1))]) hx hb dX4_readsTrack_26 rfl hl (by decide) rfl (fun ls hl => ?_)
  refine lv_iload_n hx hb dX4_readsTrack_27 rfl (lv_at hl 0 rfl) ?_
  refine lv_iconst (v := (-1)) hx hb dX4_readsTrack_28 (by decide) ?_
  refine lv_icmp_ne (tgt := 36) hx hb dX4_readsTrack_29 (by decide) (fun hc8 => ?_) (fun hc8 => ?_)
  · have h := z_in hc8 h
    refine lv_iconst (v := 4) hx hb dX4_readsTrack_36 (by decide) ?_
    refine lv_iload_n hx hb dX4_readsTrack_37 rfl (lv_at hl 1 rfl) ?_
    refine lv_imul hx hb dX4_readsTrack_38 ?_
    refine lv_iload_n hx hb dX4_readsTrack_39 rfl (lv_at hl 0 rfl) ?_
    refine lv_iadd hx hb dX4_readsTrack_40 ?_
    cases h
    exact z_reti C hr hlk hP hS dX4_readsTrack_41
  · have h := z_ip hc8 h
    refine lv_iconst (v := (-1)) hx hb dX4_readsTrack_32 (by decide) ?_
    refine lv_goto (tgt := 41) hx hb dX4_readsTrack_33 (by decide) ?_
    cases h
    exact z_reti C hr hlk hP hS dX4_readsTrack_41
set_option maxHeartbeats 4000000 in
set_option maxRecDepth 100000 in
theorem c_X4_readsTrack (l : Launch) (G : zG) {μ mu1 : Mm} {r : Int32} (h : f_X4_readsTrack μ = some (r, mu1)) (sz : Nat) : Met l yX4_readsTrack wsX4_readsTrack rm_X4_readsTrack (z_Pre G μ [.ref (G.2.1 (119))] sz) (z_Qi G r mu1 sz) 0 0 (z_A G sz) := by
  refine z_start (cc := cX4_readsTrack) (maxL := 3) (ret := (some .int)) (own := RX4) (by decide) rfl rfl (Nat.le_of_ble_eq_true rfl) (fun p e s m args below meth c C hr hlk Z hP ls hl => ?_) sz
  have hx := C.1
  have hb := C.2.1
  have hts := C.2.2.2.2
  have hS : va_S (z_A G s.heap.size) s.heap s.heap [] := va_S.rf
  have hl : lv_has ls 3 [(0, .ref (G.2.1 (119)))] := hl
  unfold f_X4_readsTrack at h
  refine lv_aload_n hx hb dX4_readsTrack_0 rfl (lv_at hl 0 rfl) ?_
  refine lv_bipush (v := 97) hx hb dX4_readsTrack_1 (by decide) ?_
  refine lv_bipush (v := 102) hx hb dX4_readsTrack_3 (by decide) ?_
  obtain ⟨r1, m2, e3, h⟩ := zb_some h
  refine z_calli hS (va_runV (As := [.int (97), .int (102)]) (rest := []) C (c_X4_takes l G e3 _) (cwV 2 hts gX4_readsTrack_X4_takes rfl rfl rfl hv_X4_takes ⟨Nat.le_of_ble_eq_true rfl, Nat.le_of_ble_eq_true rfl⟩) (z_preV Z hS hP (by decide) (z_E_119 _) rfl rfl) rfl rfl hl.1 rfl (lv_room (Nat.le_of_ble_eq_true rfl)) dX4_readsTrack_5 ⟨Nat.zero_le _, Nat.zero_le _⟩) (fun H locs hP hS => ?_)
  refine lv_istore_n (lv' := [(1, .int (r1)), (0, .ref (G.2.1 (119)))]) hx hb dX4_readsTrack_8 rfl hl (by decide) rfl (fun ls hl => ?_)
  refine lv_iload_n hx hb dX4_readsTrack_9 rfl (lv_at hl 0 rfl) ?_
  refine lv_iconst (v := (-1)) hx hb dX4_readsTrack_10 (by decide) ?_
  refine lv_icmp_ne (tgt := 18) hx hb dX4_readsTrack_11 (by decide) (fun hc4 => ?_) (fun hc4 => ?_)
  · have h := z_in hc4 h
    refine lv_aload_n hx hb dX4_readsTrack_18 rfl (lv_at hl 1 rfl) ?_
    refine lv_bipush (v := 48) hx hb dX4_readsTrack_19 (by decide) ?_
    refine lv_bipush (v := 51) hx hb dX4_readsTrack_21 (by decide) ?_
    obtain ⟨r5, m6, e7, h⟩ := zb_some h
    refine z_calli hS (va_runV (As := [.int (48), .int (51)]) (rest := []) C (c_X4_takes l G e7 _) (cwV 2 hts gX4_readsTrack_X4_takes rfl rfl rfl hv_X4_takes ⟨Nat.le_of_ble_eq_true rfl, Nat.le_of_ble_eq_true rfl⟩) (z_preV Z hS hP (by decide) (z_E_119 _) rfl rfl) rfl rfl hl.1 rfl (lv_room (Nat.le_of_ble_eq_true rfl)) dX4_readsTrack_23 ⟨Nat.zero_le _, Nat.zero_le _⟩) (fun H locs hP hS => ?_)
    exact L_X4_readsTrack_b26 C hr hlk Z _ _ _ h _ _ hP hS ls (lv_sub hl [0] rfl)
  · have h := z_ip hc4 h
    refine lv_iconst (v := (-1)) hx hb dX4_readsTrack_14 (by decide) ?_
    refine lv_goto (tgt := 26) hx hb dX4_readsTrack_15 (by decide) ?_
    exact L_X4_readsTrack_b26 C hr hlk Z _ _ _ h _ _ hP hS ls (lv_sub hl [0] rfl)
abbrev rm_X4_order : Room := { frames := 3, cells := 0, slots := 0, locals := 66 }
theorem hd_X4_order : yX4_order.cls ≠ "java/lang/invoke/MethodHandle" ∧ yX4_order.cls ≠ "java/lang/invoke/VarHandle" ∧ (parseMethodDescriptor yX4_order.desc).map (fun d => d.parameters.length) = some 0 := by decide +kernel
theorem hv_X4_order : yX4_order.cls = RX4 ∧ yX4_order.cls ≠ "java/lang/invoke/MethodHandle" ∧ yX4_order.cls ≠ "java/lang/invoke/VarHandle" ∧ (parseMethodDescriptor yX4_order.desc).map (fun d => d.parameters.length) = some 0 := ⟨rfl, hd_X4_order⟩
theorem wX4_order_0 : Cond.fieldLink RX4 122 "WaxCopiesModel" "spot" "I" ∈ wsX4_order := by decide +kernel
theorem inX4_order_X4 : ∀ w ∈ wsX40, w ∈ wsX4_order := by decide +kernel
theorem wX4_order_2 : Cond.fieldLink RX4 119 "WaxCopiesModel" "typed" "I" ∈ wsX4_order := by decide +kernel
theorem wX4_order_3 : Cond.fieldLink RX4 132 "WaxCopiesModel" "one" "I" ∈ wsX4_order := by decide +kernel
theorem wX4_order_4 : Cond.fieldLink RX4 135 "WaxCopiesModel" "two" "I" ∈ wsX4_order := by decide +kernel
theorem wX4_order_5 : Cond.fieldLink RX4 138 "WaxCopiesModel" "three" "I" ∈ wsX4_order := by decide +kernel
theorem wX4_order_6 : Cond.fieldLink RX4 17 "WaxCopiesModel" "buffer" "[C" ∈ wsX4_order := by decide +kernel
set_option maxHeartbeats 4000000 in
set_option maxRecDepth 100000 in
theorem L_X4_order_b184 {p : Program} {l : Launch} {e : Env} {s : State} {m : MethodId} {args : Array Value} {below : List Frame} {meth : Method} {c : Code} {G : zG} {r : Int32} {mu1 : Mm}  (C : CallFix p m c cX4_order 2 s args wsX4_order RX4) (hr : meth.sig.returnType = (some .char)) (hlk : meth.locks = false) (Z : z_Z G (z_A G s.heap.size) s)  :
    ∀ (x1 : Int32) (y0 : Int32) (μ : Mm), f_X4_order_b184  x1 y0 μ = some (r, mu1) → ∀ (H : Heap) (locs : List Loc), z_P G μ H → va_S (z_A G s.heap.size) s.heap H locs → ∀ ls : Array Slot, lv_has ls 2 [(0, .ref (G.2.1 (119))), (1, .int (x1))] → W p l e rm_X4_order s m args below meth c H locs 0 0 (MQ below (z_Qi G r mu1 s.heap.size) args s 0 0 (z_A G s.heap.size)) (F0 m 184 ls [.int (y0), .ref (G.2.1 (119))]) := by
  have hx := C.1
  have hb := C.2.1
  have hts := C.2.2.2.2
  intro x1 y0 μ h H locs hP hS ls hl
  unfold f_X4_order_b184 at h
  refine z_put C Z hP hS (k := 119) (ci := 4) (j := 8) (N := 12) (x := y0) (v := .int (y0)) (ty := .int) (by decide) (z_E_119 _) rfl inX4_order_X4 tyX4_ok nmX4 (by decide) wX4_order_4 rfl (by decide +kernel) rfl rfl (Nat.le_of_ble_eq_true rfl) (z_S_119_8 _ _) dX4_order_184 (fun H locs hP hS => ?_)
  refine lv_aload_n hx hb dX4_order_187 rfl (lv_at hl 0 rfl) ?_
  refine lv_aload_n hx hb dX4_order_188 rfl (lv_at hl 0 rfl) ?_
  refine z_get C Z hP (k := 119) (ci := 4) (j := 8) (N := 12) (v := .int (((z_up μ (119) 8 y0) 119 8))) (by decide) (z_E_119 _) rfl inX4_order_X4 (by decide) wX4_order_4 rfl dX4_order_189 ?_
  refine lv_iconst (v := (-1)) hx hb dX4_order_192 (by decide) ?_
  refine lv_icmp_eq (tgt := 208) hx hb dX4_order_193 (by decide) (fun hc7 => ?_) (fun hc7 => ?_)
  · have h := z_ip hc7 h
    refine lv_iconst (v := (-1)) hx hb dX4_order_208 (by decide) ?_
    refine lv_goto (tgt := 220) hx hb dX4_order_209 (by decide) ?_
    refine z_put C Z hP hS (k := 119) (ci := 4) (j := 9) (N := 12) (x := (-1)) (v := .int ((-1))) (ty := .int) (by decide) (z_E_119 _) rfl inX4_order_X4 tyX4_ok nmX4 (by decide) wX4_order_5 rfl (by decide +kernel) rfl rfl (Nat.le_of_ble_eq_true rfl) (z_S_119_9 _ _) dX4_order_220 (fun H locs hP hS => ?_)
    refine lv_aload_n hx hb dX4_order_223 rfl (lv_at hl 0 rfl) ?_
    refine z_get C Z hP (k := 119) (ci := 4) (j := 9) (N := 12) (v := .int (((z_up (z_up μ (119) 8 y0) (119) 9 (-1)) 119 9))) (by decide) (z_E_119 _) rfl inX4_order_X4 (by decide) wX4_order_5 rfl dX4_order_224 ?_
    refine lv_iconst (v := (-1)) hx hb dX4_order_227 (by decide) ?_
    refine lv_icmp_ne (tgt := 236) hx hb dX4_order_228 (by decide) (fun hc8 => ?_) (fun hc8 => ?_)
    · have h := z_in hc8 h
      refine lv_iload_n hx hb dX4_order_236 rfl (lv_at hl 1 rfl) ?_
      obtain ⟨hg9, h⟩ := z_g h
      cases h
      exact z_retz C hr hlk hg9 hP hS dX4_order_237
    · have h := z_ip hc8 h
      refine lv_bipush (v := 32) hx hb dX4_order_231 (by decide) ?_
      refine lv_goto (tgt := 237) hx hb dX4_order_233 (by decide) ?_
      cases h
      exact z_retz C hr hlk rfl hP hS dX4_order_237
  · have h := z_in hc7 h
    refine lv_aload_n hx hb dX4_order_196 rfl (lv_at hl 0 rfl) ?_
    refine lv_bipush (v := 42) hx hb dX4_order_197 (by decide) ?_
    refine lv_bipush (v := 42) hx hb dX4_order_199 (by decide) ?_
    obtain ⟨r10, m11, e12, h⟩ := zb_some h
    refine z_calli hS (va_runV (As := [.int (42), .int (42)]) (rest := [.ref (G.2.1 (119))]) C (c_X4_takes l G e12 _) (cwV 2 hts gX4_order_X4_takes rfl rfl rfl hv_X4_takes ⟨Nat.le_of_ble_eq_true rfl, Nat.le_of_ble_eq_true rfl⟩) (z_preV Z hS hP (by decide) (z_E_119 _) rfl rfl) rfl rfl hl.1 rfl (lv_room (Nat.le_of_ble_eq_true rfl)) dX4_order_201 ⟨Nat.zero_le _, Nat.zero_le _⟩) (fun H locs hP hS => ?_)
    refine lv_iconst (v := (-1)) hx hb dX4_order_204 (by decide) ?_
    refine lv_icmp_ne (tgt := 212) hx hb dX4_order_205 (by decide) (fun hc13 => ?_) (fun hc13 => ?_)
    · have h := z_in hc13 h
      refine lv_aload_n hx hb dX4_order_212 rfl (lv_at hl 0 rfl) ?_
      refine lv_bipush (v := 49) hx hb dX4_order_213 (by decide) ?_
      refine lv_bipush (v := 51) hx hb dX4_order_215 (by decide) ?_
      obtain ⟨r14, m15, e16, h⟩ := zb_some h
      refine z_calli hS (va_runV (As := [.int (49), .int (51)]) (rest := [.ref (G.2.1 (119))]) C (c_X4_takes l G e16 _) (cwV 2 hts gX4_order_X4_takes rfl rfl rfl hv_X4_takes ⟨Nat.le_of_ble_eq_true rfl, Nat.le_of_ble_eq_true rfl⟩) (z_preV Z hS hP (by decide) (z_E_119 _) rfl rfl) rfl rfl hl.1 rfl (lv_room (Nat.le_of_ble_eq_true rfl)) dX4_order_217 ⟨Nat.zero_le _, Nat.zero_le _⟩) (fun H locs hP hS => ?_)
      refine z_put C Z hP hS (k := 119) (ci := 4) (j := 9) (N := 12) (x := r14) (v := .int (r14)) (ty := .int) (by decide) (z_E_119 _) rfl inX4_order_X4 tyX4_ok nmX4 (by decide) wX4_order_5 rfl (by decide +kernel) rfl rfl (Nat.le_of_ble_eq_true rfl) (z_S_119_9 _ _) dX4_order_220 (fun H locs hP hS => ?_)
      refine lv_aload_n hx hb dX4_order_223 rfl (lv_at hl 0 rfl) ?_
      refine z_get C Z hP (k := 119) (ci := 4) (j := 9) (N := 12) (v := .int (((z_up m15 (119) 9 r14) 119 9))) (by decide) (z_E_119 _) rfl inX4_order_X4 (by decide) wX4_order_5 rfl dX4_order_224 ?_
      refine lv_iconst (v := (-1)) hx hb dX4_order_227 (by decide) ?_
      refine lv_icmp_ne (tgt := 236) hx hb dX4_order_228 (by decide) (fun hc17 => ?_) (fun hc17 => ?_)
      · have h := z_in hc17 h
        refine lv_iload_n hx hb dX4_order_236 rfl (lv_at hl 1 rfl) ?_
        obtain ⟨hg18, h⟩ := z_g h
        cases h
        exact z_retz C hr hlk hg18 hP hS dX4_order_237
      · have h := z_ip hc17 h
        refine lv_bipush (v := 32) hx hb dX4_order_231 (by decide) ?_
        refine lv_goto (tgt := 237) hx hb dX4_order_233 (by decide) ?_
        cases h
        exact z_retz C hr hlk rfl hP hS dX4_order_237
    · have h := z_ip hc13 h
      refine lv_iconst (v := (-1)) hx hb dX4_order_208 (by decide) ?_
      refine lv_goto (tgt := 220) hx hb dX4_order_209 (by decide) ?_
      refine z_put C Z hP hS (k := 119) (ci := 4) (j := 9) (N := 12) (x := (-1)) (v := .int ((-1))) (ty := .int) (by decide) (z_E_119 _) rfl inX4_order_X4 tyX4_ok nmX4 (by decide) wX4_order_5 rfl (by decide +kernel) rfl rfl (Nat.le_of_ble_eq_true rfl) (z_S_119_9 _ _) dX4_order_220 (fun H locs hP hS => ?_)
      refine lv_aload_n hx hb dX4_order_223 rfl (lv_at hl 0 rfl) ?_
      refine z_get C Z hP (k := 119) (ci := 4) (j := 9) (N := 12) (v := .int (((z_up m11 (119) 9 (-1)) 119 9))) (by decide) (z_E_119 _) rfl inX4_order_X4 (by decide) wX4_order_5 rfl dX4_order_224 ?_
      refine lv_iconst (v := (-1)) hx hb dX4_order_227 (by decide) ?_
      refine lv_icmp_ne (tgt := 236) hx hb dX4_order_228 (by decide) (fun hc19 => ?_) (fun hc19 => ?_)
      · have h := z_in hc19 h
        refine lv_iload_n hx hb dX4_order_236 rfl (lv_at hl 1 rfl) ?_
        obtain ⟨hg20, h⟩ := z_g h
        cases h
        exact z_retz C hr hlk hg20 hP hS dX4_order_237
      · have h := z_ip hc19 h
        refine lv_bipush (v := 32) hx hb dX4_order_231 (by decide) ?_
        refine lv_goto (tgt := 237) hx hb dX4_order_233 (by decide) ?_
        cases h
        exact z_retz C hr hlk rfl hP hS dX4_order_237
set_option maxHeartbeats 4000000 in
set_option maxRecDepth 100000 in
theorem L_X4_order_b25 {p : Program} {l : Launch} {e : Env} {s : State} {m : MethodId} {args : Array Value} {below : List Frame} {meth : Method} {c : Code} {G : zG} {r : Int32} {mu1 : Mm}  (C : CallFix p m c cX4_order 2 s args wsX4_order RX4) (hr : meth.sig.returnType = (some .char)) (hlk : meth.locks = false) (Z : z_Z G (z_A G s.heap.size) s)  :
    ∀ (y0 : Int32) (μ : Mm), f_X4_order_b25  y0 μ = some (r, mu1) → ∀ (H : Heap) (locs : List Loc), z_P G μ H → va_S (z_A G s.heap.size) s.heap H locs → ∀ ls : Array Slot, lv_has ls 2 [(0, .ref (G.2.1 (119)))] → W p l e rm_X4_order s m args below meth c H locs 0 0 (MQ below (z_Qi G r mu1 s.heap.size) args s 0 0 (z_A G s.heap.size)) (F0 m 25 ls [.int (y0)]) := by
  have hx := C.1
  have hb := C.2.1
  have hts := C.2.2.2.2
  intro y0 μ h H locs hP hS ls hl
  unfold f_X4_order_b25 at h
  refine lv_istore_n (lv' := [(1, .int (y0)), (0, .ref (G.2.1 (119)))]) hx hb dX4_order_25 rfl hl (by decide) rfl (fun ls hl => ?_)
  refine lv_aload_n hx hb dX4_order_26 rfl (lv_at hl 1 rfl) ?_
  refine lv_dup hx hb dX4_order_27 rfl ?_
  refine z_get C Z hP (k := 119) (ci := 4) (j := 6) (N := 12) (v := .int ((μ 119 6))) (by decide) (z_E_119 _) rfl inX4_order_X4 (by decide) wX4_order_0 rfl dX4_order_28 ?_
  refine lv_iconst (v := 1) hx hb dX4_order_31 (by decide) ?_
  refine lv_iadd hx hb dX4_order_32 ?_
  refine z_put C Z hP hS (k := 119) (ci := 4) (j := 6) (N := 12) (x := ((μ 119 6) + 1)) (v := .int (((μ 119 6) + 1))) (ty := .int) (by decide) (z_E_119 _) rfl inX4_order_X4 tyX4_ok nmX4 (by decide) wX4_order_0 rfl (by decide +kernel) rfl rfl (Nat.le_of_ble_eq_true rfl) (z_S_119_6 _ _) dX4_order_33 (fun H locs hP hS => ?_)
  refine lv_iload_n hx hb dX4_order_36 rfl (lv_at hl 0 rfl) ?_
  by_cases hc2 : y0 = 99
  · have h := z_ip hc2 h
    refine lv_lookup (tgt := 147) (off := 110) hx hb dX4_order_37 (by decide +kernel) (by rw [hc2]; rfl) (by decide) ?_
    refine lv_aload_n hx hb dX4_order_147 rfl (lv_at hl 1 rfl) ?_
    refine lv_aload_n hx hb dX4_order_148 rfl (lv_at hl 1 rfl) ?_
    obtain ⟨r3, m4, e5, h⟩ := zb_some h
    refine z_calli hS (va_runV (As := []) (rest := [.ref (G.2.1 (119))]) C (c_X4_readsTrack l G e5 _) (cwV 0 hts gX4_order_X4_readsTrack rfl rfl rfl hv_X4_readsTrack ⟨Nat.le_of_ble_eq_true rfl, Nat.le_of_ble_eq_true rfl⟩) (z_preV Z hS hP (by decide) (z_E_119 _) rfl rfl) rfl rfl hl.1 rfl (lv_room (Nat.le_of_ble_eq_true rfl)) dX4_order_149 ⟨Nat.zero_le _, Nat.zero_le _⟩) (fun H locs hP hS => ?_)
    refine z_put C Z hP hS (k := 119) (ci := 4) (j := 7) (N := 12) (x := r3) (v := .int (r3)) (ty := .int) (by decide) (z_E_119 _) rfl inX4_order_X4 tyX4_ok nmX4 (by decide) wX4_order_3 rfl (by decide +kernel) rfl rfl (Nat.le_of_ble_eq_true rfl) (z_S_119_7 _ _) dX4_order_152 (fun H locs hP hS => ?_)
    refine lv_aload_n hx hb dX4_order_155 rfl (lv_at hl 1 rfl) ?_
    refine lv_aload_n hx hb dX4_order_156 rfl (lv_at hl 1 rfl) ?_
    refine z_get C Z hP (k := 119) (ci := 4) (j := 7) (N := 12) (v := .int (((z_up m4 (119) 7 r3) 119 7))) (by decide) (z_E_119 _) rfl inX4_order_X4 (by decide) wX4_order_3 rfl dX4_order_157 ?_
    refine lv_iconst (v := (-1)) hx hb dX4_order_160 (by decide) ?_
    refine lv_icmp_eq (tgt := 176) hx hb dX4_order_161 (by decide) (fun hc6 => ?_) (fun hc6 => ?_)
    · have h := z_ip hc6 h
      refine lv_iconst (v := (-1)) hx hb dX4_order_176 (by decide) ?_
      refine lv_goto (tgt := 184) hx hb dX4_order_177 (by decide) ?_
      exact L_X4_order_b184 C hr hlk Z _ _ _ h _ _ hP hS ls (lv_sub hl [1, 0] rfl)
    · have h := z_in hc6 h
      refine lv_aload_n hx hb dX4_order_164 rfl (lv_at hl 1 rfl) ?_
      refine lv_bipush (v := 62) hx hb dX4_order_165 (by decide) ?_
      refine lv_bipush (v := 62) hx hb dX4_order_167 (by decide) ?_
      obtain ⟨r21, m22, e23, h⟩ := zb_some h
      refine z_calli hS (va_runV (As := [.int (62), .int (62)]) (rest := [.ref (G.2.1 (119))]) C (c_X4_takes l G e23 _) (cwV 2 hts gX4_order_X4_takes rfl rfl rfl hv_X4_takes ⟨Nat.le_of_ble_eq_true rfl, Nat.le_of_ble_eq_true rfl⟩) (z_preV Z hS hP (by decide) (z_E_119 _) rfl rfl) rfl rfl hl.1 rfl (lv_room (Nat.le_of_ble_eq_true rfl)) dX4_order_169 ⟨Nat.zero_le _, Nat.zero_le _⟩) (fun H locs hP hS => ?_)
      refine lv_iconst (v := (-1)) hx hb dX4_order_172 (by decide) ?_
      refine lv_icmp_ne (tgt := 180) hx hb dX4_order_173 (by decide) (fun hc24 => ?_) (fun hc24 => ?_)
      · have h := z_in hc24 h
        refine lv_aload_n hx hb dX4_order_180 rfl (lv_at hl 1 rfl) ?_
        obtain ⟨r25, m26, e27, h⟩ := zb_some h
        refine z_calli hS (va_runV (As := []) (rest := [.ref (G.2.1 (119))]) C (c_X4_readsTrack l G e27 _) (cwV 0 hts gX4_order_X4_readsTrack rfl rfl rfl hv_X4_readsTrack ⟨Nat.le_of_ble_eq_true rfl, Nat.le_of_ble_eq_true rfl⟩) (z_preV Z hS hP (by decide) (z_E_119 _) rfl rfl) rfl rfl hl.1 rfl (lv_room (Nat.le_of_ble_eq_true rfl)) dX4_order_181 ⟨Nat.zero_le _, Nat.zero_le _⟩) (fun H locs hP hS => ?_)
        exact L_X4_order_b184 C hr hlk Z _ _ _ h _ _ hP hS ls (lv_sub hl [1, 0] rfl)
      · have h := z_ip hc24 h
        refine lv_iconst (v := (-1)) hx hb dX4_order_176 (by decide) ?_
        refine lv_goto (tgt := 184) hx hb dX4_order_177 (by decide) ?_
        exact L_X4_order_b184 C hr hlk Z _ _ _ h _ _ hP hS ls (lv_sub hl [1, 0] rfl)
  · have h := z_in hc2 h
    by_cases hc28 : y0 = 112
    · have h := z_ip hc28 h
      refine lv_lookup (tgt := 238) (off := 201) hx hb dX4_order_37 (by decide +kernel) (by rw [hc28]; rfl) (by decide) ?_
      refine lv_aload_n hx hb dX4_order_238 rfl (lv_at hl 1 rfl) ?_
      refine lv_aload_n hx hb dX4_order_239 rfl (lv_at hl 1 rfl) ?_
      obtain ⟨r29, m30, e31, h⟩ := zb_some h
      refine z_calli hS (va_runV (As := []) (rest := [.ref (G.2.1 (119))]) C (c_X4_readsTrack l G e31 _) (cwV 0 hts gX4_order_X4_readsTrack rfl rfl rfl hv_X4_readsTrack ⟨Nat.le_of_ble_eq_true rfl, Nat.le_of_ble_eq_true rfl⟩) (z_preV Z hS hP (by decide) (z_E_119 _) rfl rfl) rfl rfl hl.1 rfl (lv_room (Nat.le_of_ble_eq_true rfl)) dX4_order_240 ⟨Nat.zero_le _, Nat.zero_le _⟩) (fun H locs hP hS => ?_)
      refine z_put C Z hP hS (k := 119) (ci := 4) (j := 7) (N := 12) (x := r29) (v := .int (r29)) (ty := .int) (by decide) (z_E_119 _) rfl inX4_order_X4 tyX4_ok nmX4 (by decide) wX4_order_3 rfl (by decide +kernel) rfl rfl (Nat.le_of_ble_eq_true rfl) (z_S_119_7 _ _) dX4_order_243 (fun H locs hP hS => ?_)
      refine lv_aload_n hx hb dX4_order_246 rfl (lv_at hl 1 rfl) ?_
      refine z_get C Z hP (k := 119) (ci := 4) (j := 7) (N := 12) (v := .int (((z_up m30 (119) 7 r29) 119 7))) (by decide) (z_E_119 _) rfl inX4_order_X4 (by decide) wX4_order_3 rfl dX4_order_247 ?_
      refine lv_iconst (v := (-1)) hx hb dX4_order_250 (by decide) ?_
      refine lv_icmp_ne (tgt := 259) hx hb dX4_order_251 (by decide) (fun hc32 => ?_) (fun hc32 => ?_)
      · have h := z_in hc32 h
        refine lv_iload_n hx hb dX4_order_259 rfl (lv_at hl 0 rfl) ?_
        obtain ⟨hg33, h⟩ := z_g h
        cases h
        exact z_retz C hr hlk hg33 hP hS dX4_order_260
      · have h := z_ip hc32 h
        refine lv_bipush (v := 32) hx hb dX4_order_254 (by decide) ?_
        refine lv_goto (tgt := 260) hx hb dX4_order_256 (by decide) ?_
        cases h
        exact z_retz C hr hlk rfl hP hS dX4_order_260
    · have h := z_in hc28 h
      by_cases hc34 : y0 = 115
      · have h := z_ip hc34 h
        refine lv_lookup (tgt := 88) (off := 51) hx hb dX4_order_37 (by decide +kernel) (by rw [hc34]; rfl) (by decide) ?_
        refine lv_aload_n hx hb dX4_order_88 rfl (lv_at hl 1 rfl) ?_
        refine lv_aload_n hx hb dX4_order_89 rfl (lv_at hl 1 rfl) ?_
        obtain ⟨r35, m36, e37, h⟩ := zb_some h
        refine z_calli hS (va_runV (As := []) (rest := [.ref (G.2.1 (119))]) C (c_X4_readsTrack l G e37 _) (cwV 0 hts gX4_order_X4_readsTrack rfl rfl rfl hv_X4_readsTrack ⟨Nat.le_of_ble_eq_true rfl, Nat.le_of_ble_eq_true rfl⟩) (z_preV Z hS hP (by decide) (z_E_119 _) rfl rfl) rfl rfl hl.1 rfl (lv_room (Nat.le_of_ble_eq_true rfl)) dX4_order_90 ⟨Nat.zero_le _, Nat.zero_le _⟩) (fun H locs hP hS => ?_)
        refine z_put C Z hP hS (k := 119) (ci := 4) (j := 7) (N := 12) (x := r35) (v := .int (r35)) (ty := .int) (by decide) (z_E_119 _) rfl inX4_order_X4 tyX4_ok nmX4 (by decide) wX4_order_3 rfl (by decide +kernel) rfl rfl (Nat.le_of_ble_eq_true rfl) (z_S_119_7 _ _) dX4_order_93 (fun H locs hP hS => ?_)
        refine lv_aload_n hx hb dX4_order_96 rfl (lv_at hl 1 rfl) ?_
        refine lv_aload_n hx hb dX4_order_97 rfl (lv_at hl 1 rfl) ?_
        refine z_get C Z hP (k := 119) (ci := 4) (j := 7) (N := 12) (v := .int (((z_up m36 (119) 7 r35) 119 7))) (by decide) (z_E_119 _) rfl inX4_order_X4 (by decide) wX4_order_3 rfl dX4_order_98 ?_
        refine lv_iconst (v := (-1)) hx hb dX4_order_101 (by decide) ?_
        refine lv_icmp_eq (tgt := 117) hx hb dX4_order_102 (by decide) (fun hc38 => ?_) (fun hc38 => ?_)
        · have h := z_ip hc38 h
          refine lv_iconst (v := (-1)) hx hb dX4_order_117 (by decide) ?_
          refine lv_goto (tgt := 129) hx hb dX4_order_118 (by decide) ?_
          refine z_put C Z hP hS (k := 119) (ci := 4) (j := 8) (N := 12) (x := (-1)) (v := .int ((-1))) (ty := .int) (by decide) (z_E_119 _) rfl inX4_order_X4 tyX4_ok nmX4 (by decide) wX4_order_4 rfl (by decide +kernel) rfl rfl (Nat.le_of_ble_eq_true rfl) (z_S_119_8 _ _) dX4_order_129 (fun H locs hP hS => ?_)
          refine lv_aload_n hx hb dX4_order_132 rfl (lv_at hl 1 rfl) ?_
          refine z_get C Z hP (k := 119) (ci := 4) (j := 8) (N := 12) (v := .int (((z_up (z_up m36 (119) 7 r35) (119) 8 (-1)) 119 8))) (by decide) (z_E_119 _) rfl inX4_order_X4 (by decide) wX4_order_4 rfl dX4_order_133 ?_
          refine lv_iconst (v := (-1)) hx hb dX4_order_136 (by decide) ?_
          refine lv_icmp_ne (tgt := 145) hx hb dX4_order_137 (by decide) (fun hc39 => ?_) (fun hc39 => ?_)
          · have h := z_in hc39 h
            refine lv_iload_n hx hb dX4_order_145 rfl (lv_at hl 0 rfl) ?_
            obtain ⟨hg40, h⟩ := z_g h
            cases h
            exact z_retz C hr hlk hg40 hP hS dX4_order_146
          · have h := z_ip hc39 h
            refine lv_bipush (v := 32) hx hb dX4_order_140 (by decide) ?_
            refine lv_goto (tgt := 146) hx hb dX4_order_142 (by decide) ?_
            cases h
            exact z_retz C hr hlk rfl hP hS dX4_order_146
        · have h := z_in hc38 h
          refine lv_aload_n hx hb dX4_order_105 rfl (lv_at hl 1 rfl) ?_
          refine lv_bipush (v := 61) hx hb dX4_order_106 (by decide) ?_
          refine lv_bipush (v := 61) hx hb dX4_order_108 (by decide) ?_
          obtain ⟨r41, m42, e43, h⟩ := zb_some h
          refine z_calli hS (va_runV (As := [.int (61), .int (61)]) (rest := [.ref (G.2.1 (119))]) C (c_X4_takes l G e43 _) (cwV 2 hts gX4_order_X4_takes rfl rfl rfl hv_X4_takes ⟨Nat.le_of_ble_eq_true rfl, Nat.le_of_ble_eq_true rfl⟩) (z_preV Z hS hP (by decide) (z_E_119 _) rfl rfl) rfl rfl hl.1 rfl (lv_room (Nat.le_of_ble_eq_true rfl)) dX4_order_110 ⟨Nat.zero_le _, Nat.zero_le _⟩) (fun H locs hP hS => ?_)
          refine lv_iconst (v := (-1)) hx hb dX4_order_113 (by decide) ?_
          refine lv_icmp_ne (tgt := 121) hx hb dX4_order_114 (by decide) (fun hc44 => ?_) (fun hc44 => ?_)
          · have h := z_in hc44 h
            refine lv_aload_n hx hb dX4_order_121 rfl (lv_at hl 1 rfl) ?_
            refine lv_bipush (v := 49) hx hb dX4_order_122 (by decide) ?_
            refine lv_bipush (v := 57) hx hb dX4_order_124 (by decide) ?_
            obtain ⟨r45, m46, e47, h⟩ := zb_some h
            refine z_calli hS (va_runV (As := [.int (49), .int (57)]) (rest := [.ref (G.2.1 (119))]) C (c_X4_takes l G e47 _) (cwV 2 hts gX4_order_X4_takes rfl rfl rfl hv_X4_takes ⟨Nat.le_of_ble_eq_true rfl, Nat.le_of_ble_eq_true rfl⟩) (z_preV Z hS hP (by decide) (z_E_119 _) rfl rfl) rfl rfl hl.1 rfl (lv_room (Nat.le_of_ble_eq_true rfl)) dX4_order_126 ⟨Nat.zero_le _, Nat.zero_le _⟩) (fun H locs hP hS => ?_)
            refine z_put C Z hP hS (k := 119) (ci := 4) (j := 8) (N := 12) (x := r45) (v := .int (r45)) (ty := .int) (by decide) (z_E_119 _) rfl inX4_order_X4 tyX4_ok nmX4 (by decide) wX4_order_4 rfl (by decide +kernel) rfl rfl (Nat.le_of_ble_eq_true rfl) (z_S_119_8 _ _) dX4_order_129 (fun H locs hP hS => ?_)
            refine lv_aload_n hx hb dX4_order_132 rfl (lv_at hl 1 rfl) ?_
            refine z_get C Z hP (k := 119) (ci := 4) (j := 8) (N := 12) (v := .int (((z_up m46 (119) 8 r45) 119 8))) (by decide) (z_E_119 _) rfl inX4_order_X4 (by decide) wX4_order_4 rfl dX4_order_133 ?_
            refine lv_iconst (v := (-1)) hx hb dX4_order_136 (by decide) ?_
            refine lv_icmp_ne (tgt := 145) hx hb dX4_order_137 (by decide) (fun hc48 => ?_) (fun hc48 => ?_)
            · have h := z_in hc48 h
              refine lv_iload_n hx hb dX4_order_145 rfl (lv_at hl 0 rfl) ?_
              obtain ⟨hg49, h⟩ := z_g h
              cases h
              exact z_retz C hr hlk hg49 hP hS dX4_order_146
            · have h := z_ip hc48 h
              refine lv_bipush (v := 32) hx hb dX4_order_140 (by decide) ?_
              refine lv_goto (tgt := 146) hx hb dX4_order_142 (by decide) ?_
              cases h
              exact z_retz C hr hlk rfl hP hS dX4_order_146
          · have h := z_ip hc44 h
            refine lv_iconst (v := (-1)) hx hb dX4_order_117 (by decide) ?_
            refine lv_goto (tgt := 129) hx hb dX4_order_118 (by decide) ?_
            refine z_put C Z hP hS (k := 119) (ci := 4) (j := 8) (N := 12) (x := (-1)) (v := .int ((-1))) (ty := .int) (by decide) (z_E_119 _) rfl inX4_order_X4 tyX4_ok nmX4 (by decide) wX4_order_4 rfl (by decide +kernel) rfl rfl (Nat.le_of_ble_eq_true rfl) (z_S_119_8 _ _) dX4_order_129 (fun H locs hP hS => ?_)
            refine lv_aload_n hx hb dX4_order_132 rfl (lv_at hl 1 rfl) ?_
            refine z_get C Z hP (k := 119) (ci := 4) (j := 8) (N := 12) (v := .int (((z_up m42 (119) 8 (-1)) 119 8))) (by decide) (z_E_119 _) rfl inX4_order_X4 (by decide) wX4_order_4 rfl dX4_order_133 ?_
            refine lv_iconst (v := (-1)) hx hb dX4_order_136 (by decide) ?_
            refine lv_icmp_ne (tgt := 145) hx hb dX4_order_137 (by decide) (fun hc50 => ?_) (fun hc50 => ?_)
            · have h := z_in hc50 h
              refine lv_iload_n hx hb dX4_order_145 rfl (lv_at hl 0 rfl) ?_
              obtain ⟨hg51, h⟩ := z_g h
              cases h
              exact z_retz C hr hlk hg51 hP hS dX4_order_146
            · have h := z_ip hc50 h
              refine lv_bipush (v := 32) hx hb dX4_order_140 (by decide) ?_
              refine lv_goto (tgt := 146) hx hb dX4_order_142 (by decide) ?_
              cases h
              exact z_retz C hr hlk rfl hP hS dX4_order_146
      · have h := z_in hc34 h
        by_cases hc52 : y0 = 119
        · have h := z_ip hc52 h
          refine lv_lookup (tgt := 288) (off := 251) hx hb dX4_order_37 (by decide +kernel) (by rw [hc52]; rfl) (by decide) ?_
          refine lv_iload_n hx hb dX4_order_288 rfl (lv_at hl 0 rfl) ?_
          obtain ⟨hg53, h⟩ := z_g h
          cases h
          exact z_retz C hr hlk hg53 hP hS dX4_order_289
        · have h := z_in hc52 h
          by_cases hc54 : y0 = 120
          · have h := z_ip hc54 h
            refine lv_lookup (tgt := 261) (off := 224) hx hb dX4_order_37 (by decide +kernel) (by rw [hc54]; rfl) (by decide) ?_
            refine lv_aload_n hx hb dX4_order_261 rfl (lv_at hl 1 rfl) ?_
            refine lv_aload_n hx hb dX4_order_262 rfl (lv_at hl 1 rfl) ?_
            refine lv_bipush (v := 97) hx hb dX4_order_263 (by decide) ?_
            refine lv_bipush (v := 102) hx hb dX4_order_265 (by decide) ?_
            obtain ⟨r55, m56, e57, h⟩ := zb_some h
            refine z_calli hS (va_runV (As := [.int (97), .int (102)]) (rest := [.ref (G.2.1 (119))]) C (c_X4_takes l G e57 _) (cwV 2 hts gX4_order_X4_takes rfl rfl rfl hv_X4_takes ⟨Nat.le_of_ble_eq_true rfl, Nat.le_of_ble_eq_true rfl⟩) (z_preV Z hS hP (by decide) (z_E_119 _) rfl rfl) rfl rfl hl.1 rfl (lv_room (Nat.le_of_ble_eq_true rfl)) dX4_order_267 ⟨Nat.zero_le _, Nat.zero_le _⟩) (fun H locs hP hS => ?_)
            refine z_put C Z hP hS (k := 119) (ci := 4) (j := 7) (N := 12) (x := r55) (v := .int (r55)) (ty := .int) (by decide) (z_E_119 _) rfl inX4_order_X4 tyX4_ok nmX4 (by decide) wX4_order_3 rfl (by decide +kernel) rfl rfl (Nat.le_of_ble_eq_true rfl) (z_S_119_7 _ _) dX4_order_270 (fun H locs hP hS => ?_)
            refine lv_aload_n hx hb dX4_order_273 rfl (lv_at hl 1 rfl) ?_
            refine z_get C Z hP (k := 119) (ci := 4) (j := 7) (N := 12) (v := .int (((z_up m56 (119) 7 r55) 119 7))) (by decide) (z_E_119 _) rfl inX4_order_X4 (by decide) wX4_order_3 rfl dX4_order_274 ?_
            refine lv_iconst (v := (-1)) hx hb dX4_order_277 (by decide) ?_
            refine lv_icmp_ne (tgt := 286) hx hb dX4_order_278 (by decide) (fun hc58 => ?_) (fun hc58 => ?_)
            · have h := z_in hc58 h
              refine lv_iload_n hx hb dX4_order_286 rfl (lv_at hl 0 rfl) ?_
              obtain ⟨hg59, h⟩ := z_g h
              cases h
              exact z_retz C hr hlk hg59 hP hS dX4_order_287
            · have h := z_ip hc58 h
              refine lv_bipush (v := 32) hx hb dX4_order_281 (by decide) ?_
              refine lv_goto (tgt := 287) hx hb dX4_order_283 (by decide) ?_
              cases h
              exact z_retz C hr hlk rfl hP hS dX4_order_287
          · have h := z_in hc54 h
            refine lv_lookup (tgt := 290) (off := 253) hx hb dX4_order_37 (by decide +kernel) ((lv_osw hc2 (by decide)).trans ((lv_osw hc28 (by decide)).trans ((lv_osw hc34 (by decide)).trans ((lv_osw hc52 (by decide)).trans ((lv_osw hc54 (by decide)).trans rfl))))) (by decide) ?_
            refine lv_aload_n hx hb dX4_order_290 rfl (lv_at hl 1 rfl) ?_
            refine lv_dup hx hb dX4_order_291 rfl ?_
            refine z_get C Z hP (k := 119) (ci := 4) (j := 6) (N := 12) (v := .int (((z_up μ (119) 6 ((μ 119 6) + 1)) 119 6))) (by decide) (z_E_119 _) rfl inX4_order_X4 (by decide) wX4_order_0 rfl dX4_order_292 ?_
            refine lv_iconst (v := 1) hx hb dX4_order_295 (by decide) ?_
            refine lv_isub hx hb dX4_order_296 ?_
            refine z_put C Z hP hS (k := 119) (ci := 4) (j := 6) (N := 12) (x := (((z_up μ (119) 6 ((μ 119 6) + 1)) 119 6) - 1)) (v := .int ((((z_up μ (119) 6 ((μ 119 6) + 1)) 119 6) - 1))) (ty := .int) (by decide) (z_E_119 _) rfl inX4_order_X4 tyX4_ok nmX4 (by decide) wX4_order_0 rfl (by decide +kernel) rfl rfl (Nat.le_of_ble_eq_true rfl) (z_S_119_6 _ _) dX4_order_297 (fun H locs hP hS => ?_)
            refine lv_bipush (v := 32) hx hb dX4_order_300 (by decide) ?_
            cases h
            exact z_retz C hr hlk rfl hP hS dX4_order_302
set_option maxHeartbeats 4000000 in
set_option maxRecDepth 100000 in
theorem c_X4_order (l : Launch) (G : zG) {μ mu1 : Mm} {r : Int32} (h : f_X4_order μ = some (r, mu1)) (sz : Nat) : Met l yX4_order wsX4_order rm_X4_order (z_Pre G μ [.ref (G.2.1 (119))] sz) (z_Qi G r mu1 sz) 0 0 (z_A G sz) := by
  refine z_start (cc := cX4_order) (maxL := 2) (ret := (some .char)) (own := RX4) (by decide) rfl rfl (Nat.le_of_ble_eq_true rfl) (fun p e s m args below meth c C hr hlk Z hP ls hl => ?_) sz
  have hx := C.1
  have hb := C.2.1
  have hts := C.2.2.2.2
  have hS : va_S (z_A G s.heap.size) s.heap s.heap [] := va_S.rf
  have hl : lv_has ls 2 [(0, .ref (G.2.1 (119)))] := hl
  unfold f_X4_order at h
  refine lv_aload_n hx hb dX4_order_0 rfl (lv_at hl 0 rfl) ?_
  refine z_get C Z hP (k := 119) (ci := 4) (j := 6) (N := 12) (v := .int ((μ 119 6))) (by decide) (z_E_119 _) rfl inX4_order_X4 (by decide) wX4_order_0 rfl dX4_order_1 ?_
  refine lv_aload_n hx hb dX4_order_4 rfl (lv_at hl 0 rfl) ?_
  refine z_get C Z hP (k := 119) (ci := 4) (j := 4) (N := 12) (v := .int ((μ 119 4))) (by decide) (z_E_119 _) rfl inX4_order_X4 (by decide) wX4_order_2 rfl dX4_order_5 ?_
  refine lv_icmp_ge (tgt := 23) hx hb dX4_order_8 (by decide) (fun hc1 => ?_) (fun hc1 => ?_)
  · have h := z_ip hc1 h
    refine lv_bipush (v := 32) hx hb dX4_order_23 (by decide) ?_
    exact L_X4_order_b25 C hr hlk Z _ _ h _ _ hP hS ls (lv_sub hl [0] rfl)
  · have h := z_in hc1 h
    refine lv_aload_n hx hb dX4_order_11 rfl (lv_at hl 0 rfl) ?_
    refine z_get C Z hP (k := 119) (ci := 4) (j := 3) (N := 12) (v := .ref (G.2.1 (122))) (by decide) (z_E_119 _) rfl inX4_order_X4 (by decide) wX4_order_6 rfl dX4_order_12 ?_
    refine lv_aload_n hx hb dX4_order_15 rfl (lv_at hl 0 rfl) ?_
    refine z_get C Z hP (k := 119) (ci := 4) (j := 6) (N := 12) (v := .int ((μ 119 6))) (by decide) (z_E_119 _) rfl inX4_order_X4 (by decide) wX4_order_0 rfl dX4_order_16 ?_
    obtain ⟨hg60, h⟩ := z_g h
    refine z_cald C Z hP (k := 122) (n := 60) (j := ((μ 119 6)).toNatClampNeg) (by decide) (z_E_122 _) hg60 rfl dX4_order_19 ?_
    refine lv_goto (tgt := 25) hx hb dX4_order_20 (by decide) ?_
    exact L_X4_order_b25 C hr hlk Z _ _ h _ _ hP hS ls (lv_sub hl [0] rfl)
abbrev rm_X4_error : Room := { frames := 4, cells := 0, slots := 0, locals := 87 }
theorem hd_X4_error : yX4_error.cls ≠ "java/lang/invoke/MethodHandle" ∧ yX4_error.cls ≠ "java/lang/invoke/VarHandle" ∧ (parseMethodDescriptor yX4_error.desc).map (fun d => d.parameters.length) = some 0 := by decide +kernel
theorem hv_X4_error : yX4_error.cls = RX4 ∧ yX4_error.cls ≠ "java/lang/invoke/MethodHandle" ∧ yX4_error.cls ≠ "java/lang/invoke/VarHandle" ∧ (parseMethodDescriptor yX4_error.desc).map (fun d => d.parameters.length) = some 0 := ⟨rfl, hd_X4_error⟩
theorem wX4_error_0 : Cond.fieldLink RX4 122 "WaxCopiesModel" "spot" "I" ∈ wsX4_error := by decide +kernel
theorem inX4_error_X4 : ∀ w ∈ wsX40, w ∈ wsX4_error := by decide +kernel
theorem wX4_error_2 : Cond.fieldLink RX4 119 "WaxCopiesModel" "typed" "I" ∈ wsX4_error := by decide +kernel
set_option maxHeartbeats 4000000 in
set_option maxRecDepth 100000 in
theorem L_X4_error_b5 {p : Program} {l : Launch} {e : Env} {s : State} {m : MethodId} {args : Array Value} {below : List Frame} {meth : Method} {c : Code} {G : zG} {r : Int32} {mu1 : Mm}  (C : CallFix p m c cX4_error 1 s args wsX4_error RX4) (hr : meth.sig.returnType = (some .int)) (hlk : meth.locks = false) (Z : z_Z G (z_A G s.heap.size) s)  :
    ∀ (n : Nat)  (μ : Mm), f_X4_error_b5  n  μ = some (r, mu1) → ∀ (H : Heap) (locs : List Loc), z_P G μ H → va_S (z_A G s.heap.size) s.heap H locs → ∀ ls : Array Slot, lv_has ls 1 [(0, .ref (G.2.1 (119)))] → W p l e rm_X4_error s m args below meth c H locs 0 0 (MQ below (z_Qi G r mu1 s.heap.size) args s 0 0 (z_A G s.heap.size)) (F0 m 5 ls []) := by
  have hx := C.1
  have hb := C.2.1
  have hts := C.2.2.2.2
  intro n
  induction n with
  | zero =>
    intro  μ h
    rw [f_X4_error_b5] at h
    cases h
  | succ n ih =>
    intro  μ h H locs hP hS ls hl
    rw [f_X4_error_b5] at h
    refine lv_aload_n hx hb dX4_error_5 rfl (lv_at hl 0 rfl) ?_
    obtain ⟨r1, m2, e3, h⟩ := zb_some h
    refine z_calli hS (va_runV (As := []) (rest := []) C (c_X4_order l G e3 _) (cwV 0 hts gX4_error_X4_order rfl rfl rfl hv_X4_order ⟨Nat.le_of_ble_eq_true rfl, Nat.le_of_ble_eq_true rfl⟩) (z_preV Z hS hP (by decide) (z_E_119 _) rfl rfl) rfl rfl hl.1 rfl (lv_room (Nat.le_of_ble_eq_true rfl)) dX4_error_6 ⟨Nat.zero_le _, Nat.zero_le _⟩) (fun H locs hP hS => ?_)
    refine lv_bipush (v := 32) hx hb dX4_error_9 (by decide) ?_
    refine lv_icmp_eq (tgt := 44) hx hb dX4_error_11 (by decide) (fun hc4 => ?_) (fun hc4 => ?_)
    · have h := z_ip hc4 h
      refine lv_aload_n hx hb dX4_error_44 rfl (lv_at hl 0 rfl) ?_
      refine z_get C Z hP (k := 119) (ci := 4) (j := 6) (N := 12) (v := .int ((m2 119 6))) (by decide) (z_E_119 _) rfl inX4_error_X4 (by decide) wX4_error_0 rfl dX4_error_45 ?_
      cases h
      exact z_reti C hr hlk hP hS dX4_error_48
    · have h := z_in hc4 h
      refine lv_aload_n hx hb dX4_error_14 rfl (lv_at hl 0 rfl) ?_
      refine z_get C Z hP (k := 119) (ci := 4) (j := 6) (N := 12) (v := .int ((m2 119 6))) (by decide) (z_E_119 _) rfl inX4_error_X4 (by decide) wX4_error_0 rfl dX4_error_15 ?_
      refine lv_aload_n hx hb dX4_error_18 rfl (lv_at hl 0 rfl) ?_
      refine z_get C Z hP (k := 119) (ci := 4) (j := 4) (N := 12) (v := .int ((m2 119 4))) (by decide) (z_E_119 _) rfl inX4_error_X4 (by decide) wX4_error_2 rfl dX4_error_19 ?_
      refine lv_icmp_ne (tgt := 27) hx hb dX4_error_22 (by decide) (fun hc5 => ?_) (fun hc5 => ?_)
      · have h := z_in hc5 h
        refine lv_aload_n hx hb dX4_error_27 rfl (lv_at hl 0 rfl) ?_
        refine lv_bipush (v := 59) hx hb dX4_error_28 (by decide) ?_
        refine lv_bipush (v := 59) hx hb dX4_error_30 (by decide) ?_
        obtain ⟨r6, m7, e8, h⟩ := zb_some h
        refine z_calli hS (va_runV (As := [.int (59), .int (59)]) (rest := []) C (c_X4_takes l G e8 _) (cwV 2 hts gX4_error_X4_takes rfl rfl rfl hv_X4_takes ⟨Nat.le_of_ble_eq_true rfl, Nat.le_of_ble_eq_true rfl⟩) (z_preV Z hS hP (by decide) (z_E_119 _) rfl rfl) rfl rfl hl.1 rfl (lv_room (Nat.le_of_ble_eq_true rfl)) dX4_error_32 ⟨Nat.zero_le _, Nat.zero_le _⟩) (fun H locs hP hS => ?_)
        refine lv_iconst (v := (-1)) hx hb dX4_error_35 (by decide) ?_
        refine lv_icmp_ne (tgt := 5) hx hb dX4_error_36 (by decide) (fun hc9 => ?_) (fun hc9 => ?_)
        · have h := z_in hc9 h
          exact ih _ h _ _ hP hS ls (lv_sub hl [0] rfl)
        · have h := z_ip hc9 h
          refine lv_aload_n hx hb dX4_error_39 rfl (lv_at hl 0 rfl) ?_
          refine z_get C Z hP (k := 119) (ci := 4) (j := 6) (N := 12) (v := .int ((m7 119 6))) (by decide) (z_E_119 _) rfl inX4_error_X4 (by decide) wX4_error_0 rfl dX4_error_40 ?_
          cases h
          exact z_reti C hr hlk hP hS dX4_error_43
      · have h := z_ip hc5 h
        refine lv_iconst (v := (-1)) hx hb dX4_error_25 (by decide) ?_
        cases h
        exact z_reti C hr hlk hP hS dX4_error_26
set_option maxHeartbeats 4000000 in
set_option maxRecDepth 100000 in
theorem c_X4_error (l : Launch) (G : zG) {μ mu1 : Mm} {r : Int32} (h : f_X4_error μ = some (r, mu1)) (sz : Nat) : Met l yX4_error wsX4_error rm_X4_error (z_Pre G μ [.ref (G.2.1 (119))] sz) (z_Qi G r mu1 sz) 0 0 (z_A G sz) := by
  refine z_start (cc := cX4_error) (maxL := 1) (ret := (some .int)) (own := RX4) (by decide) rfl rfl (Nat.le_of_ble_eq_true rfl) (fun p e s m args below meth c C hr hlk Z hP ls hl => ?_) sz
  have hx := C.1
  have hb := C.2.1
  have hts := C.2.2.2.2
  have hS : va_S (z_A G s.heap.size) s.heap s.heap [] := va_S.rf
  have hl : lv_has ls 1 [(0, .ref (G.2.1 (119)))] := hl
  unfold f_X4_error at h
  refine lv_aload_n hx hb dX4_error_0 rfl (lv_at hl 0 rfl) ?_
  refine lv_iconst (v := 0) hx hb dX4_error_1 (by decide) ?_
  refine z_put C Z hP hS (k := 119) (ci := 4) (j := 6) (N := 12) (x := 0) (v := .int (0)) (ty := .int) (by decide) (z_E_119 _) rfl inX4_error_X4 tyX4_ok nmX4 (by decide) wX4_error_0 rfl (by decide +kernel) rfl rfl (Nat.le_of_ble_eq_true rfl) (z_S_119_6 _ _) dX4_error_2 (fun H locs hP hS => ?_)
  exact L_X4_error_b5 C hr hlk Z z_F _ h _ _ hP hS ls (lv_sub hl [0] rfl)
abbrev rm_X4_firstError : Room := { frames := 5, cells := 0, slots := 0, locals := 107 }
theorem hd_X4_firstError : yX4_firstError.cls ≠ "java/lang/invoke/MethodHandle" ∧ yX4_firstError.cls ≠ "java/lang/invoke/VarHandle" ∧ (parseMethodDescriptor yX4_firstError.desc).map (fun d => d.parameters.length) = some 0 := by decide +kernel
theorem hv_X4_firstError : yX4_firstError.cls = RX4 ∧ yX4_firstError.cls ≠ "java/lang/invoke/MethodHandle" ∧ yX4_firstError.cls ≠ "java/lang/invoke/VarHandle" ∧ (parseMethodDescriptor yX4_firstError.desc).map (fun d => d.parameters.length) = some 0 := ⟨rfl, hd_X4_firstError⟩
theorem wX4_firstError_0 : Cond.fieldLink RX4 27 "WaxCopiesModel" "thrown" "I" ∈ wsX4_firstError := by decide +kernel
theorem inX4_firstError_X4 : ∀ w ∈ wsX40, w ∈ wsX4_firstError := by decide +kernel
theorem wX4_firstError_2 : Cond.fieldLink RX4 119 "WaxCopiesModel" "typed" "I" ∈ wsX4_firstError := by decide +kernel
set_option maxHeartbeats 4000000 in
set_option maxRecDepth 100000 in
theorem c_X4_firstError (l : Launch) (G : zG) {μ mu1 : Mm} {r : Int32} (h : f_X4_firstError μ = some (r, mu1)) (sz : Nat) : Met l yX4_firstError wsX4_firstError rm_X4_firstError (z_Pre G μ [.ref (G.2.1 (119))] sz) (z_Qi G r mu1 sz) 0 0 (z_A G sz) := by
  refine z_start (cc := cX4_firstError) (maxL := 2) (ret := (some .int)) (own := RX4) (by decide) rfl rfl (Nat.le_of_ble_eq_true rfl) (fun p e s m args below meth c C hr hlk Z hP ls hl => ?_) sz
  have hx := C.1
  have hb := C.2.1
  have hts := C.2.2.2.2
  have hS : va_S (z_A G s.heap.size) s.heap s.heap [] := va_S.rf
  have hl : lv_has ls 2 [(0, .ref (G.2.1 (119)))] := hl
  unfold f_X4_firstError at h
  refine lv_aload_n hx hb dX4_firstError_0 rfl (lv_at hl 0 rfl) ?_
  refine lv_iconst (v := 0) hx hb dX4_firstError_1 (by decide) ?_
  refine z_put C Z hP hS (k := 119) (ci := 4) (j := 5) (N := 12) (x := 0) (v := .int (0)) (ty := .int) (by decide) (z_E_119 _) rfl inX4_firstError_X4 tyX4_ok nmX4 (by decide) wX4_firstError_0 rfl (by decide +kernel) rfl rfl (Nat.le_of_ble_eq_true rfl) (z_S_119_5 _ _) dX4_firstError_2 (fun H locs hP hS => ?_)
  refine lv_aload_n hx hb dX4_firstError_5 rfl (lv_at hl 0 rfl) ?_
  obtain ⟨r1, m2, e3, h⟩ := zb_some h
  refine z_calli hS (va_runV (As := []) (rest := []) C (c_X4_error l G e3 _) (cwV 0 hts gX4_firstError_X4_error rfl rfl rfl hv_X4_error ⟨Nat.le_of_ble_eq_true rfl, Nat.le_of_ble_eq_true rfl⟩) (z_preV Z hS hP (by decide) (z_E_119 _) rfl rfl) rfl rfl hl.1 rfl (lv_room (Nat.le_of_ble_eq_true rfl)) dX4_firstError_6 ⟨Nat.zero_le _, Nat.zero_le _⟩) (fun H locs hP hS => ?_)
  refine lv_istore_n (lv' := [(1, .int (r1)), (0, .ref (G.2.1 (119)))]) hx hb dX4_firstError_9 rfl hl (by decide) rfl (fun ls hl => ?_)
  refine lv_iload_n hx hb dX4_firstError_10 rfl (lv_at hl 0 rfl) ?_
  refine lv_iconst (v := (-1)) hx hb dX4_firstError_11 (by decide) ?_
  refine lv_icmp_ne (tgt := 22) hx hb dX4_firstError_12 (by decide) (fun hc4 => ?_) (fun hc4 => ?_)
  · have h := z_in hc4 h
    refine lv_iload_n hx hb dX4_firstError_22 rfl (lv_at hl 0 rfl) ?_
    cases h
    exact z_reti C hr hlk hP hS dX4_firstError_23
  · have h := z_ip hc4 h
    refine lv_aload_n hx hb dX4_firstError_15 rfl (lv_at hl 1 rfl) ?_
    refine z_get C Z hP (k := 119) (ci := 4) (j := 4) (N := 12) (v := .int ((m2 119 4))) (by decide) (z_E_119 _) rfl inX4_firstError_X4 (by decide) wX4_firstError_2 rfl dX4_firstError_16 ?_
    refine lv_goto (tgt := 23) hx hb dX4_firstError_19 (by decide) ?_
    cases h
    exact z_reti C hr hlk hP hS dX4_firstError_23
abbrev rm_X4_does : Room := { frames := 4, cells := 0, slots := 0, locals := 90 }
theorem hd_X4_does : yX4_does.cls ≠ "java/lang/invoke/MethodHandle" ∧ yX4_does.cls ≠ "java/lang/invoke/VarHandle" ∧ (parseMethodDescriptor yX4_does.desc).map (fun d => d.parameters.length) = some 1 := by decide +kernel
theorem hv_X4_does : yX4_does.cls = RX4 ∧ yX4_does.cls ≠ "java/lang/invoke/MethodHandle" ∧ yX4_does.cls ≠ "java/lang/invoke/VarHandle" ∧ (parseMethodDescriptor yX4_does.desc).map (fun d => d.parameters.length) = some 1 := ⟨rfl, hd_X4_does⟩
theorem wX4_does_0 : Cond.fieldLink RX4 132 "WaxCopiesModel" "one" "I" ∈ wsX4_does := by decide +kernel
theorem inX4_does_X4 : ∀ w ∈ wsX40, w ∈ wsX4_does := by decide +kernel
theorem wX4_does_2 : Cond.fieldLink RX4 135 "WaxCopiesModel" "two" "I" ∈ wsX4_does := by decide +kernel
theorem wX4_does_3 : Cond.fieldLink RX4 138 "WaxCopiesModel" "three" "I" ∈ wsX4_does := by decide +kernel
set_option maxHeartbeats 4000000 in
set_option maxRecDepth 100000 in
theorem c_X4_does (l : Launch) (G : zG) {x1 : Int32} {μ mu1 : Mm} {r : Int32} (h : f_X4_does x1 μ = some (r, mu1)) (sz : Nat) : Met l yX4_does wsX4_does rm_X4_does (z_Pre G μ [.ref (G.2.1 (119)), .int (x1)] sz) (z_Qi G r mu1 sz) 0 0 (z_A G sz) := by
  refine z_start (cc := cX4_does) (maxL := 2) (ret := (some .boolean)) (own := RX4) (by decide) rfl rfl (Nat.le_of_ble_eq_true rfl) (fun p e s m args below meth c C hr hlk Z hP ls hl => ?_) sz
  have hx := C.1
  have hb := C.2.1
  have hts := C.2.2.2.2
  have hS : va_S (z_A G s.heap.size) s.heap s.heap [] := va_S.rf
  have hl : lv_has ls 2 [(0, .ref (G.2.1 (119))), (1, .int (x1))] := hl
  unfold f_X4_does at h
  refine lv_iload_n hx hb dX4_does_0 rfl (lv_at hl 1 rfl) ?_
  by_cases hc1 : x1 = 99
  · have h := z_ip hc1 h
    refine lv_lookup (tgt := 67) (off := 66) hx hb dX4_does_1 (by decide +kernel) (by rw [hc1]; rfl) (by decide) ?_
    refine lv_aload_n hx hb dX4_does_67 rfl (lv_at hl 0 rfl) ?_
    refine lv_aload_n hx hb dX4_does_68 rfl (lv_at hl 0 rfl) ?_
    refine z_get C Z hP (k := 119) (ci := 4) (j := 7) (N := 12) (v := .int ((μ 119 7))) (by decide) (z_E_119 _) rfl inX4_does_X4 (by decide) wX4_does_0 rfl dX4_does_69 ?_
    refine lv_aload_n hx hb dX4_does_72 rfl (lv_at hl 0 rfl) ?_
    refine z_get C Z hP (k := 119) (ci := 4) (j := 8) (N := 12) (v := .int ((μ 119 8))) (by decide) (z_E_119 _) rfl inX4_does_X4 (by decide) wX4_does_2 rfl dX4_does_73 ?_
    refine lv_aload_n hx hb dX4_does_76 rfl (lv_at hl 0 rfl) ?_
    refine z_get C Z hP (k := 119) (ci := 4) (j := 9) (N := 12) (v := .int ((μ 119 9))) (by decide) (z_E_119 _) rfl inX4_does_X4 (by decide) wX4_does_3 rfl dX4_does_77 ?_
    refine lv_iconst (v := 1) hx hb dX4_does_80 (by decide) ?_
    refine lv_iadd hx hb dX4_does_81 ?_
    obtain ⟨r2, m3, e4, h⟩ := zb_some h
    refine z_calli hS (va_runV (As := [.int ((μ 119 7)), .int ((μ 119 8)), .int (((μ 119 9) + 1))]) (rest := []) C (c_X4_makes l G e4 _) (cwV 3 hts gX4_does_X4_makes rfl rfl rfl hv_X4_makes ⟨Nat.le_of_ble_eq_true rfl, Nat.le_of_ble_eq_true rfl⟩) (z_preV Z hS hP (by decide) (z_E_119 _) rfl rfl) rfl rfl hl.1 rfl (lv_room (Nat.le_of_ble_eq_true rfl)) dX4_does_82 ⟨Nat.zero_le _, Nat.zero_le _⟩) (fun H locs hP hS => ?_)
    refine lv_if_ne (tgt := 92) hx hb dX4_does_85 (by decide) (fun hc5 => ?_) (fun hc5 => ?_)
    · have h := z_in hc5 h
      refine lv_iconst (v := 0) hx hb dX4_does_92 (by decide) ?_
      cases h
      exact z_retz C hr hlk rfl hP hS dX4_does_93
    · have h := z_ip hc5 h
      refine lv_iconst (v := 1) hx hb dX4_does_88 (by decide) ?_
      refine lv_goto (tgt := 93) hx hb dX4_does_89 (by decide) ?_
      cases h
      exact z_retz C hr hlk rfl hP hS dX4_does_93
  · have h := z_in hc1 h
    by_cases hc6 : x1 = 112
    · have h := z_ip hc6 h
      refine lv_lookup (tgt := 94) (off := 93) hx hb dX4_does_1 (by decide +kernel) (by rw [hc6]; rfl) (by decide) ?_
      refine lv_aload_n hx hb dX4_does_94 rfl (lv_at hl 0 rfl) ?_
      refine lv_aload_n hx hb dX4_does_95 rfl (lv_at hl 0 rfl) ?_
      refine z_get C Z hP (k := 119) (ci := 4) (j := 7) (N := 12) (v := .int ((μ 119 7))) (by decide) (z_E_119 _) rfl inX4_does_X4 (by decide) wX4_does_0 rfl dX4_does_96 ?_
      obtain ⟨r7, m8, e9, h⟩ := zb_some h
      refine z_calli hS (va_runV (As := [.int ((μ 119 7))]) (rest := []) C (c_X4_plays l G e9 _) (cwV 1 hts gX4_does_X4_plays rfl rfl rfl hv_X4_plays ⟨Nat.le_of_ble_eq_true rfl, Nat.le_of_ble_eq_true rfl⟩) (z_preV Z hS hP (by decide) (z_E_119 _) rfl rfl) rfl rfl hl.1 rfl (lv_room (Nat.le_of_ble_eq_true rfl)) dX4_does_99 ⟨Nat.zero_le _, Nat.zero_le _⟩) (fun H locs hP hS => ?_)
      refine lv_bipush (v := 10) hx hb dX4_does_102 (by decide) ?_
      refine lv_icmp_lt (tgt := 111) hx hb dX4_does_104 (by decide) (fun hc10 => ?_) (fun hc10 => ?_)
      · have h := z_ip hc10 h
        refine lv_iconst (v := 0) hx hb dX4_does_111 (by decide) ?_
        cases h
        exact z_retz C hr hlk rfl hP hS dX4_does_112
      · have h := z_in hc10 h
        refine lv_iconst (v := 1) hx hb dX4_does_107 (by decide) ?_
        refine lv_goto (tgt := 112) hx hb dX4_does_108 (by decide) ?_
        cases h
        exact z_retz C hr hlk rfl hP hS dX4_does_112
    · have h := z_in hc6 h
      by_cases hc11 : x1 = 115
      · have h := z_ip hc11 h
        refine lv_lookup (tgt := 44) (off := 43) hx hb dX4_does_1 (by decide +kernel) (by rw [hc11]; rfl) (by decide) ?_
        refine lv_aload_n hx hb dX4_does_44 rfl (lv_at hl 0 rfl) ?_
        refine lv_aload_n hx hb dX4_does_45 rfl (lv_at hl 0 rfl) ?_
        refine z_get C Z hP (k := 119) (ci := 4) (j := 7) (N := 12) (v := .int ((μ 119 7))) (by decide) (z_E_119 _) rfl inX4_does_X4 (by decide) wX4_does_0 rfl dX4_does_46 ?_
        refine lv_aload_n hx hb dX4_does_49 rfl (lv_at hl 0 rfl) ?_
        refine z_get C Z hP (k := 119) (ci := 4) (j := 8) (N := 12) (v := .int ((μ 119 8))) (by decide) (z_E_119 _) rfl inX4_does_X4 (by decide) wX4_does_2 rfl dX4_does_50 ?_
        refine lv_iconst (v := 1) hx hb dX4_does_53 (by decide) ?_
        refine lv_iadd hx hb dX4_does_54 ?_
        obtain ⟨r12, m13, e14, h⟩ := zb_some h
        refine z_calli hS (va_runV (As := [.int ((μ 119 7)), .int (((μ 119 8) + 1))]) (rest := []) C (c_X4_speaks l G e14 _) (cwV 2 hts gX4_does_X4_speaks rfl rfl rfl hv_X4_speaks ⟨Nat.le_of_ble_eq_true rfl, Nat.le_of_ble_eq_true rfl⟩) (z_preV Z hS hP (by decide) (z_E_119 _) rfl rfl) rfl rfl hl.1 rfl (lv_room (Nat.le_of_ble_eq_true rfl)) dX4_does_55 ⟨Nat.zero_le _, Nat.zero_le _⟩) (fun H locs hP hS => ?_)
        refine lv_if_ne (tgt := 65) hx hb dX4_does_58 (by decide) (fun hc15 => ?_) (fun hc15 => ?_)
        · have h := z_in hc15 h
          refine lv_iconst (v := 0) hx hb dX4_does_65 (by decide) ?_
          cases h
          exact z_retz C hr hlk rfl hP hS dX4_does_66
        · have h := z_ip hc15 h
          refine lv_iconst (v := 1) hx hb dX4_does_61 (by decide) ?_
          refine lv_goto (tgt := 66) hx hb dX4_does_62 (by decide) ?_
          cases h
          exact z_retz C hr hlk rfl hP hS dX4_does_66
      · have h := z_in hc11 h
        by_cases hc16 : x1 = 120
        · have h := z_ip hc16 h
          refine lv_lookup (tgt := 113) (off := 112) hx hb dX4_does_1 (by decide +kernel) (by rw [hc16]; rfl) (by decide) ?_
          refine lv_aload_n hx hb dX4_does_113 rfl (lv_at hl 0 rfl) ?_
          refine lv_aload_n hx hb dX4_does_114 rfl (lv_at hl 0 rfl) ?_
          refine z_get C Z hP (k := 119) (ci := 4) (j := 7) (N := 12) (v := .int ((μ 119 7))) (by decide) (z_E_119 _) rfl inX4_does_X4 (by decide) wX4_does_0 rfl dX4_does_115 ?_
          obtain ⟨r17, m18, e19, h⟩ := zb_some h
          refine z_calli hS (va_runV (As := [.int ((μ 119 7))]) (rest := []) C (c_X4_shaves l G e19 _) (cwV 1 hts gX4_does_X4_shaves rfl rfl rfl hv_X4_shaves ⟨Nat.le_of_ble_eq_true rfl, Nat.le_of_ble_eq_true rfl⟩) (z_preV Z hS hP (by decide) (z_E_119 _) rfl rfl) rfl rfl hl.1 rfl (lv_room (Nat.le_of_ble_eq_true rfl)) dX4_does_118 ⟨Nat.zero_le _, Nat.zero_le _⟩) (fun H locs hP hS => ?_)
          refine lv_iconst (v := (-1)) hx hb dX4_does_121 (by decide) ?_
          refine lv_icmp_eq (tgt := 129) hx hb dX4_does_122 (by decide) (fun hc20 => ?_) (fun hc20 => ?_)
          · have h := z_ip hc20 h
            refine lv_iconst (v := 0) hx hb dX4_does_129 (by decide) ?_
            cases h
            exact z_retz C hr hlk rfl hP hS dX4_does_130
          · have h := z_in hc20 h
            refine lv_iconst (v := 1) hx hb dX4_does_125 (by decide) ?_
            refine lv_goto (tgt := 130) hx hb dX4_does_126 (by decide) ?_
            cases h
            exact z_retz C hr hlk rfl hP hS dX4_does_130
        · have h := z_in hc16 h
          refine lv_lookup (tgt := 131) (off := 130) hx hb dX4_does_1 (by decide +kernel) ((lv_osw hc1 (by decide)).trans ((lv_osw hc6 (by decide)).trans ((lv_osw hc11 (by decide)).trans ((lv_osw hc16 (by decide)).trans rfl)))) (by decide) ?_
          refine lv_aload_n hx hb dX4_does_131 rfl (lv_at hl 0 rfl) ?_
          refine lv_iconst (v := 1) hx hb dX4_does_132 (by decide) ?_
          obtain ⟨r21, m22, e23, h⟩ := zb_some h
          refine z_calli hS (va_runV (As := [.int (1)]) (rest := []) C (c_X4_fillsUp l G e23 _) (cwV 1 hts gX4_does_X4_fillsUp rfl rfl rfl hv_X4_fillsUp ⟨Nat.le_of_ble_eq_true rfl, Nat.le_of_ble_eq_true rfl⟩) (z_preV Z hS hP (by decide) (z_E_119 _) rfl rfl) rfl rfl hl.1 rfl (lv_room (Nat.le_of_ble_eq_true rfl)) dX4_does_133 ⟨Nat.zero_le _, Nat.zero_le _⟩) (fun H locs hP hS => ?_)
          refine lv_if_lt (tgt := 143) hx hb dX4_does_136 (by decide) (fun hc24 => ?_) (fun hc24 => ?_)
          · have h := z_ip hc24 h
            refine lv_iconst (v := 0) hx hb dX4_does_143 (by decide) ?_
            cases h
            exact z_retz C hr hlk rfl hP hS dX4_does_144
          · have h := z_in hc24 h
            refine lv_iconst (v := 1) hx hb dX4_does_139 (by decide) ?_
            refine lv_goto (tgt := 144) hx hb dX4_does_140 (by decide) ?_
            cases h
            exact z_retz C hr hlk rfl hP hS dX4_does_144
abbrev rm_X4_run : Room := { frames := 5, cells := 0, slots := 0, locals := 111 }
theorem hd_X4_run : yX4_run.cls ≠ "java/lang/invoke/MethodHandle" ∧ yX4_run.cls ≠ "java/lang/invoke/VarHandle" ∧ (parseMethodDescriptor yX4_run.desc).map (fun d => d.parameters.length) = some 0 := by decide +kernel
theorem hv_X4_run : yX4_run.cls = RX4 ∧ yX4_run.cls ≠ "java/lang/invoke/MethodHandle" ∧ yX4_run.cls ≠ "java/lang/invoke/VarHandle" ∧ (parseMethodDescriptor yX4_run.desc).map (fun d => d.parameters.length) = some 0 := ⟨rfl, hd_X4_run⟩
theorem wX4_run_0 : Cond.fieldLink RX4 122 "WaxCopiesModel" "spot" "I" ∈ wsX4_run := by decide +kernel
theorem inX4_run_X4 : ∀ w ∈ wsX40, w ∈ wsX4_run := by decide +kernel
theorem wX4_run_2 : Cond.fieldLink RX4 119 "WaxCopiesModel" "typed" "I" ∈ wsX4_run := by decide +kernel
set_option maxHeartbeats 4000000 in
set_option maxRecDepth 100000 in
theorem L_X4_run_b59 {p : Program} {l : Launch} {e : Env} {s : State} {m : MethodId} {args : Array Value} {below : List Frame} {meth : Method} {c : Code} {G : zG} {r : Int32} {mu1 : Mm} {ag36 : Int32 → Int32 → Mm → Option (Int32 × Mm)} (C : CallFix p m c cX4_run 4 s args wsX4_run RX4) (hr : meth.sig.returnType = (some .int)) (hlk : meth.locks = false) (Z : z_Z G (z_A G s.heap.size) s) (hag36 : ∀ (x1 : Int32) (x2 : Int32) (μ : Mm), ag36 x1 x2 μ = some (r, mu1) → ∀ (H : Heap) (locs : List Loc), z_P G μ H → va_S (z_A G s.heap.size) s.heap H locs → ∀ ls : Array Slot, lv_has ls 4 [(0, .ref (G.2.1 (119))), (1, .int (x1)), (2, .int (x2))] → W p l e rm_X4_run s m args below meth c H locs 0 0 (MQ below (z_Qi G r mu1 s.heap.size) args s 0 0 (z_A G s.heap.size)) (F0 m 36 ls [])) :
    ∀ (x3 : Int32) (y0 : Int32) (y1 : Int32) (μ : Mm), f_X4_run_b59 ag36 x3 y0 y1 μ = some (r, mu1) → ∀ (H : Heap) (locs : List Loc), z_P G μ H → va_S (z_A G s.heap.size) s.heap H locs → ∀ ls : Array Slot, lv_has ls 4 [(0, .ref (G.2.1 (119))), (3, .int (x3))] → W p l e rm_X4_run s m args below meth c H locs 0 0 (MQ below (z_Qi G r mu1 s.heap.size) args s 0 0 (z_A G s.heap.size)) (F0 m 59 ls [.int (y0), .int (y1)]) := by
  have hx := C.1
  have hb := C.2.1
  have hts := C.2.2.2.2
  intro x3 y0 y1 μ h H locs hP hS ls hl
  unfold f_X4_run_b59 at h
  refine lv_iadd hx hb dX4_run_59 ?_
  refine lv_istore_n (lv' := [(1, .int ((y1 + y0))), (0, .ref (G.2.1 (119))), (3, .int (x3))]) hx hb dX4_run_60 rfl hl (by decide) rfl (fun ls hl => ?_)
  refine lv_iload_n hx hb dX4_run_61 rfl (lv_at hl 2 rfl) ?_
  refine lv_if_eq (tgt := 81) hx hb dX4_run_62 (by decide) (fun hc20 => ?_) (fun hc20 => ?_)
  · have h := z_ip hc20 h
    refine lv_iconst (v := 0) hx hb dX4_run_81 (by decide) ?_
    refine lv_istore_n (lv' := [(2, .int (0)), (1, .int ((y1 + y0))), (0, .ref (G.2.1 (119))), (3, .int (x3))]) hx hb dX4_run_82 rfl hl (by decide) rfl (fun ls hl => ?_)
    refine lv_goto (tgt := 36) hx hb dX4_run_83 (by decide) ?_
    exact hag36 _ _ _ h _ _ hP hS ls (lv_sub hl [2, 1, 0] rfl)
  · have h := z_in hc20 h
    refine lv_aload_n hx hb dX4_run_65 rfl (lv_at hl 1 rfl) ?_
    refine lv_bipush (v := 59) hx hb dX4_run_66 (by decide) ?_
    refine lv_bipush (v := 59) hx hb dX4_run_68 (by decide) ?_
    obtain ⟨r21, m22, e23, h⟩ := zb_some h
    refine z_calli hS (va_runV (As := [.int (59), .int (59)]) (rest := []) C (c_X4_takes l G e23 _) (cwV 2 hts gX4_run_X4_takes rfl rfl rfl hv_X4_takes ⟨Nat.le_of_ble_eq_true rfl, Nat.le_of_ble_eq_true rfl⟩) (z_preV Z hS hP (by decide) (z_E_119 _) rfl rfl) rfl rfl hl.1 rfl (lv_room (Nat.le_of_ble_eq_true rfl)) dX4_run_70 ⟨Nat.zero_le _, Nat.zero_le _⟩) (fun H locs hP hS => ?_)
    refine lv_iconst (v := (-1)) hx hb dX4_run_73 (by decide) ?_
    refine lv_icmp_eq (tgt := 81) hx hb dX4_run_74 (by decide) (fun hc24 => ?_) (fun hc24 => ?_)
    · have h := z_ip hc24 h
      refine lv_iconst (v := 0) hx hb dX4_run_81 (by decide) ?_
      refine lv_istore_n (lv' := [(2, .int (0)), (1, .int ((y1 + y0))), (0, .ref (G.2.1 (119))), (3, .int (x3))]) hx hb dX4_run_82 rfl hl (by decide) rfl (fun ls hl => ?_)
      refine lv_goto (tgt := 36) hx hb dX4_run_83 (by decide) ?_
      exact hag36 _ _ _ h _ _ hP hS ls (lv_sub hl [2, 1, 0] rfl)
    · have h := z_in hc24 h
      refine lv_iconst (v := 1) hx hb dX4_run_77 (by decide) ?_
      refine lv_goto (tgt := 82) hx hb dX4_run_78 (by decide) ?_
      refine lv_istore_n (lv' := [(2, .int (1)), (1, .int ((y1 + y0))), (0, .ref (G.2.1 (119))), (3, .int (x3))]) hx hb dX4_run_82 rfl hl (by decide) rfl (fun ls hl => ?_)
      refine lv_goto (tgt := 36) hx hb dX4_run_83 (by decide) ?_
      exact hag36 _ _ _ h _ _ hP hS ls (lv_sub hl [2, 1, 0] rfl)
set_option maxHeartbeats 4000000 in
set_option maxRecDepth 100000 in
theorem L_X4_run_b36 {p : Program} {l : Launch} {e : Env} {s : State} {m : MethodId} {args : Array Value} {below : List Frame} {meth : Method} {c : Code} {G : zG} {r : Int32} {mu1 : Mm}  (C : CallFix p m c cX4_run 4 s args wsX4_run RX4) (hr : meth.sig.returnType = (some .int)) (hlk : meth.locks = false) (Z : z_Z G (z_A G s.heap.size) s)  :
    ∀ (n : Nat) (x1 : Int32) (x2 : Int32) (μ : Mm), f_X4_run_b36  n x1 x2 μ = some (r, mu1) → ∀ (H : Heap) (locs : List Loc), z_P G μ H → va_S (z_A G s.heap.size) s.heap H locs → ∀ ls : Array Slot, lv_has ls 4 [(0, .ref (G.2.1 (119))), (1, .int (x1)), (2, .int (x2))] → W p l e rm_X4_run s m args below meth c H locs 0 0 (MQ below (z_Qi G r mu1 s.heap.size) args s 0 0 (z_A G s.heap.size)) (F0 m 36 ls []) := by
  have hx := C.1
  have hb := C.2.1
  have hts := C.2.2.2.2
  intro n
  induction n with
  | zero =>
    intro x1 x2 μ h
    rw [f_X4_run_b36] at h
    cases h
  | succ n ih =>
    intro x1 x2 μ h H locs hP hS ls hl
    rw [f_X4_run_b36] at h
    refine lv_iload_n hx hb dX4_run_36 rfl (lv_at hl 2 rfl) ?_
    refine lv_if_eq (tgt := 86) hx hb dX4_run_37 (by decide) (fun hc12 => ?_) (fun hc12 => ?_)
    · have h := z_ip hc12 h
      refine lv_aload_n hx hb dX4_run_86 rfl (lv_at hl 0 rfl) ?_
      refine lv_iconst (v := 0) hx hb dX4_run_87 (by decide) ?_
      refine z_put C Z hP hS (k := 119) (ci := 4) (j := 4) (N := 12) (x := 0) (v := .int (0)) (ty := .int) (by decide) (z_E_119 _) rfl inX4_run_X4 tyX4_ok nmX4 (by decide) wX4_run_2 rfl (by decide +kernel) rfl rfl (Nat.le_of_ble_eq_true rfl) (z_S_119_4 _ _) dX4_run_88 (fun H locs hP hS => ?_)
      refine lv_iload_n hx hb dX4_run_91 rfl (lv_at hl 1 rfl) ?_
      cases h
      exact z_reti C hr hlk hP hS dX4_run_92
    · have h := z_in hc12 h
      refine lv_aload_n hx hb dX4_run_40 rfl (lv_at hl 0 rfl) ?_
      refine lv_aload_n hx hb dX4_run_41 rfl (lv_at hl 0 rfl) ?_
      obtain ⟨r13, m14, e15, h⟩ := zb_some h
      refine z_calli hS (va_runV (As := []) (rest := [.ref (G.2.1 (119))]) C (c_X4_order l G e15 _) (cwV 0 hts gX4_run_X4_order rfl rfl rfl hv_X4_order ⟨Nat.le_of_ble_eq_true rfl, Nat.le_of_ble_eq_true rfl⟩) (z_preV Z hS hP (by decide) (z_E_119 _) rfl rfl) rfl rfl hl.1 rfl (lv_room (Nat.le_of_ble_eq_true rfl)) dX4_run_42 ⟨Nat.zero_le _, Nat.zero_le _⟩) (fun H locs hP hS => ?_)
      obtain ⟨r16, m17, e18, h⟩ := zb_some h
      refine z_calli hS (va_runV (As := [.int (r13)]) (rest := []) C (c_X4_does l G e18 _) (cwV 1 hts gX4_run_X4_does rfl rfl rfl hv_X4_does ⟨Nat.le_of_ble_eq_true rfl, Nat.le_of_ble_eq_true rfl⟩) (z_preV Z hS hP (by decide) (z_E_119 _) rfl rfl) rfl rfl hl.1 rfl (lv_room (Nat.le_of_ble_eq_true rfl)) dX4_run_45 ⟨Nat.zero_le _, Nat.zero_le _⟩) (fun H locs hP hS => ?_)
      refine lv_istore_n (lv' := [(3, .int (r16)), (0, .ref (G.2.1 (119))), (1, .int (x1)), (2, .int (x2))]) hx hb dX4_run_48 rfl hl (by decide) rfl (fun ls hl => ?_)
      refine lv_iload_n hx hb dX4_run_49 rfl (lv_at hl 2 rfl) ?_
      refine lv_iload_n hx hb dX4_run_50 rfl (lv_at hl 0 rfl) ?_
      refine lv_if_eq (tgt := 58) hx hb dX4_run_51 (by decide) (fun hc19 => ?_) (fun hc19 => ?_)
      · have h := z_ip hc19 h
        refine lv_iconst (v := 0) hx hb dX4_run_58 (by decide) ?_
        exact L_X4_run_b59 C hr hlk Z ih _ _ _ _ h _ _ hP hS ls (lv_sub hl [1, 0] rfl)
      · have h := z_in hc19 h
        refine lv_iconst (v := 1) hx hb dX4_run_54 (by decide) ?_
        refine lv_goto (tgt := 59) hx hb dX4_run_55 (by decide) ?_
        exact L_X4_run_b59 C hr hlk Z ih _ _ _ _ h _ _ hP hS ls (lv_sub hl [1, 0] rfl)
set_option maxHeartbeats 4000000 in
set_option maxRecDepth 100000 in
theorem L_X4_run_b14 {p : Program} {l : Launch} {e : Env} {s : State} {m : MethodId} {args : Array Value} {below : List Frame} {meth : Method} {c : Code} {G : zG} {r : Int32} {mu1 : Mm}  (C : CallFix p m c cX4_run 4 s args wsX4_run RX4) (hr : meth.sig.returnType = (some .int)) (hlk : meth.locks = false) (Z : z_Z G (z_A G s.heap.size) s)  :
    ∀ (y0 : Int32) (μ : Mm), f_X4_run_b14  y0 μ = some (r, mu1) → ∀ (H : Heap) (locs : List Loc), z_P G μ H → va_S (z_A G s.heap.size) s.heap H locs → ∀ ls : Array Slot, lv_has ls 4 [(0, .ref (G.2.1 (119)))] → W p l e rm_X4_run s m args below meth c H locs 0 0 (MQ below (z_Qi G r mu1 s.heap.size) args s 0 0 (z_A G s.heap.size)) (F0 m 14 ls [.int (y0), .ref (G.2.1 (119))]) := by
  have hx := C.1
  have hb := C.2.1
  have hts := C.2.2.2.2
  intro y0 μ h H locs hP hS ls hl
  unfold f_X4_run_b14 at h
  refine lv_iconst (v := 1) hx hb dX4_run_14 (by decide) ?_
  obtain ⟨r5, m6, e7, h⟩ := zb_some h
  refine z_calli hS (va_runV (As := [.int (y0), .int (1)]) (rest := []) C (c_X4_goes l G e7 _) (cwV 2 hts gX4_run_X4_goes rfl rfl rfl hv_X4_goes ⟨Nat.le_of_ble_eq_true rfl, Nat.le_of_ble_eq_true rfl⟩) (z_preV Z hS hP (by decide) (z_E_119 _) rfl rfl) rfl rfl hl.1 rfl (lv_room (Nat.le_of_ble_eq_true rfl)) dX4_run_15 ⟨Nat.zero_le _, Nat.zero_le _⟩) (fun H locs hP hS => ?_)
  refine lv_if_ne (tgt := 23) hx hb dX4_run_18 (by decide) (fun hc8 => ?_) (fun hc8 => ?_)
  · have h := z_in hc8 h
    refine lv_aload_n hx hb dX4_run_23 rfl (lv_at hl 0 rfl) ?_
    obtain ⟨r9, m10, e11, h⟩ := zb_some h
    refine z_callv hS (va_runV (As := []) (rest := []) C (c_X4_saves l G e11 _) (cwV 0 hts gX4_run_X4_saves rfl rfl rfl hv_X4_saves ⟨Nat.le_of_ble_eq_true rfl, Nat.le_of_ble_eq_true rfl⟩) (z_preV Z hS hP (by decide) (z_E_119 _) rfl rfl) rfl rfl hl.1 rfl (lv_room (Nat.le_of_ble_eq_true rfl)) dX4_run_24 ⟨Nat.zero_le _, Nat.zero_le _⟩) (fun H locs hP hS => ?_)
    refine lv_aload_n hx hb dX4_run_27 rfl (lv_at hl 0 rfl) ?_
    refine lv_iconst (v := 0) hx hb dX4_run_28 (by decide) ?_
    refine z_put C Z hP hS (k := 119) (ci := 4) (j := 6) (N := 12) (x := 0) (v := .int (0)) (ty := .int) (by decide) (z_E_119 _) rfl inX4_run_X4 tyX4_ok nmX4 (by decide) wX4_run_0 rfl (by decide +kernel) rfl rfl (Nat.le_of_ble_eq_true rfl) (z_S_119_6 _ _) dX4_run_29 (fun H locs hP hS => ?_)
    refine lv_iconst (v := 0) hx hb dX4_run_32 (by decide) ?_
    refine lv_istore_n (lv' := [(1, .int (0)), (0, .ref (G.2.1 (119)))]) hx hb dX4_run_33 rfl hl (by decide) rfl (fun ls hl => ?_)
    refine lv_iconst (v := 1) hx hb dX4_run_34 (by decide) ?_
    refine lv_istore_n (lv' := [(2, .int (1)), (1, .int (0)), (0, .ref (G.2.1 (119)))]) hx hb dX4_run_35 rfl hl (by decide) rfl (fun ls hl => ?_)
    exact L_X4_run_b36 C hr hlk Z z_F _ _ _ h _ _ hP hS ls (lv_sub hl [2, 1, 0] rfl)
  · have h := z_ip hc8 h
    refine lv_iconst (v := 0) hx hb dX4_run_21 (by decide) ?_
    cases h
    exact z_reti C hr hlk hP hS dX4_run_22
set_option maxHeartbeats 4000000 in
set_option maxRecDepth 100000 in
theorem c_X4_run (l : Launch) (G : zG) {μ mu1 : Mm} {r : Int32} (h : f_X4_run μ = some (r, mu1)) (sz : Nat) : Met l yX4_run wsX4_run rm_X4_run (z_Pre G μ [.ref (G.2.1 (119))] sz) (z_Qi G r mu1 sz) 0 0 (z_A G sz) := by
  refine z_start (cc := cX4_run) (maxL := 4) (ret := (some .int)) (own := RX4) (by decide) rfl rfl (Nat.le_of_ble_eq_true rfl) (fun p e s m args below meth c C hr hlk Z hP ls hl => ?_) sz
  have hx := C.1
  have hb := C.2.1
  have hts := C.2.2.2.2
  have hS : va_S (z_A G s.heap.size) s.heap s.heap [] := va_S.rf
  have hl : lv_has ls 4 [(0, .ref (G.2.1 (119)))] := hl
  unfold f_X4_run at h
  refine lv_aload_n hx hb dX4_run_0 rfl (lv_at hl 0 rfl) ?_
  refine lv_aload_n hx hb dX4_run_1 rfl (lv_at hl 0 rfl) ?_
  obtain ⟨r1, m2, e3, h⟩ := zb_some h
  refine z_calli hS (va_runV (As := []) (rest := [.ref (G.2.1 (119))]) C (c_X4_error l G e3 _) (cwV 0 hts gX4_run_X4_error rfl rfl rfl hv_X4_error ⟨Nat.le_of_ble_eq_true rfl, Nat.le_of_ble_eq_true rfl⟩) (z_preV Z hS hP (by decide) (z_E_119 _) rfl rfl) rfl rfl hl.1 rfl (lv_room (Nat.le_of_ble_eq_true rfl)) dX4_run_2 ⟨Nat.zero_le _, Nat.zero_le _⟩) (fun H locs hP hS => ?_)
  refine lv_iconst (v := (-1)) hx hb dX4_run_5 (by decide) ?_
  refine lv_icmp_ne (tgt := 13) hx hb dX4_run_6 (by decide) (fun hc4 => ?_) (fun hc4 => ?_)
  · have h := z_in hc4 h
    refine lv_iconst (v := 0) hx hb dX4_run_13 (by decide) ?_
    exact L_X4_run_b14 C hr hlk Z _ _ h _ _ hP hS ls (lv_sub hl [0] rfl)
  · have h := z_ip hc4 h
    refine lv_iconst (v := 1) hx hb dX4_run_9 (by decide) ?_
    refine lv_goto (tgt := 14) hx hb dX4_run_10 (by decide) ?_
    exact L_X4_run_b14 C hr hlk Z _ _ h _ _ hP hS ls (lv_sub hl [0] rfl)
abbrev rm_X4_isSlot : Room := { frames := 0, cells := 0, slots := 0, locals := 0 }
theorem hd_X4_isSlot : yX4_isSlot.cls ≠ "java/lang/invoke/MethodHandle" ∧ yX4_isSlot.cls ≠ "java/lang/invoke/VarHandle" ∧ (parseMethodDescriptor yX4_isSlot.desc).map (fun d => d.parameters.length) = some 1 := by decide +kernel
theorem hv_X4_isSlot : yX4_isSlot.cls = RX4 ∧ yX4_isSlot.cls ≠ "java/lang/invoke/MethodHandle" ∧ yX4_isSlot.cls ≠ "java/lang/invoke/VarHandle" ∧ (parseMethodDescriptor yX4_isSlot.desc).map (fun d => d.parameters.length) = some 1 := ⟨rfl, hd_X4_isSlot⟩
set_option maxHeartbeats 4000000 in
set_option maxRecDepth 100000 in
theorem c_X4_isSlot (l : Launch) (G : zG) {x0 : Int32} {μ mu1 : Mm} {r : Int32} (h : f_X4_isSlot x0 μ = some (r, mu1)) (sz : Nat) : Met l yX4_isSlot wsX4_isSlot rm_X4_isSlot (z_Pre G μ [.int (x0)] sz) (z_Qi G r mu1 sz) 0 0 (z_A G sz) := by
  refine z_start (cc := cX4_isSlot) (maxL := 1) (ret := (some .boolean)) (own := RX4) (by decide) rfl rfl (Nat.le_of_ble_eq_true rfl) (fun p e s m args below meth c C hr hlk Z hP ls hl => ?_) sz
  have hx := C.1
  have hb := C.2.1
  have hts := C.2.2.2.2
  have hS : va_S (z_A G s.heap.size) s.heap s.heap [] := va_S.rf
  have hl : lv_has ls 1 [(0, .int (x0))] := hl
  unfold f_X4_isSlot at h
  refine lv_iload_n hx hb dX4_isSlot_0 rfl (lv_at hl 0 rfl) ?_
  refine lv_if_eq (tgt := 9) hx hb dX4_isSlot_1 (by decide) (fun hc1 => ?_) (fun hc1 => ?_)
  · have h := z_ip hc1 h
    refine lv_iconst (v := 1) hx hb dX4_isSlot_9 (by decide) ?_
    refine lv_goto (tgt := 14) hx hb dX4_isSlot_10 (by decide) ?_
    cases h
    exact z_retz C hr hlk rfl hP hS dX4_isSlot_14
  · have h := z_in hc1 h
    refine lv_iload_n hx hb dX4_isSlot_4 rfl (lv_at hl 0 rfl) ?_
    refine lv_iconst (v := 1) hx hb dX4_isSlot_5 (by decide) ?_
    refine lv_icmp_ne (tgt := 13) hx hb dX4_isSlot_6 (by decide) (fun hc2 => ?_) (fun hc2 => ?_)
    · have h := z_in hc2 h
      refine lv_iconst (v := 0) hx hb dX4_isSlot_13 (by decide) ?_
      cases h
      exact z_retz C hr hlk rfl hP hS dX4_isSlot_14
    · have h := z_ip hc2 h
      refine lv_iconst (v := 1) hx hb dX4_isSlot_9 (by decide) ?_
      refine lv_goto (tgt := 14) hx hb dX4_isSlot_10 (by decide) ?_
      cases h
      exact z_retz C hr hlk rfl hP hS dX4_isSlot_14
abbrev rm_X4_keep : Room := { frames := 3, cells := 0, slots := 0, locals := 63 }
theorem hd_X4_keep : yX4_keep.cls ≠ "java/lang/invoke/MethodHandle" ∧ yX4_keep.cls ≠ "java/lang/invoke/VarHandle" ∧ (parseMethodDescriptor yX4_keep.desc).map (fun d => d.parameters.length) = some 1 := by decide +kernel
theorem hv_X4_keep : yX4_keep.cls = RX4 ∧ yX4_keep.cls ≠ "java/lang/invoke/MethodHandle" ∧ yX4_keep.cls ≠ "java/lang/invoke/VarHandle" ∧ (parseMethodDescriptor yX4_keep.desc).map (fun d => d.parameters.length) = some 1 := ⟨rfl, hd_X4_keep⟩
theorem wX4_keep_0 : Cond.fieldLink RX4 13 "WaxCopiesModel" "isKept" "[Z" ∈ wsX4_keep := by decide +kernel
theorem inX4_keep_X4 : ∀ w ∈ wsX40, w ∈ wsX4_keep := by decide +kernel
set_option maxHeartbeats 4000000 in
set_option maxRecDepth 100000 in
theorem c_X4_keep (l : Launch) (G : zG) {x1 : Int32} {μ mu1 : Mm} {r : Int32} (h : f_X4_keep x1 μ = some (r, mu1)) (sz : Nat) : Met l yX4_keep wsX4_keep rm_X4_keep (z_Pre G μ [.ref (G.2.1 (119)), .int (x1)] sz) (z_Qi G r mu1 sz) 0 0 (z_A G sz) := by
  refine z_start (cc := cX4_keep) (maxL := 2) (ret := (some .int)) (own := RX4) (by decide) rfl rfl (Nat.le_of_ble_eq_true rfl) (fun p e s m args below meth c C hr hlk Z hP ls hl => ?_) sz
  have hx := C.1
  have hb := C.2.1
  have hts := C.2.2.2.2
  have hS : va_S (z_A G s.heap.size) s.heap s.heap [] := va_S.rf
  have hl : lv_has ls 2 [(0, .ref (G.2.1 (119))), (1, .int (x1))] := hl
  unfold f_X4_keep at h
  refine lv_aload_n hx hb dX4_keep_0 rfl (lv_at hl 0 rfl) ?_
  refine lv_iload_n hx hb dX4_keep_1 rfl (lv_at hl 1 rfl) ?_
  obtain ⟨r1, m2, e3, h⟩ := zb_some h
  refine z_calli hS (va_runS (As := [.int (x1)]) (rest := [.ref (G.2.1 (119))]) C (c_X4_isSlot l G e3 _) (va_cwS 1 hts gX4_keep_X4_isSlot rfl rfl rfl hd_X4_isSlot ⟨Nat.le_of_ble_eq_true rfl, Nat.le_of_ble_eq_true rfl⟩) (z_preS Z hS hP) rfl rfl hl.1 rfl (lv_room (Nat.le_of_ble_eq_true rfl)) dX4_keep_2 ⟨Nat.zero_le _, Nat.zero_le _⟩) (fun H locs hP hS => ?_)
  refine lv_iconst (v := 1) hx hb dX4_keep_5 (by decide) ?_
  obtain ⟨r4, m5, e6, h⟩ := zb_some h
  refine z_calli hS (va_runV (As := [.int (r1), .int (1)]) (rest := []) C (c_X4_goes l G e6 _) (cwV 2 hts gX4_keep_X4_goes rfl rfl rfl hv_X4_goes ⟨Nat.le_of_ble_eq_true rfl, Nat.le_of_ble_eq_true rfl⟩) (z_preV Z hS hP (by decide) (z_E_119 _) rfl rfl) rfl rfl hl.1 rfl (lv_room (Nat.le_of_ble_eq_true rfl)) dX4_keep_6 ⟨Nat.zero_le _, Nat.zero_le _⟩) (fun H locs hP hS => ?_)
  refine lv_if_ne (tgt := 14) hx hb dX4_keep_9 (by decide) (fun hc7 => ?_) (fun hc7 => ?_)
  · have h := z_in hc7 h
    refine lv_aload_n hx hb dX4_keep_14 rfl (lv_at hl 0 rfl) ?_
    refine lv_iconst (v := 0) hx hb dX4_keep_15 (by decide) ?_
    refine lv_bipush (v := 7) hx hb dX4_keep_16 (by decide) ?_
    refine lv_iload_n hx hb dX4_keep_18 rfl (lv_at hl 1 rfl) ?_
    refine lv_iadd hx hb dX4_keep_19 ?_
    obtain ⟨r8, m9, e10, h⟩ := zb_some h
    refine z_callv hS (va_runV (As := [.int (0), .int ((7 + x1))]) (rest := []) C (c_X4_copies l G e10 _) (cwV 2 hts gX4_keep_X4_copies rfl rfl rfl hv_X4_copies ⟨Nat.le_of_ble_eq_true rfl, Nat.le_of_ble_eq_true rfl⟩) (z_preV Z hS hP (by decide) (z_E_119 _) rfl rfl) rfl rfl hl.1 rfl (lv_room (Nat.le_of_ble_eq_true rfl)) dX4_keep_20 ⟨Nat.zero_le _, Nat.zero_le _⟩) (fun H locs hP hS => ?_)
    refine lv_aload_n hx hb dX4_keep_23 rfl (lv_at hl 0 rfl) ?_
    refine z_get C Z hP (k := 119) (ci := 4) (j := 2) (N := 12) (v := .ref (G.2.1 (121))) (by decide) (z_E_119 _) rfl inX4_keep_X4 (by decide) wX4_keep_0 rfl dX4_keep_24 ?_
    refine lv_iload_n hx hb dX4_keep_27 rfl (lv_at hl 1 rfl) ?_
    refine lv_iconst (v := 1) hx hb dX4_keep_28 (by decide) ?_
    obtain ⟨hg11, h⟩ := z_g h
    refine z_zast C Z hP hS (k := 121) (n := 2) (j := (x1).toNatClampNeg) (by decide) (fun r => z_E_121 r) hg11 rfl dX4_keep_29 (fun H locs hP hS => ?_)
    refine lv_aload_n hx hb dX4_keep_30 rfl (lv_at hl 0 rfl) ?_
    obtain ⟨r12, m13, e14, h⟩ := zb_some h
    refine z_calli hS (va_runV (As := []) (rest := []) C (c_X4_cuts l G e14 _) (cwV 0 hts gX4_keep_X4_cuts rfl rfl rfl hv_X4_cuts ⟨Nat.le_of_ble_eq_true rfl, Nat.le_of_ble_eq_true rfl⟩) (z_preV Z hS hP (by decide) (z_E_119 _) rfl rfl) rfl rfl hl.1 rfl (lv_room (Nat.le_of_ble_eq_true rfl)) dX4_keep_31 ⟨Nat.zero_le _, Nat.zero_le _⟩) (fun H locs hP hS => ?_)
    cases h
    exact z_reti C hr hlk hP hS dX4_keep_34
  · have h := z_ip hc7 h
    refine lv_iconst (v := 0) hx hb dX4_keep_12 (by decide) ?_
    cases h
    exact z_reti C hr hlk hP hS dX4_keep_13
abbrev rm_X4_goBack : Room := { frames := 3, cells := 0, slots := 0, locals := 63 }
theorem hd_X4_goBack : yX4_goBack.cls ≠ "java/lang/invoke/MethodHandle" ∧ yX4_goBack.cls ≠ "java/lang/invoke/VarHandle" ∧ (parseMethodDescriptor yX4_goBack.desc).map (fun d => d.parameters.length) = some 1 := by decide +kernel
theorem hv_X4_goBack : yX4_goBack.cls = RX4 ∧ yX4_goBack.cls ≠ "java/lang/invoke/MethodHandle" ∧ yX4_goBack.cls ≠ "java/lang/invoke/VarHandle" ∧ (parseMethodDescriptor yX4_goBack.desc).map (fun d => d.parameters.length) = some 1 := ⟨rfl, hd_X4_goBack⟩
theorem wX4_goBack_0 : Cond.fieldLink RX4 13 "WaxCopiesModel" "isKept" "[Z" ∈ wsX4_goBack := by decide +kernel
theorem inX4_goBack_X4 : ∀ w ∈ wsX40, w ∈ wsX4_goBack := by decide +kernel
set_option maxHeartbeats 4000000 in
set_option maxRecDepth 100000 in
theorem L_X4_goBack_b26 {p : Program} {l : Launch} {e : Env} {s : State} {m : MethodId} {args : Array Value} {below : List Frame} {meth : Method} {c : Code} {G : zG} {r : Int32} {mu1 : Mm}  (C : CallFix p m c cX4_goBack 2 s args wsX4_goBack RX4) (hr : meth.sig.returnType = (some .int)) (hlk : meth.locks = false) (Z : z_Z G (z_A G s.heap.size) s)  :
    ∀ (x1 : Int32) (y0 : Int32) (y1 : Int32) (μ : Mm), f_X4_goBack_b26  x1 y0 y1 μ = some (r, mu1) → ∀ (H : Heap) (locs : List Loc), z_P G μ H → va_S (z_A G s.heap.size) s.heap H locs → ∀ ls : Array Slot, lv_has ls 2 [(0, .ref (G.2.1 (119))), (1, .int (x1))] → W p l e rm_X4_goBack s m args below meth c H locs 0 0 (MQ below (z_Qi G r mu1 s.heap.size) args s 0 0 (z_A G s.heap.size)) (F0 m 26 ls [.int (y0), .int (y1), .ref (G.2.1 (119))]) := by
  have hx := C.1
  have hb := C.2.1
  have hts := C.2.2.2.2
  intro x1 y0 y1 μ h H locs hP hS ls hl
  unfold f_X4_goBack_b26 at h
  obtain ⟨r8, m9, e10, h⟩ := zb_some h
  refine z_calli hS (va_runV (As := [.int (y1), .int (y0)]) (rest := []) C (c_X4_goes l G e10 _) (cwV 2 hts gX4_goBack_X4_goes rfl rfl rfl hv_X4_goes ⟨Nat.le_of_ble_eq_true rfl, Nat.le_of_ble_eq_true rfl⟩) (z_preV Z hS hP (by decide) (z_E_119 _) rfl rfl) rfl rfl hl.1 rfl (lv_room (Nat.le_of_ble_eq_true rfl)) dX4_goBack_26 ⟨Nat.zero_le _, Nat.zero_le _⟩) (fun H locs hP hS => ?_)
  refine lv_if_ne (tgt := 34) hx hb dX4_goBack_29 (by decide) (fun hc11 => ?_) (fun hc11 => ?_)
  · have h := z_in hc11 h
    refine lv_aload_n hx hb dX4_goBack_34 rfl (lv_at hl 0 rfl) ?_
    obtain ⟨r12, m13, e14, h⟩ := zb_some h
    refine z_callv hS (va_runV (As := []) (rest := []) C (c_X4_saves l G e14 _) (cwV 0 hts gX4_goBack_X4_saves rfl rfl rfl hv_X4_saves ⟨Nat.le_of_ble_eq_true rfl, Nat.le_of_ble_eq_true rfl⟩) (z_preV Z hS hP (by decide) (z_E_119 _) rfl rfl) rfl rfl hl.1 rfl (lv_room (Nat.le_of_ble_eq_true rfl)) dX4_goBack_35 ⟨Nat.zero_le _, Nat.zero_le _⟩) (fun H locs hP hS => ?_)
    refine lv_aload_n hx hb dX4_goBack_38 rfl (lv_at hl 0 rfl) ?_
    refine lv_bipush (v := 7) hx hb dX4_goBack_39 (by decide) ?_
    refine lv_iload_n hx hb dX4_goBack_41 rfl (lv_at hl 1 rfl) ?_
    refine lv_iadd hx hb dX4_goBack_42 ?_
    refine lv_iconst (v := 0) hx hb dX4_goBack_43 (by decide) ?_
    obtain ⟨r15, m16, e17, h⟩ := zb_some h
    refine z_callv hS (va_runV (As := [.int ((7 + x1)), .int (0)]) (rest := []) C (c_X4_copies l G e17 _) (cwV 2 hts gX4_goBack_X4_copies rfl rfl rfl hv_X4_copies ⟨Nat.le_of_ble_eq_true rfl, Nat.le_of_ble_eq_true rfl⟩) (z_preV Z hS hP (by decide) (z_E_119 _) rfl rfl) rfl rfl hl.1 rfl (lv_room (Nat.le_of_ble_eq_true rfl)) dX4_goBack_44 ⟨Nat.zero_le _, Nat.zero_le _⟩) (fun H locs hP hS => ?_)
    refine lv_aload_n hx hb dX4_goBack_47 rfl (lv_at hl 0 rfl) ?_
    obtain ⟨r18, m19, e20, h⟩ := zb_some h
    refine z_calli hS (va_runV (As := []) (rest := []) C (c_X4_cuts l G e20 _) (cwV 0 hts gX4_goBack_X4_cuts rfl rfl rfl hv_X4_cuts ⟨Nat.le_of_ble_eq_true rfl, Nat.le_of_ble_eq_true rfl⟩) (z_preV Z hS hP (by decide) (z_E_119 _) rfl rfl) rfl rfl hl.1 rfl (lv_room (Nat.le_of_ble_eq_true rfl)) dX4_goBack_48 ⟨Nat.zero_le _, Nat.zero_le _⟩) (fun H locs hP hS => ?_)
    cases h
    exact z_reti C hr hlk hP hS dX4_goBack_51
  · have h := z_ip hc11 h
    refine lv_iconst (v := 0) hx hb dX4_goBack_32 (by decide) ?_
    cases h
    exact z_reti C hr hlk hP hS dX4_goBack_33
set_option maxHeartbeats 4000000 in
set_option maxRecDepth 100000 in
theorem c_X4_goBack (l : Launch) (G : zG) {x1 : Int32} {μ mu1 : Mm} {r : Int32} (h : f_X4_goBack x1 μ = some (r, mu1)) (sz : Nat) : Met l yX4_goBack wsX4_goBack rm_X4_goBack (z_Pre G μ [.ref (G.2.1 (119)), .int (x1)] sz) (z_Qi G r mu1 sz) 0 0 (z_A G sz) := by
  refine z_start (cc := cX4_goBack) (maxL := 2) (ret := (some .int)) (own := RX4) (by decide) rfl rfl (Nat.le_of_ble_eq_true rfl) (fun p e s m args below meth c C hr hlk Z hP ls hl => ?_) sz
  have hx := C.1
  have hb := C.2.1
  have hts := C.2.2.2.2
  have hS : va_S (z_A G s.heap.size) s.heap s.heap [] := va_S.rf
  have hl : lv_has ls 2 [(0, .ref (G.2.1 (119))), (1, .int (x1))] := hl
  unfold f_X4_goBack at h
  refine lv_aload_n hx hb dX4_goBack_0 rfl (lv_at hl 0 rfl) ?_
  refine lv_iload_n hx hb dX4_goBack_1 rfl (lv_at hl 1 rfl) ?_
  obtain ⟨r1, m2, e3, h⟩ := zb_some h
  refine z_calli hS (va_runS (As := [.int (x1)]) (rest := [.ref (G.2.1 (119))]) C (c_X4_isSlot l G e3 _) (va_cwS 1 hts gX4_goBack_X4_isSlot rfl rfl rfl hd_X4_isSlot ⟨Nat.le_of_ble_eq_true rfl, Nat.le_of_ble_eq_true rfl⟩) (z_preS Z hS hP) rfl rfl hl.1 rfl (lv_room (Nat.le_of_ble_eq_true rfl)) dX4_goBack_2 ⟨Nat.zero_le _, Nat.zero_le _⟩) (fun H locs hP hS => ?_)
  refine lv_iload_n hx hb dX4_goBack_5 rfl (lv_at hl 1 rfl) ?_
  obtain ⟨r4, m5, e6, h⟩ := zb_some h
  refine z_calli hS (va_runS (As := [.int (x1)]) (rest := [.int (r1), .ref (G.2.1 (119))]) C (c_X4_isSlot l G e6 _) (va_cwS 1 hts gX4_goBack_X4_isSlot rfl rfl rfl hd_X4_isSlot ⟨Nat.le_of_ble_eq_true rfl, Nat.le_of_ble_eq_true rfl⟩) (z_preS Z hS hP) rfl rfl hl.1 rfl (lv_room (Nat.le_of_ble_eq_true rfl)) dX4_goBack_6 ⟨Nat.zero_le _, Nat.zero_le _⟩) (fun H locs hP hS => ?_)
  refine lv_if_eq (tgt := 25) hx hb dX4_goBack_9 (by decide) (fun hc7 => ?_) (fun hc7 => ?_)
  · have h := z_ip hc7 h
    refine lv_iconst (v := 0) hx hb dX4_goBack_25 (by decide) ?_
    exact L_X4_goBack_b26 C hr hlk Z _ _ _ _ h _ _ hP hS ls (lv_sub hl [0, 1] rfl)
  · have h := z_in hc7 h
    refine lv_aload_n hx hb dX4_goBack_12 rfl (lv_at hl 0 rfl) ?_
    refine z_get C Z hP (k := 119) (ci := 4) (j := 2) (N := 12) (v := .ref (G.2.1 (121))) (by decide) (z_E_119 _) rfl inX4_goBack_X4 (by decide) wX4_goBack_0 rfl dX4_goBack_13 ?_
    refine lv_iload_n hx hb dX4_goBack_16 rfl (lv_at hl 1 rfl) ?_
    obtain ⟨hg21, h⟩ := z_g h
    refine z_zald C Z hP (k := 121) (n := 2) (j := (x1).toNatClampNeg) (by decide) (z_E_121 _) hg21 rfl dX4_goBack_17 ?_
    refine lv_if_eq (tgt := 25) hx hb dX4_goBack_18 (by decide) (fun hc22 => ?_) (fun hc22 => ?_)
    · have h := z_ip hc22 h
      refine lv_iconst (v := 0) hx hb dX4_goBack_25 (by decide) ?_
      exact L_X4_goBack_b26 C hr hlk Z _ _ _ _ h _ _ hP hS ls (lv_sub hl [0, 1] rfl)
    · have h := z_in hc22 h
      refine lv_iconst (v := 1) hx hb dX4_goBack_21 (by decide) ?_
      refine lv_goto (tgt := 26) hx hb dX4_goBack_22 (by decide) ?_
      exact L_X4_goBack_b26 C hr hlk Z _ _ _ _ h _ _ hP hS ls (lv_sub hl [0, 1] rfl)
abbrev rm_X4_undo : Room := { frames := 1, cells := 0, slots := 0, locals := 23 }
theorem hd_X4_undo : yX4_undo.cls ≠ "java/lang/invoke/MethodHandle" ∧ yX4_undo.cls ≠ "java/lang/invoke/VarHandle" ∧ (parseMethodDescriptor yX4_undo.desc).map (fun d => d.parameters.length) = some 0 := by decide +kernel
theorem hv_X4_undo : yX4_undo.cls = RX4 ∧ yX4_undo.cls ≠ "java/lang/invoke/MethodHandle" ∧ yX4_undo.cls ≠ "java/lang/invoke/VarHandle" ∧ (parseMethodDescriptor yX4_undo.desc).map (fun d => d.parameters.length) = some 0 := ⟨rfl, hd_X4_undo⟩
theorem wX4_undo_0 : Cond.fieldLink RX4 31 "WaxCopiesModel" "saved" "I" ∈ wsX4_undo := by decide +kernel
theorem inX4_undo_X4 : ∀ w ∈ wsX40, w ∈ wsX4_undo := by decide +kernel
set_option maxHeartbeats 4000000 in
set_option maxRecDepth 100000 in
theorem L_X4_undo_b13 {p : Program} {l : Launch} {e : Env} {s : State} {m : MethodId} {args : Array Value} {below : List Frame} {meth : Method} {c : Code} {G : zG} {r : Int32} {mu1 : Mm}  (C : CallFix p m c cX4_undo 1 s args wsX4_undo RX4) (hr : meth.sig.returnType = (some .int)) (hlk : meth.locks = false) (Z : z_Z G (z_A G s.heap.size) s)  :
    ∀ (y0 : Int32) (μ : Mm), f_X4_undo_b13  y0 μ = some (r, mu1) → ∀ (H : Heap) (locs : List Loc), z_P G μ H → va_S (z_A G s.heap.size) s.heap H locs → ∀ ls : Array Slot, lv_has ls 1 [(0, .ref (G.2.1 (119)))] → W p l e rm_X4_undo s m args below meth c H locs 0 0 (MQ below (z_Qi G r mu1 s.heap.size) args s 0 0 (z_A G s.heap.size)) (F0 m 13 ls [.int (y0), .ref (G.2.1 (119))]) := by
  have hx := C.1
  have hb := C.2.1
  have hts := C.2.2.2.2
  intro y0 μ h H locs hP hS ls hl
  unfold f_X4_undo_b13 at h
  refine lv_iconst (v := 1) hx hb dX4_undo_13 (by decide) ?_
  obtain ⟨r2, m3, e4, h⟩ := zb_some h
  refine z_calli hS (va_runV (As := [.int (y0), .int (1)]) (rest := []) C (c_X4_goes l G e4 _) (cwV 2 hts gX4_undo_X4_goes rfl rfl rfl hv_X4_goes ⟨Nat.le_of_ble_eq_true rfl, Nat.le_of_ble_eq_true rfl⟩) (z_preV Z hS hP (by decide) (z_E_119 _) rfl rfl) rfl rfl hl.1 rfl (lv_room (Nat.le_of_ble_eq_true rfl)) dX4_undo_14 ⟨Nat.zero_le _, Nat.zero_le _⟩) (fun H locs hP hS => ?_)
  refine lv_if_ne (tgt := 22) hx hb dX4_undo_17 (by decide) (fun hc5 => ?_) (fun hc5 => ?_)
  · have h := z_in hc5 h
    refine lv_aload_n hx hb dX4_undo_22 rfl (lv_at hl 0 rfl) ?_
    refine lv_aload_n hx hb dX4_undo_23 rfl (lv_at hl 0 rfl) ?_
    refine z_get C Z hP (k := 119) (ci := 4) (j := 1) (N := 12) (v := .int ((m3 119 1))) (by decide) (z_E_119 _) rfl inX4_undo_X4 (by decide) wX4_undo_0 rfl dX4_undo_24 ?_
    refine lv_iconst (v := 0) hx hb dX4_undo_27 (by decide) ?_
    obtain ⟨r6, m7, e8, h⟩ := zb_some h
    refine z_callv hS (va_runV (As := [.int ((m3 119 1)), .int (0)]) (rest := []) C (c_X4_copies l G e8 _) (cwV 2 hts gX4_undo_X4_copies rfl rfl rfl hv_X4_copies ⟨Nat.le_of_ble_eq_true rfl, Nat.le_of_ble_eq_true rfl⟩) (z_preV Z hS hP (by decide) (z_E_119 _) rfl rfl) rfl rfl hl.1 rfl (lv_room (Nat.le_of_ble_eq_true rfl)) dX4_undo_28 ⟨Nat.zero_le _, Nat.zero_le _⟩) (fun H locs hP hS => ?_)
    refine lv_aload_n hx hb dX4_undo_31 rfl (lv_at hl 0 rfl) ?_
    refine lv_dup hx hb dX4_undo_32 rfl ?_
    refine z_get C Z hP (k := 119) (ci := 4) (j := 1) (N := 12) (v := .int ((m7 119 1))) (by decide) (z_E_119 _) rfl inX4_undo_X4 (by decide) wX4_undo_0 rfl dX4_undo_33 ?_
    refine lv_iconst (v := 1) hx hb dX4_undo_36 (by decide) ?_
    refine lv_isub hx hb dX4_undo_37 ?_
    refine z_put C Z hP hS (k := 119) (ci := 4) (j := 1) (N := 12) (x := ((m7 119 1) - 1)) (v := .int (((m7 119 1) - 1))) (ty := .int) (by decide) (z_E_119 _) rfl inX4_undo_X4 tyX4_ok nmX4 (by decide) wX4_undo_0 rfl (by decide +kernel) rfl rfl (Nat.le_of_ble_eq_true rfl) (z_S_119_1 _ _) dX4_undo_38 (fun H locs hP hS => ?_)
    refine lv_aload_n hx hb dX4_undo_41 rfl (lv_at hl 0 rfl) ?_
    refine z_get C Z hP (k := 119) (ci := 4) (j := 1) (N := 12) (v := .int (((z_up m7 (119) 1 ((m7 119 1) - 1)) 119 1))) (by decide) (z_E_119 _) rfl inX4_undo_X4 (by decide) wX4_undo_0 rfl dX4_undo_42 ?_
    cases h
    exact z_reti C hr hlk hP hS dX4_undo_45
  · have h := z_ip hc5 h
    refine lv_iconst (v := 0) hx hb dX4_undo_20 (by decide) ?_
    cases h
    exact z_reti C hr hlk hP hS dX4_undo_21
set_option maxHeartbeats 4000000 in
set_option maxRecDepth 100000 in
theorem c_X4_undo (l : Launch) (G : zG) {μ mu1 : Mm} {r : Int32} (h : f_X4_undo μ = some (r, mu1)) (sz : Nat) : Met l yX4_undo wsX4_undo rm_X4_undo (z_Pre G μ [.ref (G.2.1 (119))] sz) (z_Qi G r mu1 sz) 0 0 (z_A G sz) := by
  refine z_start (cc := cX4_undo) (maxL := 1) (ret := (some .int)) (own := RX4) (by decide) rfl rfl (Nat.le_of_ble_eq_true rfl) (fun p e s m args below meth c C hr hlk Z hP ls hl => ?_) sz
  have hx := C.1
  have hb := C.2.1
  have hts := C.2.2.2.2
  have hS : va_S (z_A G s.heap.size) s.heap s.heap [] := va_S.rf
  have hl : lv_has ls 1 [(0, .ref (G.2.1 (119)))] := hl
  unfold f_X4_undo at h
  refine lv_aload_n hx hb dX4_undo_0 rfl (lv_at hl 0 rfl) ?_
  refine lv_aload_n hx hb dX4_undo_1 rfl (lv_at hl 0 rfl) ?_
  refine z_get C Z hP (k := 119) (ci := 4) (j := 1) (N := 12) (v := .int ((μ 119 1))) (by decide) (z_E_119 _) rfl inX4_undo_X4 (by decide) wX4_undo_0 rfl dX4_undo_2 ?_
  refine lv_if_le (tgt := 12) hx hb dX4_undo_5 (by decide) (fun hc1 => ?_) (fun hc1 => ?_)
  · have h := z_ip hc1 h
    refine lv_iconst (v := 0) hx hb dX4_undo_12 (by decide) ?_
    exact L_X4_undo_b13 C hr hlk Z _ _ h _ _ hP hS ls (lv_sub hl [0] rfl)
  · have h := z_in hc1 h
    refine lv_iconst (v := 1) hx hb dX4_undo_8 (by decide) ?_
    refine lv_goto (tgt := 13) hx hb dX4_undo_9 (by decide) ?_
    exact L_X4_undo_b13 C hr hlk Z _ _ h _ _ hP hS ls (lv_sub hl [0] rfl)
abbrev rm_X4_property : Room := { frames := 2, cells := 0, slots := 0, locals := 41 }
theorem hd_X4_property : yX4_property.cls ≠ "java/lang/invoke/MethodHandle" ∧ yX4_property.cls ≠ "java/lang/invoke/VarHandle" ∧ (parseMethodDescriptor yX4_property.desc).map (fun d => d.parameters.length) = some 2 := by decide +kernel
theorem hv_X4_property : yX4_property.cls = RX4 ∧ yX4_property.cls ≠ "java/lang/invoke/MethodHandle" ∧ yX4_property.cls ≠ "java/lang/invoke/VarHandle" ∧ (parseMethodDescriptor yX4_property.desc).map (fun d => d.parameters.length) = some 2 := ⟨rfl, hd_X4_property⟩
theorem wX4_property_0 : Cond.fieldLink RX4 7 "WaxCopiesModel" "s" "[I" ∈ wsX4_property := by decide +kernel
theorem inX4_property_X4 : ∀ w ∈ wsX40, w ∈ wsX4_property := by decide +kernel
set_option maxHeartbeats 4000000 in
set_option maxRecDepth 100000 in
theorem L_X4_property_b16 {p : Program} {l : Launch} {e : Env} {s : State} {m : MethodId} {args : Array Value} {below : List Frame} {meth : Method} {c : Code} {G : zG} {r : Int32} {mu1 : Mm}  (C : CallFix p m c cX4_property 3 s args wsX4_property RX4) (hr : meth.sig.returnType = (some .int)) (hlk : meth.locks = false) (Z : z_Z G (z_A G s.heap.size) s)  :
    ∀ (x1 : Int32) (x2 : Int32) (μ : Mm), f_X4_property_b16  x1 x2 μ = some (r, mu1) → ∀ (H : Heap) (locs : List Loc), z_P G μ H → va_S (z_A G s.heap.size) s.heap H locs → ∀ ls : Array Slot, lv_has ls 3 [(0, .ref (G.2.1 (119))), (1, .int (x1)), (2, .int (x2))] → W p l e rm_X4_property s m args below meth c H locs 0 0 (MQ below (z_Qi G r mu1 s.heap.size) args s 0 0 (z_A G s.heap.size)) (F0 m 16 ls []) := by
  have hx := C.1
  have hb := C.2.1
  have hts := C.2.2.2.2
  intro x1 x2 μ h H locs hP hS ls hl
  unfold f_X4_property_b16 at h
  refine lv_aload_n hx hb dX4_property_16 rfl (lv_at hl 0 rfl) ?_
  refine z_get C Z hP (k := 119) (ci := 4) (j := 0) (N := 12) (v := .ref (G.2.1 (120))) (by decide) (z_E_119 _) rfl inX4_property_X4 (by decide) wX4_property_0 rfl dX4_property_17 ?_
  refine lv_iload_n hx hb dX4_property_20 rfl (lv_at hl 1 rfl) ?_
  obtain ⟨r2, m3, e4, h⟩ := zb_some h
  refine z_calli hS (va_runS (As := [.int (x1)]) (rest := [.ref (G.2.1 (120))]) C (c_X4_at l G e4 _) (va_cwS 1 hts gX4_property_X4_at rfl rfl rfl hd_X4_at ⟨Nat.le_of_ble_eq_true rfl, Nat.le_of_ble_eq_true rfl⟩) (z_preS Z hS hP) rfl rfl hl.1 rfl (lv_room (Nat.le_of_ble_eq_true rfl)) dX4_property_21 ⟨Nat.zero_le _, Nat.zero_le _⟩) (fun H locs hP hS => ?_)
  refine lv_iload_n hx hb dX4_property_24 rfl (lv_at hl 2 rfl) ?_
  refine lv_iadd hx hb dX4_property_25 ?_
  obtain ⟨hg5, h⟩ := z_g h
  refine z_iald C Z hP (k := 120) (n := 1710) (j := ((r2 + x2)).toNatClampNeg) (by decide) (z_E_120 _) hg5 rfl dX4_property_26 ?_
  cases h
  exact z_reti C hr hlk hP hS dX4_property_27
set_option maxHeartbeats 4000000 in
set_option maxRecDepth 100000 in
theorem c_X4_property (l : Launch) (G : zG) {x1 : Int32} {x2 : Int32} {μ mu1 : Mm} {r : Int32} (h : f_X4_property x1 x2 μ = some (r, mu1)) (sz : Nat) : Met l yX4_property wsX4_property rm_X4_property (z_Pre G μ [.ref (G.2.1 (119)), .int (x1), .int (x2)] sz) (z_Qi G r mu1 sz) 0 0 (z_A G sz) := by
  refine z_start (cc := cX4_property) (maxL := 3) (ret := (some .int)) (own := RX4) (by decide) rfl rfl (Nat.le_of_ble_eq_true rfl) (fun p e s m args below meth c C hr hlk Z hP ls hl => ?_) sz
  have hx := C.1
  have hb := C.2.1
  have hts := C.2.2.2.2
  have hS : va_S (z_A G s.heap.size) s.heap s.heap [] := va_S.rf
  have hl : lv_has ls 3 [(0, .ref (G.2.1 (119))), (1, .int (x1)), (2, .int (x2))] := hl
  unfold f_X4_property at h
  refine lv_iload_n hx hb dX4_property_0 rfl (lv_at hl 2 rfl) ?_
  refine lv_if_le (tgt := 16) hx hb dX4_property_1 (by decide) (fun hc1 => ?_) (fun hc1 => ?_)
  · have h := z_ip hc1 h
    exact L_X4_property_b16 C hr hlk Z _ _ _ h _ _ hP hS ls (lv_sub hl [0, 1, 2] rfl)
  · have h := z_in hc1 h
    refine lv_aload_n hx hb dX4_property_4 rfl (lv_at hl 0 rfl) ?_
    refine lv_iload_n hx hb dX4_property_5 rfl (lv_at hl 1 rfl) ?_
    obtain ⟨r6, m7, e8, h⟩ := zb_some h
    refine z_calli hS (va_runV (As := [.int (x1)]) (rest := []) C (c_X4_isCut l G e8 _) (cwV 1 hts gX4_property_X4_isCut rfl rfl rfl hv_X4_isCut ⟨Nat.le_of_ble_eq_true rfl, Nat.le_of_ble_eq_true rfl⟩) (z_preV Z hS hP (by decide) (z_E_119 _) rfl rfl) rfl rfl hl.1 rfl (lv_room (Nat.le_of_ble_eq_true rfl)) dX4_property_6 ⟨Nat.zero_le _, Nat.zero_le _⟩) (fun H locs hP hS => ?_)
    refine lv_if_ne (tgt := 16) hx hb dX4_property_9 (by decide) (fun hc9 => ?_) (fun hc9 => ?_)
    · have h := z_in hc9 h
      exact L_X4_property_b16 C hr hlk Z _ _ _ h _ _ hP hS ls (lv_sub hl [0, 1, 2] rfl)
    · have h := z_ip hc9 h
      refine lv_iconst (v := (-1)) hx hb dX4_property_12 (by decide) ?_
      refine lv_goto (tgt := 27) hx hb dX4_property_13 (by decide) ?_
      cases h
      exact z_reti C hr hlk hP hS dX4_property_27
abbrev rm_X4_trackOf : Room := { frames := 3, cells := 0, slots := 0, locals := 63 }
theorem hd_X4_trackOf : yX4_trackOf.cls ≠ "java/lang/invoke/MethodHandle" ∧ yX4_trackOf.cls ≠ "java/lang/invoke/VarHandle" ∧ (parseMethodDescriptor yX4_trackOf.desc).map (fun d => d.parameters.length) = some 2 := by decide +kernel
theorem hv_X4_trackOf : yX4_trackOf.cls = RX4 ∧ yX4_trackOf.cls ≠ "java/lang/invoke/MethodHandle" ∧ yX4_trackOf.cls ≠ "java/lang/invoke/VarHandle" ∧ (parseMethodDescriptor yX4_trackOf.desc).map (fun d => d.parameters.length) = some 2 := ⟨rfl, hd_X4_trackOf⟩
set_option maxHeartbeats 4000000 in
set_option maxRecDepth 100000 in
theorem c_X4_trackOf (l : Launch) (G : zG) {x1 : Int32} {x2 : Int32} {μ mu1 : Mm} {r : Int32} (h : f_X4_trackOf x1 x2 μ = some (r, mu1)) (sz : Nat) : Met l yX4_trackOf wsX4_trackOf rm_X4_trackOf (z_Pre G μ [.ref (G.2.1 (119)), .int (x1), .int (x2)] sz) (z_Qi G r mu1 sz) 0 0 (z_A G sz) := by
  refine z_start (cc := cX4_trackOf) (maxL := 3) (ret := (some .int)) (own := RX4) (by decide) rfl rfl (Nat.le_of_ble_eq_true rfl) (fun p e s m args below meth c C hr hlk Z hP ls hl => ?_) sz
  have hx := C.1
  have hb := C.2.1
  have hts := C.2.2.2.2
  have hS : va_S (z_A G s.heap.size) s.heap s.heap [] := va_S.rf
  have hl : lv_has ls 3 [(0, .ref (G.2.1 (119))), (1, .int (x1)), (2, .int (x2))] := hl
  unfold f_X4_trackOf at h
  refine lv_aload_n hx hb dX4_trackOf_0 rfl (lv_at hl 0 rfl) ?_
  refine lv_iload_n hx hb dX4_trackOf_1 rfl (lv_at hl 1 rfl) ?_
  obtain ⟨r1, m2, e3, h⟩ := zb_some h
  refine z_calli hS (va_runS (As := [.int (x1)]) (rest := [.ref (G.2.1 (119))]) C (c_X4_isTrack l G e3 _) (va_cwS 1 hts gX4_trackOf_X4_isTrack rfl rfl rfl hd_X4_isTrack ⟨Nat.le_of_ble_eq_true rfl, Nat.le_of_ble_eq_true rfl⟩) (z_preS Z hS hP) rfl rfl hl.1 rfl (lv_room (Nat.le_of_ble_eq_true rfl)) dX4_trackOf_2 ⟨Nat.zero_le _, Nat.zero_le _⟩) (fun H locs hP hS => ?_)
  refine lv_iload_n hx hb dX4_trackOf_5 rfl (lv_at hl 2 rfl) ?_
  refine lv_iconst (v := 0) hx hb dX4_trackOf_6 (by decide) ?_
  refine lv_bipush (v := 6) hx hb dX4_trackOf_7 (by decide) ?_
  obtain ⟨r4, m5, e6, h⟩ := zb_some h
  refine z_calli hS (va_runS (As := [.int (x2), .int (0), .int (6)]) (rest := [.int (r1), .ref (G.2.1 (119))]) C (c_X4_in l G e6 _) (va_cwS 3 hts gX4_trackOf_X4_in rfl rfl rfl hd_X4_in ⟨Nat.le_of_ble_eq_true rfl, Nat.le_of_ble_eq_true rfl⟩) (z_preS Z hS hP) rfl rfl hl.1 rfl (lv_room (Nat.le_of_ble_eq_true rfl)) dX4_trackOf_9 ⟨Nat.zero_le _, Nat.zero_le _⟩) (fun H locs hP hS => ?_)
  obtain ⟨r7, m8, e9, h⟩ := zb_some h
  refine z_calli hS (va_runV (As := [.int (r1), .int (r4)]) (rest := []) C (c_X4_goes l G e9 _) (cwV 2 hts gX4_trackOf_X4_goes rfl rfl rfl hv_X4_goes ⟨Nat.le_of_ble_eq_true rfl, Nat.le_of_ble_eq_true rfl⟩) (z_preV Z hS hP (by decide) (z_E_119 _) rfl rfl) rfl rfl hl.1 rfl (lv_room (Nat.le_of_ble_eq_true rfl)) dX4_trackOf_12 ⟨Nat.zero_le _, Nat.zero_le _⟩) (fun H locs hP hS => ?_)
  refine lv_if_eq (tgt := 27) hx hb dX4_trackOf_15 (by decide) (fun hc10 => ?_) (fun hc10 => ?_)
  · have h := z_ip hc10 h
    refine lv_iconst (v := 0) hx hb dX4_trackOf_27 (by decide) ?_
    cases h
    exact z_reti C hr hlk hP hS dX4_trackOf_28
  · have h := z_in hc10 h
    refine lv_aload_n hx hb dX4_trackOf_18 rfl (lv_at hl 0 rfl) ?_
    refine lv_iload_n hx hb dX4_trackOf_19 rfl (lv_at hl 1 rfl) ?_
    refine lv_iload_n hx hb dX4_trackOf_20 rfl (lv_at hl 2 rfl) ?_
    obtain ⟨r11, m12, e13, h⟩ := zb_some h
    refine z_calli hS (va_runV (As := [.int (x1), .int (x2)]) (rest := []) C (c_X4_property l G e13 _) (cwV 2 hts gX4_trackOf_X4_property rfl rfl rfl hv_X4_property ⟨Nat.le_of_ble_eq_true rfl, Nat.le_of_ble_eq_true rfl⟩) (z_preV Z hS hP (by decide) (z_E_119 _) rfl rfl) rfl rfl hl.1 rfl (lv_room (Nat.le_of_ble_eq_true rfl)) dX4_trackOf_21 ⟨Nat.zero_le _, Nat.zero_le _⟩) (fun H locs hP hS => ?_)
    refine lv_goto (tgt := 28) hx hb dX4_trackOf_24 (by decide) ?_
    cases h
    exact z_reti C hr hlk hP hS dX4_trackOf_28
