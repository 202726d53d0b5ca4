abbrev rm_X3_bluntness : Room := { frames := 0, cells := 0, slots := 0, locals := 0 }
theorem hd_X3_bluntness : yX3_bluntness.cls ≠ "java/lang/invoke/MethodHandle" ∧ yX3_bluntness.cls ≠ "java/lang/invoke/VarHandle" ∧ (parseMethodDescriptor yX3_bluntness.desc).map (fun d => d.parameters.length) = some 1 := by decide +kernel
theorem hv_X3_bluntness : yX3_bluntness.cls = RX3 ∧ yX3_bluntness.cls ≠ "java/lang/invoke/MethodHandle" ∧ yX3_bluntness.cls ≠ "java/lang/invoke/VarHandle" ∧ (parseMethodDescriptor yX3_bluntness.desc).map (fun d => d.parameters.length) = some 1 := ⟨rfl, hd_X3_bluntness⟩
set_option maxHeartbeats 4000000 in
set_option maxRecDepth 100000 in
theorem c_X3_bluntness (l : Launch) (G : zG) {x0 : Int32} {μ mu1 : Mm} {r : Int32} (h : f_X3_bluntness x0 μ = some (r, mu1)) (sz : Nat) : Met l yX3_bluntness wsX3_bluntness rm_X3_bluntness (z_Pre G μ [.int (x0)] sz) (z_Qi G r mu1 sz) 0 0 (z_A G sz) := by
  refine z_start (cc := cX3_bluntness) (maxL := 1) (ret := (some .int)) (own := RX3) (by decide) rfl rfl (Nat.le_of_ble_eq_true rfl) (fun p e s m args below meth c C hr hlk Z hP ls hl => ?_) sz
  have hx := C.1
  have hb := C.2.1
  have hts := C.2.2.2.2
  have hS : va_S (z_A G s.heap.size) s.heap s.heap [] := va_S.rf
  have hl : lv_has ls 1 [(0, .int (x0))] := hl
  unfold f_X3_bluntness at h
  refine lv_bipush (v := 100) hx hb dX3_bluntness_0 (by decide) ?_
  refine lv_iload_n hx hb dX3_bluntness_2 rfl (lv_at hl 0 rfl) ?_
  refine lv_isub hx hb dX3_bluntness_3 ?_
  refine lv_iconst (v := 4) hx hb dX3_bluntness_4 (by decide) ?_
  refine lv_idiv hx hb dX3_bluntness_5 (by decide) ?_
  cases h
  exact z_reti C hr hlk hP hS dX3_bluntness_6
abbrev rm_X3_sharpnessAfter : Room := { frames := 1, cells := 0, slots := 0, locals := 13 }
theorem hd_X3_sharpnessAfter : yX3_sharpnessAfter.cls ≠ "java/lang/invoke/MethodHandle" ∧ yX3_sharpnessAfter.cls ≠ "java/lang/invoke/VarHandle" ∧ (parseMethodDescriptor yX3_sharpnessAfter.desc).map (fun d => d.parameters.length) = some 2 := by decide +kernel
theorem hv_X3_sharpnessAfter : yX3_sharpnessAfter.cls = RX3 ∧ yX3_sharpnessAfter.cls ≠ "java/lang/invoke/MethodHandle" ∧ yX3_sharpnessAfter.cls ≠ "java/lang/invoke/VarHandle" ∧ (parseMethodDescriptor yX3_sharpnessAfter.desc).map (fun d => d.parameters.length) = some 2 := ⟨rfl, hd_X3_sharpnessAfter⟩
theorem wX3_sharpnessAfter_0 : Cond.methodLink RX3 290 Lib.Math.max.name ∈ wsX3_sharpnessAfter := by decide +kernel
theorem wX3_sharpnessAfter_1 : Cond.static Lib.Math.max.name ∈ wsX3_sharpnessAfter := by decide +kernel
theorem wX3_sharpnessAfter_2 : Cond.initialized "java/lang/Math" ∈ wsX3_sharpnessAfter := by decide +kernel
theorem wX3_sharpnessAfter_3 : Cond.code Lib.Math.max.name Lib.Math.max.code 2 (some .int) ∈ wsX3_sharpnessAfter := by decide +kernel
set_option maxHeartbeats 4000000 in
set_option maxRecDepth 100000 in
theorem c_X3_sharpnessAfter (l : Launch) (G : zG) {x0 : Int32} {x1 : Int32} {μ mu1 : Mm} {r : Int32} (h : f_X3_sharpnessAfter x0 x1 μ = some (r, mu1)) (sz : Nat) : Met l yX3_sharpnessAfter wsX3_sharpnessAfter rm_X3_sharpnessAfter (z_Pre G μ [.int (x0), .int (x1)] sz) (z_Qi G r mu1 sz) 0 0 (z_A G sz) := by
  refine z_start (cc := cX3_sharpnessAfter) (maxL := 2) (ret := (some .int)) (own := RX3) (by decide) rfl rfl (Nat.le_of_ble_eq_true rfl) (fun p e s m args below meth c C hr hlk Z hP ls hl => ?_) sz
  have hx := C.1
  have hb := C.2.1
  have hts := C.2.2.2.2
  have hS : va_S (z_A G s.heap.size) s.heap s.heap [] := va_S.rf
  have hl : lv_has ls 2 [(0, .int (x0)), (1, .int (x1))] := hl
  unfold f_X3_sharpnessAfter at h
  refine lv_iconst (v := 0) hx hb dX3_sharpnessAfter_0 (by decide) ?_
  refine lv_iload_n hx hb dX3_sharpnessAfter_1 rfl (lv_at hl 0 rfl) ?_
  refine lv_iload_n hx hb dX3_sharpnessAfter_2 rfl (lv_at hl 1 rfl) ?_
  refine lv_isub hx hb dX3_sharpnessAfter_3 ?_
  refine va_mmax hx hb (C.2.2.1.trans hl.1.symm) C.2.2.2.1 (C.2.2.2.2 _ wX3_sharpnessAfter_0) (C.2.2.2.2 _ wX3_sharpnessAfter_1) (C.2.2.2.2 _ wX3_sharpnessAfter_2) (C.2.2.2.2 _ wX3_sharpnessAfter_3) (Nat.le_of_ble_eq_true rfl) (Nat.le_of_ble_eq_true rfl) (Nat.zero_le _) (Nat.zero_le _) dX3_sharpnessAfter_4 ?_
  cases h
  exact z_reti C hr hlk hP hS dX3_sharpnessAfter_7
abbrev rm_X3_copiedDepth : Room := { frames := 1, cells := 0, slots := 0, locals := 14 }
theorem hd_X3_copiedDepth : yX3_copiedDepth.cls ≠ "java/lang/invoke/MethodHandle" ∧ yX3_copiedDepth.cls ≠ "java/lang/invoke/VarHandle" ∧ (parseMethodDescriptor yX3_copiedDepth.desc).map (fun d => d.parameters.length) = some 2 := by decide +kernel
theorem hv_X3_copiedDepth : yX3_copiedDepth.cls = RX3 ∧ yX3_copiedDepth.cls ≠ "java/lang/invoke/MethodHandle" ∧ yX3_copiedDepth.cls ≠ "java/lang/invoke/VarHandle" ∧ (parseMethodDescriptor yX3_copiedDepth.desc).map (fun d => d.parameters.length) = some 2 := ⟨rfl, hd_X3_copiedDepth⟩
theorem wX3_copiedDepth_0 : Cond.methodLink RX3 290 Lib.Math.max.name ∈ wsX3_copiedDepth := by decide +kernel
theorem wX3_copiedDepth_1 : Cond.static Lib.Math.max.name ∈ wsX3_copiedDepth := by decide +kernel
theorem wX3_copiedDepth_2 : Cond.initialized "java/lang/Math" ∈ wsX3_copiedDepth := by decide +kernel
theorem wX3_copiedDepth_3 : Cond.code Lib.Math.max.name Lib.Math.max.code 2 (some .int) ∈ wsX3_copiedDepth := by decide +kernel
theorem wX3_copiedDepth_4 : Cond.methodLink RX3 295 Lib.Math.min.name ∈ wsX3_copiedDepth := by decide +kernel
theorem wX3_copiedDepth_5 : Cond.static Lib.Math.min.name ∈ wsX3_copiedDepth := by decide +kernel
theorem wX3_copiedDepth_6 : Cond.code Lib.Math.min.name Lib.Math.min.code 2 (some .int) ∈ wsX3_copiedDepth := by decide +kernel
set_option maxHeartbeats 4000000 in
set_option maxRecDepth 100000 in
theorem c_X3_copiedDepth (l : Launch) (G : zG) {x0 : Int32} {x1 : Int32} {μ mu1 : Mm} {r : Int32} (h : f_X3_copiedDepth x0 x1 μ = some (r, mu1)) (sz : Nat) : Met l yX3_copiedDepth wsX3_copiedDepth rm_X3_copiedDepth (z_Pre G μ [.int (x0), .int (x1)] sz) (z_Qi G r mu1 sz) 0 0 (z_A G sz) := by
  refine z_start (cc := cX3_copiedDepth) (maxL := 2) (ret := (some .int)) (own := RX3) (by decide) rfl rfl (Nat.le_of_ble_eq_true rfl) (fun p e s m args below meth c C hr hlk Z hP ls hl => ?_) sz
  have hx := C.1
  have hb := C.2.1
  have hts := C.2.2.2.2
  have hS : va_S (z_A G s.heap.size) s.heap s.heap [] := va_S.rf
  have hl : lv_has ls 2 [(0, .int (x0)), (1, .int (x1))] := hl
  unfold f_X3_copiedDepth at h
  refine lv_bipush (v := 9) hx hb dX3_copiedDepth_0 (by decide) ?_
  refine lv_iconst (v := 1) hx hb dX3_copiedDepth_2 (by decide) ?_
  refine lv_iload_n hx hb dX3_copiedDepth_3 rfl (lv_at hl 0 rfl) ?_
  refine lv_iload_n hx hb dX3_copiedDepth_4 rfl (lv_at hl 1 rfl) ?_
  refine lv_imul hx hb dX3_copiedDepth_5 ?_
  refine lv_iconst (v := 2) hx hb dX3_copiedDepth_6 (by decide) ?_
  refine lv_idiv hx hb dX3_copiedDepth_7 (by decide) ?_
  refine va_mmax hx hb (C.2.2.1.trans hl.1.symm) C.2.2.2.1 (C.2.2.2.2 _ wX3_copiedDepth_0) (C.2.2.2.2 _ wX3_copiedDepth_1) (C.2.2.2.2 _ wX3_copiedDepth_2) (C.2.2.2.2 _ wX3_copiedDepth_3) (Nat.le_of_ble_eq_true rfl) (Nat.le_of_ble_eq_true rfl) (Nat.zero_le _) (Nat.zero_le _) dX3_copiedDepth_8 ?_
  refine va_mmin hx hb (C.2.2.1.trans hl.1.symm) C.2.2.2.1 (C.2.2.2.2 _ wX3_copiedDepth_4) (C.2.2.2.2 _ wX3_copiedDepth_5) (C.2.2.2.2 _ wX3_copiedDepth_2) (C.2.2.2.2 _ wX3_copiedDepth_6) (Nat.le_of_ble_eq_true rfl) (Nat.le_of_ble_eq_true rfl) (Nat.zero_le _) (Nat.zero_le _) dX3_copiedDepth_11 ?_
  cases h
  exact z_reti C hr hlk hP hS dX3_copiedDepth_14
abbrev rm_X3_copiedClearness : Room := { frames := 1, cells := 0, slots := 0, locals := 20 }
theorem hd_X3_copiedClearness : yX3_copiedClearness.cls ≠ "java/lang/invoke/MethodHandle" ∧ yX3_copiedClearness.cls ≠ "java/lang/invoke/VarHandle" ∧ (parseMethodDescriptor yX3_copiedClearness.desc).map (fun d => d.parameters.length) = some 4 := by decide +kernel
theorem hv_X3_copiedClearness : yX3_copiedClearness.cls = RX3 ∧ yX3_copiedClearness.cls ≠ "java/lang/invoke/MethodHandle" ∧ yX3_copiedClearness.cls ≠ "java/lang/invoke/VarHandle" ∧ (parseMethodDescriptor yX3_copiedClearness.desc).map (fun d => d.parameters.length) = some 4 := ⟨rfl, hd_X3_copiedClearness⟩
theorem wX3_copiedClearness_0 : Cond.methodLink RX3 290 Lib.Math.max.name ∈ wsX3_copiedClearness := by decide +kernel
theorem wX3_copiedClearness_1 : Cond.static Lib.Math.max.name ∈ wsX3_copiedClearness := by decide +kernel
theorem wX3_copiedClearness_2 : Cond.initialized "java/lang/Math" ∈ wsX3_copiedClearness := by decide +kernel
theorem wX3_copiedClearness_3 : Cond.code Lib.Math.max.name Lib.Math.max.code 2 (some .int) ∈ wsX3_copiedClearness := by decide +kernel
set_option maxHeartbeats 4000000 in
set_option maxRecDepth 100000 in
theorem c_X3_copiedClearness (l : Launch) (G : zG) {x0 : Int32} {x1 : Int32} {x2 : Int32} {x3 : Int32} {μ mu1 : Mm} {r : Int32} (h : f_X3_copiedClearness x0 x1 x2 x3 μ = some (r, mu1)) (sz : Nat) : Met l yX3_copiedClearness wsX3_copiedClearness rm_X3_copiedClearness (z_Pre G μ [.int (x0), .int (x1), .int (x2), .int (x3)] sz) (z_Qi G r mu1 sz) 0 0 (z_A G sz) := by
  refine z_start (cc := cX3_copiedClearness) (maxL := 4) (ret := (some .int)) (own := RX3) (by decide) rfl rfl (Nat.le_of_ble_eq_true rfl) (fun p e s m args below meth c C hr hlk Z hP ls hl => ?_) sz
  have hx := C.1
  have hb := C.2.1
  have hts := C.2.2.2.2
  have hS : va_S (z_A G s.heap.size) s.heap s.heap [] := va_S.rf
  have hl : lv_has ls 4 [(0, .int (x0)), (1, .int (x1)), (2, .int (x2)), (3, .int (x3))] := hl
  unfold f_X3_copiedClearness at h
  refine lv_iload_n hx hb dX3_copiedClearness_0 rfl (lv_at hl 1 rfl) ?_
  refine lv_iconst (v := 1) hx hb dX3_copiedClearness_1 (by decide) ?_
  refine lv_icmp_ge (tgt := 7) hx hb dX3_copiedClearness_2 (by decide) (fun hc1 => ?_) (fun hc1 => ?_)
  · have h := z_ip hc1 h
    refine lv_iconst (v := 0) hx hb dX3_copiedClearness_7 (by decide) ?_
    refine lv_iload_n hx hb dX3_copiedClearness_8 rfl (lv_at hl 0 rfl) ?_
    refine lv_bipush (v := 12) hx hb dX3_copiedClearness_9 (by decide) ?_
    refine lv_iload_n hx hb dX3_copiedClearness_11 rfl (lv_at hl 1 rfl) ?_
    obtain ⟨hg2, h⟩ := z_g h
    refine lv_idiv hx hb dX3_copiedClearness_12 hg2 ?_
    refine lv_isub hx hb dX3_copiedClearness_13 ?_
    refine lv_iload_n hx hb dX3_copiedClearness_14 rfl (lv_at hl 2 rfl) ?_
    obtain ⟨r3, m4, e5, h⟩ := zb_some h
    refine z_calli hS (va_runS (As := [.int (x2)]) (rest := [.int ((x0 - (12 / x1))), .int (0)]) C (c_X3_bluntness l G e5 _) (va_cwS 1 hts gX3_copiedClearness_X3_bluntness rfl rfl rfl hd_X3_bluntness ⟨Nat.le_of_ble_eq_true rfl, Nat.le_of_ble_eq_true rfl⟩) (z_preS Z hS hP) rfl rfl hl.1 rfl (lv_room (Nat.le_of_ble_eq_true rfl)) dX3_copiedClearness_15 ⟨Nat.zero_le _, Nat.zero_le _⟩) (fun H locs hP hS => ?_)
    refine lv_isub hx hb dX3_copiedClearness_18 ?_
    refine lv_iload_n hx hb dX3_copiedClearness_19 rfl (lv_at hl 3 rfl) ?_
    refine lv_isub hx hb dX3_copiedClearness_20 ?_
    refine va_mmax hx hb (C.2.2.1.trans hl.1.symm) C.2.2.2.1 (C.2.2.2.2 _ wX3_copiedClearness_0) (C.2.2.2.2 _ wX3_copiedClearness_1) (C.2.2.2.2 _ wX3_copiedClearness_2) (C.2.2.2.2 _ wX3_copiedClearness_3) (Nat.le_of_ble_eq_true rfl) (Nat.le_of_ble_eq_true rfl) (Nat.zero_le _) (Nat.zero_le _) dX3_copiedClearness_21 ?_
    cases h
    exact z_reti C hr hlk hP hS dX3_copiedClearness_24
  · have h := z_in hc1 h
    refine lv_iconst (v := 0) hx hb dX3_copiedClearness_5 (by decide) ?_
    cases h
    exact z_reti C hr hlk hP hS dX3_copiedClearness_6
abbrev rm_X2_takeOver : Room := { frames := 1, cells := 0, slots := 0, locals := 40 }
theorem hd_X2_takeOver : yX2_takeOver.cls ≠ "java/lang/invoke/MethodHandle" ∧ yX2_takeOver.cls ≠ "java/lang/invoke/VarHandle" ∧ (parseMethodDescriptor yX2_takeOver.desc).map (fun d => d.parameters.length) = some 1 := by decide +kernel
theorem hv_X2_takeOver : yX2_takeOver.cls = RX2 ∧ yX2_takeOver.cls ≠ "java/lang/invoke/MethodHandle" ∧ yX2_takeOver.cls ≠ "java/lang/invoke/VarHandle" ∧ (parseMethodDescriptor yX2_takeOver.desc).map (fun d => d.parameters.length) = some 1 := ⟨rfl, hd_X2_takeOver⟩
theorem wX2_takeOver_0 : Cond.fieldLink RX2 9 "WaxCopies$Wax" "depth" "[I" ∈ wsX2_takeOver := by decide +kernel
theorem inX2_takeOver_X2 : ∀ w ∈ wsX20, w ∈ wsX2_takeOver := by decide +kernel
theorem wX2_takeOver_2 : Cond.methodLink RX2 70 arraycopyName ∈ wsX2_takeOver := by decide +kernel
theorem wX2_takeOver_3 : Cond.native arraycopyName ∈ wsX2_takeOver := by decide +kernel
theorem wX2_takeOver_4 : Cond.static arraycopyName ∈ wsX2_takeOver := by decide +kernel
theorem wX2_takeOver_5 : Cond.initialized "java/lang/System" ∈ wsX2_takeOver := by decide +kernel
theorem wX2_takeOver_6 : Cond.fieldLink RX2 15 "WaxCopies$Wax" "clearness" "[I" ∈ wsX2_takeOver := by decide +kernel
theorem wX2_takeOver_7 : Cond.fieldLink RX2 18 "WaxCopies$Wax" "flutter" "[I" ∈ wsX2_takeOver := by decide +kernel
theorem wX2_takeOver_8 : Cond.fieldLink RX2 21 "WaxCopies$Wax" "generation" "[I" ∈ wsX2_takeOver := by decide +kernel
theorem wX2_takeOver_9 : Cond.fieldLink RX2 24 "WaxCopies$Wax" "mother" "[I" ∈ wsX2_takeOver := by decide +kernel
theorem wX2_takeOver_10 : Cond.fieldLink RX2 27 "WaxCopies$Wax" "clearnessAsCut" "[I" ∈ wsX2_takeOver := by decide +kernel
theorem wX2_takeOver_11 : Cond.fieldLink RX2 30 "WaxCopies$Wax" "plays" "[I" ∈ wsX2_takeOver := by decide +kernel
theorem wX2_takeOver_12 : Cond.fieldLink RX2 33 "WaxCopies$Wax" "layers" "[I" ∈ wsX2_takeOver := by decide +kernel
theorem wX2_takeOver_13 : Cond.fieldLink RX2 36 "WaxCopies$Wax" "shavings" "[I" ∈ wsX2_takeOver := by decide +kernel
theorem wX2_takeOver_14 : Cond.fieldLink RX2 39 "WaxCopies$Wax" "sharpness" "I" ∈ wsX2_takeOver := by decide +kernel
theorem wX2_takeOver_15 : Cond.fieldLink RX2 43 "WaxCopies$Wax" "spring" "I" ∈ wsX2_takeOver := by decide +kernel
theorem wX2_takeOver_16 : Cond.fieldLink RX2 46 "WaxCopies$Wax" "wear" "I" ∈ wsX2_takeOver := by decide +kernel
theorem wX2_takeOver_17 : Cond.fieldLink RX2 49 "WaxCopies$Wax" "spoken" "I" ∈ wsX2_takeOver := by decide +kernel
theorem wX2_takeOver_18 : Cond.fieldLink RX2 52 "WaxCopies$Wax" "copied" "I" ∈ wsX2_takeOver := by decide +kernel
theorem wX2_takeOver_19 : Cond.fieldLink RX2 55 "WaxCopies$Wax" "played" "I" ∈ wsX2_takeOver := by decide +kernel
theorem wX2_takeOver_20 : Cond.fieldLink RX2 58 "WaxCopies$Wax" "layersShaved" "I" ∈ wsX2_takeOver := by decide +kernel
theorem wX2_takeOver_21 : Cond.fieldLink RX2 61 "WaxCopies$Wax" "layersCome" "I" ∈ wsX2_takeOver := by decide +kernel
theorem wX2_takeOver_22 : Cond.fieldLink RX2 64 "WaxCopies$Wax" "layersGone" "I" ∈ wsX2_takeOver := by decide +kernel
theorem wX2_takeOver_23 : Cond.fieldLink RX2 67 "WaxCopies$Wax" "refused" "I" ∈ wsX2_takeOver := by decide +kernel
set_option maxHeartbeats 4000000 in
set_option maxRecDepth 100000 in
theorem c_X2_takeOver (l : Launch) (G : zG) {k0 : Nat} {x1 : Nat} {μ mu1 : Mm} {r : Unit} (h : f_X2_takeOver k0 x1 μ = some (r, mu1)) (sz : Nat) : Met l yX2_takeOver wsX2_takeOver rm_X2_takeOver (z_Pre G μ [.ref (G.2.1 (k0)), .ref (G.2.1 (x1))] sz) (z_Qv G r mu1 sz) 0 0 (z_A G sz) := by
  refine z_start (cc := cX2_takeOver) (maxL := 2) (ret := none) (own := RX2) (by decide) rfl rfl (Nat.le_of_ble_eq_true rfl) (fun p e s m args below meth c C hr hlk Z hP ls hl => ?_) sz
  have hx := C.1
  have hb := C.2.1
  have hts := C.2.2.2.2
  have hS : va_S (z_A G s.heap.size) s.heap s.heap [] := va_S.rf
  have hl : lv_has ls 2 [(0, .ref (G.2.1 (k0))), (1, .ref (G.2.1 (x1)))] := hl
  unfold f_X2_takeOver at h
  refine lv_aload_n hx hb dX2_takeOver_0 rfl (lv_at hl 1 rfl) ?_
  obtain ⟨hg1, h⟩ := z_g h
  refine z_get C Z hP (k := x1) (ci := 2) (j := 0) (N := 19) (v := .ref (G.2.1 ((x1 + 1)))) (Nat.lt_trans hg1.2 (by decide)) (z_E_wax hg1 _) rfl inX2_takeOver_X2 (by decide) wX2_takeOver_0 rfl dX2_takeOver_1 ?_
  refine lv_iconst (v := 0) hx hb dX2_takeOver_4 (by decide) ?_
  refine lv_aload_n hx hb dX2_takeOver_5 rfl (lv_at hl 0 rfl) ?_
  obtain ⟨hg2, h⟩ := z_g h
  refine z_get C Z hP (k := k0) (ci := 2) (j := 0) (N := 19) (v := .ref (G.2.1 ((k0 + 1)))) (Nat.lt_trans hg2.2 (by decide)) (z_E_wax hg2 _) rfl inX2_takeOver_X2 (by decide) wX2_takeOver_0 rfl dX2_takeOver_6 ?_
  refine lv_iconst (v := 0) hx hb dX2_takeOver_9 (by decide) ?_
  refine lv_bipush (v := 24) hx hb dX2_takeOver_10 (by decide) ?_
  refine z_acopy C Z hP hS (k0 := (x1 + 1)) (k1 := (k0 + 1)) (n := 24) hl.1 wX2_takeOver_2 wX2_takeOver_3 wX2_takeOver_4 wX2_takeOver_5 (by have := hg1.2; omega) (by have := hg2.2; omega) (fun r => z_E_wa 1 hg1 (by decide) r) (fun r => z_E_wa 1 hg2 (by decide) r) (by decide) (by decide) (Nat.le_of_ble_eq_true rfl) (Nat.le_of_ble_eq_true rfl) dX2_takeOver_12 (fun H locs hP hS => ?_)
  refine lv_aload_n hx hb dX2_takeOver_15 rfl (lv_at hl 1 rfl) ?_
  refine z_get C Z hP (k := x1) (ci := 2) (j := 1) (N := 19) (v := .ref (G.2.1 ((x1 + 2)))) (Nat.lt_trans hg1.2 (by decide)) (z_E_wax hg1 _) rfl inX2_takeOver_X2 (by decide) wX2_takeOver_6 rfl dX2_takeOver_16 ?_
  refine lv_iconst (v := 0) hx hb dX2_takeOver_19 (by decide) ?_
  refine lv_aload_n hx hb dX2_takeOver_20 rfl (lv_at hl 0 rfl) ?_
  refine z_get C Z hP (k := k0) (ci := 2) (j := 1) (N := 19) (v := .ref (G.2.1 ((k0 + 2)))) (Nat.lt_trans hg2.2 (by decide)) (z_E_wax hg2 _) rfl inX2_takeOver_X2 (by decide) wX2_takeOver_6 rfl dX2_takeOver_21 ?_
  refine lv_iconst (v := 0) hx hb dX2_takeOver_24 (by decide) ?_
  refine lv_bipush (v := 24) hx hb dX2_takeOver_25 (by decide) ?_
  refine z_acopy C Z hP hS (k0 := (x1 + 2)) (k1 := (k0 + 2)) (n := 24) hl.1 wX2_takeOver_2 wX2_takeOver_3 wX2_takeOver_4 wX2_takeOver_5 (by have := hg1.2; omega) (by have := hg2.2; omega) (fun r => z_E_wa 2 hg1 (by decide) r) (fun r => z_E_wa 2 hg2 (by decide) r) (by decide) (by decide) (Nat.le_of_ble_eq_true rfl) (Nat.le_of_ble_eq_true rfl) dX2_takeOver_27 (fun H locs hP hS => ?_)
  refine lv_aload_n hx hb dX2_takeOver_30 rfl (lv_at hl 1 rfl) ?_
  refine z_get C Z hP (k := x1) (ci := 2) (j := 2) (N := 19) (v := .ref (G.2.1 ((x1 + 3)))) (Nat.lt_trans hg1.2 (by decide)) (z_E_wax hg1 _) rfl inX2_takeOver_X2 (by decide) wX2_takeOver_7 rfl dX2_takeOver_31 ?_
  refine lv_iconst (v := 0) hx hb dX2_takeOver_34 (by decide) ?_
  refine lv_aload_n hx hb dX2_takeOver_35 rfl (lv_at hl 0 rfl) ?_
  refine z_get C Z hP (k := k0) (ci := 2) (j := 2) (N := 19) (v := .ref (G.2.1 ((k0 + 3)))) (Nat.lt_trans hg2.2 (by decide)) (z_E_wax hg2 _) rfl inX2_takeOver_X2 (by decide) wX2_takeOver_7 rfl dX2_takeOver_36 ?_
  refine lv_iconst (v := 0) hx hb dX2_takeOver_39 (by decide) ?_
  refine lv_bipush (v := 24) hx hb dX2_takeOver_40 (by decide) ?_
  refine z_acopy C Z hP hS (k0 := (x1 + 3)) (k1 := (k0 + 3)) (n := 24) hl.1 wX2_takeOver_2 wX2_takeOver_3 wX2_takeOver_4 wX2_takeOver_5 (by have := hg1.2; omega) (by have := hg2.2; omega) (fun r => z_E_wa 3 hg1 (by decide) r) (fun r => z_E_wa 3 hg2 (by decide) r) (by decide) (by decide) (Nat.le_of_ble_eq_true rfl) (Nat.le_of_ble_eq_true rfl) dX2_takeOver_42 (fun H locs hP hS => ?_)
  refine lv_aload_n hx hb dX2_takeOver_45 rfl (lv_at hl 1 rfl) ?_
  obtain ⟨m3, hm4, h⟩ := zm_some h
  rw [← hm4] at hP
  refine z_get C Z hP (k := x1) (ci := 2) (j := 3) (N := 19) (v := .ref (G.2.1 ((x1 + 4)))) (Nat.lt_trans hg1.2 (by decide)) (z_E_wax hg1 _) rfl inX2_takeOver_X2 (by decide) wX2_takeOver_8 rfl dX2_takeOver_46 ?_
  refine lv_iconst (v := 0) hx hb dX2_takeOver_49 (by decide) ?_
  refine lv_aload_n hx hb dX2_takeOver_50 rfl (lv_at hl 0 rfl) ?_
  refine z_get C Z hP (k := k0) (ci := 2) (j := 3) (N := 19) (v := .ref (G.2.1 ((k0 + 4)))) (Nat.lt_trans hg2.2 (by decide)) (z_E_wax hg2 _) rfl inX2_takeOver_X2 (by decide) wX2_takeOver_8 rfl dX2_takeOver_51 ?_
  refine lv_iconst (v := 0) hx hb dX2_takeOver_54 (by decide) ?_
  refine lv_bipush (v := 24) hx hb dX2_takeOver_55 (by decide) ?_
  refine z_acopy C Z hP hS (k0 := (x1 + 4)) (k1 := (k0 + 4)) (n := 24) hl.1 wX2_takeOver_2 wX2_takeOver_3 wX2_takeOver_4 wX2_takeOver_5 (by have := hg1.2; omega) (by have := hg2.2; omega) (fun r => z_E_wa 4 hg1 (by decide) r) (fun r => z_E_wa 4 hg2 (by decide) r) (by decide) (by decide) (Nat.le_of_ble_eq_true rfl) (Nat.le_of_ble_eq_true rfl) dX2_takeOver_57 (fun H locs hP hS => ?_)
  refine lv_aload_n hx hb dX2_takeOver_60 rfl (lv_at hl 1 rfl) ?_
  refine z_get C Z hP (k := x1) (ci := 2) (j := 4) (N := 19) (v := .ref (G.2.1 ((x1 + 5)))) (Nat.lt_trans hg1.2 (by decide)) (z_E_wax hg1 _) rfl inX2_takeOver_X2 (by decide) wX2_takeOver_9 rfl dX2_takeOver_61 ?_
  refine lv_iconst (v := 0) hx hb dX2_takeOver_64 (by decide) ?_
  refine lv_aload_n hx hb dX2_takeOver_65 rfl (lv_at hl 0 rfl) ?_
  refine z_get C Z hP (k := k0) (ci := 2) (j := 4) (N := 19) (v := .ref (G.2.1 ((k0 + 5)))) (Nat.lt_trans hg2.2 (by decide)) (z_E_wax hg2 _) rfl inX2_takeOver_X2 (by decide) wX2_takeOver_9 rfl dX2_takeOver_66 ?_
  refine lv_iconst (v := 0) hx hb dX2_takeOver_69 (by decide) ?_
  refine lv_bipush (v := 24) hx hb dX2_takeOver_70 (by decide) ?_
  refine z_acopy C Z hP hS (k0 := (x1 + 5)) (k1 := (k0 + 5)) (n := 24) hl.1 wX2_takeOver_2 wX2_takeOver_3 wX2_takeOver_4 wX2_takeOver_5 (by have := hg1.2; omega) (by have := hg2.2; omega) (fun r => z_E_wa 5 hg1 (by decide) r) (fun r => z_E_wa 5 hg2 (by decide) r) (by decide) (by decide) (Nat.le_of_ble_eq_true rfl) (Nat.le_of_ble_eq_true rfl) dX2_takeOver_72 (fun H locs hP hS => ?_)
  refine lv_aload_n hx hb dX2_takeOver_75 rfl (lv_at hl 1 rfl) ?_
  refine z_get C Z hP (k := x1) (ci := 2) (j := 5) (N := 19) (v := .ref (G.2.1 ((x1 + 6)))) (Nat.lt_trans hg1.2 (by decide)) (z_E_wax hg1 _) rfl inX2_takeOver_X2 (by decide) wX2_takeOver_10 rfl dX2_takeOver_76 ?_
  refine lv_iconst (v := 0) hx hb dX2_takeOver_79 (by decide) ?_
  refine lv_aload_n hx hb dX2_takeOver_80 rfl (lv_at hl 0 rfl) ?_
  refine z_get C Z hP (k := k0) (ci := 2) (j := 5) (N := 19) (v := .ref (G.2.1 ((k0 + 6)))) (Nat.lt_trans hg2.2 (by decide)) (z_E_wax hg2 _) rfl inX2_takeOver_X2 (by decide) wX2_takeOver_10 rfl dX2_takeOver_81 ?_
  refine lv_iconst (v := 0) hx hb dX2_takeOver_84 (by decide) ?_
  refine lv_bipush (v := 24) hx hb dX2_takeOver_85 (by decide) ?_
  refine z_acopy C Z hP hS (k0 := (x1 + 6)) (k1 := (k0 + 6)) (n := 24) hl.1 wX2_takeOver_2 wX2_takeOver_3 wX2_takeOver_4 wX2_takeOver_5 (by have := hg1.2; omega) (by have := hg2.2; omega) (fun r => z_E_wa 6 hg1 (by decide) r) (fun r => z_E_wa 6 hg2 (by decide) r) (by decide) (by decide) (Nat.le_of_ble_eq_true rfl) (Nat.le_of_ble_eq_true rfl) dX2_takeOver_87 (fun H locs hP hS => ?_)
  refine lv_aload_n hx hb dX2_takeOver_90 rfl (lv_at hl 1 rfl) ?_
  obtain ⟨m5, hm6, h⟩ := zm_some h
  rw [← hm6] at hP
  refine z_get C Z hP (k := x1) (ci := 2) (j := 6) (N := 19) (v := .ref (G.2.1 ((x1 + 7)))) (Nat.lt_trans hg1.2 (by decide)) (z_E_wax hg1 _) rfl inX2_takeOver_X2 (by decide) wX2_takeOver_11 rfl dX2_takeOver_91 ?_
  refine lv_iconst (v := 0) hx hb dX2_takeOver_94 (by decide) ?_
  refine lv_aload_n hx hb dX2_takeOver_95 rfl (lv_at hl 0 rfl) ?_
  refine z_get C Z hP (k := k0) (ci := 2) (j := 6) (N := 19) (v := .ref (G.2.1 ((k0 + 7)))) (Nat.lt_trans hg2.2 (by decide)) (z_E_wax hg2 _) rfl inX2_takeOver_X2 (by decide) wX2_takeOver_11 rfl dX2_takeOver_96 ?_
  refine lv_iconst (v := 0) hx hb dX2_takeOver_99 (by decide) ?_
  refine lv_bipush (v := 24) hx hb dX2_takeOver_100 (by decide) ?_
  refine z_acopy C Z hP hS (k0 := (x1 + 7)) (k1 := (k0 + 7)) (n := 24) hl.1 wX2_takeOver_2 wX2_takeOver_3 wX2_takeOver_4 wX2_takeOver_5 (by have := hg1.2; omega) (by have := hg2.2; omega) (fun r => z_E_wa 7 hg1 (by decide) r) (fun r => z_E_wa 7 hg2 (by decide) r) (by decide) (by decide) (Nat.le_of_ble_eq_true rfl) (Nat.le_of_ble_eq_true rfl) dX2_takeOver_102 (fun H locs hP hS => ?_)
  refine lv_aload_n hx hb dX2_takeOver_105 rfl (lv_at hl 1 rfl) ?_
  refine z_get C Z hP (k := x1) (ci := 2) (j := 7) (N := 19) (v := .ref (G.2.1 ((x1 + 8)))) (Nat.lt_trans hg1.2 (by decide)) (z_E_wax hg1 _) rfl inX2_takeOver_X2 (by decide) wX2_takeOver_12 rfl dX2_takeOver_106 ?_
  refine lv_iconst (v := 0) hx hb dX2_takeOver_109 (by decide) ?_
  refine lv_aload_n hx hb dX2_takeOver_110 rfl (lv_at hl 0 rfl) ?_
  refine z_get C Z hP (k := k0) (ci := 2) (j := 7) (N := 19) (v := .ref (G.2.1 ((k0 + 8)))) (Nat.lt_trans hg2.2 (by decide)) (z_E_wax hg2 _) rfl inX2_takeOver_X2 (by decide) wX2_takeOver_12 rfl dX2_takeOver_111 ?_
  refine lv_iconst (v := 0) hx hb dX2_takeOver_114 (by decide) ?_
  refine lv_bipush (v := 6) hx hb dX2_takeOver_115 (by decide) ?_
  refine z_acopy C Z hP hS (k0 := (x1 + 8)) (k1 := (k0 + 8)) (n := 6) hl.1 wX2_takeOver_2 wX2_takeOver_3 wX2_takeOver_4 wX2_takeOver_5 (by have := hg1.2; omega) (by have := hg2.2; omega) (fun r => z_E_wb 8 hg1 (by decide) r) (fun r => z_E_wb 8 hg2 (by decide) r) (by decide) (by decide) (Nat.le_of_ble_eq_true rfl) (Nat.le_of_ble_eq_true rfl) dX2_takeOver_117 (fun H locs hP hS => ?_)
  refine lv_aload_n hx hb dX2_takeOver_120 rfl (lv_at hl 1 rfl) ?_
  refine z_get C Z hP (k := x1) (ci := 2) (j := 8) (N := 19) (v := .ref (G.2.1 ((x1 + 9)))) (Nat.lt_trans hg1.2 (by decide)) (z_E_wax hg1 _) rfl inX2_takeOver_X2 (by decide) wX2_takeOver_13 rfl dX2_takeOver_121 ?_
  refine lv_iconst (v := 0) hx hb dX2_takeOver_124 (by decide) ?_
  refine lv_aload_n hx hb dX2_takeOver_125 rfl (lv_at hl 0 rfl) ?_
  refine z_get C Z hP (k := k0) (ci := 2) (j := 8) (N := 19) (v := .ref (G.2.1 ((k0 + 9)))) (Nat.lt_trans hg2.2 (by decide)) (z_E_wax hg2 _) rfl inX2_takeOver_X2 (by decide) wX2_takeOver_13 rfl dX2_takeOver_126 ?_
  refine lv_iconst (v := 0) hx hb dX2_takeOver_129 (by decide) ?_
  refine lv_bipush (v := 6) hx hb dX2_takeOver_130 (by decide) ?_
  refine z_acopy C Z hP hS (k0 := (x1 + 9)) (k1 := (k0 + 9)) (n := 6) hl.1 wX2_takeOver_2 wX2_takeOver_3 wX2_takeOver_4 wX2_takeOver_5 (by have := hg1.2; omega) (by have := hg2.2; omega) (fun r => z_E_wb 9 hg1 (by decide) r) (fun r => z_E_wb 9 hg2 (by decide) r) (by decide) (by decide) (Nat.le_of_ble_eq_true rfl) (Nat.le_of_ble_eq_true rfl) dX2_takeOver_132 (fun H locs hP hS => ?_)
  refine lv_aload_n hx hb dX2_takeOver_135 rfl (lv_at hl 0 rfl) ?_
  refine lv_aload_n hx hb dX2_takeOver_136 rfl (lv_at hl 1 rfl) ?_
  obtain ⟨m7, hm8, h⟩ := zm_some h
  rw [← hm8] at hP
  refine z_get C Z hP (k := x1) (ci := 2) (j := 9) (N := 19) (v := .int ((m7 (x1) 9))) (Nat.lt_trans hg1.2 (by decide)) (z_E_wax hg1 _) rfl inX2_takeOver_X2 (by decide) wX2_takeOver_14 rfl dX2_takeOver_137 ?_
  refine z_put C Z hP hS (k := k0) (ci := 2) (j := 9) (N := 19) (x := (m7 (x1) 9)) (v := .int ((m7 (x1) 9))) (ty := .int) (Nat.lt_trans hg2.2 (by decide)) (z_E_wax hg2 _) rfl inX2_takeOver_X2 tyX2_ok nmX2 (by decide) wX2_takeOver_14 rfl (by decide +kernel) rfl rfl (Nat.le_of_ble_eq_true rfl) (z_S_wax hg2 _ _ 9 (by decide)) dX2_takeOver_140 (fun H locs hP hS => ?_)
  refine lv_aload_n hx hb dX2_takeOver_143 rfl (lv_at hl 0 rfl) ?_
  refine lv_aload_n hx hb dX2_takeOver_144 rfl (lv_at hl 1 rfl) ?_
  refine z_get C Z hP (k := x1) (ci := 2) (j := 10) (N := 19) (v := .int (((z_up m7 (k0) 9 (m7 (x1) 9)) (x1) 10))) (Nat.lt_trans hg1.2 (by decide)) (z_E_wax hg1 _) rfl inX2_takeOver_X2 (by decide) wX2_takeOver_15 rfl dX2_takeOver_145 ?_
  refine z_put C Z hP hS (k := k0) (ci := 2) (j := 10) (N := 19) (x := ((z_up m7 (k0) 9 (m7 (x1) 9)) (x1) 10)) (v := .int (((z_up m7 (k0) 9 (m7 (x1) 9)) (x1) 10))) (ty := .int) (Nat.lt_trans hg2.2 (by decide)) (z_E_wax hg2 _) rfl inX2_takeOver_X2 tyX2_ok nmX2 (by decide) wX2_takeOver_15 rfl (by decide +kernel) rfl rfl (Nat.le_of_ble_eq_true rfl) (z_S_wax hg2 _ _ 10 (by decide)) dX2_takeOver_148 (fun H locs hP hS => ?_)
  refine lv_aload_n hx hb dX2_takeOver_151 rfl (lv_at hl 0 rfl) ?_
  refine lv_aload_n hx hb dX2_takeOver_152 rfl (lv_at hl 1 rfl) ?_
  obtain ⟨m9, hm10, h⟩ := zm_some h
  rw [← hm10] at hP
  refine z_get C Z hP (k := x1) (ci := 2) (j := 11) (N := 19) (v := .int ((m9 (x1) 11))) (Nat.lt_trans hg1.2 (by decide)) (z_E_wax hg1 _) rfl inX2_takeOver_X2 (by decide) wX2_takeOver_16 rfl dX2_takeOver_153 ?_
  refine z_put C Z hP hS (k := k0) (ci := 2) (j := 11) (N := 19) (x := (m9 (x1) 11)) (v := .int ((m9 (x1) 11))) (ty := .int) (Nat.lt_trans hg2.2 (by decide)) (z_E_wax hg2 _) rfl inX2_takeOver_X2 tyX2_ok nmX2 (by decide) wX2_takeOver_16 rfl (by decide +kernel) rfl rfl (Nat.le_of_ble_eq_true rfl) (z_S_wax hg2 _ _ 11 (by decide)) dX2_takeOver_156 (fun H locs hP hS => ?_)
  refine lv_aload_n hx hb dX2_takeOver_159 rfl (lv_at hl 0 rfl) ?_
  refine lv_aload_n hx hb dX2_takeOver_160 rfl (lv_at hl 1 rfl) ?_
  refine z_get C Z hP (k := x1) (ci := 2) (j := 12) (N := 19) (v := .int (((z_up m9 (k0) 11 (m9 (x1) 11)) (x1) 12))) (Nat.lt_trans hg1.2 (by decide)) (z_E_wax hg1 _) rfl inX2_takeOver_X2 (by decide) wX2_takeOver_17 rfl dX2_takeOver_161 ?_
  refine z_put C Z hP hS (k := k0) (ci := 2) (j := 12) (N := 19) (x := ((z_up m9 (k0) 11 (m9 (x1) 11)) (x1) 12)) (v := .int (((z_up m9 (k0) 11 (m9 (x1) 11)) (x1) 12))) (ty := .int) (Nat.lt_trans hg2.2 (by decide)) (z_E_wax hg2 _) rfl inX2_takeOver_X2 tyX2_ok nmX2 (by decide) wX2_takeOver_17 rfl (by decide +kernel) rfl rfl (Nat.le_of_ble_eq_true rfl) (z_S_wax hg2 _ _ 12 (by decide)) dX2_takeOver_164 (fun H locs hP hS => ?_)
  refine lv_aload_n hx hb dX2_takeOver_167 rfl (lv_at hl 0 rfl) ?_
  refine lv_aload_n hx hb dX2_takeOver_168 rfl (lv_at hl 1 rfl) ?_
  obtain ⟨m11, hm12, h⟩ := zm_some h
  rw [← hm12] at hP
  refine z_get C Z hP (k := x1) (ci := 2) (j := 13) (N := 19) (v := .int ((m11 (x1) 13))) (Nat.lt_trans hg1.2 (by decide)) (z_E_wax hg1 _) rfl inX2_takeOver_X2 (by decide) wX2_takeOver_18 rfl dX2_takeOver_169 ?_
  refine z_put C Z hP hS (k := k0) (ci := 2) (j := 13) (N := 19) (x := (m11 (x1) 13)) (v := .int ((m11 (x1) 13))) (ty := .int) (Nat.lt_trans hg2.2 (by decide)) (z_E_wax hg2 _) rfl inX2_takeOver_X2 tyX2_ok nmX2 (by decide) wX2_takeOver_18 rfl (by decide +kernel) rfl rfl (Nat.le_of_ble_eq_true rfl) (z_S_wax hg2 _ _ 13 (by decide)) dX2_takeOver_172 (fun H locs hP hS => ?_)
  refine lv_aload_n hx hb dX2_takeOver_175 rfl (lv_at hl 0 rfl) ?_
  refine lv_aload_n hx hb dX2_takeOver_176 rfl (lv_at hl 1 rfl) ?_
  refine z_get C Z hP (k := x1) (ci := 2) (j := 14) (N := 19) (v := .int (((z_up m11 (k0) 13 (m11 (x1) 13)) (x1) 14))) (Nat.lt_trans hg1.2 (by decide)) (z_E_wax hg1 _) rfl inX2_takeOver_X2 (by decide) wX2_takeOver_19 rfl dX2_takeOver_177 ?_
  refine z_put C Z hP hS (k := k0) (ci := 2) (j := 14) (N := 19) (x := ((z_up m11 (k0) 13 (m11 (x1) 13)) (x1) 14)) (v := .int (((z_up m11 (k0) 13 (m11 (x1) 13)) (x1) 14))) (ty := .int) (Nat.lt_trans hg2.2 (by decide)) (z_E_wax hg2 _) rfl inX2_takeOver_X2 tyX2_ok nmX2 (by decide) wX2_takeOver_19 rfl (by decide +kernel) rfl rfl (Nat.le_of_ble_eq_true rfl) (z_S_wax hg2 _ _ 14 (by decide)) dX2_takeOver_180 (fun H locs hP hS => ?_)
  refine lv_aload_n hx hb dX2_takeOver_183 rfl (lv_at hl 0 rfl) ?_
  refine lv_aload_n hx hb dX2_takeOver_184 rfl (lv_at hl 1 rfl) ?_
  obtain ⟨m13, hm14, h⟩ := zm_some h
  rw [← hm14] at hP
  refine z_get C Z hP (k := x1) (ci := 2) (j := 15) (N := 19) (v := .int ((m13 (x1) 15))) (Nat.lt_trans hg1.2 (by decide)) (z_E_wax hg1 _) rfl inX2_takeOver_X2 (by decide) wX2_takeOver_20 rfl dX2_takeOver_185 ?_
  refine z_put C Z hP hS (k := k0) (ci := 2) (j := 15) (N := 19) (x := (m13 (x1) 15)) (v := .int ((m13 (x1) 15))) (ty := .int) (Nat.lt_trans hg2.2 (by decide)) (z_E_wax hg2 _) rfl inX2_takeOver_X2 tyX2_ok nmX2 (by decide) wX2_takeOver_20 rfl (by decide +kernel) rfl rfl (Nat.le_of_ble_eq_true rfl) (z_S_wax hg2 _ _ 15 (by decide)) dX2_takeOver_188 (fun H locs hP hS => ?_)
  refine lv_aload_n hx hb dX2_takeOver_191 rfl (lv_at hl 0 rfl) ?_
  refine lv_aload_n hx hb dX2_takeOver_192 rfl (lv_at hl 1 rfl) ?_
  refine z_get C Z hP (k := x1) (ci := 2) (j := 16) (N := 19) (v := .int (((z_up m13 (k0) 15 (m13 (x1) 15)) (x1) 16))) (Nat.lt_trans hg1.2 (by decide)) (z_E_wax hg1 _) rfl inX2_takeOver_X2 (by decide) wX2_takeOver_21 rfl dX2_takeOver_193 ?_
  refine z_put C Z hP hS (k := k0) (ci := 2) (j := 16) (N := 19) (x := ((z_up m13 (k0) 15 (m13 (x1) 15)) (x1) 16)) (v := .int (((z_up m13 (k0) 15 (m13 (x1) 15)) (x1) 16))) (ty := .int) (Nat.lt_trans hg2.2 (by decide)) (z_E_wax hg2 _) rfl inX2_takeOver_X2 tyX2_ok nmX2 (by decide) wX2_takeOver_21 rfl (by decide +kernel) rfl rfl (Nat.le_of_ble_eq_true rfl) (z_S_wax hg2 _ _ 16 (by decide)) dX2_takeOver_196 (fun H locs hP hS => ?_)
  refine lv_aload_n hx hb dX2_takeOver_199 rfl (lv_at hl 0 rfl) ?_
  refine lv_aload_n hx hb dX2_takeOver_200 rfl (lv_at hl 1 rfl) ?_
  obtain ⟨m15, hm16, h⟩ := zm_some h
  rw [← hm16] at hP
  refine z_get C Z hP (k := x1) (ci := 2) (j := 17) (N := 19) (v := .int ((m15 (x1) 17))) (Nat.lt_trans hg1.2 (by decide)) (z_E_wax hg1 _) rfl inX2_takeOver_X2 (by decide) wX2_takeOver_22 rfl dX2_takeOver_201 ?_
  refine z_put C Z hP hS (k := k0) (ci := 2) (j := 17) (N := 19) (x := (m15 (x1) 17)) (v := .int ((m15 (x1) 17))) (ty := .int) (Nat.lt_trans hg2.2 (by decide)) (z_E_wax hg2 _) rfl inX2_takeOver_X2 tyX2_ok nmX2 (by decide) wX2_takeOver_22 rfl (by decide +kernel) rfl rfl (Nat.le_of_ble_eq_true rfl) (z_S_wax hg2 _ _ 17 (by decide)) dX2_takeOver_204 (fun H locs hP hS => ?_)
  refine lv_aload_n hx hb dX2_takeOver_207 rfl (lv_at hl 0 rfl) ?_
  refine lv_aload_n hx hb dX2_takeOver_208 rfl (lv_at hl 1 rfl) ?_
  refine z_get C Z hP (k := x1) (ci := 2) (j := 18) (N := 19) (v := .int (((z_up m15 (k0) 17 (m15 (x1) 17)) (x1) 18))) (Nat.lt_trans hg1.2 (by decide)) (z_E_wax hg1 _) rfl inX2_takeOver_X2 (by decide) wX2_takeOver_23 rfl dX2_takeOver_209 ?_
  refine z_put C Z hP hS (k := k0) (ci := 2) (j := 18) (N := 19) (x := ((z_up m15 (k0) 17 (m15 (x1) 17)) (x1) 18)) (v := .int (((z_up m15 (k0) 17 (m15 (x1) 17)) (x1) 18))) (ty := .int) (Nat.lt_trans hg2.2 (by decide)) (z_E_wax hg2 _) rfl inX2_takeOver_X2 tyX2_ok nmX2 (by decide) wX2_takeOver_23 rfl (by decide +kernel) rfl rfl (Nat.le_of_ble_eq_true rfl) (z_S_wax hg2 _ _ 18 (by decide)) dX2_takeOver_212 (fun H locs hP hS => ?_)
  cases h
  exact z_retv C hr hlk hP hS dX2_takeOver_215
abbrev rm_X2_isCut : Room := { frames := 0, cells := 0, slots := 0, locals := 0 }
theorem hd_X2_isCut : yX2_isCut.cls ≠ "java/lang/invoke/MethodHandle" ∧ yX2_isCut.cls ≠ "java/lang/invoke/VarHandle" ∧ (parseMethodDescriptor yX2_isCut.desc).map (fun d => d.parameters.length) = some 1 := by decide +kernel
theorem hv_X2_isCut : yX2_isCut.cls = RX2 ∧ yX2_isCut.cls ≠ "java/lang/invoke/MethodHandle" ∧ yX2_isCut.cls ≠ "java/lang/invoke/VarHandle" ∧ (parseMethodDescriptor yX2_isCut.desc).map (fun d => d.parameters.length) = some 1 := ⟨rfl, hd_X2_isCut⟩
theorem wX2_isCut_0 : Cond.fieldLink RX2 9 "WaxCopies$Wax" "depth" "[I" ∈ wsX2_isCut := by decide +kernel
theorem inX2_isCut_X2 : ∀ w ∈ wsX20, w ∈ wsX2_isCut := by decide +kernel
set_option maxHeartbeats 4000000 in
set_option maxRecDepth 100000 in
theorem c_X2_isCut (l : Launch) (G : zG) {x1 : Int32} {μ mu1 : Mm} {r : Int32} (h : f_X2_isCut x1 μ = some (r, mu1)) (sz : Nat) : Met l yX2_isCut wsX2_isCut rm_X2_isCut (z_Pre G μ [.ref (G.2.1 (0)), .int (x1)] sz) (z_Qi G r mu1 sz) 0 0 (z_A G sz) := by
  refine z_start (cc := cX2_isCut) (maxL := 2) (ret := (some .boolean)) (own := RX2) (by decide) rfl rfl (Nat.le_of_ble_eq_true rfl) (fun p e s m args below meth c C hr hlk Z hP ls hl => ?_) sz
  have hx := C.1
  have hb := C.2.1
  have hts := C.2.2.2.2
  have hS : va_S (z_A G s.heap.size) s.heap s.heap [] := va_S.rf
  have hl : lv_has ls 2 [(0, .ref (G.2.1 (0))), (1, .int (x1))] := hl
  unfold f_X2_isCut at h
  refine lv_aload_n hx hb dX2_isCut_0 rfl (lv_at hl 0 rfl) ?_
  refine z_get C Z hP (k := 0) (ci := 2) (j := 0) (N := 19) (v := .ref (G.2.1 (1))) (by decide) (z_E_0 _) rfl inX2_isCut_X2 (by decide) wX2_isCut_0 rfl dX2_isCut_1 ?_
  refine lv_iload_n hx hb dX2_isCut_4 rfl (lv_at hl 1 rfl) ?_
  obtain ⟨hg1, h⟩ := z_g h
  refine z_iald C Z hP (k := 1) (n := 24) (j := (x1).toNatClampNeg) (by decide) (z_E_1 _) hg1 rfl dX2_isCut_5 ?_
  refine lv_if_le (tgt := 13) hx hb dX2_isCut_6 (by decide) (fun hc2 => ?_) (fun hc2 => ?_)
  · have h := z_ip hc2 h
    refine lv_iconst (v := 0) hx hb dX2_isCut_13 (by decide) ?_
    cases h
    exact z_retz C hr hlk rfl hP hS dX2_isCut_14
  · have h := z_in hc2 h
    refine lv_iconst (v := 1) hx hb dX2_isCut_9 (by decide) ?_
    refine lv_goto (tgt := 14) hx hb dX2_isCut_10 (by decide) ?_
    cases h
    exact z_retz C hr hlk rfl hP hS dX2_isCut_14
abbrev rm_X2_machineFlutter : Room := { frames := 0, cells := 0, slots := 0, locals := 0 }
theorem hd_X2_machineFlutter : yX2_machineFlutter.cls ≠ "java/lang/invoke/MethodHandle" ∧ yX2_machineFlutter.cls ≠ "java/lang/invoke/VarHandle" ∧ (parseMethodDescriptor yX2_machineFlutter.desc).map (fun d => d.parameters.length) = some 0 := by decide +kernel
theorem hv_X2_machineFlutter : yX2_machineFlutter.cls = RX2 ∧ yX2_machineFlutter.cls ≠ "java/lang/invoke/MethodHandle" ∧ yX2_machineFlutter.cls ≠ "java/lang/invoke/VarHandle" ∧ (parseMethodDescriptor yX2_machineFlutter.desc).map (fun d => d.parameters.length) = some 0 := ⟨rfl, hd_X2_machineFlutter⟩
theorem wX2_machineFlutter_0 : Cond.fieldLink RX2 43 "WaxCopies$Wax" "spring" "I" ∈ wsX2_machineFlutter := by decide +kernel
theorem inX2_machineFlutter_X2 : ∀ w ∈ wsX20, w ∈ wsX2_machineFlutter := by decide +kernel
set_option maxHeartbeats 4000000 in
set_option maxRecDepth 100000 in
theorem c_X2_machineFlutter (l : Launch) (G : zG) {μ mu1 : Mm} {r : Int32} (h : f_X2_machineFlutter μ = some (r, mu1)) (sz : Nat) : Met l yX2_machineFlutter wsX2_machineFlutter rm_X2_machineFlutter (z_Pre G μ [.ref (G.2.1 (0))] sz) (z_Qi G r mu1 sz) 0 0 (z_A G sz) := by
  refine z_start (cc := cX2_machineFlutter) (maxL := 1) (ret := (some .int)) (own := RX2) (by decide) rfl rfl (Nat.le_of_ble_eq_true rfl) (fun p e s m args below meth c C hr hlk Z hP ls hl => ?_) sz
  have hx := C.1
  have hb := C.2.1
  have hts := C.2.2.2.2
  have hS : va_S (z_A G s.heap.size) s.heap s.heap [] := va_S.rf
  have hl : lv_has ls 1 [(0, .ref (G.2.1 (0)))] := hl
  unfold f_X2_machineFlutter at h
  refine lv_aload_n hx hb dX2_machineFlutter_0 rfl (lv_at hl 0 rfl) ?_
  refine z_get C Z hP (k := 0) (ci := 2) (j := 10) (N := 19) (v := .int ((μ 0 10))) (by decide) (z_E_0 _) rfl inX2_machineFlutter_X2 (by decide) wX2_machineFlutter_0 rfl dX2_machineFlutter_1 ?_
  refine lv_bipush (v := 50) hx hb dX2_machineFlutter_4 (by decide) ?_
  refine lv_icmp_lt (tgt := 13) hx hb dX2_machineFlutter_6 (by decide) (fun hc1 => ?_) (fun hc1 => ?_)
  · have h := z_ip hc1 h
    refine lv_bipush (v := 50) hx hb dX2_machineFlutter_13 (by decide) ?_
    refine lv_aload_n hx hb dX2_machineFlutter_15 rfl (lv_at hl 0 rfl) ?_
    refine z_get C Z hP (k := 0) (ci := 2) (j := 10) (N := 19) (v := .int ((μ 0 10))) (by decide) (z_E_0 _) rfl inX2_machineFlutter_X2 (by decide) wX2_machineFlutter_0 rfl dX2_machineFlutter_16 ?_
    refine lv_isub hx hb dX2_machineFlutter_19 ?_
    refine lv_iconst (v := 5) hx hb dX2_machineFlutter_20 (by decide) ?_
    refine lv_idiv hx hb dX2_machineFlutter_21 (by decide) ?_
    cases h
    exact z_reti C hr hlk hP hS dX2_machineFlutter_22
  · have h := z_in hc1 h
    refine lv_iconst (v := 0) hx hb dX2_machineFlutter_9 (by decide) ?_
    refine lv_goto (tgt := 22) hx hb dX2_machineFlutter_10 (by decide) ?_
    cases h
    exact z_reti C hr hlk hP hS dX2_machineFlutter_22
abbrev rm_X2_reasonNotToSpeak : Room := { frames := 1, cells := 0, slots := 0, locals := 21 }
theorem hd_X2_reasonNotToSpeak : yX2_reasonNotToSpeak.cls ≠ "java/lang/invoke/MethodHandle" ∧ yX2_reasonNotToSpeak.cls ≠ "java/lang/invoke/VarHandle" ∧ (parseMethodDescriptor yX2_reasonNotToSpeak.desc).map (fun d => d.parameters.length) = some 2 := by decide +kernel
theorem hv_X2_reasonNotToSpeak : yX2_reasonNotToSpeak.cls = RX2 ∧ yX2_reasonNotToSpeak.cls ≠ "java/lang/invoke/MethodHandle" ∧ yX2_reasonNotToSpeak.cls ≠ "java/lang/invoke/VarHandle" ∧ (parseMethodDescriptor yX2_reasonNotToSpeak.desc).map (fun d => d.parameters.length) = some 2 := ⟨rfl, hd_X2_reasonNotToSpeak⟩
theorem wX2_reasonNotToSpeak_0 : Cond.fieldLink RX2 33 "WaxCopies$Wax" "layers" "[I" ∈ wsX2_reasonNotToSpeak := by decide +kernel
theorem inX2_reasonNotToSpeak_X2 : ∀ w ∈ wsX20, w ∈ wsX2_reasonNotToSpeak := by decide +kernel
theorem wX2_reasonNotToSpeak_2 : Cond.fieldLink RX2 43 "WaxCopies$Wax" "spring" "I" ∈ wsX2_reasonNotToSpeak := by decide +kernel
set_option maxHeartbeats 4000000 in
set_option maxRecDepth 100000 in
theorem c_X2_reasonNotToSpeak (l : Launch) (G : zG) {x1 : Int32} {x2 : Int32} {μ mu1 : Mm} {r : Int32} (h : f_X2_reasonNotToSpeak x1 x2 μ = some (r, mu1)) (sz : Nat) : Met l yX2_reasonNotToSpeak wsX2_reasonNotToSpeak rm_X2_reasonNotToSpeak (z_Pre G μ [.ref (G.2.1 (0)), .int (x1), .int (x2)] sz) (z_Qi G r mu1 sz) 0 0 (z_A G sz) := by
  refine z_start (cc := cX2_reasonNotToSpeak) (maxL := 3) (ret := (some .int)) (own := RX2) (by decide) rfl rfl (Nat.le_of_ble_eq_true rfl) (fun p e s m args below meth c C hr hlk Z hP ls hl => ?_) sz
  have hx := C.1
  have hb := C.2.1
  have hts := C.2.2.2.2
  have hS : va_S (z_A G s.heap.size) s.heap s.heap [] := va_S.rf
  have hl : lv_has ls 3 [(0, .ref (G.2.1 (0))), (1, .int (x1)), (2, .int (x2))] := hl
  unfold f_X2_reasonNotToSpeak at h
  refine lv_aload_n hx hb dX2_reasonNotToSpeak_0 rfl (lv_at hl 0 rfl) ?_
  refine lv_iload_n hx hb dX2_reasonNotToSpeak_1 rfl (lv_at hl 1 rfl) ?_
  obtain ⟨r1, m2, e3, h⟩ := zb_some h
  refine z_calli hS (va_runV (As := [.int (x1)]) (rest := []) C (c_X2_isCut l G e3 _) (cwV 1 hts gX2_reasonNotToSpeak_X2_isCut rfl rfl rfl hv_X2_isCut ⟨Nat.le_of_ble_eq_true rfl, Nat.le_of_ble_eq_true rfl⟩) (z_preV Z hS hP (by decide) (z_E_0 _) rfl rfl) rfl rfl hl.1 rfl (lv_room (Nat.le_of_ble_eq_true rfl)) dX2_reasonNotToSpeak_2 ⟨Nat.zero_le _, Nat.zero_le _⟩) (fun H locs hP hS => ?_)
  refine lv_if_eq (tgt := 10) hx hb dX2_reasonNotToSpeak_5 (by decide) (fun hc4 => ?_) (fun hc4 => ?_)
  · have h := z_ip hc4 h
    refine lv_aload_n hx hb dX2_reasonNotToSpeak_10 rfl (lv_at hl 0 rfl) ?_
    refine z_get C Z hP (k := 0) (ci := 2) (j := 7) (N := 19) (v := .ref (G.2.1 (8))) (by decide) (z_E_0 _) rfl inX2_reasonNotToSpeak_X2 (by decide) wX2_reasonNotToSpeak_0 rfl dX2_reasonNotToSpeak_11 ?_
    refine lv_iload_n hx hb dX2_reasonNotToSpeak_14 rfl (lv_at hl 1 rfl) ?_
    refine lv_iconst (v := 4) hx hb dX2_reasonNotToSpeak_15 (by decide) ?_
    refine lv_idiv hx hb dX2_reasonNotToSpeak_16 (by decide) ?_
    obtain ⟨hg5, h⟩ := z_g h
    refine z_iald C Z hP (k := 8) (n := 6) (j := ((x1 / 4)).toNatClampNeg) (by decide) (z_E_8 _) hg5 rfl dX2_reasonNotToSpeak_17 ?_
    refine lv_iload_n hx hb dX2_reasonNotToSpeak_18 rfl (lv_at hl 2 rfl) ?_
    refine lv_icmp_ge (tgt := 24) hx hb dX2_reasonNotToSpeak_19 (by decide) (fun hc6 => ?_) (fun hc6 => ?_)
    · have h := z_ip hc6 h
      refine lv_aload_n hx hb dX2_reasonNotToSpeak_24 rfl (lv_at hl 0 rfl) ?_
      refine z_get C Z hP (k := 0) (ci := 2) (j := 10) (N := 19) (v := .int ((m2 0 10))) (by decide) (z_E_0 _) rfl inX2_reasonNotToSpeak_X2 (by decide) wX2_reasonNotToSpeak_2 rfl dX2_reasonNotToSpeak_25 ?_
      refine lv_bipush (v := 10) hx hb dX2_reasonNotToSpeak_28 (by decide) ?_
      refine lv_icmp_ge (tgt := 37) hx hb dX2_reasonNotToSpeak_30 (by decide) (fun hc7 => ?_) (fun hc7 => ?_)
      · have h := z_ip hc7 h
        refine lv_iconst (v := 0) hx hb dX2_reasonNotToSpeak_37 (by decide) ?_
        cases h
        exact z_reti C hr hlk hP hS dX2_reasonNotToSpeak_38
      · have h := z_in hc7 h
        refine lv_iconst (v := 3) hx hb dX2_reasonNotToSpeak_33 (by decide) ?_
        refine lv_goto (tgt := 38) hx hb dX2_reasonNotToSpeak_34 (by decide) ?_
        cases h
        exact z_reti C hr hlk hP hS dX2_reasonNotToSpeak_38
    · have h := z_in hc6 h
      refine lv_iconst (v := 2) hx hb dX2_reasonNotToSpeak_22 (by decide) ?_
      cases h
      exact z_reti C hr hlk hP hS dX2_reasonNotToSpeak_23
  · have h := z_in hc4 h
    refine lv_iconst (v := 1) hx hb dX2_reasonNotToSpeak_8 (by decide) ?_
    cases h
    exact z_reti C hr hlk hP hS dX2_reasonNotToSpeak_9
abbrev rm_X2_cut : Room := { frames := 2, cells := 0, slots := 0, locals := 34 }
theorem hd_X2_cut : yX2_cut.cls ≠ "java/lang/invoke/MethodHandle" ∧ yX2_cut.cls ≠ "java/lang/invoke/VarHandle" ∧ (parseMethodDescriptor yX2_cut.desc).map (fun d => d.parameters.length) = some 4 := by decide +kernel
theorem hv_X2_cut : yX2_cut.cls = RX2 ∧ yX2_cut.cls ≠ "java/lang/invoke/MethodHandle" ∧ yX2_cut.cls ≠ "java/lang/invoke/VarHandle" ∧ (parseMethodDescriptor yX2_cut.desc).map (fun d => d.parameters.length) = some 4 := ⟨rfl, hd_X2_cut⟩
theorem wX2_cut_0 : Cond.fieldLink RX2 9 "WaxCopies$Wax" "depth" "[I" ∈ wsX2_cut := by decide +kernel
theorem inX2_cut_X2 : ∀ w ∈ wsX20, w ∈ wsX2_cut := by decide +kernel
theorem wX2_cut_2 : Cond.fieldLink RX2 15 "WaxCopies$Wax" "clearness" "[I" ∈ wsX2_cut := by decide +kernel
theorem wX2_cut_3 : Cond.fieldLink RX2 27 "WaxCopies$Wax" "clearnessAsCut" "[I" ∈ wsX2_cut := by decide +kernel
theorem wX2_cut_4 : Cond.fieldLink RX2 18 "WaxCopies$Wax" "flutter" "[I" ∈ wsX2_cut := by decide +kernel
theorem wX2_cut_5 : Cond.fieldLink RX2 30 "WaxCopies$Wax" "plays" "[I" ∈ wsX2_cut := by decide +kernel
theorem wX2_cut_6 : Cond.fieldLink RX2 39 "WaxCopies$Wax" "sharpness" "I" ∈ wsX2_cut := by decide +kernel
theorem wX2_cut_7 : Cond.initialized RX3 ∈ wsX2_cut := by decide +kernel
theorem wX2_cut_8 : Cond.static yX3_sharpnessAfter ∈ wsX2_cut := by decide +kernel
set_option maxHeartbeats 4000000 in
set_option maxRecDepth 100000 in
theorem c_X2_cut (l : Launch) (G : zG) {x1 : Int32} {x2 : Int32} {x3 : Int32} {x4 : Int32} {μ mu1 : Mm} {r : Unit} (h : f_X2_cut x1 x2 x3 x4 μ = some (r, mu1)) (sz : Nat) : Met l yX2_cut wsX2_cut rm_X2_cut (z_Pre G μ [.ref (G.2.1 (0)), .int (x1), .int (x2), .int (x3), .int (x4)] sz) (z_Qv G r mu1 sz) 0 0 (z_A G sz) := by
  refine z_start (cc := cX2_cut) (maxL := 5) (ret := none) (own := RX2) (by decide) rfl rfl (Nat.le_of_ble_eq_true rfl) (fun p e s m args below meth c C hr hlk Z hP ls hl => ?_) sz
  have hx := C.1
  have hb := C.2.1
  have hts := C.2.2.2.2
  have hS : va_S (z_A G s.heap.size) s.heap s.heap [] := va_S.rf
  have hl : lv_has ls 5 [(0, .ref (G.2.1 (0))), (1, .int (x1)), (2, .int (x2)), (3, .int (x3)), (4, .int (x4))] := hl
  unfold f_X2_cut at h
  refine lv_aload_n hx hb dX2_cut_0 rfl (lv_at hl 0 rfl) ?_
  refine z_get C Z hP (k := 0) (ci := 2) (j := 0) (N := 19) (v := .ref (G.2.1 (1))) (by decide) (z_E_0 _) rfl inX2_cut_X2 (by decide) wX2_cut_0 rfl dX2_cut_1 ?_
  refine lv_iload_n hx hb dX2_cut_4 rfl (lv_at hl 1 rfl) ?_
  refine lv_iload_n hx hb dX2_cut_5 rfl (lv_at hl 2 rfl) ?_
  obtain ⟨hg1, h⟩ := z_g h
  refine z_iast C Z hP hS (k := 1) (n := 24) (j := (x1).toNatClampNeg) (by decide) (fun r => z_E_1 r) hg1 rfl dX2_cut_6 (fun H locs hP hS => ?_)
  refine lv_aload_n hx hb dX2_cut_7 rfl (lv_at hl 0 rfl) ?_
  refine z_get C Z hP (k := 0) (ci := 2) (j := 1) (N := 19) (v := .ref (G.2.1 (2))) (by decide) (z_E_0 _) rfl inX2_cut_X2 (by decide) wX2_cut_2 rfl dX2_cut_8 ?_
  refine lv_iload_n hx hb dX2_cut_11 rfl (lv_at hl 1 rfl) ?_
  refine lv_iload_n hx hb dX2_cut_12 rfl (lv_at hl 3 rfl) ?_
  refine z_iast C Z hP hS (k := 2) (n := 24) (j := (x1).toNatClampNeg) (by decide) (fun r => z_E_2 r) hg1 rfl dX2_cut_13 (fun H locs hP hS => ?_)
  refine lv_aload_n hx hb dX2_cut_14 rfl (lv_at hl 0 rfl) ?_
  obtain ⟨m2, hm3, h⟩ := zm_some h
  rw [← hm3] at hP
  refine z_get C Z hP (k := 0) (ci := 2) (j := 5) (N := 19) (v := .ref (G.2.1 (6))) (by decide) (z_E_0 _) rfl inX2_cut_X2 (by decide) wX2_cut_3 rfl dX2_cut_15 ?_
  refine lv_iload_n hx hb dX2_cut_18 rfl (lv_at hl 1 rfl) ?_
  refine lv_iload_n hx hb dX2_cut_19 rfl (lv_at hl 3 rfl) ?_
  refine z_iast C Z hP hS (k := 6) (n := 24) (j := (x1).toNatClampNeg) (by decide) (fun r => z_E_6 r) hg1 rfl dX2_cut_20 (fun H locs hP hS => ?_)
  refine lv_aload_n hx hb dX2_cut_21 rfl (lv_at hl 0 rfl) ?_
  refine z_get C Z hP (k := 0) (ci := 2) (j := 2) (N := 19) (v := .ref (G.2.1 (3))) (by decide) (z_E_0 _) rfl inX2_cut_X2 (by decide) wX2_cut_4 rfl dX2_cut_22 ?_
  refine lv_iload_n hx hb dX2_cut_25 rfl (lv_at hl 1 rfl) ?_
  refine lv_iload hx hb dX2_cut_26 (lv_at hl 4 rfl) ?_
  refine z_iast C Z hP hS (k := 3) (n := 24) (j := (x1).toNatClampNeg) (by decide) (fun r => z_E_3 r) hg1 rfl dX2_cut_28 (fun H locs hP hS => ?_)
  refine lv_aload_n hx hb dX2_cut_29 rfl (lv_at hl 0 rfl) ?_
  obtain ⟨m4, hm5, h⟩ := zm_some h
  rw [← hm5] at hP
  refine z_get C Z hP (k := 0) (ci := 2) (j := 6) (N := 19) (v := .ref (G.2.1 (7))) (by decide) (z_E_0 _) rfl inX2_cut_X2 (by decide) wX2_cut_5 rfl dX2_cut_30 ?_
  refine lv_iload_n hx hb dX2_cut_33 rfl (lv_at hl 1 rfl) ?_
  refine lv_iconst (v := 0) hx hb dX2_cut_34 (by decide) ?_
  refine z_iast C Z hP hS (k := 7) (n := 24) (j := (x1).toNatClampNeg) (by decide) (fun r => z_E_7 r) hg1 rfl dX2_cut_35 (fun H locs hP hS => ?_)
  refine lv_aload_n hx hb dX2_cut_36 rfl (lv_at hl 0 rfl) ?_
  refine lv_aload_n hx hb dX2_cut_37 rfl (lv_at hl 0 rfl) ?_
  refine z_get C Z hP (k := 0) (ci := 2) (j := 9) (N := 19) (v := .int (((z_up m4 (7) ((x1).toNatClampNeg) 0) 0 9))) (by decide) (z_E_0 _) rfl inX2_cut_X2 (by decide) wX2_cut_6 rfl dX2_cut_38 ?_
  refine lv_iload_n hx hb dX2_cut_41 rfl (lv_at hl 2 rfl) ?_
  obtain ⟨r6, m7, e8, h⟩ := zb_some h
  refine z_calli hS (va_runSN (As := [.int (((z_up m4 (7) ((x1).toNatClampNeg) 0) 0 9)), .int (x2)]) (rest := [.ref (G.2.1 (0))]) C (c_X3_sharpnessAfter l G e8 _) ⟨va_cnB 2 hts gX2_cut_X3_sharpnessAfter_n115 rfl rfl rfl (Z.2.2.2.2.1 (RX2, 115, yX3_sharpnessAfter) (by decide +kernel)) (C.2.2.2.2 _ wX2_cut_7) hd_X3_sharpnessAfter ⟨Nat.le_of_ble_eq_true rfl, Nat.le_of_ble_eq_true rfl⟩, C.2.2.2.2 _ wX2_cut_8, trivial⟩ (z_preS Z hS hP) rfl rfl hl.1 rfl (lv_room (Nat.le_of_ble_eq_true rfl)) dX2_cut_42 ⟨Nat.zero_le _, Nat.zero_le _⟩) (fun H locs hP hS => ?_)
  refine z_put C Z hP hS (k := 0) (ci := 2) (j := 9) (N := 19) (x := r6) (v := .int (r6)) (ty := .int) (by decide) (z_E_0 _) rfl inX2_cut_X2 tyX2_ok nmX2 (by decide) wX2_cut_6 rfl (by decide +kernel) rfl rfl (Nat.le_of_ble_eq_true rfl) (z_S_0_9 _ _) dX2_cut_45 (fun H locs hP hS => ?_)
  cases h
  exact z_retv C hr hlk hP hS dX2_cut_48
abbrev rm_X2_speakOnto : Room := { frames := 3, cells := 0, slots := 0, locals := 58 }
theorem hd_X2_speakOnto : yX2_speakOnto.cls ≠ "java/lang/invoke/MethodHandle" ∧ yX2_speakOnto.cls ≠ "java/lang/invoke/VarHandle" ∧ (parseMethodDescriptor yX2_speakOnto.desc).map (fun d => d.parameters.length) = some 2 := by decide +kernel
theorem hv_X2_speakOnto : yX2_speakOnto.cls = RX2 ∧ yX2_speakOnto.cls ≠ "java/lang/invoke/MethodHandle" ∧ yX2_speakOnto.cls ≠ "java/lang/invoke/VarHandle" ∧ (parseMethodDescriptor yX2_speakOnto.desc).map (fun d => d.parameters.length) = some 2 := ⟨rfl, hd_X2_speakOnto⟩
theorem wX2_speakOnto_0 : Cond.fieldLink RX2 21 "WaxCopies$Wax" "generation" "[I" ∈ wsX2_speakOnto := by decide +kernel
theorem inX2_speakOnto_X2 : ∀ w ∈ wsX20, w ∈ wsX2_speakOnto := by decide +kernel
theorem wX2_speakOnto_2 : Cond.fieldLink RX2 24 "WaxCopies$Wax" "mother" "[I" ∈ wsX2_speakOnto := by decide +kernel
theorem wX2_speakOnto_3 : Cond.fieldLink RX2 39 "WaxCopies$Wax" "sharpness" "I" ∈ wsX2_speakOnto := by decide +kernel
theorem wX2_speakOnto_4 : Cond.initialized RX3 ∈ wsX2_speakOnto := by decide +kernel
theorem wX2_speakOnto_5 : Cond.static yX3_bluntness ∈ wsX2_speakOnto := by decide +kernel
theorem wX2_speakOnto_6 : Cond.fieldLink RX2 43 "WaxCopies$Wax" "spring" "I" ∈ wsX2_speakOnto := by decide +kernel
theorem wX2_speakOnto_7 : Cond.fieldLink RX2 49 "WaxCopies$Wax" "spoken" "I" ∈ wsX2_speakOnto := by decide +kernel
theorem wX2_speakOnto_8 : Cond.fieldLink RX2 67 "WaxCopies$Wax" "refused" "I" ∈ wsX2_speakOnto := by decide +kernel
set_option maxHeartbeats 4000000 in
set_option maxRecDepth 100000 in
theorem c_X2_speakOnto (l : Launch) (G : zG) {x1 : Int32} {x2 : Int32} {μ mu1 : Mm} {r : Int32} (h : f_X2_speakOnto x1 x2 μ = some (r, mu1)) (sz : Nat) : Met l yX2_speakOnto wsX2_speakOnto rm_X2_speakOnto (z_Pre G μ [.ref (G.2.1 (0)), .int (x1), .int (x2)] sz) (z_Qi G r mu1 sz) 0 0 (z_A G sz) := by
  refine z_start (cc := cX2_speakOnto) (maxL := 4) (ret := (some .int)) (own := RX2) (by decide) rfl rfl (Nat.le_of_ble_eq_true rfl) (fun p e s m args below meth c C hr hlk Z hP ls hl => ?_) sz
  have hx := C.1
  have hb := C.2.1
  have hts := C.2.2.2.2
  have hS : va_S (z_A G s.heap.size) s.heap s.heap [] := va_S.rf
  have hl : lv_has ls 4 [(0, .ref (G.2.1 (0))), (1, .int (x1)), (2, .int (x2))] := hl
  unfold f_X2_speakOnto at h
  refine lv_aload_n hx hb dX2_speakOnto_0 rfl (lv_at hl 0 rfl) ?_
  refine lv_iload_n hx hb dX2_speakOnto_1 rfl (lv_at hl 1 rfl) ?_
  refine lv_iload_n hx hb dX2_speakOnto_2 rfl (lv_at hl 2 rfl) ?_
  obtain ⟨r1, m2, e3, h⟩ := zb_some h
  refine z_calli hS (va_runV (As := [.int (x1), .int (x2)]) (rest := []) C (c_X2_reasonNotToSpeak l G e3 _) (cwV 2 hts gX2_speakOnto_X2_reasonNotToSpeak rfl rfl rfl hv_X2_reasonNotToSpeak ⟨Nat.le_of_ble_eq_true rfl, Nat.le_of_ble_eq_true rfl⟩) (z_preV Z hS hP (by decide) (z_E_0 _) rfl rfl) rfl rfl hl.1 rfl (lv_room (Nat.le_of_ble_eq_true rfl)) dX2_speakOnto_3 ⟨Nat.zero_le _, Nat.zero_le _⟩) (fun H locs hP hS => ?_)
  refine lv_istore_n (lv' := [(3, .int (r1)), (0, .ref (G.2.1 (0))), (1, .int (x1)), (2, .int (x2))]) hx hb dX2_speakOnto_6 rfl hl (by decide) rfl (fun ls hl => ?_)
  refine lv_iload_n hx hb dX2_speakOnto_7 rfl (lv_at hl 0 rfl) ?_
  refine lv_if_eq (tgt := 23) hx hb dX2_speakOnto_8 (by decide) (fun hc4 => ?_) (fun hc4 => ?_)
  · have h := z_ip hc4 h
    refine lv_aload_n hx hb dX2_speakOnto_23 rfl (lv_at hl 1 rfl) ?_
    refine z_get C Z hP (k := 0) (ci := 2) (j := 3) (N := 19) (v := .ref (G.2.1 (4))) (by decide) (z_E_0 _) rfl inX2_speakOnto_X2 (by decide) wX2_speakOnto_0 rfl dX2_speakOnto_24 ?_
    refine lv_iload_n hx hb dX2_speakOnto_27 rfl (lv_at hl 2 rfl) ?_
    refine lv_iconst (v := 0) hx hb dX2_speakOnto_28 (by decide) ?_
    obtain ⟨hg5, h⟩ := z_g h
    refine z_iast C Z hP hS (k := 4) (n := 24) (j := (x1).toNatClampNeg) (by decide) (fun r => z_E_4 r) hg5 rfl dX2_speakOnto_29 (fun H locs hP hS => ?_)
    refine lv_aload_n hx hb dX2_speakOnto_30 rfl (lv_at hl 1 rfl) ?_
    refine z_get C Z hP (k := 0) (ci := 2) (j := 4) (N := 19) (v := .ref (G.2.1 (5))) (by decide) (z_E_0 _) rfl inX2_speakOnto_X2 (by decide) wX2_speakOnto_2 rfl dX2_speakOnto_31 ?_
    refine lv_iload_n hx hb dX2_speakOnto_34 rfl (lv_at hl 2 rfl) ?_
    refine lv_iconst (v := (-1)) hx hb dX2_speakOnto_35 (by decide) ?_
    refine z_iast C Z hP hS (k := 5) (n := 24) (j := (x1).toNatClampNeg) (by decide) (fun r => z_E_5 r) hg5 rfl dX2_speakOnto_36 (fun H locs hP hS => ?_)
    refine lv_aload_n hx hb dX2_speakOnto_37 rfl (lv_at hl 1 rfl) ?_
    refine lv_iload_n hx hb dX2_speakOnto_38 rfl (lv_at hl 2 rfl) ?_
    refine lv_iload_n hx hb dX2_speakOnto_39 rfl (lv_at hl 3 rfl) ?_
    refine lv_bipush (v := 40) hx hb dX2_speakOnto_40 (by decide) ?_
    refine lv_iconst (v := 5) hx hb dX2_speakOnto_42 (by decide) ?_
    refine lv_iload_n hx hb dX2_speakOnto_43 rfl (lv_at hl 3 rfl) ?_
    refine lv_imul hx hb dX2_speakOnto_44 ?_
    refine lv_iadd hx hb dX2_speakOnto_45 ?_
    refine lv_aload_n hx hb dX2_speakOnto_46 rfl (lv_at hl 1 rfl) ?_
    obtain ⟨m6, hm7, h⟩ := zm_some h
    rw [← hm7] at hP
    refine z_get C Z hP (k := 0) (ci := 2) (j := 9) (N := 19) (v := .int ((m6 0 9))) (by decide) (z_E_0 _) rfl inX2_speakOnto_X2 (by decide) wX2_speakOnto_3 rfl dX2_speakOnto_47 ?_
    obtain ⟨r8, m9, e10, h⟩ := zb_some h
    refine z_calli hS (va_runSN (As := [.int ((m6 0 9))]) (rest := [.int ((40 + (5 * x2))), .int (x2), .int (x1), .ref (G.2.1 (0))]) C (c_X3_bluntness l G e10 _) ⟨va_cnB 1 hts gX2_speakOnto_X3_bluntness_n84 rfl rfl rfl (Z.2.2.2.2.1 (RX2, 84, yX3_bluntness) (by decide +kernel)) (C.2.2.2.2 _ wX2_speakOnto_4) hd_X3_bluntness ⟨Nat.le_of_ble_eq_true rfl, Nat.le_of_ble_eq_true rfl⟩, C.2.2.2.2 _ wX2_speakOnto_5, trivial⟩ (z_preS Z hS hP) rfl rfl hl.1 rfl (lv_room (Nat.le_of_ble_eq_true rfl)) dX2_speakOnto_50 ⟨Nat.zero_le _, Nat.zero_le _⟩) (fun H locs hP hS => ?_)
    refine lv_isub hx hb dX2_speakOnto_53 ?_
    refine lv_aload_n hx hb dX2_speakOnto_54 rfl (lv_at hl 1 rfl) ?_
    obtain ⟨r11, m12, e13, h⟩ := zb_some h
    refine z_calli hS (va_runV (As := []) (rest := [.int (((40 + (5 * x2)) - r8)), .int (x2), .int (x1), .ref (G.2.1 (0))]) C (c_X2_machineFlutter l G e13 _) (cwV 0 hts gX2_speakOnto_X2_machineFlutter rfl rfl rfl hv_X2_machineFlutter ⟨Nat.le_of_ble_eq_true rfl, Nat.le_of_ble_eq_true rfl⟩) (z_preV Z hS hP (by decide) (z_E_0 _) rfl rfl) rfl rfl hl.1 rfl (lv_room (Nat.le_of_ble_eq_true rfl)) dX2_speakOnto_55 ⟨Nat.zero_le _, Nat.zero_le _⟩) (fun H locs hP hS => ?_)
    obtain ⟨r14, m15, e16, h⟩ := zb_some h
    refine z_callv hS (va_runV (As := [.int (x1), .int (x2), .int (((40 + (5 * x2)) - r8)), .int (r11)]) (rest := []) C (c_X2_cut l G e16 _) (cwV 4 hts gX2_speakOnto_X2_cut rfl rfl rfl hv_X2_cut ⟨Nat.le_of_ble_eq_true rfl, Nat.le_of_ble_eq_true rfl⟩) (z_preV Z hS hP (by decide) (z_E_0 _) rfl rfl) rfl rfl hl.1 rfl (lv_room (Nat.le_of_ble_eq_true rfl)) dX2_speakOnto_58 ⟨Nat.zero_le _, Nat.zero_le _⟩) (fun H locs hP hS => ?_)
    refine lv_aload_n hx hb dX2_speakOnto_61 rfl (lv_at hl 1 rfl) ?_
    refine lv_dup hx hb dX2_speakOnto_62 rfl ?_
    refine z_get C Z hP (k := 0) (ci := 2) (j := 10) (N := 19) (v := .int ((m15 0 10))) (by decide) (z_E_0 _) rfl inX2_speakOnto_X2 (by decide) wX2_speakOnto_6 rfl dX2_speakOnto_63 ?_
    refine lv_bipush (v := 10) hx hb dX2_speakOnto_66 (by decide) ?_
    refine lv_isub hx hb dX2_speakOnto_68 ?_
    refine z_put C Z hP hS (k := 0) (ci := 2) (j := 10) (N := 19) (x := ((m15 0 10) - 10)) (v := .int (((m15 0 10) - 10))) (ty := .int) (by decide) (z_E_0 _) rfl inX2_speakOnto_X2 tyX2_ok nmX2 (by decide) wX2_speakOnto_6 rfl (by decide +kernel) rfl rfl (Nat.le_of_ble_eq_true rfl) (z_S_0_10 _ _) dX2_speakOnto_69 (fun H locs hP hS => ?_)
    refine lv_aload_n hx hb dX2_speakOnto_72 rfl (lv_at hl 1 rfl) ?_
    refine lv_dup hx hb dX2_speakOnto_73 rfl ?_
    refine z_get C Z hP (k := 0) (ci := 2) (j := 12) (N := 19) (v := .int (((z_up m15 (0) 10 ((m15 0 10) - 10)) 0 12))) (by decide) (z_E_0 _) rfl inX2_speakOnto_X2 (by decide) wX2_speakOnto_7 rfl dX2_speakOnto_74 ?_
    refine lv_iconst (v := 1) hx hb dX2_speakOnto_77 (by decide) ?_
    refine lv_iadd hx hb dX2_speakOnto_78 ?_
    refine z_put C Z hP hS (k := 0) (ci := 2) (j := 12) (N := 19) (x := (((z_up m15 (0) 10 ((m15 0 10) - 10)) 0 12) + 1)) (v := .int ((((z_up m15 (0) 10 ((m15 0 10) - 10)) 0 12) + 1))) (ty := .int) (by decide) (z_E_0 _) rfl inX2_speakOnto_X2 tyX2_ok nmX2 (by decide) wX2_speakOnto_7 rfl (by decide +kernel) rfl rfl (Nat.le_of_ble_eq_true rfl) (z_S_0_12 _ _) dX2_speakOnto_79 (fun H locs hP hS => ?_)
    refine lv_iconst (v := 0) hx hb dX2_speakOnto_82 (by decide) ?_
    cases h
    exact z_reti C hr hlk hP hS dX2_speakOnto_83
  · have h := z_in hc4 h
    refine lv_aload_n hx hb dX2_speakOnto_11 rfl (lv_at hl 1 rfl) ?_
    refine lv_dup hx hb dX2_speakOnto_12 rfl ?_
    refine z_get C Z hP (k := 0) (ci := 2) (j := 18) (N := 19) (v := .int ((m2 0 18))) (by decide) (z_E_0 _) rfl inX2_speakOnto_X2 (by decide) wX2_speakOnto_8 rfl dX2_speakOnto_13 ?_
    refine lv_iconst (v := 1) hx hb dX2_speakOnto_16 (by decide) ?_
    refine lv_iadd hx hb dX2_speakOnto_17 ?_
    refine z_put C Z hP hS (k := 0) (ci := 2) (j := 18) (N := 19) (x := ((m2 0 18) + 1)) (v := .int (((m2 0 18) + 1))) (ty := .int) (by decide) (z_E_0 _) rfl inX2_speakOnto_X2 tyX2_ok nmX2 (by decide) wX2_speakOnto_8 rfl (by decide +kernel) rfl rfl (Nat.le_of_ble_eq_true rfl) (z_S_0_18 _ _) dX2_speakOnto_18 (fun H locs hP hS => ?_)
    refine lv_iload_n hx hb dX2_speakOnto_21 rfl (lv_at hl 0 rfl) ?_
    cases h
    exact z_reti C hr hlk hP hS dX2_speakOnto_22
abbrev rm_X2_reasonNotToCopy : Room := { frames := 2, cells := 0, slots := 0, locals := 35 }
theorem hd_X2_reasonNotToCopy : yX2_reasonNotToCopy.cls ≠ "java/lang/invoke/MethodHandle" ∧ yX2_reasonNotToCopy.cls ≠ "java/lang/invoke/VarHandle" ∧ (parseMethodDescriptor yX2_reasonNotToCopy.desc).map (fun d => d.parameters.length) = some 3 := by decide +kernel
theorem hv_X2_reasonNotToCopy : yX2_reasonNotToCopy.cls = RX2 ∧ yX2_reasonNotToCopy.cls ≠ "java/lang/invoke/MethodHandle" ∧ yX2_reasonNotToCopy.cls ≠ "java/lang/invoke/VarHandle" ∧ (parseMethodDescriptor yX2_reasonNotToCopy.desc).map (fun d => d.parameters.length) = some 3 := ⟨rfl, hd_X2_reasonNotToCopy⟩
theorem wX2_reasonNotToCopy_0 : Cond.fieldLink RX2 33 "WaxCopies$Wax" "layers" "[I" ∈ wsX2_reasonNotToCopy := by decide +kernel
theorem inX2_reasonNotToCopy_X2 : ∀ w ∈ wsX20, w ∈ wsX2_reasonNotToCopy := by decide +kernel
theorem wX2_reasonNotToCopy_2 : Cond.fieldLink RX2 9 "WaxCopies$Wax" "depth" "[I" ∈ wsX2_reasonNotToCopy := by decide +kernel
theorem wX2_reasonNotToCopy_3 : Cond.initialized RX3 ∈ wsX2_reasonNotToCopy := by decide +kernel
theorem wX2_reasonNotToCopy_4 : Cond.static yX3_copiedDepth ∈ wsX2_reasonNotToCopy := by decide +kernel
theorem wX2_reasonNotToCopy_5 : Cond.fieldLink RX2 43 "WaxCopies$Wax" "spring" "I" ∈ wsX2_reasonNotToCopy := by decide +kernel
set_option maxHeartbeats 4000000 in
set_option maxRecDepth 100000 in
theorem c_X2_reasonNotToCopy (l : Launch) (G : zG) {x1 : Int32} {x2 : Int32} {x3 : Int32} {μ mu1 : Mm} {r : Int32} (h : f_X2_reasonNotToCopy x1 x2 x3 μ = some (r, mu1)) (sz : Nat) : Met l yX2_reasonNotToCopy wsX2_reasonNotToCopy rm_X2_reasonNotToCopy (z_Pre G μ [.ref (G.2.1 (0)), .int (x1), .int (x2), .int (x3)] sz) (z_Qi G r mu1 sz) 0 0 (z_A G sz) := by
  refine z_start (cc := cX2_reasonNotToCopy) (maxL := 4) (ret := (some .int)) (own := RX2) (by decide) rfl rfl (Nat.le_of_ble_eq_true rfl) (fun p e s m args below meth c C hr hlk Z hP ls hl => ?_) sz
  have hx := C.1
  have hb := C.2.1
  have hts := C.2.2.2.2
  have hS : va_S (z_A G s.heap.size) s.heap s.heap [] := va_S.rf
  have hl : lv_has ls 4 [(0, .ref (G.2.1 (0))), (1, .int (x1)), (2, .int (x2)), (3, .int (x3))] := hl
  unfold f_X2_reasonNotToCopy at h
  refine lv_aload_n hx hb dX2_reasonNotToCopy_0 rfl (lv_at hl 0 rfl) ?_
  refine lv_iload_n hx hb dX2_reasonNotToCopy_1 rfl (lv_at hl 1 rfl) ?_
  obtain ⟨r1, m2, e3, h⟩ := zb_some h
  refine z_calli hS (va_runV (As := [.int (x1)]) (rest := []) C (c_X2_isCut l G e3 _) (cwV 1 hts gX2_reasonNotToCopy_X2_isCut rfl rfl rfl hv_X2_isCut ⟨Nat.le_of_ble_eq_true rfl, Nat.le_of_ble_eq_true rfl⟩) (z_preV Z hS hP (by decide) (z_E_0 _) rfl rfl) rfl rfl hl.1 rfl (lv_room (Nat.le_of_ble_eq_true rfl)) dX2_reasonNotToCopy_2 ⟨Nat.zero_le _, Nat.zero_le _⟩) (fun H locs hP hS => ?_)
  refine lv_if_ne (tgt := 10) hx hb dX2_reasonNotToCopy_5 (by decide) (fun hc4 => ?_) (fun hc4 => ?_)
  · have h := z_in hc4 h
    refine lv_aload_n hx hb dX2_reasonNotToCopy_10 rfl (lv_at hl 0 rfl) ?_
    refine lv_iload_n hx hb dX2_reasonNotToCopy_11 rfl (lv_at hl 2 rfl) ?_
    obtain ⟨r5, m6, e7, h⟩ := zb_some h
    refine z_calli hS (va_runV (As := [.int (x2)]) (rest := []) C (c_X2_isCut l G e7 _) (cwV 1 hts gX2_reasonNotToCopy_X2_isCut rfl rfl rfl hv_X2_isCut ⟨Nat.le_of_ble_eq_true rfl, Nat.le_of_ble_eq_true rfl⟩) (z_preV Z hS hP (by decide) (z_E_0 _) rfl rfl) rfl rfl hl.1 rfl (lv_room (Nat.le_of_ble_eq_true rfl)) dX2_reasonNotToCopy_12 ⟨Nat.zero_le _, Nat.zero_le _⟩) (fun H locs hP hS => ?_)
    refine lv_if_eq (tgt := 20) hx hb dX2_reasonNotToCopy_15 (by decide) (fun hc8 => ?_) (fun hc8 => ?_)
    · have h := z_ip hc8 h
      refine lv_iload_n hx hb dX2_reasonNotToCopy_20 rfl (lv_at hl 1 rfl) ?_
      refine lv_iconst (v := 4) hx hb dX2_reasonNotToCopy_21 (by decide) ?_
      refine lv_idiv hx hb dX2_reasonNotToCopy_22 (by decide) ?_
      refine lv_iload_n hx hb dX2_reasonNotToCopy_23 rfl (lv_at hl 2 rfl) ?_
      refine lv_iconst (v := 4) hx hb dX2_reasonNotToCopy_24 (by decide) ?_
      refine lv_idiv hx hb dX2_reasonNotToCopy_25 (by decide) ?_
      refine lv_icmp_ne (tgt := 31) hx hb dX2_reasonNotToCopy_26 (by decide) (fun hc9 => ?_) (fun hc9 => ?_)
      · have h := z_in hc9 h
        refine lv_aload_n hx hb dX2_reasonNotToCopy_31 rfl (lv_at hl 0 rfl) ?_
        refine z_get C Z hP (k := 0) (ci := 2) (j := 7) (N := 19) (v := .ref (G.2.1 (8))) (by decide) (z_E_0 _) rfl inX2_reasonNotToCopy_X2 (by decide) wX2_reasonNotToCopy_0 rfl dX2_reasonNotToCopy_32 ?_
        refine lv_iload_n hx hb dX2_reasonNotToCopy_35 rfl (lv_at hl 2 rfl) ?_
        refine lv_iconst (v := 4) hx hb dX2_reasonNotToCopy_36 (by decide) ?_
        refine lv_idiv hx hb dX2_reasonNotToCopy_37 (by decide) ?_
        obtain ⟨hg10, h⟩ := z_g h
        refine z_iald C Z hP (k := 8) (n := 6) (j := ((x2 / 4)).toNatClampNeg) (by decide) (z_E_8 _) hg10 rfl dX2_reasonNotToCopy_38 ?_
        refine lv_aload_n hx hb dX2_reasonNotToCopy_39 rfl (lv_at hl 0 rfl) ?_
        refine z_get C Z hP (k := 0) (ci := 2) (j := 0) (N := 19) (v := .ref (G.2.1 (1))) (by decide) (z_E_0 _) rfl inX2_reasonNotToCopy_X2 (by decide) wX2_reasonNotToCopy_2 rfl dX2_reasonNotToCopy_40 ?_
        refine lv_iload_n hx hb dX2_reasonNotToCopy_43 rfl (lv_at hl 1 rfl) ?_
        obtain ⟨hg11, h⟩ := z_g h
        refine z_iald C Z hP (k := 1) (n := 24) (j := (x1).toNatClampNeg) (by decide) (z_E_1 _) hg11 rfl dX2_reasonNotToCopy_44 ?_
        refine lv_iload_n hx hb dX2_reasonNotToCopy_45 rfl (lv_at hl 3 rfl) ?_
        obtain ⟨r12, m13, e14, h⟩ := zb_some h
        refine z_calli hS (va_runSN (As := [.int ((m6 (1) ((x1).toNatClampNeg))), .int (x3)]) (rest := [.int ((m6 (8) (((x2 / 4)).toNatClampNeg)))]) C (c_X3_copiedDepth l G e14 _) ⟨va_cnB 2 hts gX2_reasonNotToCopy_X3_copiedDepth_n96 rfl rfl rfl (Z.2.2.2.2.1 (RX2, 96, yX3_copiedDepth) (by decide +kernel)) (C.2.2.2.2 _ wX2_reasonNotToCopy_3) hd_X3_copiedDepth ⟨Nat.le_of_ble_eq_true rfl, Nat.le_of_ble_eq_true rfl⟩, C.2.2.2.2 _ wX2_reasonNotToCopy_4, trivial⟩ (z_preS Z hS hP) rfl rfl hl.1 rfl (lv_room (Nat.le_of_ble_eq_true rfl)) dX2_reasonNotToCopy_46 ⟨Nat.zero_le _, Nat.zero_le _⟩) (fun H locs hP hS => ?_)
        refine lv_icmp_ge (tgt := 54) hx hb dX2_reasonNotToCopy_49 (by decide) (fun hc15 => ?_) (fun hc15 => ?_)
        · have h := z_ip hc15 h
          refine lv_aload_n hx hb dX2_reasonNotToCopy_54 rfl (lv_at hl 0 rfl) ?_
          refine z_get C Z hP (k := 0) (ci := 2) (j := 10) (N := 19) (v := .int ((m13 0 10))) (by decide) (z_E_0 _) rfl inX2_reasonNotToCopy_X2 (by decide) wX2_reasonNotToCopy_5 rfl dX2_reasonNotToCopy_55 ?_
          refine lv_bipush (v := 20) hx hb dX2_reasonNotToCopy_58 (by decide) ?_
          refine lv_icmp_ge (tgt := 67) hx hb dX2_reasonNotToCopy_60 (by decide) (fun hc16 => ?_) (fun hc16 => ?_)
          · have h := z_ip hc16 h
            refine lv_iconst (v := 0) hx hb dX2_reasonNotToCopy_67 (by decide) ?_
            cases h
            exact z_reti C hr hlk hP hS dX2_reasonNotToCopy_68
          · have h := z_in hc16 h
            refine lv_iconst (v := 5) hx hb dX2_reasonNotToCopy_63 (by decide) ?_
            refine lv_goto (tgt := 68) hx hb dX2_reasonNotToCopy_64 (by decide) ?_
            cases h
            exact z_reti C hr hlk hP hS dX2_reasonNotToCopy_68
        · have h := z_in hc15 h
          refine lv_iconst (v := 4) hx hb dX2_reasonNotToCopy_52 (by decide) ?_
          cases h
          exact z_reti C hr hlk hP hS dX2_reasonNotToCopy_53
      · have h := z_ip hc9 h
        refine lv_iconst (v := 3) hx hb dX2_reasonNotToCopy_29 (by decide) ?_
        cases h
        exact z_reti C hr hlk hP hS dX2_reasonNotToCopy_30
    · have h := z_in hc8 h
      refine lv_iconst (v := 2) hx hb dX2_reasonNotToCopy_18 (by decide) ?_
      cases h
      exact z_reti C hr hlk hP hS dX2_reasonNotToCopy_19
  · have h := z_ip hc4 h
    refine lv_iconst (v := 1) hx hb dX2_reasonNotToCopy_8 (by decide) ?_
    cases h
    exact z_reti C hr hlk hP hS dX2_reasonNotToCopy_9
abbrev rm_X2_clearnessIfCopied : Room := { frames := 2, cells := 0, slots := 0, locals := 43 }
theorem hd_X2_clearnessIfCopied : yX2_clearnessIfCopied.cls ≠ "java/lang/invoke/MethodHandle" ∧ yX2_clearnessIfCopied.cls ≠ "java/lang/invoke/VarHandle" ∧ (parseMethodDescriptor yX2_clearnessIfCopied.desc).map (fun d => d.parameters.length) = some 2 := by decide +kernel
theorem hv_X2_clearnessIfCopied : yX2_clearnessIfCopied.cls = RX2 ∧ yX2_clearnessIfCopied.cls ≠ "java/lang/invoke/MethodHandle" ∧ yX2_clearnessIfCopied.cls ≠ "java/lang/invoke/VarHandle" ∧ (parseMethodDescriptor yX2_clearnessIfCopied.desc).map (fun d => d.parameters.length) = some 2 := ⟨rfl, hd_X2_clearnessIfCopied⟩
theorem wX2_clearnessIfCopied_0 : Cond.fieldLink RX2 15 "WaxCopies$Wax" "clearness" "[I" ∈ wsX2_clearnessIfCopied := by decide +kernel
theorem inX2_clearnessIfCopied_X2 : ∀ w ∈ wsX20, w ∈ wsX2_clearnessIfCopied := by decide +kernel
theorem wX2_clearnessIfCopied_2 : Cond.fieldLink RX2 39 "WaxCopies$Wax" "sharpness" "I" ∈ wsX2_clearnessIfCopied := by decide +kernel
theorem wX2_clearnessIfCopied_3 : Cond.initialized RX3 ∈ wsX2_clearnessIfCopied := by decide +kernel
theorem wX2_clearnessIfCopied_4 : Cond.static yX3_copiedClearness ∈ wsX2_clearnessIfCopied := by decide +kernel
set_option maxHeartbeats 4000000 in
set_option maxRecDepth 100000 in
theorem c_X2_clearnessIfCopied (l : Launch) (G : zG) {x1 : Int32} {x2 : Int32} {μ mu1 : Mm} {r : Int32} (h : f_X2_clearnessIfCopied x1 x2 μ = some (r, mu1)) (sz : Nat) : Met l yX2_clearnessIfCopied wsX2_clearnessIfCopied rm_X2_clearnessIfCopied (z_Pre G μ [.ref (G.2.1 (0)), .int (x1), .int (x2)] sz) (z_Qi G r mu1 sz) 0 0 (z_A G sz) := by
  refine z_start (cc := cX2_clearnessIfCopied) (maxL := 3) (ret := (some .int)) (own := RX2) (by decide) rfl rfl (Nat.le_of_ble_eq_true rfl) (fun p e s m args below meth c C hr hlk Z hP ls hl => ?_) sz
  have hx := C.1
  have hb := C.2.1
  have hts := C.2.2.2.2
  have hS : va_S (z_A G s.heap.size) s.heap s.heap [] := va_S.rf
  have hl : lv_has ls 3 [(0, .ref (G.2.1 (0))), (1, .int (x1)), (2, .int (x2))] := hl
  unfold f_X2_clearnessIfCopied at h
  refine lv_aload_n hx hb dX2_clearnessIfCopied_0 rfl (lv_at hl 0 rfl) ?_
  refine z_get C Z hP (k := 0) (ci := 2) (j := 1) (N := 19) (v := .ref (G.2.1 (2))) (by decide) (z_E_0 _) rfl inX2_clearnessIfCopied_X2 (by decide) wX2_clearnessIfCopied_0 rfl dX2_clearnessIfCopied_1 ?_
  refine lv_iload_n hx hb dX2_clearnessIfCopied_4 rfl (lv_at hl 1 rfl) ?_
  obtain ⟨hg1, h⟩ := z_g h
  refine z_iald C Z hP (k := 2) (n := 24) (j := (x1).toNatClampNeg) (by decide) (z_E_2 _) hg1 rfl dX2_clearnessIfCopied_5 ?_
  refine lv_iload_n hx hb dX2_clearnessIfCopied_6 rfl (lv_at hl 2 rfl) ?_
  refine lv_aload_n hx hb dX2_clearnessIfCopied_7 rfl (lv_at hl 0 rfl) ?_
  refine z_get C Z hP (k := 0) (ci := 2) (j := 9) (N := 19) (v := .int ((μ 0 9))) (by decide) (z_E_0 _) rfl inX2_clearnessIfCopied_X2 (by decide) wX2_clearnessIfCopied_2 rfl dX2_clearnessIfCopied_8 ?_
  refine lv_aload_n hx hb dX2_clearnessIfCopied_11 rfl (lv_at hl 0 rfl) ?_
  obtain ⟨r2, m3, e4, h⟩ := zb_some h
  refine z_calli hS (va_runV (As := []) (rest := [.int ((μ 0 9)), .int (x2), .int ((μ (2) ((x1).toNatClampNeg)))]) C (c_X2_machineFlutter l G e4 _) (cwV 0 hts gX2_clearnessIfCopied_X2_machineFlutter rfl rfl rfl hv_X2_machineFlutter ⟨Nat.le_of_ble_eq_true rfl, Nat.le_of_ble_eq_true rfl⟩) (z_preV Z hS hP (by decide) (z_E_0 _) rfl rfl) rfl rfl hl.1 rfl (lv_room (Nat.le_of_ble_eq_true rfl)) dX2_clearnessIfCopied_12 ⟨Nat.zero_le _, Nat.zero_le _⟩) (fun H locs hP hS => ?_)
  obtain ⟨r5, m6, e7, h⟩ := zb_some h
  refine z_calli hS (va_runSN (As := [.int ((μ (2) ((x1).toNatClampNeg))), .int (x2), .int ((μ 0 9)), .int (r2)]) (rest := []) C (c_X3_copiedClearness l G e7 _) ⟨va_cnB 4 hts gX2_clearnessIfCopied_X3_copiedClearness_n99 rfl rfl rfl (Z.2.2.2.2.1 (RX2, 99, yX3_copiedClearness) (by decide +kernel)) (C.2.2.2.2 _ wX2_clearnessIfCopied_3) hd_X3_copiedClearness ⟨Nat.le_of_ble_eq_true rfl, Nat.le_of_ble_eq_true rfl⟩, C.2.2.2.2 _ wX2_clearnessIfCopied_4, trivial⟩ (z_preS Z hS hP) rfl rfl hl.1 rfl (lv_room (Nat.le_of_ble_eq_true rfl)) dX2_clearnessIfCopied_15 ⟨Nat.zero_le _, Nat.zero_le _⟩) (fun H locs hP hS => ?_)
  cases h
  exact z_reti C hr hlk hP hS dX2_clearnessIfCopied_18
abbrev rm_X2_copyOnto : Room := { frames := 3, cells := 0, slots := 0, locals := 65 }
theorem hd_X2_copyOnto : yX2_copyOnto.cls ≠ "java/lang/invoke/MethodHandle" ∧ yX2_copyOnto.cls ≠ "java/lang/invoke/VarHandle" ∧ (parseMethodDescriptor yX2_copyOnto.desc).map (fun d => d.parameters.length) = some 3 := by decide +kernel
theorem hv_X2_copyOnto : yX2_copyOnto.cls = RX2 ∧ yX2_copyOnto.cls ≠ "java/lang/invoke/MethodHandle" ∧ yX2_copyOnto.cls ≠ "java/lang/invoke/VarHandle" ∧ (parseMethodDescriptor yX2_copyOnto.desc).map (fun d => d.parameters.length) = some 3 := ⟨rfl, hd_X2_copyOnto⟩
theorem wX2_copyOnto_0 : Cond.fieldLink RX2 21 "WaxCopies$Wax" "generation" "[I" ∈ wsX2_copyOnto := by decide +kernel
theorem inX2_copyOnto_X2 : ∀ w ∈ wsX20, w ∈ wsX2_copyOnto := by decide +kernel
theorem wX2_copyOnto_2 : Cond.fieldLink RX2 24 "WaxCopies$Wax" "mother" "[I" ∈ wsX2_copyOnto := by decide +kernel
theorem wX2_copyOnto_3 : Cond.fieldLink RX2 18 "WaxCopies$Wax" "flutter" "[I" ∈ wsX2_copyOnto := by decide +kernel
theorem wX2_copyOnto_4 : Cond.methodLink RX2 107 Lib.Math.min.name ∈ wsX2_copyOnto := by decide +kernel
theorem wX2_copyOnto_5 : Cond.static Lib.Math.min.name ∈ wsX2_copyOnto := by decide +kernel
theorem wX2_copyOnto_6 : Cond.initialized "java/lang/Math" ∈ wsX2_copyOnto := by decide +kernel
theorem wX2_copyOnto_7 : Cond.code Lib.Math.min.name Lib.Math.min.code 2 (some .int) ∈ wsX2_copyOnto := by decide +kernel
theorem wX2_copyOnto_8 : Cond.fieldLink RX2 9 "WaxCopies$Wax" "depth" "[I" ∈ wsX2_copyOnto := by decide +kernel
theorem wX2_copyOnto_9 : Cond.initialized RX3 ∈ wsX2_copyOnto := by decide +kernel
theorem wX2_copyOnto_10 : Cond.static yX3_copiedDepth ∈ wsX2_copyOnto := by decide +kernel
theorem wX2_copyOnto_11 : Cond.fieldLink RX2 43 "WaxCopies$Wax" "spring" "I" ∈ wsX2_copyOnto := by decide +kernel
theorem wX2_copyOnto_12 : Cond.fieldLink RX2 52 "WaxCopies$Wax" "copied" "I" ∈ wsX2_copyOnto := by decide +kernel
theorem wX2_copyOnto_13 : Cond.fieldLink RX2 67 "WaxCopies$Wax" "refused" "I" ∈ wsX2_copyOnto := by decide +kernel
set_option maxHeartbeats 4000000 in
set_option maxRecDepth 100000 in
theorem c_X2_copyOnto (l : Launch) (G : zG) {x1 : Int32} {x2 : Int32} {x3 : Int32} {μ mu1 : Mm} {r : Int32} (h : f_X2_copyOnto x1 x2 x3 μ = some (r, mu1)) (sz : Nat) : Met l yX2_copyOnto wsX2_copyOnto rm_X2_copyOnto (z_Pre G μ [.ref (G.2.1 (0)), .int (x1), .int (x2), .int (x3)] sz) (z_Qi G r mu1 sz) 0 0 (z_A G sz) := by
  refine z_start (cc := cX2_copyOnto) (maxL := 6) (ret := (some .int)) (own := RX2) (by decide) rfl rfl (Nat.le_of_ble_eq_true rfl) (fun p e s m args below meth c C hr hlk Z hP ls hl => ?_) sz
  have hx := C.1
  have hb := C.2.1
  have hts := C.2.2.2.2
  have hS : va_S (z_A G s.heap.size) s.heap s.heap [] := va_S.rf
  have hl : lv_has ls 6 [(0, .ref (G.2.1 (0))), (1, .int (x1)), (2, .int (x2)), (3, .int (x3))] := hl
  unfold f_X2_copyOnto at h
  refine lv_aload_n hx hb dX2_copyOnto_0 rfl (lv_at hl 0 rfl) ?_
  refine lv_iload_n hx hb dX2_copyOnto_1 rfl (lv_at hl 1 rfl) ?_
  refine lv_iload_n hx hb dX2_copyOnto_2 rfl (lv_at hl 2 rfl) ?_
  refine lv_iload_n hx hb dX2_copyOnto_3 rfl (lv_at hl 3 rfl) ?_
  obtain ⟨r1, m2, e3, h⟩ := zb_some h
  refine z_calli hS (va_runV (As := [.int (x1), .int (x2), .int (x3)]) (rest := []) C (c_X2_reasonNotToCopy l G e3 _) (cwV 3 hts gX2_copyOnto_X2_reasonNotToCopy rfl rfl rfl hv_X2_reasonNotToCopy ⟨Nat.le_of_ble_eq_true rfl, Nat.le_of_ble_eq_true rfl⟩) (z_preV Z hS hP (by decide) (z_E_0 _) rfl rfl) rfl rfl hl.1 rfl (lv_room (Nat.le_of_ble_eq_true rfl)) dX2_copyOnto_4 ⟨Nat.zero_le _, Nat.zero_le _⟩) (fun H locs hP hS => ?_)
  refine lv_istore (lv' := [(4, .int (r1)), (0, .ref (G.2.1 (0))), (1, .int (x1)), (2, .int (x2)), (3, .int (x3))]) hx hb dX2_copyOnto_7 hl (by decide) rfl (fun ls hl => ?_)
  refine lv_iload hx hb dX2_copyOnto_9 (lv_at hl 0 rfl) ?_
  refine lv_if_eq (tgt := 27) hx hb dX2_copyOnto_11 (by decide) (fun hc4 => ?_) (fun hc4 => ?_)
  · have h := z_ip hc4 h
    refine lv_aload_n hx hb dX2_copyOnto_27 rfl (lv_at hl 1 rfl) ?_
    refine z_get C Z hP (k := 0) (ci := 2) (j := 3) (N := 19) (v := .ref (G.2.1 (4))) (by decide) (z_E_0 _) rfl inX2_copyOnto_X2 (by decide) wX2_copyOnto_0 rfl dX2_copyOnto_28 ?_
    refine lv_iload_n hx hb dX2_copyOnto_31 rfl (lv_at hl 3 rfl) ?_
    refine lv_aload_n hx hb dX2_copyOnto_32 rfl (lv_at hl 1 rfl) ?_
    refine z_get C Z hP (k := 0) (ci := 2) (j := 3) (N := 19) (v := .ref (G.2.1 (4))) (by decide) (z_E_0 _) rfl inX2_copyOnto_X2 (by decide) wX2_copyOnto_0 rfl dX2_copyOnto_33 ?_
    refine lv_iload_n hx hb dX2_copyOnto_36 rfl (lv_at hl 2 rfl) ?_
    obtain ⟨hg5, h⟩ := z_g h
    refine z_iald C Z hP (k := 4) (n := 24) (j := (x1).toNatClampNeg) (by decide) (z_E_4 _) hg5 rfl dX2_copyOnto_37 ?_
    refine lv_iconst (v := 1) hx hb dX2_copyOnto_38 (by decide) ?_
    refine lv_iadd hx hb dX2_copyOnto_39 ?_
    obtain ⟨hg6, h⟩ := z_g h
    refine z_iast C Z hP hS (k := 4) (n := 24) (j := (x2).toNatClampNeg) (by decide) (fun r => z_E_4 r) hg6 rfl dX2_copyOnto_40 (fun H locs hP hS => ?_)
    refine lv_aload_n hx hb dX2_copyOnto_41 rfl (lv_at hl 1 rfl) ?_
    refine z_get C Z hP (k := 0) (ci := 2) (j := 4) (N := 19) (v := .ref (G.2.1 (5))) (by decide) (z_E_0 _) rfl inX2_copyOnto_X2 (by decide) wX2_copyOnto_2 rfl dX2_copyOnto_42 ?_
    refine lv_iload_n hx hb dX2_copyOnto_45 rfl (lv_at hl 3 rfl) ?_
    refine lv_iload_n hx hb dX2_copyOnto_46 rfl (lv_at hl 2 rfl) ?_
    refine z_iast C Z hP hS (k := 5) (n := 24) (j := (x2).toNatClampNeg) (by decide) (fun r => z_E_5 r) hg6 rfl dX2_copyOnto_47 (fun H locs hP hS => ?_)
    refine lv_bipush (v := 20) hx hb dX2_copyOnto_48 (by decide) ?_
    refine lv_aload_n hx hb dX2_copyOnto_50 rfl (lv_at hl 1 rfl) ?_
    obtain ⟨m7, hm8, h⟩ := zm_some h
    rw [← hm8] at hP
    refine z_get C Z hP (k := 0) (ci := 2) (j := 2) (N := 19) (v := .ref (G.2.1 (3))) (by decide) (z_E_0 _) rfl inX2_copyOnto_X2 (by decide) wX2_copyOnto_3 rfl dX2_copyOnto_51 ?_
    refine lv_iload_n hx hb dX2_copyOnto_54 rfl (lv_at hl 2 rfl) ?_
    refine z_iald C Z hP (k := 3) (n := 24) (j := (x1).toNatClampNeg) (by decide) (z_E_3 _) hg5 rfl dX2_copyOnto_55 ?_
    refine lv_aload_n hx hb dX2_copyOnto_56 rfl (lv_at hl 1 rfl) ?_
    obtain ⟨r9, m10, e11, h⟩ := zb_some h
    refine z_calli hS (va_runV (As := []) (rest := [.int ((m7 (3) ((x1).toNatClampNeg))), .int (20)]) C (c_X2_machineFlutter l G e11 _) (cwV 0 hts gX2_copyOnto_X2_machineFlutter rfl rfl rfl hv_X2_machineFlutter ⟨Nat.le_of_ble_eq_true rfl, Nat.le_of_ble_eq_true rfl⟩) (z_preV Z hS hP (by decide) (z_E_0 _) rfl rfl) rfl rfl hl.1 rfl (lv_room (Nat.le_of_ble_eq_true rfl)) dX2_copyOnto_57 ⟨Nat.zero_le _, Nat.zero_le _⟩) (fun H locs hP hS => ?_)
    refine lv_iadd hx hb dX2_copyOnto_60 ?_
    refine va_mmin hx hb (C.2.2.1.trans hl.1.symm) C.2.2.2.1 (C.2.2.2.2 _ wX2_copyOnto_4) (C.2.2.2.2 _ wX2_copyOnto_5) (C.2.2.2.2 _ wX2_copyOnto_6) (C.2.2.2.2 _ wX2_copyOnto_7) (Nat.le_of_ble_eq_true rfl) (Nat.le_of_ble_eq_true rfl) (Nat.zero_le _) (Nat.zero_le _) dX2_copyOnto_61 ?_
    refine lv_istore (lv' := [(5, .int ((if ((m7 (3) ((x1).toNatClampNeg)) + r9) < 20 then ((m7 (3) ((x1).toNatClampNeg)) + r9) else 20))), (4, .int (r1)), (0, .ref (G.2.1 (0))), (1, .int (x1)), (2, .int (x2)), (3, .int (x3))]) hx hb dX2_copyOnto_64 hl (by decide) rfl (fun ls hl => ?_)
    refine lv_aload_n hx hb dX2_copyOnto_66 rfl (lv_at hl 2 rfl) ?_
    refine lv_iload_n hx hb dX2_copyOnto_67 rfl (lv_at hl 4 rfl) ?_
    refine lv_aload_n hx hb dX2_copyOnto_68 rfl (lv_at hl 2 rfl) ?_
    refine z_get C Z hP (k := 0) (ci := 2) (j := 0) (N := 19) (v := .ref (G.2.1 (1))) (by decide) (z_E_0 _) rfl inX2_copyOnto_X2 (by decide) wX2_copyOnto_8 rfl dX2_copyOnto_69 ?_
    refine lv_iload_n hx hb dX2_copyOnto_72 rfl (lv_at hl 3 rfl) ?_
    refine z_iald C Z hP (k := 1) (n := 24) (j := (x1).toNatClampNeg) (by decide) (z_E_1 _) hg5 rfl dX2_copyOnto_73 ?_
    refine lv_iload_n hx hb dX2_copyOnto_74 rfl (lv_at hl 5 rfl) ?_
    obtain ⟨r12, m13, e14, h⟩ := zb_some h
    refine z_calli hS (va_runSN (As := [.int ((m10 (1) ((x1).toNatClampNeg))), .int (x3)]) (rest := [.int (x2), .ref (G.2.1 (0))]) C (c_X3_copiedDepth l G e14 _) ⟨va_cnB 2 hts gX2_copyOnto_X3_copiedDepth_n96 rfl rfl rfl (Z.2.2.2.2.1 (RX2, 96, yX3_copiedDepth) (by decide +kernel)) (C.2.2.2.2 _ wX2_copyOnto_9) hd_X3_copiedDepth ⟨Nat.le_of_ble_eq_true rfl, Nat.le_of_ble_eq_true rfl⟩, C.2.2.2.2 _ wX2_copyOnto_10, trivial⟩ (z_preS Z hS hP) rfl rfl hl.1 rfl (lv_room (Nat.le_of_ble_eq_true rfl)) dX2_copyOnto_75 ⟨Nat.zero_le _, Nat.zero_le _⟩) (fun H locs hP hS => ?_)
    refine lv_aload_n hx hb dX2_copyOnto_78 rfl (lv_at hl 2 rfl) ?_
    refine lv_iload_n hx hb dX2_copyOnto_79 rfl (lv_at hl 3 rfl) ?_
    refine lv_iload_n hx hb dX2_copyOnto_80 rfl (lv_at hl 5 rfl) ?_
    obtain ⟨r15, m16, e17, h⟩ := zb_some h
    refine z_calli hS (va_runV (As := [.int (x1), .int (x3)]) (rest := [.int (r12), .int (x2), .ref (G.2.1 (0))]) C (c_X2_clearnessIfCopied l G e17 _) (cwV 2 hts gX2_copyOnto_X2_clearnessIfCopied rfl rfl rfl hv_X2_clearnessIfCopied ⟨Nat.le_of_ble_eq_true rfl, Nat.le_of_ble_eq_true rfl⟩) (z_preV Z hS hP (by decide) (z_E_0 _) rfl rfl) rfl rfl hl.1 rfl (lv_room (Nat.le_of_ble_eq_true rfl)) dX2_copyOnto_81 ⟨Nat.zero_le _, Nat.zero_le _⟩) (fun H locs hP hS => ?_)
    refine lv_iload hx hb dX2_copyOnto_84 (lv_at hl 0 rfl) ?_
    obtain ⟨r18, m19, e20, h⟩ := zb_some h
    refine z_callv hS (va_runV (As := [.int (x2), .int (r12), .int (r15), .int ((if ((m7 (3) ((x1).toNatClampNeg)) + r9) < 20 then ((m7 (3) ((x1).toNatClampNeg)) + r9) else 20))]) (rest := []) C (c_X2_cut l G e20 _) (cwV 4 hts gX2_copyOnto_X2_cut rfl rfl rfl hv_X2_cut ⟨Nat.le_of_ble_eq_true rfl, Nat.le_of_ble_eq_true rfl⟩) (z_preV Z hS hP (by decide) (z_E_0 _) rfl rfl) rfl rfl hl.1 rfl (lv_room (Nat.le_of_ble_eq_true rfl)) dX2_copyOnto_86 ⟨Nat.zero_le _, Nat.zero_le _⟩) (fun H locs hP hS => ?_)
    refine lv_aload_n hx hb dX2_copyOnto_89 rfl (lv_at hl 2 rfl) ?_
    refine lv_dup hx hb dX2_copyOnto_90 rfl ?_
    refine z_get C Z hP (k := 0) (ci := 2) (j := 10) (N := 19) (v := .int ((m19 0 10))) (by decide) (z_E_0 _) rfl inX2_copyOnto_X2 (by decide) wX2_copyOnto_11 rfl dX2_copyOnto_91 ?_
    refine lv_bipush (v := 20) hx hb dX2_copyOnto_94 (by decide) ?_
    refine lv_isub hx hb dX2_copyOnto_96 ?_
    refine z_put C Z hP hS (k := 0) (ci := 2) (j := 10) (N := 19) (x := ((m19 0 10) - 20)) (v := .int (((m19 0 10) - 20))) (ty := .int) (by decide) (z_E_0 _) rfl inX2_copyOnto_X2 tyX2_ok nmX2 (by decide) wX2_copyOnto_11 rfl (by decide +kernel) rfl rfl (Nat.le_of_ble_eq_true rfl) (z_S_0_10 _ _) dX2_copyOnto_97 (fun H locs hP hS => ?_)
    refine lv_aload_n hx hb dX2_copyOnto_100 rfl (lv_at hl 2 rfl) ?_
    refine lv_dup hx hb dX2_copyOnto_101 rfl ?_
    refine z_get C Z hP (k := 0) (ci := 2) (j := 13) (N := 19) (v := .int (((z_up m19 (0) 10 ((m19 0 10) - 20)) 0 13))) (by decide) (z_E_0 _) rfl inX2_copyOnto_X2 (by decide) wX2_copyOnto_12 rfl dX2_copyOnto_102 ?_
    refine lv_iconst (v := 1) hx hb dX2_copyOnto_105 (by decide) ?_
    refine lv_iadd hx hb dX2_copyOnto_106 ?_
    refine z_put C Z hP hS (k := 0) (ci := 2) (j := 13) (N := 19) (x := (((z_up m19 (0) 10 ((m19 0 10) - 20)) 0 13) + 1)) (v := .int ((((z_up m19 (0) 10 ((m19 0 10) - 20)) 0 13) + 1))) (ty := .int) (by decide) (z_E_0 _) rfl inX2_copyOnto_X2 tyX2_ok nmX2 (by decide) wX2_copyOnto_12 rfl (by decide +kernel) rfl rfl (Nat.le_of_ble_eq_true rfl) (z_S_0_13 _ _) dX2_copyOnto_107 (fun H locs hP hS => ?_)
    refine lv_iconst (v := 0) hx hb dX2_copyOnto_110 (by decide) ?_
    cases h
    exact z_reti C hr hlk hP hS dX2_copyOnto_111
  · have h := z_in hc4 h
    refine lv_aload_n hx hb dX2_copyOnto_14 rfl (lv_at hl 1 rfl) ?_
    refine lv_dup hx hb dX2_copyOnto_15 rfl ?_
    refine z_get C Z hP (k := 0) (ci := 2) (j := 18) (N := 19) (v := .int ((m2 0 18))) (by decide) (z_E_0 _) rfl inX2_copyOnto_X2 (by decide) wX2_copyOnto_13 rfl dX2_copyOnto_16 ?_
    refine lv_iconst (v := 1) hx hb dX2_copyOnto_19 (by decide) ?_
    refine lv_iadd hx hb dX2_copyOnto_20 ?_
    refine z_put C Z hP hS (k := 0) (ci := 2) (j := 18) (N := 19) (x := ((m2 0 18) + 1)) (v := .int (((m2 0 18) + 1))) (ty := .int) (by decide) (z_E_0 _) rfl inX2_copyOnto_X2 tyX2_ok nmX2 (by decide) wX2_copyOnto_13 rfl (by decide +kernel) rfl rfl (Nat.le_of_ble_eq_true rfl) (z_S_0_18 _ _) dX2_copyOnto_21 (fun H locs hP hS => ?_)
    refine lv_iload hx hb dX2_copyOnto_24 (lv_at hl 0 rfl) ?_
    cases h
    exact z_reti C hr hlk hP hS dX2_copyOnto_26
abbrev rm_X2_playTrack : Room := { frames := 1, cells := 0, slots := 0, locals := 21 }
theorem hd_X2_playTrack : yX2_playTrack.cls ≠ "java/lang/invoke/MethodHandle" ∧ yX2_playTrack.cls ≠ "java/lang/invoke/VarHandle" ∧ (parseMethodDescriptor yX2_playTrack.desc).map (fun d => d.parameters.length) = some 1 := by decide +kernel
theorem hv_X2_playTrack : yX2_playTrack.cls = RX2 ∧ yX2_playTrack.cls ≠ "java/lang/invoke/MethodHandle" ∧ yX2_playTrack.cls ≠ "java/lang/invoke/VarHandle" ∧ (parseMethodDescriptor yX2_playTrack.desc).map (fun d => d.parameters.length) = some 1 := ⟨rfl, hd_X2_playTrack⟩
theorem wX2_playTrack_0 : Cond.fieldLink RX2 43 "WaxCopies$Wax" "spring" "I" ∈ wsX2_playTrack := by decide +kernel
theorem inX2_playTrack_X2 : ∀ w ∈ wsX20, w ∈ wsX2_playTrack := by decide +kernel
theorem wX2_playTrack_2 : Cond.fieldLink RX2 15 "WaxCopies$Wax" "clearness" "[I" ∈ wsX2_playTrack := by decide +kernel
theorem wX2_playTrack_3 : Cond.fieldLink RX2 46 "WaxCopies$Wax" "wear" "I" ∈ wsX2_playTrack := by decide +kernel
theorem wX2_playTrack_4 : Cond.methodLink RX2 118 Lib.Math.max.name ∈ wsX2_playTrack := by decide +kernel
theorem wX2_playTrack_5 : Cond.static Lib.Math.max.name ∈ wsX2_playTrack := by decide +kernel
theorem wX2_playTrack_6 : Cond.initialized "java/lang/Math" ∈ wsX2_playTrack := by decide +kernel
theorem wX2_playTrack_7 : Cond.code Lib.Math.max.name Lib.Math.max.code 2 (some .int) ∈ wsX2_playTrack := by decide +kernel
theorem wX2_playTrack_8 : Cond.fieldLink RX2 30 "WaxCopies$Wax" "plays" "[I" ∈ wsX2_playTrack := by decide +kernel
theorem wX2_playTrack_9 : Cond.fieldLink RX2 55 "WaxCopies$Wax" "played" "I" ∈ wsX2_playTrack := by decide +kernel
theorem wX2_playTrack_10 : Cond.fieldLink RX2 67 "WaxCopies$Wax" "refused" "I" ∈ wsX2_playTrack := by decide +kernel
set_option maxHeartbeats 8000000 in
set_option maxRecDepth 100000 in
theorem L_X2_playTrack_b25 {p : Program} {l : Launch} {e : Env} {s : State} {m : MethodId} {args : Array Value} {below : List Frame} {meth : Method} {c : Code} {G : zG} {r : Int32} {mu1 : Mm}  (C : CallFix p m c cX2_playTrack 3 s args wsX2_playTrack RX2) (hr : meth.sig.returnType = (some .int)) (hlk : meth.locks = false) (Z : z_Z G (z_A G s.heap.size) s)  :
    ∀ (x1 : Int32) (y0 : Int32) (μ : Mm), f_X2_playTrack_b25  x1 y0 μ = some (r, mu1) → ∀ (H : Heap) (locs : List Loc), z_P G μ H → va_S (z_A G s.heap.size) s.heap H locs → ∀ ls : Array Slot, lv_has ls 3 [(0, .ref (G.2.1 (0))), (1, .int (x1))] → W p l e rm_X2_playTrack s m args below meth c H locs 0 0 (MQ below (z_Qi G r mu1 s.heap.size) args s 0 0 (z_A G s.heap.size)) (F0 m 25 ls [.int (y0)]) := by
  have hx := C.1
  have hb := C.2.1
  have hts := C.2.2.2.2
  intro x1 y0 μ h H locs hP hS ls hl
  unfold f_X2_playTrack_b25 at h
  refine lv_istore_n (lv' := [(2, .int (y0)), (0, .ref (G.2.1 (0))), (1, .int (x1))]) hx hb dX2_playTrack_25 rfl hl (by decide) rfl (fun ls hl => ?_)
  refine lv_iload_n hx hb dX2_playTrack_26 rfl (lv_at hl 0 rfl) ?_
  refine lv_if_eq (tgt := 42) hx hb dX2_playTrack_27 (by decide) (fun hc6 => ?_) (fun hc6 => ?_)
  · have h := z_ip hc6 h
    refine lv_aload_n hx hb dX2_playTrack_42 rfl (lv_at hl 1 rfl) ?_
    refine z_get C Z hP (k := 0) (ci := 2) (j := 1) (N := 19) (v := .ref (G.2.1 (2))) (by decide) (z_E_0 _) rfl inX2_playTrack_X2 (by decide) wX2_playTrack_2 rfl dX2_playTrack_43 ?_
    refine lv_iload_n hx hb dX2_playTrack_46 rfl (lv_at hl 2 rfl) ?_
    refine lv_iconst (v := 0) hx hb dX2_playTrack_47 (by decide) ?_
    refine lv_aload_n hx hb dX2_playTrack_48 rfl (lv_at hl 1 rfl) ?_
    refine z_get C Z hP (k := 0) (ci := 2) (j := 1) (N := 19) (v := .ref (G.2.1 (2))) (by decide) (z_E_0 _) rfl inX2_playTrack_X2 (by decide) wX2_playTrack_2 rfl dX2_playTrack_49 ?_
    refine lv_iload_n hx hb dX2_playTrack_52 rfl (lv_at hl 2 rfl) ?_
    obtain ⟨hg7, h⟩ := z_g h
    refine z_iald C Z hP (k := 2) (n := 24) (j := (x1).toNatClampNeg) (by decide) (z_E_2 _) hg7 rfl dX2_playTrack_53 ?_
    refine lv_aload_n hx hb dX2_playTrack_54 rfl (lv_at hl 1 rfl) ?_
    refine z_get C Z hP (k := 0) (ci := 2) (j := 11) (N := 19) (v := .int ((μ 0 11))) (by decide) (z_E_0 _) rfl inX2_playTrack_X2 (by decide) wX2_playTrack_3 rfl dX2_playTrack_55 ?_
    refine lv_isub hx hb dX2_playTrack_58 ?_
    refine va_mmax hx hb (C.2.2.1.trans hl.1.symm) C.2.2.2.1 (C.2.2.2.2 _ wX2_playTrack_4) (C.2.2.2.2 _ wX2_playTrack_5) (C.2.2.2.2 _ wX2_playTrack_6) (C.2.2.2.2 _ wX2_playTrack_7) (Nat.le_of_ble_eq_true rfl) (Nat.le_of_ble_eq_true rfl) (Nat.zero_le _) (Nat.zero_le _) dX2_playTrack_59 ?_
    refine z_iast C Z hP hS (k := 2) (n := 24) (j := (x1).toNatClampNeg) (by decide) (fun r => z_E_2 r) hg7 rfl dX2_playTrack_62 (fun H locs hP hS => ?_)
    refine lv_aload_n hx hb dX2_playTrack_63 rfl (lv_at hl 1 rfl) ?_
    obtain ⟨m8, hm9, h⟩ := zm_some h
    rw [← hm9] at hP
    refine z_get C Z hP (k := 0) (ci := 2) (j := 6) (N := 19) (v := .ref (G.2.1 (7))) (by decide) (z_E_0 _) rfl inX2_playTrack_X2 (by decide) wX2_playTrack_8 rfl dX2_playTrack_64 ?_
    refine lv_iload_n hx hb dX2_playTrack_67 rfl (lv_at hl 2 rfl) ?_
    refine lv_dup2_11 hx hb dX2_playTrack_68 rfl rfl ?_
    refine z_iald C Z hP (k := 7) (n := 24) (j := (x1).toNatClampNeg) (by decide) (z_E_7 _) hg7 rfl dX2_playTrack_69 ?_
    refine lv_iconst (v := 1) hx hb dX2_playTrack_70 (by decide) ?_
    refine lv_iadd hx hb dX2_playTrack_71 ?_
    refine z_iast C Z hP hS (k := 7) (n := 24) (j := (x1).toNatClampNeg) (by decide) (fun r => z_E_7 r) hg7 rfl dX2_playTrack_72 (fun H locs hP hS => ?_)
    refine lv_aload_n hx hb dX2_playTrack_73 rfl (lv_at hl 1 rfl) ?_
    refine lv_dup hx hb dX2_playTrack_74 rfl ?_
    refine z_get C Z hP (k := 0) (ci := 2) (j := 10) (N := 19) (v := .int (((z_up m8 (7) ((x1).toNatClampNeg) ((m8 (7) ((x1).toNatClampNeg)) + 1)) 0 10))) (by decide) (z_E_0 _) rfl inX2_playTrack_X2 (by decide) wX2_playTrack_0 rfl dX2_playTrack_75 ?_
    refine lv_iconst (v := 5) hx hb dX2_playTrack_78 (by decide) ?_
    refine lv_isub hx hb dX2_playTrack_79 ?_
    refine z_put C Z hP hS (k := 0) (ci := 2) (j := 10) (N := 19) (x := (((z_up m8 (7) ((x1).toNatClampNeg) ((m8 (7) ((x1).toNatClampNeg)) + 1)) 0 10) - 5)) (v := .int ((((z_up m8 (7) ((x1).toNatClampNeg) ((m8 (7) ((x1).toNatClampNeg)) + 1)) 0 10) - 5))) (ty := .int) (by decide) (z_E_0 _) rfl inX2_playTrack_X2 tyX2_ok nmX2 (by decide) wX2_playTrack_0 rfl (by decide +kernel) rfl rfl (Nat.le_of_ble_eq_true rfl) (z_S_0_10 _ _) dX2_playTrack_80 (fun H locs hP hS => ?_)
    refine lv_aload_n hx hb dX2_playTrack_83 rfl (lv_at hl 1 rfl) ?_
    refine lv_dup hx hb dX2_playTrack_84 rfl ?_
    obtain ⟨m10, hm11, h⟩ := zm_some h
    rw [← hm11] at hP
    refine z_get C Z hP (k := 0) (ci := 2) (j := 14) (N := 19) (v := .int ((m10 0 14))) (by decide) (z_E_0 _) rfl inX2_playTrack_X2 (by decide) wX2_playTrack_9 rfl dX2_playTrack_85 ?_
    refine lv_iconst (v := 1) hx hb dX2_playTrack_88 (by decide) ?_
    refine lv_iadd hx hb dX2_playTrack_89 ?_
    refine z_put C Z hP hS (k := 0) (ci := 2) (j := 14) (N := 19) (x := ((m10 0 14) + 1)) (v := .int (((m10 0 14) + 1))) (ty := .int) (by decide) (z_E_0 _) rfl inX2_playTrack_X2 tyX2_ok nmX2 (by decide) wX2_playTrack_9 rfl (by decide +kernel) rfl rfl (Nat.le_of_ble_eq_true rfl) (z_S_0_14 _ _) dX2_playTrack_90 (fun H locs hP hS => ?_)
    refine lv_bipush (v := 10) hx hb dX2_playTrack_93 (by decide) ?_
    refine lv_aload_n hx hb dX2_playTrack_95 rfl (lv_at hl 1 rfl) ?_
    refine z_get C Z hP (k := 0) (ci := 2) (j := 1) (N := 19) (v := .ref (G.2.1 (2))) (by decide) (z_E_0 _) rfl inX2_playTrack_X2 (by decide) wX2_playTrack_2 rfl dX2_playTrack_96 ?_
    refine lv_iload_n hx hb dX2_playTrack_99 rfl (lv_at hl 2 rfl) ?_
    refine z_iald C Z hP (k := 2) (n := 24) (j := (x1).toNatClampNeg) (by decide) (z_E_2 _) hg7 rfl dX2_playTrack_100 ?_
    refine lv_iadd hx hb dX2_playTrack_101 ?_
    cases h
    exact z_reti C hr hlk hP hS dX2_playTrack_102
  · have h := z_in hc6 h
    refine lv_aload_n hx hb dX2_playTrack_30 rfl (lv_at hl 1 rfl) ?_
    refine lv_dup hx hb dX2_playTrack_31 rfl ?_
    refine z_get C Z hP (k := 0) (ci := 2) (j := 18) (N := 19) (v := .int ((μ 0 18))) (by decide) (z_E_0 _) rfl inX2_playTrack_X2 (by decide) wX2_playTrack_10 rfl dX2_playTrack_32 ?_
    refine lv_iconst (v := 1) hx hb dX2_playTrack_35 (by decide) ?_
    refine lv_iadd hx hb dX2_playTrack_36 ?_
    refine z_put C Z hP hS (k := 0) (ci := 2) (j := 18) (N := 19) (x := ((μ 0 18) + 1)) (v := .int (((μ 0 18) + 1))) (ty := .int) (by decide) (z_E_0 _) rfl inX2_playTrack_X2 tyX2_ok nmX2 (by decide) wX2_playTrack_10 rfl (by decide +kernel) rfl rfl (Nat.le_of_ble_eq_true rfl) (z_S_0_18 _ _) dX2_playTrack_37 (fun H locs hP hS => ?_)
    refine lv_iload_n hx hb dX2_playTrack_40 rfl (lv_at hl 0 rfl) ?_
    cases h
    exact z_reti C hr hlk hP hS dX2_playTrack_41
set_option maxHeartbeats 4000000 in
set_option maxRecDepth 100000 in
theorem c_X2_playTrack (l : Launch) (G : zG) {x1 : Int32} {μ mu1 : Mm} {r : Int32} (h : f_X2_playTrack x1 μ = some (r, mu1)) (sz : Nat) : Met l yX2_playTrack wsX2_playTrack rm_X2_playTrack (z_Pre G μ [.ref (G.2.1 (0)), .int (x1)] sz) (z_Qi G r mu1 sz) 0 0 (z_A G sz) := by
  refine z_start (cc := cX2_playTrack) (maxL := 3) (ret := (some .int)) (own := RX2) (by decide) rfl rfl (Nat.le_of_ble_eq_true rfl) (fun p e s m args below meth c C hr hlk Z hP ls hl => ?_) sz
  have hx := C.1
  have hb := C.2.1
  have hts := C.2.2.2.2
  have hS : va_S (z_A G s.heap.size) s.heap s.heap [] := va_S.rf
  have hl : lv_has ls 3 [(0, .ref (G.2.1 (0))), (1, .int (x1))] := hl
  unfold f_X2_playTrack at h
  refine lv_aload_n hx hb dX2_playTrack_0 rfl (lv_at hl 0 rfl) ?_
  refine lv_iload_n hx hb dX2_playTrack_1 rfl (lv_at hl 1 rfl) ?_
  obtain ⟨r1, m2, e3, h⟩ := zb_some h
  refine z_calli hS (va_runV (As := [.int (x1)]) (rest := []) C (c_X2_isCut l G e3 _) (cwV 1 hts gX2_playTrack_X2_isCut rfl rfl rfl hv_X2_isCut ⟨Nat.le_of_ble_eq_true rfl, Nat.le_of_ble_eq_true rfl⟩) (z_preV Z hS hP (by decide) (z_E_0 _) rfl rfl) rfl rfl hl.1 rfl (lv_room (Nat.le_of_ble_eq_true rfl)) dX2_playTrack_2 ⟨Nat.zero_le _, Nat.zero_le _⟩) (fun H locs hP hS => ?_)
  refine lv_if_ne (tgt := 12) hx hb dX2_playTrack_5 (by decide) (fun hc4 => ?_) (fun hc4 => ?_)
  · have h := z_in hc4 h
    refine lv_aload_n hx hb dX2_playTrack_12 rfl (lv_at hl 0 rfl) ?_
    refine z_get C Z hP (k := 0) (ci := 2) (j := 10) (N := 19) (v := .int ((m2 0 10))) (by decide) (z_E_0 _) rfl inX2_playTrack_X2 (by decide) wX2_playTrack_0 rfl dX2_playTrack_13 ?_
    refine lv_iconst (v := 5) hx hb dX2_playTrack_16 (by decide) ?_
    refine lv_icmp_ge (tgt := 24) hx hb dX2_playTrack_17 (by decide) (fun hc5 => ?_) (fun hc5 => ?_)
    · have h := z_ip hc5 h
      refine lv_iconst (v := 0) hx hb dX2_playTrack_24 (by decide) ?_
      exact L_X2_playTrack_b25 C hr hlk Z _ _ _ h _ _ hP hS ls (lv_sub hl [0, 1] rfl)
    · have h := z_in hc5 h
      refine lv_iconst (v := 2) hx hb dX2_playTrack_20 (by decide) ?_
      refine lv_goto (tgt := 25) hx hb dX2_playTrack_21 (by decide) ?_
      exact L_X2_playTrack_b25 C hr hlk Z _ _ _ h _ _ hP hS ls (lv_sub hl [0, 1] rfl)
  · have h := z_ip hc4 h
    refine lv_iconst (v := 1) hx hb dX2_playTrack_8 (by decide) ?_
    refine lv_goto (tgt := 25) hx hb dX2_playTrack_9 (by decide) ?_
    exact L_X2_playTrack_b25 C hr hlk Z _ _ _ h _ _ hP hS ls (lv_sub hl [0, 1] rfl)
abbrev rm_X2_greatestDepth : Room := { frames := 1, cells := 0, slots := 0, locals := 13 }
theorem hd_X2_greatestDepth : yX2_greatestDepth.cls ≠ "java/lang/invoke/MethodHandle" ∧ yX2_greatestDepth.cls ≠ "java/lang/invoke/VarHandle" ∧ (parseMethodDescriptor yX2_greatestDepth.desc).map (fun d => d.parameters.length) = some 1 := by decide +kernel
theorem hv_X2_greatestDepth : yX2_greatestDepth.cls = RX2 ∧ yX2_greatestDepth.cls ≠ "java/lang/invoke/MethodHandle" ∧ yX2_greatestDepth.cls ≠ "java/lang/invoke/VarHandle" ∧ (parseMethodDescriptor yX2_greatestDepth.desc).map (fun d => d.parameters.length) = some 1 := ⟨rfl, hd_X2_greatestDepth⟩
theorem wX2_greatestDepth_0 : Cond.fieldLink RX2 9 "WaxCopies$Wax" "depth" "[I" ∈ wsX2_greatestDepth := by decide +kernel
theorem inX2_greatestDepth_X2 : ∀ w ∈ wsX20, w ∈ wsX2_greatestDepth := by decide +kernel
theorem wX2_greatestDepth_2 : Cond.methodLink RX2 118 Lib.Math.max.name ∈ wsX2_greatestDepth := by decide +kernel
theorem wX2_greatestDepth_3 : Cond.static Lib.Math.max.name ∈ wsX2_greatestDepth := by decide +kernel
theorem wX2_greatestDepth_4 : Cond.initialized "java/lang/Math" ∈ wsX2_greatestDepth := by decide +kernel
theorem wX2_greatestDepth_5 : Cond.code Lib.Math.max.name Lib.Math.max.code 2 (some .int) ∈ wsX2_greatestDepth := by decide +kernel
set_option maxHeartbeats 8000000 in
set_option maxRecDepth 100000 in
theorem L_X2_greatestDepth_b9 {p : Program} {l : Launch} {e : Env} {s : State} {m : MethodId} {args : Array Value} {below : List Frame} {meth : Method} {c : Code} {G : zG} {r : Int32} {mu1 : Mm}  (C : CallFix p m c cX2_greatestDepth 5 s args wsX2_greatestDepth RX2) (hr : meth.sig.returnType = (some .int)) (hlk : meth.locks = false) (Z : z_Z G (z_A G s.heap.size) s)  :
    ∀ (n : Nat) (x2 : Int32) (x3 : Int32) (x4 : Int32) (μ : Mm), f_X2_greatestDepth_b9  n x2 x3 x4 μ = some (r, mu1) → ∀ (H : Heap) (locs : List Loc), z_P G μ H → va_S (z_A G s.heap.size) s.heap H locs → ∀ ls : Array Slot, lv_has ls 5 [(0, .ref (G.2.1 (0))), (2, .int (x2)), (3, .int (x3)), (4, .int (x4))] → W p l e rm_X2_greatestDepth s m args below meth c H locs 0 0 (MQ below (z_Qi G r mu1 s.heap.size) args s 0 0 (z_A G s.heap.size)) (F0 m 9 ls []) := by
  have hx := C.1
  have hb := C.2.1
  have hts := C.2.2.2.2
  intro n
  induction n with
  | zero =>
    intro x2 x3 x4 μ h
    rw [f_X2_greatestDepth_b9] at h
    cases h
  | succ n ih =>
    intro x2 x3 x4 μ h H locs hP hS ls hl
    rw [f_X2_greatestDepth_b9] at h
    refine lv_iload hx hb dX2_greatestDepth_9 (lv_at hl 3 rfl) ?_
    refine lv_iload_n hx hb dX2_greatestDepth_11 rfl (lv_at hl 2 rfl) ?_
    refine lv_iconst (v := 4) hx hb dX2_greatestDepth_12 (by decide) ?_
    refine lv_iadd hx hb dX2_greatestDepth_13 ?_
    refine lv_icmp_ge (tgt := 35) hx hb dX2_greatestDepth_14 (by decide) (fun hc1 => ?_) (fun hc1 => ?_)
    · have h := z_ip hc1 h
      refine lv_iload_n hx hb dX2_greatestDepth_35 rfl (lv_at hl 1 rfl) ?_
      cases h
      exact z_reti C hr hlk hP hS dX2_greatestDepth_36
    · have h := z_in hc1 h
      refine lv_iload_n hx hb dX2_greatestDepth_17 rfl (lv_at hl 1 rfl) ?_
      refine lv_aload_n hx hb dX2_greatestDepth_18 rfl (lv_at hl 0 rfl) ?_
      refine z_get C Z hP (k := 0) (ci := 2) (j := 0) (N := 19) (v := .ref (G.2.1 (1))) (by decide) (z_E_0 _) rfl inX2_greatestDepth_X2 (by decide) wX2_greatestDepth_0 rfl dX2_greatestDepth_19 ?_
      refine lv_iload hx hb dX2_greatestDepth_22 (lv_at hl 3 rfl) ?_
      obtain ⟨hg2, h⟩ := z_g h
      refine z_iald C Z hP (k := 1) (n := 24) (j := (x4).toNatClampNeg) (by decide) (z_E_1 _) hg2 rfl dX2_greatestDepth_24 ?_
      refine va_mmax hx hb (C.2.2.1.trans hl.1.symm) C.2.2.2.1 (C.2.2.2.2 _ wX2_greatestDepth_2) (C.2.2.2.2 _ wX2_greatestDepth_3) (C.2.2.2.2 _ wX2_greatestDepth_4) (C.2.2.2.2 _ wX2_greatestDepth_5) (Nat.le_of_ble_eq_true rfl) (Nat.le_of_ble_eq_true rfl) (Nat.zero_le _) (Nat.zero_le _) dX2_greatestDepth_25 ?_
      refine lv_istore_n (lv' := [(2, .int ((if x2 < (μ (1) ((x4).toNatClampNeg)) then (μ (1) ((x4).toNatClampNeg)) else x2))), (0, .ref (G.2.1 (0))), (3, .int (x3)), (4, .int (x4))]) hx hb dX2_greatestDepth_28 rfl hl (by decide) rfl (fun ls hl => ?_)
      refine lv_iinc (v := (x4 + 1)) (lv' := [(4, .int ((x4 + 1))), (2, .int ((if x2 < (μ (1) ((x4).toNatClampNeg)) then (μ (1) ((x4).toNatClampNeg)) else x2))), (0, .ref (G.2.1 (0))), (3, .int (x3))]) hx hb dX2_greatestDepth_29 hl (k := 3) rfl rfl (by decide) rfl (fun ls hl => ?_)
      refine lv_goto (tgt := 9) hx hb dX2_greatestDepth_32 (by decide) ?_
      exact ih _ _ _ _ h _ _ hP hS ls (lv_sub hl [2, 1, 3, 0] rfl)
set_option maxHeartbeats 4000000 in
set_option maxRecDepth 100000 in
theorem c_X2_greatestDepth (l : Launch) (G : zG) {x1 : Int32} {μ mu1 : Mm} {r : Int32} (h : f_X2_greatestDepth x1 μ = some (r, mu1)) (sz : Nat) : Met l yX2_greatestDepth wsX2_greatestDepth rm_X2_greatestDepth (z_Pre G μ [.ref (G.2.1 (0)), .int (x1)] sz) (z_Qi G r mu1 sz) 0 0 (z_A G sz) := by
  refine z_start (cc := cX2_greatestDepth) (maxL := 5) (ret := (some .int)) (own := RX2) (by decide) rfl rfl (Nat.le_of_ble_eq_true rfl) (fun p e s m args below meth c C hr hlk Z hP ls hl => ?_) sz
  have hx := C.1
  have hb := C.2.1
  have hts := C.2.2.2.2
  have hS : va_S (z_A G s.heap.size) s.heap s.heap [] := va_S.rf
  have hl : lv_has ls 5 [(0, .ref (G.2.1 (0))), (1, .int (x1))] := hl
  unfold f_X2_greatestDepth at h
  refine lv_iconst (v := 0) hx hb dX2_greatestDepth_0 (by decide) ?_
  refine lv_istore_n (lv' := [(2, .int (0)), (0, .ref (G.2.1 (0))), (1, .int (x1))]) hx hb dX2_greatestDepth_1 rfl hl (by decide) rfl (fun ls hl => ?_)
  refine lv_iload_n hx hb dX2_greatestDepth_2 rfl (lv_at hl 2 rfl) ?_
  refine lv_iconst (v := 4) hx hb dX2_greatestDepth_3 (by decide) ?_
  refine lv_imul hx hb dX2_greatestDepth_4 ?_
  refine lv_istore_n (lv' := [(3, .int ((x1 * 4))), (2, .int (0)), (0, .ref (G.2.1 (0))), (1, .int (x1))]) hx hb dX2_greatestDepth_5 rfl hl (by decide) rfl (fun ls hl => ?_)
  refine lv_iload_n hx hb dX2_greatestDepth_6 rfl (lv_at hl 0 rfl) ?_
  refine lv_istore (lv' := [(4, .int ((x1 * 4))), (3, .int ((x1 * 4))), (2, .int (0)), (0, .ref (G.2.1 (0))), (1, .int (x1))]) hx hb dX2_greatestDepth_7 hl (by decide) rfl (fun ls hl => ?_)
  exact L_X2_greatestDepth_b9 C hr hlk Z z_F _ _ _ _ h _ _ hP hS ls (lv_sub hl [3, 2, 1, 0] rfl)
abbrev rm_X2_smoothTracks : Room := { frames := 0, cells := 0, slots := 0, locals := 0 }
theorem hd_X2_smoothTracks : yX2_smoothTracks.cls ≠ "java/lang/invoke/MethodHandle" ∧ yX2_smoothTracks.cls ≠ "java/lang/invoke/VarHandle" ∧ (parseMethodDescriptor yX2_smoothTracks.desc).map (fun d => d.parameters.length) = some 1 := by decide +kernel
theorem hv_X2_smoothTracks : yX2_smoothTracks.cls = RX2 ∧ yX2_smoothTracks.cls ≠ "java/lang/invoke/MethodHandle" ∧ yX2_smoothTracks.cls ≠ "java/lang/invoke/VarHandle" ∧ (parseMethodDescriptor yX2_smoothTracks.desc).map (fun d => d.parameters.length) = some 1 := ⟨rfl, hd_X2_smoothTracks⟩
theorem wX2_smoothTracks_0 : Cond.fieldLink RX2 9 "WaxCopies$Wax" "depth" "[I" ∈ wsX2_smoothTracks := by decide +kernel
theorem inX2_smoothTracks_X2 : ∀ w ∈ wsX20, w ∈ wsX2_smoothTracks := by decide +kernel
theorem wX2_smoothTracks_2 : Cond.fieldLink RX2 24 "WaxCopies$Wax" "mother" "[I" ∈ wsX2_smoothTracks := by decide +kernel
set_option maxHeartbeats 8000000 in
set_option maxRecDepth 100000 in
theorem L_X2_smoothTracks_b6 {p : Program} {l : Launch} {e : Env} {s : State} {m : MethodId} {args : Array Value} {below : List Frame} {meth : Method} {c : Code} {G : zG} {r : Unit} {mu1 : Mm}  (C : CallFix p m c cX2_smoothTracks 4 s args wsX2_smoothTracks RX2) (hr : meth.sig.returnType = none) (hlk : meth.locks = false) (Z : z_Z G (z_A G s.heap.size) s)  :
    ∀ (n : Nat) (x2 : Int32) (x3 : Int32) (μ : Mm), f_X2_smoothTracks_b6  n x2 x3 μ = some (r, mu1) → ∀ (H : Heap) (locs : List Loc), z_P G μ H → va_S (z_A G s.heap.size) s.heap H locs → ∀ ls : Array Slot, lv_has ls 4 [(0, .ref (G.2.1 (0))), (2, .int (x2)), (3, .int (x3))] → W p l e rm_X2_smoothTracks s m args below meth c H locs 0 0 (MQ below (z_Qv G r mu1 s.heap.size) args s 0 0 (z_A G s.heap.size)) (F0 m 6 ls []) := by
  have hx := C.1
  have hb := C.2.1
  have hts := C.2.2.2.2
  intro n
  induction n with
  | zero =>
    intro x2 x3 μ h
    rw [f_X2_smoothTracks_b6] at h
    cases h
  | succ n ih =>
    intro x2 x3 μ h H locs hP hS ls hl
    rw [f_X2_smoothTracks_b6] at h
    refine lv_iload_n hx hb dX2_smoothTracks_6 rfl (lv_at hl 2 rfl) ?_
    refine lv_iload_n hx hb dX2_smoothTracks_7 rfl (lv_at hl 1 rfl) ?_
    refine lv_iconst (v := 4) hx hb dX2_smoothTracks_8 (by decide) ?_
    refine lv_iadd hx hb dX2_smoothTracks_9 ?_
    refine lv_icmp_ge (tgt := 33) hx hb dX2_smoothTracks_10 (by decide) (fun hc1 => ?_) (fun hc1 => ?_)
    · have h := z_ip hc1 h
      cases h
      exact z_retv C hr hlk hP hS dX2_smoothTracks_33
    · have h := z_in hc1 h
      refine lv_aload_n hx hb dX2_smoothTracks_13 rfl (lv_at hl 0 rfl) ?_
      refine z_get C Z hP (k := 0) (ci := 2) (j := 0) (N := 19) (v := .ref (G.2.1 (1))) (by decide) (z_E_0 _) rfl inX2_smoothTracks_X2 (by decide) wX2_smoothTracks_0 rfl dX2_smoothTracks_14 ?_
      refine lv_iload_n hx hb dX2_smoothTracks_17 rfl (lv_at hl 2 rfl) ?_
      refine lv_iconst (v := 0) hx hb dX2_smoothTracks_18 (by decide) ?_
      obtain ⟨hg2, h⟩ := z_g h
      refine z_iast C Z hP hS (k := 1) (n := 24) (j := (x3).toNatClampNeg) (by decide) (fun r => z_E_1 r) hg2 rfl dX2_smoothTracks_19 (fun H locs hP hS => ?_)
      refine lv_aload_n hx hb dX2_smoothTracks_20 rfl (lv_at hl 0 rfl) ?_
      refine z_get C Z hP (k := 0) (ci := 2) (j := 4) (N := 19) (v := .ref (G.2.1 (5))) (by decide) (z_E_0 _) rfl inX2_smoothTracks_X2 (by decide) wX2_smoothTracks_2 rfl dX2_smoothTracks_21 ?_
      refine lv_iload_n hx hb dX2_smoothTracks_24 rfl (lv_at hl 2 rfl) ?_
      refine lv_iconst (v := (-1)) hx hb dX2_smoothTracks_25 (by decide) ?_
      refine z_iast C Z hP hS (k := 5) (n := 24) (j := (x3).toNatClampNeg) (by decide) (fun r => z_E_5 r) hg2 rfl dX2_smoothTracks_26 (fun H locs hP hS => ?_)
      refine lv_iinc (v := (x3 + 1)) (lv' := [(3, .int ((x3 + 1))), (0, .ref (G.2.1 (0))), (2, .int (x2))]) hx hb dX2_smoothTracks_27 hl (k := 2) rfl rfl (by decide) rfl (fun ls hl => ?_)
      refine lv_goto (tgt := 6) hx hb dX2_smoothTracks_30 (by decide) ?_
      exact ih _ _ _ h _ _ hP hS ls (lv_sub hl [1, 2, 0] rfl)
set_option maxHeartbeats 4000000 in
set_option maxRecDepth 100000 in
theorem c_X2_smoothTracks (l : Launch) (G : zG) {x1 : Int32} {μ mu1 : Mm} {r : Unit} (h : f_X2_smoothTracks x1 μ = some (r, mu1)) (sz : Nat) : Met l yX2_smoothTracks wsX2_smoothTracks rm_X2_smoothTracks (z_Pre G μ [.ref (G.2.1 (0)), .int (x1)] sz) (z_Qv G r mu1 sz) 0 0 (z_A G sz) := by
  refine z_start (cc := cX2_smoothTracks) (maxL := 4) (ret := none) (own := RX2) (by decide) rfl rfl (Nat.le_of_ble_eq_true rfl) (fun p e s m args below meth c C hr hlk Z hP ls hl => ?_) sz
  have hx := C.1
  have hb := C.2.1
  have hts := C.2.2.2.2
  have hS : va_S (z_A G s.heap.size) s.heap s.heap [] := va_S.rf
  have hl : lv_has ls 4 [(0, .ref (G.2.1 (0))), (1, .int (x1))] := hl
  unfold f_X2_smoothTracks at h
  refine lv_iload_n hx hb dX2_smoothTracks_0 rfl (lv_at hl 1 rfl) ?_
  refine lv_iconst (v := 4) hx hb dX2_smoothTracks_1 (by decide) ?_
  refine lv_imul hx hb dX2_smoothTracks_2 ?_
  refine lv_istore_n (lv' := [(2, .int ((x1 * 4))), (0, .ref (G.2.1 (0))), (1, .int (x1))]) hx hb dX2_smoothTracks_3 rfl hl (by decide) rfl (fun ls hl => ?_)
  refine lv_iload_n hx hb dX2_smoothTracks_4 rfl (lv_at hl 0 rfl) ?_
  refine lv_istore_n (lv' := [(3, .int ((x1 * 4))), (2, .int ((x1 * 4))), (0, .ref (G.2.1 (0))), (1, .int (x1))]) hx hb dX2_smoothTracks_5 rfl hl (by decide) rfl (fun ls hl => ?_)
  exact L_X2_smoothTracks_b6 C hr hlk Z z_F _ _ _ h _ _ hP hS ls (lv_sub hl [2, 1, 0] rfl)
abbrev rm_X2_shaveCylinder : Room := { frames := 2, cells := 0, slots := 0, locals := 37 }
theorem hd_X2_shaveCylinder : yX2_shaveCylinder.cls ≠ "java/lang/invoke/MethodHandle" ∧ yX2_shaveCylinder.cls ≠ "java/lang/invoke/VarHandle" ∧ (parseMethodDescriptor yX2_shaveCylinder.desc).map (fun d => d.parameters.length) = some 1 := by decide +kernel
theorem hv_X2_shaveCylinder : yX2_shaveCylinder.cls = RX2 ∧ yX2_shaveCylinder.cls ≠ "java/lang/invoke/MethodHandle" ∧ yX2_shaveCylinder.cls ≠ "java/lang/invoke/VarHandle" ∧ (parseMethodDescriptor yX2_shaveCylinder.desc).map (fun d => d.parameters.length) = some 1 := ⟨rfl, hd_X2_shaveCylinder⟩
theorem wX2_shaveCylinder_0 : Cond.fieldLink RX2 33 "WaxCopies$Wax" "layers" "[I" ∈ wsX2_shaveCylinder := by decide +kernel
theorem inX2_shaveCylinder_X2 : ∀ w ∈ wsX20, w ∈ wsX2_shaveCylinder := by decide +kernel
theorem wX2_shaveCylinder_2 : Cond.fieldLink RX2 58 "WaxCopies$Wax" "layersShaved" "I" ∈ wsX2_shaveCylinder := by decide +kernel
theorem wX2_shaveCylinder_3 : Cond.fieldLink RX2 36 "WaxCopies$Wax" "shavings" "[I" ∈ wsX2_shaveCylinder := by decide +kernel
theorem wX2_shaveCylinder_4 : Cond.fieldLink RX2 67 "WaxCopies$Wax" "refused" "I" ∈ wsX2_shaveCylinder := by decide +kernel
set_option maxHeartbeats 4000000 in
set_option maxRecDepth 100000 in
theorem c_X2_shaveCylinder (l : Launch) (G : zG) {x1 : Int32} {μ mu1 : Mm} {r : Int32} (h : f_X2_shaveCylinder x1 μ = some (r, mu1)) (sz : Nat) : Met l yX2_shaveCylinder wsX2_shaveCylinder rm_X2_shaveCylinder (z_Pre G μ [.ref (G.2.1 (0)), .int (x1)] sz) (z_Qi G r mu1 sz) 0 0 (z_A G sz) := by
  refine z_start (cc := cX2_shaveCylinder) (maxL := 3) (ret := (some .int)) (own := RX2) (by decide) rfl rfl (Nat.le_of_ble_eq_true rfl) (fun p e s m args below meth c C hr hlk Z hP ls hl => ?_) sz
  have hx := C.1
  have hb := C.2.1
  have hts := C.2.2.2.2
  have hS : va_S (z_A G s.heap.size) s.heap s.heap [] := va_S.rf
  have hl : lv_has ls 3 [(0, .ref (G.2.1 (0))), (1, .int (x1))] := hl
  unfold f_X2_shaveCylinder at h
  refine lv_aload_n hx hb dX2_shaveCylinder_0 rfl (lv_at hl 0 rfl) ?_
  refine lv_iload_n hx hb dX2_shaveCylinder_1 rfl (lv_at hl 1 rfl) ?_
  obtain ⟨r1, m2, e3, h⟩ := zb_some h
  refine z_calli hS (va_runV (As := [.int (x1)]) (rest := []) C (c_X2_greatestDepth l G e3 _) (cwV 1 hts gX2_shaveCylinder_X2_greatestDepth rfl rfl rfl hv_X2_greatestDepth ⟨Nat.le_of_ble_eq_true rfl, Nat.le_of_ble_eq_true rfl⟩) (z_preV Z hS hP (by decide) (z_E_0 _) rfl rfl) rfl rfl hl.1 rfl (lv_room (Nat.le_of_ble_eq_true rfl)) dX2_shaveCylinder_2 ⟨Nat.zero_le _, Nat.zero_le _⟩) (fun H locs hP hS => ?_)
  refine lv_istore_n (lv' := [(2, .int (r1)), (0, .ref (G.2.1 (0))), (1, .int (x1))]) hx hb dX2_shaveCylinder_5 rfl hl (by decide) rfl (fun ls hl => ?_)
  refine lv_iload_n hx hb dX2_shaveCylinder_6 rfl (lv_at hl 0 rfl) ?_
  refine lv_if_ne (tgt := 22) hx hb dX2_shaveCylinder_7 (by decide) (fun hc4 => ?_) (fun hc4 => ?_)
  · have h := z_in hc4 h
    refine lv_aload_n hx hb dX2_shaveCylinder_22 rfl (lv_at hl 1 rfl) ?_
    refine z_get C Z hP (k := 0) (ci := 2) (j := 7) (N := 19) (v := .ref (G.2.1 (8))) (by decide) (z_E_0 _) rfl inX2_shaveCylinder_X2 (by decide) wX2_shaveCylinder_0 rfl dX2_shaveCylinder_23 ?_
    refine lv_iload_n hx hb dX2_shaveCylinder_26 rfl (lv_at hl 2 rfl) ?_
    refine lv_dup2_11 hx hb dX2_shaveCylinder_27 rfl rfl ?_
    obtain ⟨hg5, h⟩ := z_g h
    refine z_iald C Z hP (k := 8) (n := 6) (j := (x1).toNatClampNeg) (by decide) (z_E_8 _) hg5 rfl dX2_shaveCylinder_28 ?_
    refine lv_iload_n hx hb dX2_shaveCylinder_29 rfl (lv_at hl 0 rfl) ?_
    refine lv_isub hx hb dX2_shaveCylinder_30 ?_
    refine z_iast C Z hP hS (k := 8) (n := 6) (j := (x1).toNatClampNeg) (by decide) (fun r => z_E_8 r) hg5 rfl dX2_shaveCylinder_31 (fun H locs hP hS => ?_)
    refine lv_aload_n hx hb dX2_shaveCylinder_32 rfl (lv_at hl 1 rfl) ?_
    refine lv_dup hx hb dX2_shaveCylinder_33 rfl ?_
    obtain ⟨m6, hm7, h⟩ := zm_some h
    rw [← hm7] at hP
    refine z_get C Z hP (k := 0) (ci := 2) (j := 15) (N := 19) (v := .int ((m6 0 15))) (by decide) (z_E_0 _) rfl inX2_shaveCylinder_X2 (by decide) wX2_shaveCylinder_2 rfl dX2_shaveCylinder_34 ?_
    refine lv_iload_n hx hb dX2_shaveCylinder_37 rfl (lv_at hl 0 rfl) ?_
    refine lv_iadd hx hb dX2_shaveCylinder_38 ?_
    refine z_put C Z hP hS (k := 0) (ci := 2) (j := 15) (N := 19) (x := ((m6 0 15) + r1)) (v := .int (((m6 0 15) + r1))) (ty := .int) (by decide) (z_E_0 _) rfl inX2_shaveCylinder_X2 tyX2_ok nmX2 (by decide) wX2_shaveCylinder_2 rfl (by decide +kernel) rfl rfl (Nat.le_of_ble_eq_true rfl) (z_S_0_15 _ _) dX2_shaveCylinder_39 (fun H locs hP hS => ?_)
    refine lv_aload_n hx hb dX2_shaveCylinder_42 rfl (lv_at hl 1 rfl) ?_
    refine z_get C Z hP (k := 0) (ci := 2) (j := 8) (N := 19) (v := .ref (G.2.1 (9))) (by decide) (z_E_0 _) rfl inX2_shaveCylinder_X2 (by decide) wX2_shaveCylinder_3 rfl dX2_shaveCylinder_43 ?_
    refine lv_iload_n hx hb dX2_shaveCylinder_46 rfl (lv_at hl 2 rfl) ?_
    refine lv_dup2_11 hx hb dX2_shaveCylinder_47 rfl rfl ?_
    refine z_iald C Z hP (k := 9) (n := 6) (j := (x1).toNatClampNeg) (by decide) (z_E_9 _) hg5 rfl dX2_shaveCylinder_48 ?_
    refine lv_iconst (v := 1) hx hb dX2_shaveCylinder_49 (by decide) ?_
    refine lv_iadd hx hb dX2_shaveCylinder_50 ?_
    refine z_iast C Z hP hS (k := 9) (n := 6) (j := (x1).toNatClampNeg) (by decide) (fun r => z_E_9 r) hg5 rfl dX2_shaveCylinder_51 (fun H locs hP hS => ?_)
    refine lv_aload_n hx hb dX2_shaveCylinder_52 rfl (lv_at hl 1 rfl) ?_
    refine lv_iload_n hx hb dX2_shaveCylinder_53 rfl (lv_at hl 2 rfl) ?_
    obtain ⟨m8, hm9, h⟩ := zm_some h
    rw [← hm9] at hP
    obtain ⟨r10, m11, e12, h⟩ := zb_some h
    refine z_callv hS (va_runV (As := [.int (x1)]) (rest := []) C (c_X2_smoothTracks l G e12 _) (cwV 1 hts gX2_shaveCylinder_X2_smoothTracks rfl rfl rfl hv_X2_smoothTracks ⟨Nat.le_of_ble_eq_true rfl, Nat.le_of_ble_eq_true rfl⟩) (z_preV Z hS hP (by decide) (z_E_0 _) rfl rfl) rfl rfl hl.1 rfl (lv_room (Nat.le_of_ble_eq_true rfl)) dX2_shaveCylinder_54 ⟨Nat.zero_le _, Nat.zero_le _⟩) (fun H locs hP hS => ?_)
    refine lv_iload_n hx hb dX2_shaveCylinder_57 rfl (lv_at hl 0 rfl) ?_
    cases h
    exact z_reti C hr hlk hP hS dX2_shaveCylinder_58
  · have h := z_ip hc4 h
    refine lv_aload_n hx hb dX2_shaveCylinder_10 rfl (lv_at hl 1 rfl) ?_
    refine lv_dup hx hb dX2_shaveCylinder_11 rfl ?_
    refine z_get C Z hP (k := 0) (ci := 2) (j := 18) (N := 19) (v := .int ((m2 0 18))) (by decide) (z_E_0 _) rfl inX2_shaveCylinder_X2 (by decide) wX2_shaveCylinder_4 rfl dX2_shaveCylinder_12 ?_
    refine lv_iconst (v := 1) hx hb dX2_shaveCylinder_15 (by decide) ?_
    refine lv_iadd hx hb dX2_shaveCylinder_16 ?_
    refine z_put C Z hP hS (k := 0) (ci := 2) (j := 18) (N := 19) (x := ((m2 0 18) + 1)) (v := .int (((m2 0 18) + 1))) (ty := .int) (by decide) (z_E_0 _) rfl inX2_shaveCylinder_X2 tyX2_ok nmX2 (by decide) wX2_shaveCylinder_4 rfl (by decide +kernel) rfl rfl (Nat.le_of_ble_eq_true rfl) (z_S_0_18 _ _) dX2_shaveCylinder_17 (fun H locs hP hS => ?_)
    refine lv_iconst (v := (-1)) hx hb dX2_shaveCylinder_20 (by decide) ?_
    cases h
    exact z_reti C hr hlk hP hS dX2_shaveCylinder_21
abbrev rm_X2_renewCylinder : Room := { frames := 1, cells := 0, slots := 0, locals := 23 }
theorem hd_X2_renewCylinder : yX2_renewCylinder.cls ≠ "java/lang/invoke/MethodHandle" ∧ yX2_renewCylinder.cls ≠ "java/lang/invoke/VarHandle" ∧ (parseMethodDescriptor yX2_renewCylinder.desc).map (fun d => d.parameters.length) = some 2 := by decide +kernel
theorem hv_X2_renewCylinder : yX2_renewCylinder.cls = RX2 ∧ yX2_renewCylinder.cls ≠ "java/lang/invoke/MethodHandle" ∧ yX2_renewCylinder.cls ≠ "java/lang/invoke/VarHandle" ∧ (parseMethodDescriptor yX2_renewCylinder.desc).map (fun d => d.parameters.length) = some 2 := ⟨rfl, hd_X2_renewCylinder⟩
theorem wX2_renewCylinder_0 : Cond.fieldLink RX2 33 "WaxCopies$Wax" "layers" "[I" ∈ wsX2_renewCylinder := by decide +kernel
theorem inX2_renewCylinder_X2 : ∀ w ∈ wsX20, w ∈ wsX2_renewCylinder := by decide +kernel
theorem wX2_renewCylinder_2 : Cond.fieldLink RX2 64 "WaxCopies$Wax" "layersGone" "I" ∈ wsX2_renewCylinder := by decide +kernel
theorem wX2_renewCylinder_3 : Cond.fieldLink RX2 61 "WaxCopies$Wax" "layersCome" "I" ∈ wsX2_renewCylinder := by decide +kernel
theorem wX2_renewCylinder_4 : Cond.fieldLink RX2 36 "WaxCopies$Wax" "shavings" "[I" ∈ wsX2_renewCylinder := by decide +kernel
set_option maxHeartbeats 4000000 in
set_option maxRecDepth 100000 in
theorem c_X2_renewCylinder (l : Launch) (G : zG) {x1 : Int32} {x2 : Int32} {μ mu1 : Mm} {r : Int32} (h : f_X2_renewCylinder x1 x2 μ = some (r, mu1)) (sz : Nat) : Met l yX2_renewCylinder wsX2_renewCylinder rm_X2_renewCylinder (z_Pre G μ [.ref (G.2.1 (0)), .int (x1), .int (x2)] sz) (z_Qi G r mu1 sz) 0 0 (z_A G sz) := by
  refine z_start (cc := cX2_renewCylinder) (maxL := 4) (ret := (some .int)) (own := RX2) (by decide) rfl rfl (Nat.le_of_ble_eq_true rfl) (fun p e s m args below meth c C hr hlk Z hP ls hl => ?_) sz
  have hx := C.1
  have hb := C.2.1
  have hts := C.2.2.2.2
  have hS : va_S (z_A G s.heap.size) s.heap s.heap [] := va_S.rf
  have hl : lv_has ls 4 [(0, .ref (G.2.1 (0))), (1, .int (x1)), (2, .int (x2))] := hl
  unfold f_X2_renewCylinder at h
  refine lv_aload_n hx hb dX2_renewCylinder_0 rfl (lv_at hl 0 rfl) ?_
  refine z_get C Z hP (k := 0) (ci := 2) (j := 7) (N := 19) (v := .ref (G.2.1 (8))) (by decide) (z_E_0 _) rfl inX2_renewCylinder_X2 (by decide) wX2_renewCylinder_0 rfl dX2_renewCylinder_1 ?_
  refine lv_iload_n hx hb dX2_renewCylinder_4 rfl (lv_at hl 1 rfl) ?_
  obtain ⟨hg1, h⟩ := z_g h
  refine z_iald C Z hP (k := 8) (n := 6) (j := (x1).toNatClampNeg) (by decide) (z_E_8 _) hg1 rfl dX2_renewCylinder_5 ?_
  refine lv_istore_n (lv' := [(3, .int ((μ (8) ((x1).toNatClampNeg)))), (0, .ref (G.2.1 (0))), (1, .int (x1)), (2, .int (x2))]) hx hb dX2_renewCylinder_6 rfl hl (by decide) rfl (fun ls hl => ?_)
  refine lv_aload_n hx hb dX2_renewCylinder_7 rfl (lv_at hl 1 rfl) ?_
  refine z_get C Z hP (k := 0) (ci := 2) (j := 7) (N := 19) (v := .ref (G.2.1 (8))) (by decide) (z_E_0 _) rfl inX2_renewCylinder_X2 (by decide) wX2_renewCylinder_0 rfl dX2_renewCylinder_8 ?_
  refine lv_iload_n hx hb dX2_renewCylinder_11 rfl (lv_at hl 2 rfl) ?_
  refine lv_iload_n hx hb dX2_renewCylinder_12 rfl (lv_at hl 3 rfl) ?_
  refine z_iast C Z hP hS (k := 8) (n := 6) (j := (x1).toNatClampNeg) (by decide) (fun r => z_E_8 r) hg1 rfl dX2_renewCylinder_13 (fun H locs hP hS => ?_)
  refine lv_aload_n hx hb dX2_renewCylinder_14 rfl (lv_at hl 1 rfl) ?_
  refine lv_dup hx hb dX2_renewCylinder_15 rfl ?_
  refine z_get C Z hP (k := 0) (ci := 2) (j := 17) (N := 19) (v := .int (((z_up μ (8) ((x1).toNatClampNeg) x2) 0 17))) (by decide) (z_E_0 _) rfl inX2_renewCylinder_X2 (by decide) wX2_renewCylinder_2 rfl dX2_renewCylinder_16 ?_
  refine lv_iload_n hx hb dX2_renewCylinder_19 rfl (lv_at hl 0 rfl) ?_
  refine lv_iadd hx hb dX2_renewCylinder_20 ?_
  refine z_put C Z hP hS (k := 0) (ci := 2) (j := 17) (N := 19) (x := (((z_up μ (8) ((x1).toNatClampNeg) x2) 0 17) + (μ (8) ((x1).toNatClampNeg)))) (v := .int ((((z_up μ (8) ((x1).toNatClampNeg) x2) 0 17) + (μ (8) ((x1).toNatClampNeg))))) (ty := .int) (by decide) (z_E_0 _) rfl inX2_renewCylinder_X2 tyX2_ok nmX2 (by decide) wX2_renewCylinder_2 rfl (by decide +kernel) rfl rfl (Nat.le_of_ble_eq_true rfl) (z_S_0_17 _ _) dX2_renewCylinder_21 (fun H locs hP hS => ?_)
  refine lv_aload_n hx hb dX2_renewCylinder_24 rfl (lv_at hl 1 rfl) ?_
  refine lv_dup hx hb dX2_renewCylinder_25 rfl ?_
  obtain ⟨m2, hm3, h⟩ := zm_some h
  rw [← hm3] at hP
  refine z_get C Z hP (k := 0) (ci := 2) (j := 16) (N := 19) (v := .int ((m2 0 16))) (by decide) (z_E_0 _) rfl inX2_renewCylinder_X2 (by decide) wX2_renewCylinder_3 rfl dX2_renewCylinder_26 ?_
  refine lv_iload_n hx hb dX2_renewCylinder_29 rfl (lv_at hl 3 rfl) ?_
  refine lv_iadd hx hb dX2_renewCylinder_30 ?_
  refine z_put C Z hP hS (k := 0) (ci := 2) (j := 16) (N := 19) (x := ((m2 0 16) + x2)) (v := .int (((m2 0 16) + x2))) (ty := .int) (by decide) (z_E_0 _) rfl inX2_renewCylinder_X2 tyX2_ok nmX2 (by decide) wX2_renewCylinder_3 rfl (by decide +kernel) rfl rfl (Nat.le_of_ble_eq_true rfl) (z_S_0_16 _ _) dX2_renewCylinder_31 (fun H locs hP hS => ?_)
  refine lv_aload_n hx hb dX2_renewCylinder_34 rfl (lv_at hl 1 rfl) ?_
  refine z_get C Z hP (k := 0) (ci := 2) (j := 8) (N := 19) (v := .ref (G.2.1 (9))) (by decide) (z_E_0 _) rfl inX2_renewCylinder_X2 (by decide) wX2_renewCylinder_4 rfl dX2_renewCylinder_35 ?_
  refine lv_iload_n hx hb dX2_renewCylinder_38 rfl (lv_at hl 2 rfl) ?_
  refine lv_iconst (v := 0) hx hb dX2_renewCylinder_39 (by decide) ?_
  refine z_iast C Z hP hS (k := 9) (n := 6) (j := (x1).toNatClampNeg) (by decide) (fun r => z_E_9 r) hg1 rfl dX2_renewCylinder_40 (fun H locs hP hS => ?_)
  refine lv_aload_n hx hb dX2_renewCylinder_41 rfl (lv_at hl 1 rfl) ?_
  refine lv_iload_n hx hb dX2_renewCylinder_42 rfl (lv_at hl 2 rfl) ?_
  obtain ⟨r4, m5, e6, h⟩ := zb_some h
  refine z_callv hS (va_runV (As := [.int (x1)]) (rest := []) C (c_X2_smoothTracks l G e6 _) (cwV 1 hts gX2_renewCylinder_X2_smoothTracks rfl rfl rfl hv_X2_smoothTracks ⟨Nat.le_of_ble_eq_true rfl, Nat.le_of_ble_eq_true rfl⟩) (z_preV Z hS hP (by decide) (z_E_0 _) rfl rfl) rfl rfl hl.1 rfl (lv_room (Nat.le_of_ble_eq_true rfl)) dX2_renewCylinder_43 ⟨Nat.zero_le _, Nat.zero_le _⟩) (fun H locs hP hS => ?_)
  refine lv_iload_n hx hb dX2_renewCylinder_46 rfl (lv_at hl 0 rfl) ?_
  cases h
  exact z_reti C hr hlk hP hS dX2_renewCylinder_47
