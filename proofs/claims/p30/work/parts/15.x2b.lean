abbrev rm_X2_windUp : Room := { frames := 0, cells := 0, slots := 0, locals := 0 }
theorem hd_X2_windUp : yX2_windUp.cls ≠ "java/lang/invoke/MethodHandle" ∧ yX2_windUp.cls ≠ "java/lang/invoke/VarHandle" ∧ (parseMethodDescriptor yX2_windUp.desc).map (fun d => d.parameters.length) = some 0 := by decide +kernel
theorem hv_X2_windUp : yX2_windUp.cls = RX2 ∧ yX2_windUp.cls ≠ "java/lang/invoke/MethodHandle" ∧ yX2_windUp.cls ≠ "java/lang/invoke/VarHandle" ∧ (parseMethodDescriptor yX2_windUp.desc).map (fun d => d.parameters.length) = some 0 := ⟨rfl, hd_X2_windUp⟩
theorem wX2_windUp_0 : Cond.fieldLink RX2 43 "WaxCopies$Wax" "spring" "I" ∈ wsX2_windUp := by decide +kernel
theorem inX2_windUp_X2 : ∀ w ∈ wsX20, w ∈ wsX2_windUp := by decide +kernel
set_option maxHeartbeats 4000000 in
set_option maxRecDepth 100000 in
theorem c_X2_windUp (l : Launch) (G : zG) {μ mu1 : Mm} {r : Int32} (h : f_X2_windUp μ = some (r, mu1)) (sz : Nat) : Met l yX2_windUp wsX2_windUp rm_X2_windUp (z_Pre G μ [.ref (G.2.1 (0))] sz) (z_Qi G r mu1 sz) 0 0 (z_A G sz) := by
  refine z_start (cc := cX2_windUp) (maxL := 2) (ret := (some .int)) (own := RX2) (by decide) rfl rfl (Nat.le_of_ble_eq_true rfl) (fun p e s m args below meth c C hr hlk Z hP ls hl => ?_) sz
  have hx := C.1
  have hb := C.2.1
  have hts := C.2.2.2.2
  have hS : va_S (z_A G s.heap.size) s.heap s.heap [] := va_S.rf
  have hl : lv_has ls 2 [(0, .ref (G.2.1 (0)))] := hl
  unfold f_X2_windUp at h
  refine lv_bipush (v := 100) hx hb dX2_windUp_0 (by decide) ?_
  refine lv_aload_n hx hb dX2_windUp_2 rfl (lv_at hl 0 rfl) ?_
  refine z_get C Z hP (k := 0) (ci := 2) (j := 10) (N := 19) (v := .int ((μ 0 10))) (by decide) (z_E_0 _) rfl inX2_windUp_X2 (by decide) wX2_windUp_0 rfl dX2_windUp_3 ?_
  refine lv_isub hx hb dX2_windUp_6 ?_
  refine lv_istore_n (lv' := [(1, .int ((100 - (μ 0 10)))), (0, .ref (G.2.1 (0)))]) hx hb dX2_windUp_7 rfl hl (by decide) rfl (fun ls hl => ?_)
  refine lv_aload_n hx hb dX2_windUp_8 rfl (lv_at hl 1 rfl) ?_
  refine lv_bipush (v := 100) hx hb dX2_windUp_9 (by decide) ?_
  refine z_put C Z hP hS (k := 0) (ci := 2) (j := 10) (N := 19) (x := 100) (v := .int (100)) (ty := .int) (by decide) (z_E_0 _) rfl inX2_windUp_X2 tyX2_ok nmX2 (by decide) wX2_windUp_0 rfl (by decide +kernel) rfl rfl (Nat.le_of_ble_eq_true rfl) (z_S_0_10 _ _) dX2_windUp_11 (fun H locs hP hS => ?_)
  refine lv_iload_n hx hb dX2_windUp_14 rfl (lv_at hl 0 rfl) ?_
  cases h
  exact z_reti C hr hlk hP hS dX2_windUp_15
abbrev rm_X2_sharpenPoint : Room := { frames := 0, cells := 0, slots := 0, locals := 0 }
theorem hd_X2_sharpenPoint : yX2_sharpenPoint.cls ≠ "java/lang/invoke/MethodHandle" ∧ yX2_sharpenPoint.cls ≠ "java/lang/invoke/VarHandle" ∧ (parseMethodDescriptor yX2_sharpenPoint.desc).map (fun d => d.parameters.length) = some 0 := by decide +kernel
theorem hv_X2_sharpenPoint : yX2_sharpenPoint.cls = RX2 ∧ yX2_sharpenPoint.cls ≠ "java/lang/invoke/MethodHandle" ∧ yX2_sharpenPoint.cls ≠ "java/lang/invoke/VarHandle" ∧ (parseMethodDescriptor yX2_sharpenPoint.desc).map (fun d => d.parameters.length) = some 0 := ⟨rfl, hd_X2_sharpenPoint⟩
theorem wX2_sharpenPoint_0 : Cond.fieldLink RX2 39 "WaxCopies$Wax" "sharpness" "I" ∈ wsX2_sharpenPoint := by decide +kernel
theorem inX2_sharpenPoint_X2 : ∀ w ∈ wsX20, w ∈ wsX2_sharpenPoint := by decide +kernel
set_option maxHeartbeats 4000000 in
set_option maxRecDepth 100000 in
theorem c_X2_sharpenPoint (l : Launch) (G : zG) {μ mu1 : Mm} {r : Int32} (h : f_X2_sharpenPoint μ = some (r, mu1)) (sz : Nat) : Met l yX2_sharpenPoint wsX2_sharpenPoint rm_X2_sharpenPoint (z_Pre G μ [.ref (G.2.1 (0))] sz) (z_Qi G r mu1 sz) 0 0 (z_A G sz) := by
  refine z_start (cc := cX2_sharpenPoint) (maxL := 2) (ret := (some .int)) (own := RX2) (by decide) rfl rfl (Nat.le_of_ble_eq_true rfl) (fun p e s m args below meth c C hr hlk Z hP ls hl => ?_) sz
  have hx := C.1
  have hb := C.2.1
  have hts := C.2.2.2.2
  have hS : va_S (z_A G s.heap.size) s.heap s.heap [] := va_S.rf
  have hl : lv_has ls 2 [(0, .ref (G.2.1 (0)))] := hl
  unfold f_X2_sharpenPoint at h
  refine lv_bipush (v := 100) hx hb dX2_sharpenPoint_0 (by decide) ?_
  refine lv_aload_n hx hb dX2_sharpenPoint_2 rfl (lv_at hl 0 rfl) ?_
  refine z_get C Z hP (k := 0) (ci := 2) (j := 9) (N := 19) (v := .int ((μ 0 9))) (by decide) (z_E_0 _) rfl inX2_sharpenPoint_X2 (by decide) wX2_sharpenPoint_0 rfl dX2_sharpenPoint_3 ?_
  refine lv_isub hx hb dX2_sharpenPoint_6 ?_
  refine lv_istore_n (lv' := [(1, .int ((100 - (μ 0 9)))), (0, .ref (G.2.1 (0)))]) hx hb dX2_sharpenPoint_7 rfl hl (by decide) rfl (fun ls hl => ?_)
  refine lv_aload_n hx hb dX2_sharpenPoint_8 rfl (lv_at hl 1 rfl) ?_
  refine lv_bipush (v := 100) hx hb dX2_sharpenPoint_9 (by decide) ?_
  refine z_put C Z hP hS (k := 0) (ci := 2) (j := 9) (N := 19) (x := 100) (v := .int (100)) (ty := .int) (by decide) (z_E_0 _) rfl inX2_sharpenPoint_X2 tyX2_ok nmX2 (by decide) wX2_sharpenPoint_0 rfl (by decide +kernel) rfl rfl (Nat.le_of_ble_eq_true rfl) (z_S_0_9 _ _) dX2_sharpenPoint_11 (fun H locs hP hS => ?_)
  refine lv_iload_n hx hb dX2_sharpenPoint_14 rfl (lv_at hl 0 rfl) ?_
  cases h
  exact z_reti C hr hlk hP hS dX2_sharpenPoint_15
abbrev rm_X2_trackProperty : Room := { frames := 1, cells := 0, slots := 0, locals := 21 }
theorem hd_X2_trackProperty : yX2_trackProperty.cls ≠ "java/lang/invoke/MethodHandle" ∧ yX2_trackProperty.cls ≠ "java/lang/invoke/VarHandle" ∧ (parseMethodDescriptor yX2_trackProperty.desc).map (fun d => d.parameters.length) = some 2 := by decide +kernel
theorem hv_X2_trackProperty : yX2_trackProperty.cls = RX2 ∧ yX2_trackProperty.cls ≠ "java/lang/invoke/MethodHandle" ∧ yX2_trackProperty.cls ≠ "java/lang/invoke/VarHandle" ∧ (parseMethodDescriptor yX2_trackProperty.desc).map (fun d => d.parameters.length) = some 2 := ⟨rfl, hd_X2_trackProperty⟩
theorem wX2_trackProperty_0 : Cond.fieldLink RX2 15 "WaxCopies$Wax" "clearness" "[I" ∈ wsX2_trackProperty := by decide +kernel
theorem inX2_trackProperty_X2 : ∀ w ∈ wsX20, w ∈ wsX2_trackProperty := by decide +kernel
theorem wX2_trackProperty_2 : Cond.fieldLink RX2 18 "WaxCopies$Wax" "flutter" "[I" ∈ wsX2_trackProperty := by decide +kernel
theorem wX2_trackProperty_3 : Cond.fieldLink RX2 21 "WaxCopies$Wax" "generation" "[I" ∈ wsX2_trackProperty := by decide +kernel
theorem wX2_trackProperty_4 : Cond.fieldLink RX2 24 "WaxCopies$Wax" "mother" "[I" ∈ wsX2_trackProperty := by decide +kernel
theorem wX2_trackProperty_5 : Cond.fieldLink RX2 27 "WaxCopies$Wax" "clearnessAsCut" "[I" ∈ wsX2_trackProperty := by decide +kernel
theorem wX2_trackProperty_6 : Cond.fieldLink RX2 30 "WaxCopies$Wax" "plays" "[I" ∈ wsX2_trackProperty := by decide +kernel
theorem wX2_trackProperty_7 : Cond.fieldLink RX2 9 "WaxCopies$Wax" "depth" "[I" ∈ wsX2_trackProperty := by decide +kernel
set_option maxHeartbeats 4000000 in
set_option maxRecDepth 100000 in
theorem c_X2_trackProperty (l : Launch) (G : zG) {x1 : Int32} {x2 : Int32} {μ mu1 : Mm} {r : Int32} (h : f_X2_trackProperty x1 x2 μ = some (r, mu1)) (sz : Nat) : Met l yX2_trackProperty wsX2_trackProperty rm_X2_trackProperty (z_Pre G μ [.ref (G.2.1 (0)), .int (x1), .int (x2)] sz) (z_Qi G r mu1 sz) 0 0 (z_A G sz) := by
  refine z_start (cc := cX2_trackProperty) (maxL := 3) (ret := (some .int)) (own := RX2) (by decide) rfl rfl (Nat.le_of_ble_eq_true rfl) (fun p e s m args below meth c C hr hlk Z hP ls hl => ?_) sz
  have hx := C.1
  have hb := C.2.1
  have hts := C.2.2.2.2
  have hS : va_S (z_A G s.heap.size) s.heap s.heap [] := va_S.rf
  have hl : lv_has ls 3 [(0, .ref (G.2.1 (0))), (1, .int (x1)), (2, .int (x2))] := hl
  unfold f_X2_trackProperty at h
  refine lv_iload_n hx hb dX2_trackProperty_0 rfl (lv_at hl 2 rfl) ?_
  refine lv_if_ne (tgt := 11) hx hb dX2_trackProperty_1 (by decide) (fun hc1 => ?_) (fun hc1 => ?_)
  · have h := z_in hc1 h
    refine lv_aload_n hx hb dX2_trackProperty_11 rfl (lv_at hl 0 rfl) ?_
    refine lv_iload_n hx hb dX2_trackProperty_12 rfl (lv_at hl 1 rfl) ?_
    obtain ⟨r2, m3, e4, h⟩ := zb_some h
    refine z_calli hS (va_runV (As := [.int (x1)]) (rest := []) C (c_X2_isCut l G e4 _) (cwV 1 hts gX2_trackProperty_X2_isCut rfl rfl rfl hv_X2_isCut ⟨Nat.le_of_ble_eq_true rfl, Nat.le_of_ble_eq_true rfl⟩) (z_preV Z hS hP (by decide) (z_E_0 _) rfl rfl) rfl rfl hl.1 rfl (lv_room (Nat.le_of_ble_eq_true rfl)) dX2_trackProperty_13 ⟨Nat.zero_le _, Nat.zero_le _⟩) (fun H locs hP hS => ?_)
    refine lv_if_ne (tgt := 21) hx hb dX2_trackProperty_16 (by decide) (fun hc5 => ?_) (fun hc5 => ?_)
    · have h := z_in hc5 h
      refine lv_iload_n hx hb dX2_trackProperty_21 rfl (lv_at hl 2 rfl) ?_
      by_cases hc6 : x2 = 1
      · have h := z_ip hc6 h
        refine lv_tableIn (tgt := 56) (off := 34) hx hb dX2_trackProperty_22 (by rw [hc6]; decide) (by rw [hc6]; decide) (by rw [hc6]; rfl) (by decide) ?_
        refine lv_aload_n hx hb dX2_trackProperty_56 rfl (lv_at hl 0 rfl) ?_
        refine z_get C Z hP (k := 0) (ci := 2) (j := 1) (N := 19) (v := .ref (G.2.1 (2))) (by decide) (z_E_0 _) rfl inX2_trackProperty_X2 (by decide) wX2_trackProperty_0 rfl dX2_trackProperty_57 ?_
        refine lv_iload_n hx hb dX2_trackProperty_60 rfl (lv_at hl 1 rfl) ?_
        obtain ⟨hg7, h⟩ := z_g h
        refine z_iald C Z hP (k := 2) (n := 24) (j := (x1).toNatClampNeg) (by decide) (z_E_2 _) hg7 rfl dX2_trackProperty_61 ?_
        cases h
        exact z_reti C hr hlk hP hS dX2_trackProperty_62
      · have h := z_in hc6 h
        by_cases hc8 : x2 = 2
        · have h := z_ip hc8 h
          refine lv_tableIn (tgt := 63) (off := 41) hx hb dX2_trackProperty_22 (by rw [hc8]; decide) (by rw [hc8]; decide) (by rw [hc8]; rfl) (by decide) ?_
          refine lv_aload_n hx hb dX2_trackProperty_63 rfl (lv_at hl 0 rfl) ?_
          refine z_get C Z hP (k := 0) (ci := 2) (j := 2) (N := 19) (v := .ref (G.2.1 (3))) (by decide) (z_E_0 _) rfl inX2_trackProperty_X2 (by decide) wX2_trackProperty_2 rfl dX2_trackProperty_64 ?_
          refine lv_iload_n hx hb dX2_trackProperty_67 rfl (lv_at hl 1 rfl) ?_
          obtain ⟨hg9, h⟩ := z_g h
          refine z_iald C Z hP (k := 3) (n := 24) (j := (x1).toNatClampNeg) (by decide) (z_E_3 _) hg9 rfl dX2_trackProperty_68 ?_
          cases h
          exact z_reti C hr hlk hP hS dX2_trackProperty_69
        · have h := z_in hc8 h
          by_cases hc10 : x2 = 3
          · have h := z_ip hc10 h
            refine lv_tableIn (tgt := 70) (off := 48) hx hb dX2_trackProperty_22 (by rw [hc10]; decide) (by rw [hc10]; decide) (by rw [hc10]; rfl) (by decide) ?_
            refine lv_aload_n hx hb dX2_trackProperty_70 rfl (lv_at hl 0 rfl) ?_
            refine z_get C Z hP (k := 0) (ci := 2) (j := 3) (N := 19) (v := .ref (G.2.1 (4))) (by decide) (z_E_0 _) rfl inX2_trackProperty_X2 (by decide) wX2_trackProperty_3 rfl dX2_trackProperty_71 ?_
            refine lv_iload_n hx hb dX2_trackProperty_74 rfl (lv_at hl 1 rfl) ?_
            obtain ⟨hg11, h⟩ := z_g h
            refine z_iald C Z hP (k := 4) (n := 24) (j := (x1).toNatClampNeg) (by decide) (z_E_4 _) hg11 rfl dX2_trackProperty_75 ?_
            cases h
            exact z_reti C hr hlk hP hS dX2_trackProperty_76
          · have h := z_in hc10 h
            by_cases hc12 : x2 = 4
            · have h := z_ip hc12 h
              refine lv_tableIn (tgt := 77) (off := 55) hx hb dX2_trackProperty_22 (by rw [hc12]; decide) (by rw [hc12]; decide) (by rw [hc12]; rfl) (by decide) ?_
              refine lv_aload_n hx hb dX2_trackProperty_77 rfl (lv_at hl 0 rfl) ?_
              refine z_get C Z hP (k := 0) (ci := 2) (j := 4) (N := 19) (v := .ref (G.2.1 (5))) (by decide) (z_E_0 _) rfl inX2_trackProperty_X2 (by decide) wX2_trackProperty_4 rfl dX2_trackProperty_78 ?_
              refine lv_iload_n hx hb dX2_trackProperty_81 rfl (lv_at hl 1 rfl) ?_
              obtain ⟨hg13, h⟩ := z_g h
              refine z_iald C Z hP (k := 5) (n := 24) (j := (x1).toNatClampNeg) (by decide) (z_E_5 _) hg13 rfl dX2_trackProperty_82 ?_
              cases h
              exact z_reti C hr hlk hP hS dX2_trackProperty_83
            · have h := z_in hc12 h
              by_cases hc14 : x2 = 5
              · have h := z_ip hc14 h
                refine lv_tableIn (tgt := 84) (off := 62) hx hb dX2_trackProperty_22 (by rw [hc14]; decide) (by rw [hc14]; decide) (by rw [hc14]; rfl) (by decide) ?_
                refine lv_aload_n hx hb dX2_trackProperty_84 rfl (lv_at hl 0 rfl) ?_
                refine z_get C Z hP (k := 0) (ci := 2) (j := 5) (N := 19) (v := .ref (G.2.1 (6))) (by decide) (z_E_0 _) rfl inX2_trackProperty_X2 (by decide) wX2_trackProperty_5 rfl dX2_trackProperty_85 ?_
                refine lv_iload_n hx hb dX2_trackProperty_88 rfl (lv_at hl 1 rfl) ?_
                obtain ⟨hg15, h⟩ := z_g h
                refine z_iald C Z hP (k := 6) (n := 24) (j := (x1).toNatClampNeg) (by decide) (z_E_6 _) hg15 rfl dX2_trackProperty_89 ?_
                cases h
                exact z_reti C hr hlk hP hS dX2_trackProperty_90
              · have h := z_in hc14 h
                refine lv_tableOut (tgt := 91) hx hb dX2_trackProperty_22 (by
                  have qhc6 : (x2).toInt ≠ 1 := fun q => hc6 (Int32.toInt_inj.mp (q.trans (by decide)))
                  have qhc8 : (x2).toInt ≠ 2 := fun q => hc8 (Int32.toInt_inj.mp (q.trans (by decide)))
                  have qhc10 : (x2).toInt ≠ 3 := fun q => hc10 (Int32.toInt_inj.mp (q.trans (by decide)))
                  have qhc12 : (x2).toInt ≠ 4 := fun q => hc12 (Int32.toInt_inj.mp (q.trans (by decide)))
                  have qhc14 : (x2).toInt ≠ 5 := fun q => hc14 (Int32.toInt_inj.mp (q.trans (by decide)))
                  omega) (by decide) ?_
                refine lv_aload_n hx hb dX2_trackProperty_91 rfl (lv_at hl 0 rfl) ?_
                refine z_get C Z hP (k := 0) (ci := 2) (j := 6) (N := 19) (v := .ref (G.2.1 (7))) (by decide) (z_E_0 _) rfl inX2_trackProperty_X2 (by decide) wX2_trackProperty_6 rfl dX2_trackProperty_92 ?_
                refine lv_iload_n hx hb dX2_trackProperty_95 rfl (lv_at hl 1 rfl) ?_
                obtain ⟨hg16, h⟩ := z_g h
                refine z_iald C Z hP (k := 7) (n := 24) (j := (x1).toNatClampNeg) (by decide) (z_E_7 _) hg16 rfl dX2_trackProperty_96 ?_
                cases h
                exact z_reti C hr hlk hP hS dX2_trackProperty_97
    · have h := z_ip hc5 h
      refine lv_iconst (v := (-1)) hx hb dX2_trackProperty_19 (by decide) ?_
      cases h
      exact z_reti C hr hlk hP hS dX2_trackProperty_20
  · have h := z_ip hc1 h
    refine lv_aload_n hx hb dX2_trackProperty_4 rfl (lv_at hl 0 rfl) ?_
    refine z_get C Z hP (k := 0) (ci := 2) (j := 0) (N := 19) (v := .ref (G.2.1 (1))) (by decide) (z_E_0 _) rfl inX2_trackProperty_X2 (by decide) wX2_trackProperty_7 rfl dX2_trackProperty_5 ?_
    refine lv_iload_n hx hb dX2_trackProperty_8 rfl (lv_at hl 1 rfl) ?_
    obtain ⟨hg17, h⟩ := z_g h
    refine z_iald C Z hP (k := 1) (n := 24) (j := (x1).toNatClampNeg) (by decide) (z_E_1 _) hg17 rfl dX2_trackProperty_9 ?_
    cases h
    exact z_reti C hr hlk hP hS dX2_trackProperty_10
abbrev rm_X2_cutTracksOn : Room := { frames := 1, cells := 0, slots := 0, locals := 21 }
theorem hd_X2_cutTracksOn : yX2_cutTracksOn.cls ≠ "java/lang/invoke/MethodHandle" ∧ yX2_cutTracksOn.cls ≠ "java/lang/invoke/VarHandle" ∧ (parseMethodDescriptor yX2_cutTracksOn.desc).map (fun d => d.parameters.length) = some 1 := by decide +kernel
theorem hv_X2_cutTracksOn : yX2_cutTracksOn.cls = RX2 ∧ yX2_cutTracksOn.cls ≠ "java/lang/invoke/MethodHandle" ∧ yX2_cutTracksOn.cls ≠ "java/lang/invoke/VarHandle" ∧ (parseMethodDescriptor yX2_cutTracksOn.desc).map (fun d => d.parameters.length) = some 1 := ⟨rfl, hd_X2_cutTracksOn⟩
set_option maxHeartbeats 8000000 in
set_option maxRecDepth 100000 in
theorem L_X2_cutTracksOn_b9 {p : Program} {l : Launch} {e : Env} {s : State} {m : MethodId} {args : Array Value} {below : List Frame} {meth : Method} {c : Code} {G : zG} {r : Int32} {mu1 : Mm}  (C : CallFix p m c cX2_cutTracksOn 5 s args wsX2_cutTracksOn RX2) (hr : meth.sig.returnType = (some .int)) (hlk : meth.locks = false) (Z : z_Z G (z_A G s.heap.size) s)  :
    ∀ (n : Nat) (x2 : Int32) (x3 : Int32) (x4 : Int32) (μ : Mm), f_X2_cutTracksOn_b9  n x2 x3 x4 μ = some (r, mu1) → ∀ (H : Heap) (locs : List Loc), z_P G μ H → va_S (z_A G s.heap.size) s.heap H locs → ∀ ls : Array Slot, lv_has ls 5 [(0, .ref (G.2.1 (0))), (2, .int (x2)), (3, .int (x3)), (4, .int (x4))] → W p l e rm_X2_cutTracksOn s m args below meth c H locs 0 0 (MQ below (z_Qi G r mu1 s.heap.size) args s 0 0 (z_A G s.heap.size)) (F0 m 9 ls []) := by
  have hx := C.1
  have hb := C.2.1
  have hts := C.2.2.2.2
  intro n
  induction n with
  | zero =>
    intro x2 x3 x4 μ h
    rw [f_X2_cutTracksOn_b9] at h
    cases h
  | succ n ih =>
    intro x2 x3 x4 μ h H locs hP hS ls hl
    rw [f_X2_cutTracksOn_b9] at h
    refine lv_iload hx hb dX2_cutTracksOn_9 (lv_at hl 3 rfl) ?_
    refine lv_iload_n hx hb dX2_cutTracksOn_11 rfl (lv_at hl 2 rfl) ?_
    refine lv_iconst (v := 4) hx hb dX2_cutTracksOn_12 (by decide) ?_
    refine lv_iadd hx hb dX2_cutTracksOn_13 ?_
    refine lv_icmp_ge (tgt := 40) hx hb dX2_cutTracksOn_14 (by decide) (fun hc1 => ?_) (fun hc1 => ?_)
    · have h := z_ip hc1 h
      refine lv_iload_n hx hb dX2_cutTracksOn_40 rfl (lv_at hl 1 rfl) ?_
      cases h
      exact z_reti C hr hlk hP hS dX2_cutTracksOn_41
    · have h := z_in hc1 h
      refine lv_iload_n hx hb dX2_cutTracksOn_17 rfl (lv_at hl 1 rfl) ?_
      refine lv_aload_n hx hb dX2_cutTracksOn_18 rfl (lv_at hl 0 rfl) ?_
      refine lv_iload hx hb dX2_cutTracksOn_19 (lv_at hl 3 rfl) ?_
      obtain ⟨r2, m3, e4, h⟩ := zb_some h
      refine z_calli hS (va_runV (As := [.int (x4)]) (rest := [.int (x2)]) C (c_X2_isCut l G e4 _) (cwV 1 hts gX2_cutTracksOn_X2_isCut rfl rfl rfl hv_X2_isCut ⟨Nat.le_of_ble_eq_true rfl, Nat.le_of_ble_eq_true rfl⟩) (z_preV Z hS hP (by decide) (z_E_0 _) rfl rfl) rfl rfl hl.1 rfl (lv_room (Nat.le_of_ble_eq_true rfl)) dX2_cutTracksOn_21 ⟨Nat.zero_le _, Nat.zero_le _⟩) (fun H locs hP hS => ?_)
      refine lv_if_eq (tgt := 31) hx hb dX2_cutTracksOn_24 (by decide) (fun hc5 => ?_) (fun hc5 => ?_)
      · have h := z_ip hc5 h
        refine lv_iconst (v := 0) hx hb dX2_cutTracksOn_31 (by decide) ?_
        refine lv_iadd hx hb dX2_cutTracksOn_32 ?_
        refine lv_istore_n (lv' := [(2, .int ((x2 + 0))), (0, .ref (G.2.1 (0))), (3, .int (x3)), (4, .int (x4))]) hx hb dX2_cutTracksOn_33 rfl hl (by decide) rfl (fun ls hl => ?_)
        refine lv_iinc (v := (x4 + 1)) (lv' := [(4, .int ((x4 + 1))), (2, .int ((x2 + 0))), (0, .ref (G.2.1 (0))), (3, .int (x3))]) hx hb dX2_cutTracksOn_34 hl (k := 3) rfl rfl (by decide) rfl (fun ls hl => ?_)
        refine lv_goto (tgt := 9) hx hb dX2_cutTracksOn_37 (by decide) ?_
        exact ih _ _ _ _ h _ _ hP hS ls (lv_sub hl [2, 1, 3, 0] rfl)
      · have h := z_in hc5 h
        refine lv_iconst (v := 1) hx hb dX2_cutTracksOn_27 (by decide) ?_
        refine lv_goto (tgt := 32) hx hb dX2_cutTracksOn_28 (by decide) ?_
        refine lv_iadd hx hb dX2_cutTracksOn_32 ?_
        refine lv_istore_n (lv' := [(2, .int ((x2 + 1))), (0, .ref (G.2.1 (0))), (3, .int (x3)), (4, .int (x4))]) hx hb dX2_cutTracksOn_33 rfl hl (by decide) rfl (fun ls hl => ?_)
        refine lv_iinc (v := (x4 + 1)) (lv' := [(4, .int ((x4 + 1))), (2, .int ((x2 + 1))), (0, .ref (G.2.1 (0))), (3, .int (x3))]) hx hb dX2_cutTracksOn_34 hl (k := 3) rfl rfl (by decide) rfl (fun ls hl => ?_)
        refine lv_goto (tgt := 9) hx hb dX2_cutTracksOn_37 (by decide) ?_
        exact ih _ _ _ _ h _ _ hP hS ls (lv_sub hl [2, 1, 3, 0] rfl)
set_option maxHeartbeats 4000000 in
set_option maxRecDepth 100000 in
theorem c_X2_cutTracksOn (l : Launch) (G : zG) {x1 : Int32} {μ mu1 : Mm} {r : Int32} (h : f_X2_cutTracksOn x1 μ = some (r, mu1)) (sz : Nat) : Met l yX2_cutTracksOn wsX2_cutTracksOn rm_X2_cutTracksOn (z_Pre G μ [.ref (G.2.1 (0)), .int (x1)] sz) (z_Qi G r mu1 sz) 0 0 (z_A G sz) := by
  refine z_start (cc := cX2_cutTracksOn) (maxL := 5) (ret := (some .int)) (own := RX2) (by decide) rfl rfl (Nat.le_of_ble_eq_true rfl) (fun p e s m args below meth c C hr hlk Z hP ls hl => ?_) sz
  have hx := C.1
  have hb := C.2.1
  have hts := C.2.2.2.2
  have hS : va_S (z_A G s.heap.size) s.heap s.heap [] := va_S.rf
  have hl : lv_has ls 5 [(0, .ref (G.2.1 (0))), (1, .int (x1))] := hl
  unfold f_X2_cutTracksOn at h
  refine lv_iconst (v := 0) hx hb dX2_cutTracksOn_0 (by decide) ?_
  refine lv_istore_n (lv' := [(2, .int (0)), (0, .ref (G.2.1 (0))), (1, .int (x1))]) hx hb dX2_cutTracksOn_1 rfl hl (by decide) rfl (fun ls hl => ?_)
  refine lv_iload_n hx hb dX2_cutTracksOn_2 rfl (lv_at hl 2 rfl) ?_
  refine lv_iconst (v := 4) hx hb dX2_cutTracksOn_3 (by decide) ?_
  refine lv_imul hx hb dX2_cutTracksOn_4 ?_
  refine lv_istore_n (lv' := [(3, .int ((x1 * 4))), (2, .int (0)), (0, .ref (G.2.1 (0))), (1, .int (x1))]) hx hb dX2_cutTracksOn_5 rfl hl (by decide) rfl (fun ls hl => ?_)
  refine lv_iload_n hx hb dX2_cutTracksOn_6 rfl (lv_at hl 0 rfl) ?_
  refine lv_istore (lv' := [(4, .int ((x1 * 4))), (3, .int ((x1 * 4))), (2, .int (0)), (0, .ref (G.2.1 (0))), (1, .int (x1))]) hx hb dX2_cutTracksOn_7 hl (by decide) rfl (fun ls hl => ?_)
  exact L_X2_cutTracksOn_b9 C hr hlk Z z_F _ _ _ _ h _ _ hP hS ls (lv_sub hl [3, 2, 1, 0] rfl)
abbrev rm_X2_clearestTrackOn : Room := { frames := 1, cells := 0, slots := 0, locals := 21 }
theorem hd_X2_clearestTrackOn : yX2_clearestTrackOn.cls ≠ "java/lang/invoke/MethodHandle" ∧ yX2_clearestTrackOn.cls ≠ "java/lang/invoke/VarHandle" ∧ (parseMethodDescriptor yX2_clearestTrackOn.desc).map (fun d => d.parameters.length) = some 1 := by decide +kernel
theorem hv_X2_clearestTrackOn : yX2_clearestTrackOn.cls = RX2 ∧ yX2_clearestTrackOn.cls ≠ "java/lang/invoke/MethodHandle" ∧ yX2_clearestTrackOn.cls ≠ "java/lang/invoke/VarHandle" ∧ (parseMethodDescriptor yX2_clearestTrackOn.desc).map (fun d => d.parameters.length) = some 1 := ⟨rfl, hd_X2_clearestTrackOn⟩
theorem wX2_clearestTrackOn_0 : Cond.fieldLink RX2 15 "WaxCopies$Wax" "clearness" "[I" ∈ wsX2_clearestTrackOn := by decide +kernel
theorem inX2_clearestTrackOn_X2 : ∀ w ∈ wsX20, w ∈ wsX2_clearestTrackOn := by decide +kernel
set_option maxHeartbeats 8000000 in
set_option maxRecDepth 100000 in
theorem L_X2_clearestTrackOn_b9 {p : Program} {l : Launch} {e : Env} {s : State} {m : MethodId} {args : Array Value} {below : List Frame} {meth : Method} {c : Code} {G : zG} {r : Int32} {mu1 : Mm}  (C : CallFix p m c cX2_clearestTrackOn 5 s args wsX2_clearestTrackOn RX2) (hr : meth.sig.returnType = (some .int)) (hlk : meth.locks = false) (Z : z_Z G (z_A G s.heap.size) s)  :
    ∀ (n : Nat) (x2 : Int32) (x3 : Int32) (x4 : Int32) (μ : Mm), f_X2_clearestTrackOn_b9  n x2 x3 x4 μ = some (r, mu1) → ∀ (H : Heap) (locs : List Loc), z_P G μ H → va_S (z_A G s.heap.size) s.heap H locs → ∀ ls : Array Slot, lv_has ls 5 [(0, .ref (G.2.1 (0))), (2, .int (x2)), (3, .int (x3)), (4, .int (x4))] → W p l e rm_X2_clearestTrackOn s m args below meth c H locs 0 0 (MQ below (z_Qi G r mu1 s.heap.size) args s 0 0 (z_A G s.heap.size)) (F0 m 9 ls []) := by
  have hx := C.1
  have hb := C.2.1
  have hts := C.2.2.2.2
  intro n
  induction n with
  | zero =>
    intro x2 x3 x4 μ h
    rw [f_X2_clearestTrackOn_b9] at h
    cases h
  | succ n ih =>
    intro x2 x3 x4 μ h H locs hP hS ls hl
    rw [f_X2_clearestTrackOn_b9] at h
    refine lv_iload hx hb dX2_clearestTrackOn_9 (lv_at hl 3 rfl) ?_
    refine lv_iload_n hx hb dX2_clearestTrackOn_11 rfl (lv_at hl 2 rfl) ?_
    refine lv_iconst (v := 4) hx hb dX2_clearestTrackOn_12 (by decide) ?_
    refine lv_iadd hx hb dX2_clearestTrackOn_13 ?_
    refine lv_icmp_ge (tgt := 56) hx hb dX2_clearestTrackOn_14 (by decide) (fun hc1 => ?_) (fun hc1 => ?_)
    · have h := z_ip hc1 h
      refine lv_iload_n hx hb dX2_clearestTrackOn_56 rfl (lv_at hl 1 rfl) ?_
      cases h
      exact z_reti C hr hlk hP hS dX2_clearestTrackOn_57
    · have h := z_in hc1 h
      refine lv_aload_n hx hb dX2_clearestTrackOn_17 rfl (lv_at hl 0 rfl) ?_
      refine lv_iload hx hb dX2_clearestTrackOn_18 (lv_at hl 3 rfl) ?_
      obtain ⟨r2, m3, e4, h⟩ := zb_some h
      refine z_calli hS (va_runV (As := [.int (x4)]) (rest := []) C (c_X2_isCut l G e4 _) (cwV 1 hts gX2_clearestTrackOn_X2_isCut rfl rfl rfl hv_X2_isCut ⟨Nat.le_of_ble_eq_true rfl, Nat.le_of_ble_eq_true rfl⟩) (z_preV Z hS hP (by decide) (z_E_0 _) rfl rfl) rfl rfl hl.1 rfl (lv_room (Nat.le_of_ble_eq_true rfl)) dX2_clearestTrackOn_20 ⟨Nat.zero_le _, Nat.zero_le _⟩) (fun H locs hP hS => ?_)
      refine lv_if_eq (tgt := 50) hx hb dX2_clearestTrackOn_23 (by decide) (fun hc5 => ?_) (fun hc5 => ?_)
      · have h := z_ip hc5 h
        refine lv_iinc (v := (x4 + 1)) (lv' := [(4, .int ((x4 + 1))), (0, .ref (G.2.1 (0))), (2, .int (x2)), (3, .int (x3))]) hx hb dX2_clearestTrackOn_50 hl (k := 3) rfl rfl (by decide) rfl (fun ls hl => ?_)
        refine lv_goto (tgt := 9) hx hb dX2_clearestTrackOn_53 (by decide) ?_
        exact ih _ _ _ _ h _ _ hP hS ls (lv_sub hl [1, 2, 3, 0] rfl)
      · have h := z_in hc5 h
        refine lv_iload_n hx hb dX2_clearestTrackOn_26 rfl (lv_at hl 1 rfl) ?_
        refine lv_iconst (v := (-1)) hx hb dX2_clearestTrackOn_27 (by decide) ?_
        refine lv_icmp_eq (tgt := 47) hx hb dX2_clearestTrackOn_28 (by decide) (fun hc6 => ?_) (fun hc6 => ?_)
        · have h := z_ip hc6 h
          refine lv_iload hx hb dX2_clearestTrackOn_47 (lv_at hl 3 rfl) ?_
          refine lv_istore_n (lv' := [(2, .int (x4)), (0, .ref (G.2.1 (0))), (3, .int (x3)), (4, .int (x4))]) hx hb dX2_clearestTrackOn_49 rfl hl (by decide) rfl (fun ls hl => ?_)
          refine lv_iinc (v := (x4 + 1)) (lv' := [(4, .int ((x4 + 1))), (2, .int (x4)), (0, .ref (G.2.1 (0))), (3, .int (x3))]) hx hb dX2_clearestTrackOn_50 hl (k := 3) rfl rfl (by decide) rfl (fun ls hl => ?_)
          refine lv_goto (tgt := 9) hx hb dX2_clearestTrackOn_53 (by decide) ?_
          exact ih _ _ _ _ h _ _ hP hS ls (lv_sub hl [2, 1, 3, 0] rfl)
        · have h := z_in hc6 h
          refine lv_aload_n hx hb dX2_clearestTrackOn_31 rfl (lv_at hl 0 rfl) ?_
          refine z_get C Z hP (k := 0) (ci := 2) (j := 1) (N := 19) (v := .ref (G.2.1 (2))) (by decide) (z_E_0 _) rfl inX2_clearestTrackOn_X2 (by decide) wX2_clearestTrackOn_0 rfl dX2_clearestTrackOn_32 ?_
          refine lv_iload hx hb dX2_clearestTrackOn_35 (lv_at hl 3 rfl) ?_
          obtain ⟨hg7, h⟩ := z_g h
          refine z_iald C Z hP (k := 2) (n := 24) (j := (x4).toNatClampNeg) (by decide) (z_E_2 _) hg7 rfl dX2_clearestTrackOn_37 ?_
          refine lv_aload_n hx hb dX2_clearestTrackOn_38 rfl (lv_at hl 0 rfl) ?_
          refine z_get C Z hP (k := 0) (ci := 2) (j := 1) (N := 19) (v := .ref (G.2.1 (2))) (by decide) (z_E_0 _) rfl inX2_clearestTrackOn_X2 (by decide) wX2_clearestTrackOn_0 rfl dX2_clearestTrackOn_39 ?_
          refine lv_iload_n hx hb dX2_clearestTrackOn_42 rfl (lv_at hl 1 rfl) ?_
          obtain ⟨hg8, h⟩ := z_g h
          refine z_iald C Z hP (k := 2) (n := 24) (j := (x2).toNatClampNeg) (by decide) (z_E_2 _) hg8 rfl dX2_clearestTrackOn_43 ?_
          refine lv_icmp_le (tgt := 50) hx hb dX2_clearestTrackOn_44 (by decide) (fun hc9 => ?_) (fun hc9 => ?_)
          · have h := z_ip hc9 h
            refine lv_iinc (v := (x4 + 1)) (lv' := [(4, .int ((x4 + 1))), (0, .ref (G.2.1 (0))), (2, .int (x2)), (3, .int (x3))]) hx hb dX2_clearestTrackOn_50 hl (k := 3) rfl rfl (by decide) rfl (fun ls hl => ?_)
            refine lv_goto (tgt := 9) hx hb dX2_clearestTrackOn_53 (by decide) ?_
            exact ih _ _ _ _ h _ _ hP hS ls (lv_sub hl [1, 2, 3, 0] rfl)
          · have h := z_in hc9 h
            refine lv_iload hx hb dX2_clearestTrackOn_47 (lv_at hl 3 rfl) ?_
            refine lv_istore_n (lv' := [(2, .int (x4)), (0, .ref (G.2.1 (0))), (3, .int (x3)), (4, .int (x4))]) hx hb dX2_clearestTrackOn_49 rfl hl (by decide) rfl (fun ls hl => ?_)
            refine lv_iinc (v := (x4 + 1)) (lv' := [(4, .int ((x4 + 1))), (2, .int (x4)), (0, .ref (G.2.1 (0))), (3, .int (x3))]) hx hb dX2_clearestTrackOn_50 hl (k := 3) rfl rfl (by decide) rfl (fun ls hl => ?_)
            refine lv_goto (tgt := 9) hx hb dX2_clearestTrackOn_53 (by decide) ?_
            exact ih _ _ _ _ h _ _ hP hS ls (lv_sub hl [2, 1, 3, 0] rfl)
set_option maxHeartbeats 4000000 in
set_option maxRecDepth 100000 in
theorem c_X2_clearestTrackOn (l : Launch) (G : zG) {x1 : Int32} {μ mu1 : Mm} {r : Int32} (h : f_X2_clearestTrackOn x1 μ = some (r, mu1)) (sz : Nat) : Met l yX2_clearestTrackOn wsX2_clearestTrackOn rm_X2_clearestTrackOn (z_Pre G μ [.ref (G.2.1 (0)), .int (x1)] sz) (z_Qi G r mu1 sz) 0 0 (z_A G sz) := by
  refine z_start (cc := cX2_clearestTrackOn) (maxL := 5) (ret := (some .int)) (own := RX2) (by decide) rfl rfl (Nat.le_of_ble_eq_true rfl) (fun p e s m args below meth c C hr hlk Z hP ls hl => ?_) sz
  have hx := C.1
  have hb := C.2.1
  have hts := C.2.2.2.2
  have hS : va_S (z_A G s.heap.size) s.heap s.heap [] := va_S.rf
  have hl : lv_has ls 5 [(0, .ref (G.2.1 (0))), (1, .int (x1))] := hl
  unfold f_X2_clearestTrackOn at h
  refine lv_iconst (v := (-1)) hx hb dX2_clearestTrackOn_0 (by decide) ?_
  refine lv_istore_n (lv' := [(2, .int ((-1))), (0, .ref (G.2.1 (0))), (1, .int (x1))]) hx hb dX2_clearestTrackOn_1 rfl hl (by decide) rfl (fun ls hl => ?_)
  refine lv_iload_n hx hb dX2_clearestTrackOn_2 rfl (lv_at hl 2 rfl) ?_
  refine lv_iconst (v := 4) hx hb dX2_clearestTrackOn_3 (by decide) ?_
  refine lv_imul hx hb dX2_clearestTrackOn_4 ?_
  refine lv_istore_n (lv' := [(3, .int ((x1 * 4))), (2, .int ((-1))), (0, .ref (G.2.1 (0))), (1, .int (x1))]) hx hb dX2_clearestTrackOn_5 rfl hl (by decide) rfl (fun ls hl => ?_)
  refine lv_iload_n hx hb dX2_clearestTrackOn_6 rfl (lv_at hl 0 rfl) ?_
  refine lv_istore (lv' := [(4, .int ((x1 * 4))), (3, .int ((x1 * 4))), (2, .int ((-1))), (0, .ref (G.2.1 (0))), (1, .int (x1))]) hx hb dX2_clearestTrackOn_7 hl (by decide) rfl (fun ls hl => ?_)
  exact L_X2_clearestTrackOn_b9 C hr hlk Z z_F _ _ _ _ h _ _ hP hS ls (lv_sub hl [3, 2, 1, 0] rfl)
abbrev rm_X2_cylinderProperty : Room := { frames := 2, cells := 0, slots := 0, locals := 45 }
theorem hd_X2_cylinderProperty : yX2_cylinderProperty.cls ≠ "java/lang/invoke/MethodHandle" ∧ yX2_cylinderProperty.cls ≠ "java/lang/invoke/VarHandle" ∧ (parseMethodDescriptor yX2_cylinderProperty.desc).map (fun d => d.parameters.length) = some 2 := by decide +kernel
theorem hv_X2_cylinderProperty : yX2_cylinderProperty.cls = RX2 ∧ yX2_cylinderProperty.cls ≠ "java/lang/invoke/MethodHandle" ∧ yX2_cylinderProperty.cls ≠ "java/lang/invoke/VarHandle" ∧ (parseMethodDescriptor yX2_cylinderProperty.desc).map (fun d => d.parameters.length) = some 2 := ⟨rfl, hd_X2_cylinderProperty⟩
theorem wX2_cylinderProperty_0 : Cond.fieldLink RX2 33 "WaxCopies$Wax" "layers" "[I" ∈ wsX2_cylinderProperty := by decide +kernel
theorem inX2_cylinderProperty_X2 : ∀ w ∈ wsX20, w ∈ wsX2_cylinderProperty := by decide +kernel
theorem wX2_cylinderProperty_2 : Cond.fieldLink RX2 36 "WaxCopies$Wax" "shavings" "[I" ∈ wsX2_cylinderProperty := by decide +kernel
set_option maxHeartbeats 4000000 in
set_option maxRecDepth 100000 in
theorem c_X2_cylinderProperty (l : Launch) (G : zG) {x1 : Int32} {x2 : Int32} {μ mu1 : Mm} {r : Int32} (h : f_X2_cylinderProperty x1 x2 μ = some (r, mu1)) (sz : Nat) : Met l yX2_cylinderProperty wsX2_cylinderProperty rm_X2_cylinderProperty (z_Pre G μ [.ref (G.2.1 (0)), .int (x1), .int (x2)] sz) (z_Qi G r mu1 sz) 0 0 (z_A G sz) := by
  refine z_start (cc := cX2_cylinderProperty) (maxL := 3) (ret := (some .int)) (own := RX2) (by decide) rfl rfl (Nat.le_of_ble_eq_true rfl) (fun p e s m args below meth c C hr hlk Z hP ls hl => ?_) sz
  have hx := C.1
  have hb := C.2.1
  have hts := C.2.2.2.2
  have hS : va_S (z_A G s.heap.size) s.heap s.heap [] := va_S.rf
  have hl : lv_has ls 3 [(0, .ref (G.2.1 (0))), (1, .int (x1)), (2, .int (x2))] := hl
  unfold f_X2_cylinderProperty at h
  refine lv_iload_n hx hb dX2_cylinderProperty_0 rfl (lv_at hl 2 rfl) ?_
  by_cases hc1 : x2 = 0
  · have h := z_ip hc1 h
    refine lv_tableIn (tgt := 32) (off := 31) hx hb dX2_cylinderProperty_1 (by rw [hc1]; decide) (by rw [hc1]; decide) (by rw [hc1]; rfl) (by decide) ?_
    refine lv_aload_n hx hb dX2_cylinderProperty_32 rfl (lv_at hl 0 rfl) ?_
    refine z_get C Z hP (k := 0) (ci := 2) (j := 7) (N := 19) (v := .ref (G.2.1 (8))) (by decide) (z_E_0 _) rfl inX2_cylinderProperty_X2 (by decide) wX2_cylinderProperty_0 rfl dX2_cylinderProperty_33 ?_
    refine lv_iload_n hx hb dX2_cylinderProperty_36 rfl (lv_at hl 1 rfl) ?_
    obtain ⟨hg2, h⟩ := z_g h
    refine z_iald C Z hP (k := 8) (n := 6) (j := (x1).toNatClampNeg) (by decide) (z_E_8 _) hg2 rfl dX2_cylinderProperty_37 ?_
    cases h
    exact z_reti C hr hlk hP hS dX2_cylinderProperty_38
  · have h := z_in hc1 h
    by_cases hc3 : x2 = 1
    · have h := z_ip hc3 h
      refine lv_tableIn (tgt := 39) (off := 38) hx hb dX2_cylinderProperty_1 (by rw [hc3]; decide) (by rw [hc3]; decide) (by rw [hc3]; rfl) (by decide) ?_
      refine lv_aload_n hx hb dX2_cylinderProperty_39 rfl (lv_at hl 0 rfl) ?_
      refine lv_iload_n hx hb dX2_cylinderProperty_40 rfl (lv_at hl 1 rfl) ?_
      obtain ⟨r4, m5, e6, h⟩ := zb_some h
      refine z_calli hS (va_runV (As := [.int (x1)]) (rest := []) C (c_X2_cutTracksOn l G e6 _) (cwV 1 hts gX2_cylinderProperty_X2_cutTracksOn rfl rfl rfl hv_X2_cutTracksOn ⟨Nat.le_of_ble_eq_true rfl, Nat.le_of_ble_eq_true rfl⟩) (z_preV Z hS hP (by decide) (z_E_0 _) rfl rfl) rfl rfl hl.1 rfl (lv_room (Nat.le_of_ble_eq_true rfl)) dX2_cylinderProperty_41 ⟨Nat.zero_le _, Nat.zero_le _⟩) (fun H locs hP hS => ?_)
      cases h
      exact z_reti C hr hlk hP hS dX2_cylinderProperty_44
    · have h := z_in hc3 h
      by_cases hc7 : x2 = 2
      · have h := z_ip hc7 h
        refine lv_tableIn (tgt := 45) (off := 44) hx hb dX2_cylinderProperty_1 (by rw [hc7]; decide) (by rw [hc7]; decide) (by rw [hc7]; rfl) (by decide) ?_
        refine lv_aload_n hx hb dX2_cylinderProperty_45 rfl (lv_at hl 0 rfl) ?_
        refine lv_iload_n hx hb dX2_cylinderProperty_46 rfl (lv_at hl 1 rfl) ?_
        obtain ⟨r8, m9, e10, h⟩ := zb_some h
        refine z_calli hS (va_runV (As := [.int (x1)]) (rest := []) C (c_X2_greatestDepth l G e10 _) (cwV 1 hts gX2_cylinderProperty_X2_greatestDepth rfl rfl rfl hv_X2_greatestDepth ⟨Nat.le_of_ble_eq_true rfl, Nat.le_of_ble_eq_true rfl⟩) (z_preV Z hS hP (by decide) (z_E_0 _) rfl rfl) rfl rfl hl.1 rfl (lv_room (Nat.le_of_ble_eq_true rfl)) dX2_cylinderProperty_47 ⟨Nat.zero_le _, Nat.zero_le _⟩) (fun H locs hP hS => ?_)
        cases h
        exact z_reti C hr hlk hP hS dX2_cylinderProperty_50
      · have h := z_in hc7 h
        by_cases hc11 : x2 = 3
        · have h := z_ip hc11 h
          refine lv_tableIn (tgt := 51) (off := 50) hx hb dX2_cylinderProperty_1 (by rw [hc11]; decide) (by rw [hc11]; decide) (by rw [hc11]; rfl) (by decide) ?_
          refine lv_aload_n hx hb dX2_cylinderProperty_51 rfl (lv_at hl 0 rfl) ?_
          refine lv_iload_n hx hb dX2_cylinderProperty_52 rfl (lv_at hl 1 rfl) ?_
          obtain ⟨r12, m13, e14, h⟩ := zb_some h
          refine z_calli hS (va_runV (As := [.int (x1)]) (rest := []) C (c_X2_clearestTrackOn l G e14 _) (cwV 1 hts gX2_cylinderProperty_X2_clearestTrackOn rfl rfl rfl hv_X2_clearestTrackOn ⟨Nat.le_of_ble_eq_true rfl, Nat.le_of_ble_eq_true rfl⟩) (z_preV Z hS hP (by decide) (z_E_0 _) rfl rfl) rfl rfl hl.1 rfl (lv_room (Nat.le_of_ble_eq_true rfl)) dX2_cylinderProperty_53 ⟨Nat.zero_le _, Nat.zero_le _⟩) (fun H locs hP hS => ?_)
          cases h
          exact z_reti C hr hlk hP hS dX2_cylinderProperty_56
        · have h := z_in hc11 h
          refine lv_tableOut (tgt := 57) hx hb dX2_cylinderProperty_1 (by
            have qhc1 : (x2).toInt ≠ 0 := fun q => hc1 (Int32.toInt_inj.mp (q.trans (by decide)))
            have qhc3 : (x2).toInt ≠ 1 := fun q => hc3 (Int32.toInt_inj.mp (q.trans (by decide)))
            have qhc7 : (x2).toInt ≠ 2 := fun q => hc7 (Int32.toInt_inj.mp (q.trans (by decide)))
            have qhc11 : (x2).toInt ≠ 3 := fun q => hc11 (Int32.toInt_inj.mp (q.trans (by decide)))
            omega) (by decide) ?_
          refine lv_aload_n hx hb dX2_cylinderProperty_57 rfl (lv_at hl 0 rfl) ?_
          refine z_get C Z hP (k := 0) (ci := 2) (j := 8) (N := 19) (v := .ref (G.2.1 (9))) (by decide) (z_E_0 _) rfl inX2_cylinderProperty_X2 (by decide) wX2_cylinderProperty_2 rfl dX2_cylinderProperty_58 ?_
          refine lv_iload_n hx hb dX2_cylinderProperty_61 rfl (lv_at hl 1 rfl) ?_
          obtain ⟨hg15, h⟩ := z_g h
          refine z_iald C Z hP (k := 9) (n := 6) (j := (x1).toNatClampNeg) (by decide) (z_E_9 _) hg15 rfl dX2_cylinderProperty_62 ?_
          cases h
          exact z_reti C hr hlk hP hS dX2_cylinderProperty_63
abbrev rm_X2_cutTracks : Room := { frames := 2, cells := 0, slots := 0, locals := 45 }
theorem hd_X2_cutTracks : yX2_cutTracks.cls ≠ "java/lang/invoke/MethodHandle" ∧ yX2_cutTracks.cls ≠ "java/lang/invoke/VarHandle" ∧ (parseMethodDescriptor yX2_cutTracks.desc).map (fun d => d.parameters.length) = some 0 := by decide +kernel
theorem hv_X2_cutTracks : yX2_cutTracks.cls = RX2 ∧ yX2_cutTracks.cls ≠ "java/lang/invoke/MethodHandle" ∧ yX2_cutTracks.cls ≠ "java/lang/invoke/VarHandle" ∧ (parseMethodDescriptor yX2_cutTracks.desc).map (fun d => d.parameters.length) = some 0 := ⟨rfl, hd_X2_cutTracks⟩
set_option maxHeartbeats 8000000 in
set_option maxRecDepth 100000 in
theorem L_X2_cutTracks_b4 {p : Program} {l : Launch} {e : Env} {s : State} {m : MethodId} {args : Array Value} {below : List Frame} {meth : Method} {c : Code} {G : zG} {r : Int32} {mu1 : Mm}  (C : CallFix p m c cX2_cutTracks 3 s args wsX2_cutTracks RX2) (hr : meth.sig.returnType = (some .int)) (hlk : meth.locks = false) (Z : z_Z G (z_A G s.heap.size) s)  :
    ∀ (n : Nat) (x1 : Int32) (x2 : Int32) (μ : Mm), f_X2_cutTracks_b4  n x1 x2 μ = some (r, mu1) → ∀ (H : Heap) (locs : List Loc), z_P G μ H → va_S (z_A G s.heap.size) s.heap H locs → ∀ ls : Array Slot, lv_has ls 3 [(0, .ref (G.2.1 (0))), (1, .int (x1)), (2, .int (x2))] → W p l e rm_X2_cutTracks s m args below meth c H locs 0 0 (MQ below (z_Qi G r mu1 s.heap.size) args s 0 0 (z_A G s.heap.size)) (F0 m 4 ls []) := by
  have hx := C.1
  have hb := C.2.1
  have hts := C.2.2.2.2
  intro n
  induction n with
  | zero =>
    intro x1 x2 μ h
    rw [f_X2_cutTracks_b4] at h
    cases h
  | succ n ih =>
    intro x1 x2 μ h H locs hP hS ls hl
    rw [f_X2_cutTracks_b4] at h
    refine lv_iload_n hx hb dX2_cutTracks_4 rfl (lv_at hl 2 rfl) ?_
    refine lv_bipush (v := 6) hx hb dX2_cutTracks_5 (by decide) ?_
    refine lv_icmp_ge (tgt := 24) hx hb dX2_cutTracks_7 (by decide) (fun hc1 => ?_) (fun hc1 => ?_)
    · have h := z_ip hc1 h
      refine lv_iload_n hx hb dX2_cutTracks_24 rfl (lv_at hl 1 rfl) ?_
      cases h
      exact z_reti C hr hlk hP hS dX2_cutTracks_25
    · have h := z_in hc1 h
      refine lv_iload_n hx hb dX2_cutTracks_10 rfl (lv_at hl 1 rfl) ?_
      refine lv_aload_n hx hb dX2_cutTracks_11 rfl (lv_at hl 0 rfl) ?_
      refine lv_iload_n hx hb dX2_cutTracks_12 rfl (lv_at hl 2 rfl) ?_
      obtain ⟨r2, m3, e4, h⟩ := zb_some h
      refine z_calli hS (va_runV (As := [.int (x2)]) (rest := [.int (x1)]) C (c_X2_cutTracksOn l G e4 _) (cwV 1 hts gX2_cutTracks_X2_cutTracksOn rfl rfl rfl hv_X2_cutTracksOn ⟨Nat.le_of_ble_eq_true rfl, Nat.le_of_ble_eq_true rfl⟩) (z_preV Z hS hP (by decide) (z_E_0 _) rfl rfl) rfl rfl hl.1 rfl (lv_room (Nat.le_of_ble_eq_true rfl)) dX2_cutTracks_13 ⟨Nat.zero_le _, Nat.zero_le _⟩) (fun H locs hP hS => ?_)
      refine lv_iadd hx hb dX2_cutTracks_16 ?_
      refine lv_istore_n (lv' := [(1, .int ((x1 + r2))), (0, .ref (G.2.1 (0))), (2, .int (x2))]) hx hb dX2_cutTracks_17 rfl hl (by decide) rfl (fun ls hl => ?_)
      refine lv_iinc (v := (x2 + 1)) (lv' := [(2, .int ((x2 + 1))), (1, .int ((x1 + r2))), (0, .ref (G.2.1 (0)))]) hx hb dX2_cutTracks_18 hl (k := 2) rfl rfl (by decide) rfl (fun ls hl => ?_)
      refine lv_goto (tgt := 4) hx hb dX2_cutTracks_21 (by decide) ?_
      exact ih _ _ _ h _ _ hP hS ls (lv_sub hl [2, 1, 0] rfl)
set_option maxHeartbeats 4000000 in
set_option maxRecDepth 100000 in
theorem c_X2_cutTracks (l : Launch) (G : zG) {μ mu1 : Mm} {r : Int32} (h : f_X2_cutTracks μ = some (r, mu1)) (sz : Nat) : Met l yX2_cutTracks wsX2_cutTracks rm_X2_cutTracks (z_Pre G μ [.ref (G.2.1 (0))] sz) (z_Qi G r mu1 sz) 0 0 (z_A G sz) := by
  refine z_start (cc := cX2_cutTracks) (maxL := 3) (ret := (some .int)) (own := RX2) (by decide) rfl rfl (Nat.le_of_ble_eq_true rfl) (fun p e s m args below meth c C hr hlk Z hP ls hl => ?_) sz
  have hx := C.1
  have hb := C.2.1
  have hts := C.2.2.2.2
  have hS : va_S (z_A G s.heap.size) s.heap s.heap [] := va_S.rf
  have hl : lv_has ls 3 [(0, .ref (G.2.1 (0)))] := hl
  unfold f_X2_cutTracks at h
  refine lv_iconst (v := 0) hx hb dX2_cutTracks_0 (by decide) ?_
  refine lv_istore_n (lv' := [(1, .int (0)), (0, .ref (G.2.1 (0)))]) hx hb dX2_cutTracks_1 rfl hl (by decide) rfl (fun ls hl => ?_)
  refine lv_iconst (v := 0) hx hb dX2_cutTracks_2 (by decide) ?_
  refine lv_istore_n (lv' := [(2, .int (0)), (1, .int (0)), (0, .ref (G.2.1 (0)))]) hx hb dX2_cutTracks_3 rfl hl (by decide) rfl (fun ls hl => ?_)
  exact L_X2_cutTracks_b4 C hr hlk Z z_F _ _ _ h _ _ hP hS ls (lv_sub hl [2, 1, 0] rfl)
abbrev rm_X2_layersTogether : Room := { frames := 0, cells := 0, slots := 0, locals := 0 }
theorem hd_X2_layersTogether : yX2_layersTogether.cls ≠ "java/lang/invoke/MethodHandle" ∧ yX2_layersTogether.cls ≠ "java/lang/invoke/VarHandle" ∧ (parseMethodDescriptor yX2_layersTogether.desc).map (fun d => d.parameters.length) = some 0 := by decide +kernel
theorem hv_X2_layersTogether : yX2_layersTogether.cls = RX2 ∧ yX2_layersTogether.cls ≠ "java/lang/invoke/MethodHandle" ∧ yX2_layersTogether.cls ≠ "java/lang/invoke/VarHandle" ∧ (parseMethodDescriptor yX2_layersTogether.desc).map (fun d => d.parameters.length) = some 0 := ⟨rfl, hd_X2_layersTogether⟩
theorem wX2_layersTogether_0 : Cond.fieldLink RX2 33 "WaxCopies$Wax" "layers" "[I" ∈ wsX2_layersTogether := by decide +kernel
theorem inX2_layersTogether_X2 : ∀ w ∈ wsX20, w ∈ wsX2_layersTogether := by decide +kernel
set_option maxHeartbeats 8000000 in
set_option maxRecDepth 100000 in
theorem L_X2_layersTogether_b4 {p : Program} {l : Launch} {e : Env} {s : State} {m : MethodId} {args : Array Value} {below : List Frame} {meth : Method} {c : Code} {G : zG} {r : Int32} {mu1 : Mm}  (C : CallFix p m c cX2_layersTogether 3 s args wsX2_layersTogether RX2) (hr : meth.sig.returnType = (some .int)) (hlk : meth.locks = false) (Z : z_Z G (z_A G s.heap.size) s)  :
    ∀ (n : Nat) (x1 : Int32) (x2 : Int32) (μ : Mm), f_X2_layersTogether_b4  n x1 x2 μ = some (r, mu1) → ∀ (H : Heap) (locs : List Loc), z_P G μ H → va_S (z_A G s.heap.size) s.heap H locs → ∀ ls : Array Slot, lv_has ls 3 [(0, .ref (G.2.1 (0))), (1, .int (x1)), (2, .int (x2))] → W p l e rm_X2_layersTogether s m args below meth c H locs 0 0 (MQ below (z_Qi G r mu1 s.heap.size) args s 0 0 (z_A G s.heap.size)) (F0 m 4 ls []) := by
  have hx := C.1
  have hb := C.2.1
  have hts := C.2.2.2.2
  intro n
  induction n with
  | zero =>
    intro x1 x2 μ h
    rw [f_X2_layersTogether_b4] at h
    cases h
  | succ n ih =>
    intro x1 x2 μ h H locs hP hS ls hl
    rw [f_X2_layersTogether_b4] at h
    refine lv_iload_n hx hb dX2_layersTogether_4 rfl (lv_at hl 2 rfl) ?_
    refine lv_bipush (v := 6) hx hb dX2_layersTogether_5 (by decide) ?_
    refine lv_icmp_ge (tgt := 25) hx hb dX2_layersTogether_7 (by decide) (fun hc1 => ?_) (fun hc1 => ?_)
    · have h := z_ip hc1 h
      refine lv_iload_n hx hb dX2_layersTogether_25 rfl (lv_at hl 1 rfl) ?_
      cases h
      exact z_reti C hr hlk hP hS dX2_layersTogether_26
    · have h := z_in hc1 h
      refine lv_iload_n hx hb dX2_layersTogether_10 rfl (lv_at hl 1 rfl) ?_
      refine lv_aload_n hx hb dX2_layersTogether_11 rfl (lv_at hl 0 rfl) ?_
      refine z_get C Z hP (k := 0) (ci := 2) (j := 7) (N := 19) (v := .ref (G.2.1 (8))) (by decide) (z_E_0 _) rfl inX2_layersTogether_X2 (by decide) wX2_layersTogether_0 rfl dX2_layersTogether_12 ?_
      refine lv_iload_n hx hb dX2_layersTogether_15 rfl (lv_at hl 2 rfl) ?_
      obtain ⟨hg2, h⟩ := z_g h
      refine z_iald C Z hP (k := 8) (n := 6) (j := (x2).toNatClampNeg) (by decide) (z_E_8 _) hg2 rfl dX2_layersTogether_16 ?_
      refine lv_iadd hx hb dX2_layersTogether_17 ?_
      refine lv_istore_n (lv' := [(1, .int ((x1 + (μ (8) ((x2).toNatClampNeg))))), (0, .ref (G.2.1 (0))), (2, .int (x2))]) hx hb dX2_layersTogether_18 rfl hl (by decide) rfl (fun ls hl => ?_)
      refine lv_iinc (v := (x2 + 1)) (lv' := [(2, .int ((x2 + 1))), (1, .int ((x1 + (μ (8) ((x2).toNatClampNeg))))), (0, .ref (G.2.1 (0)))]) hx hb dX2_layersTogether_19 hl (k := 2) rfl rfl (by decide) rfl (fun ls hl => ?_)
      refine lv_goto (tgt := 4) hx hb dX2_layersTogether_22 (by decide) ?_
      exact ih _ _ _ h _ _ hP hS ls (lv_sub hl [2, 1, 0] rfl)
set_option maxHeartbeats 4000000 in
set_option maxRecDepth 100000 in
theorem c_X2_layersTogether (l : Launch) (G : zG) {μ mu1 : Mm} {r : Int32} (h : f_X2_layersTogether μ = some (r, mu1)) (sz : Nat) : Met l yX2_layersTogether wsX2_layersTogether rm_X2_layersTogether (z_Pre G μ [.ref (G.2.1 (0))] sz) (z_Qi G r mu1 sz) 0 0 (z_A G sz) := by
  refine z_start (cc := cX2_layersTogether) (maxL := 3) (ret := (some .int)) (own := RX2) (by decide) rfl rfl (Nat.le_of_ble_eq_true rfl) (fun p e s m args below meth c C hr hlk Z hP ls hl => ?_) sz
  have hx := C.1
  have hb := C.2.1
  have hts := C.2.2.2.2
  have hS : va_S (z_A G s.heap.size) s.heap s.heap [] := va_S.rf
  have hl : lv_has ls 3 [(0, .ref (G.2.1 (0)))] := hl
  unfold f_X2_layersTogether at h
  refine lv_iconst (v := 0) hx hb dX2_layersTogether_0 (by decide) ?_
  refine lv_istore_n (lv' := [(1, .int (0)), (0, .ref (G.2.1 (0)))]) hx hb dX2_layersTogether_1 rfl hl (by decide) rfl (fun ls hl => ?_)
  refine lv_iconst (v := 0) hx hb dX2_layersTogether_2 (by decide) ?_
  refine lv_istore_n (lv' := [(2, .int (0)), (1, .int (0)), (0, .ref (G.2.1 (0)))]) hx hb dX2_layersTogether_3 rfl hl (by decide) rfl (fun ls hl => ?_)
  exact L_X2_layersTogether_b4 C hr hlk Z z_F _ _ _ h _ _ hP hS ls (lv_sub hl [2, 1, 0] rfl)
abbrev rm_X2_number : Room := { frames := 3, cells := 0, slots := 0, locals := 67 }
theorem hd_X2_number : yX2_number.cls ≠ "java/lang/invoke/MethodHandle" ∧ yX2_number.cls ≠ "java/lang/invoke/VarHandle" ∧ (parseMethodDescriptor yX2_number.desc).map (fun d => d.parameters.length) = some 1 := by decide +kernel
theorem hv_X2_number : yX2_number.cls = RX2 ∧ yX2_number.cls ≠ "java/lang/invoke/MethodHandle" ∧ yX2_number.cls ≠ "java/lang/invoke/VarHandle" ∧ (parseMethodDescriptor yX2_number.desc).map (fun d => d.parameters.length) = some 1 := ⟨rfl, hd_X2_number⟩
theorem wX2_number_0 : Cond.fieldLink RX2 39 "WaxCopies$Wax" "sharpness" "I" ∈ wsX2_number := by decide +kernel
theorem inX2_number_X2 : ∀ w ∈ wsX20, w ∈ wsX2_number := by decide +kernel
theorem wX2_number_2 : Cond.fieldLink RX2 43 "WaxCopies$Wax" "spring" "I" ∈ wsX2_number := by decide +kernel
theorem wX2_number_3 : Cond.fieldLink RX2 49 "WaxCopies$Wax" "spoken" "I" ∈ wsX2_number := by decide +kernel
theorem wX2_number_4 : Cond.fieldLink RX2 52 "WaxCopies$Wax" "copied" "I" ∈ wsX2_number := by decide +kernel
theorem wX2_number_5 : Cond.fieldLink RX2 55 "WaxCopies$Wax" "played" "I" ∈ wsX2_number := by decide +kernel
theorem wX2_number_6 : Cond.fieldLink RX2 58 "WaxCopies$Wax" "layersShaved" "I" ∈ wsX2_number := by decide +kernel
theorem wX2_number_7 : Cond.fieldLink RX2 61 "WaxCopies$Wax" "layersCome" "I" ∈ wsX2_number := by decide +kernel
theorem wX2_number_8 : Cond.fieldLink RX2 64 "WaxCopies$Wax" "layersGone" "I" ∈ wsX2_number := by decide +kernel
theorem wX2_number_9 : Cond.fieldLink RX2 67 "WaxCopies$Wax" "refused" "I" ∈ wsX2_number := by decide +kernel
set_option maxHeartbeats 4000000 in
set_option maxRecDepth 100000 in
theorem c_X2_number (l : Launch) (G : zG) {x1 : Int32} {μ mu1 : Mm} {r : Int32} (h : f_X2_number x1 μ = some (r, mu1)) (sz : Nat) : Met l yX2_number wsX2_number rm_X2_number (z_Pre G μ [.ref (G.2.1 (0)), .int (x1)] sz) (z_Qi G r mu1 sz) 0 0 (z_A G sz) := by
  refine z_start (cc := cX2_number) (maxL := 2) (ret := (some .int)) (own := RX2) (by decide) rfl rfl (Nat.le_of_ble_eq_true rfl) (fun p e s m args below meth c C hr hlk Z hP ls hl => ?_) sz
  have hx := C.1
  have hb := C.2.1
  have hts := C.2.2.2.2
  have hS : va_S (z_A G s.heap.size) s.heap s.heap [] := va_S.rf
  have hl : lv_has ls 2 [(0, .ref (G.2.1 (0))), (1, .int (x1))] := hl
  unfold f_X2_number at h
  refine lv_iload_n hx hb dX2_number_0 rfl (lv_at hl 1 rfl) ?_
  by_cases hc1 : x1 = 0
  · have h := z_ip hc1 h
    refine lv_tableIn (tgt := 60) (off := 59) hx hb dX2_number_1 (by rw [hc1]; decide) (by rw [hc1]; decide) (by rw [hc1]; rfl) (by decide) ?_
    refine lv_aload_n hx hb dX2_number_60 rfl (lv_at hl 0 rfl) ?_
    refine z_get C Z hP (k := 0) (ci := 2) (j := 9) (N := 19) (v := .int ((μ 0 9))) (by decide) (z_E_0 _) rfl inX2_number_X2 (by decide) wX2_number_0 rfl dX2_number_61 ?_
    cases h
    exact z_reti C hr hlk hP hS dX2_number_64
  · have h := z_in hc1 h
    by_cases hc2 : x1 = 1
    · have h := z_ip hc2 h
      refine lv_tableIn (tgt := 65) (off := 64) hx hb dX2_number_1 (by rw [hc2]; decide) (by rw [hc2]; decide) (by rw [hc2]; rfl) (by decide) ?_
      refine lv_aload_n hx hb dX2_number_65 rfl (lv_at hl 0 rfl) ?_
      refine z_get C Z hP (k := 0) (ci := 2) (j := 10) (N := 19) (v := .int ((μ 0 10))) (by decide) (z_E_0 _) rfl inX2_number_X2 (by decide) wX2_number_2 rfl dX2_number_66 ?_
      cases h
      exact z_reti C hr hlk hP hS dX2_number_69
    · have h := z_in hc2 h
      by_cases hc3 : x1 = 2
      · have h := z_ip hc3 h
        refine lv_tableIn (tgt := 70) (off := 69) hx hb dX2_number_1 (by rw [hc3]; decide) (by rw [hc3]; decide) (by rw [hc3]; rfl) (by decide) ?_
        refine lv_aload_n hx hb dX2_number_70 rfl (lv_at hl 0 rfl) ?_
        obtain ⟨r4, m5, e6, h⟩ := zb_some h
        refine z_calli hS (va_runV (As := []) (rest := []) C (c_X2_machineFlutter l G e6 _) (cwV 0 hts gX2_number_X2_machineFlutter rfl rfl rfl hv_X2_machineFlutter ⟨Nat.le_of_ble_eq_true rfl, Nat.le_of_ble_eq_true rfl⟩) (z_preV Z hS hP (by decide) (z_E_0 _) rfl rfl) rfl rfl hl.1 rfl (lv_room (Nat.le_of_ble_eq_true rfl)) dX2_number_71 ⟨Nat.zero_le _, Nat.zero_le _⟩) (fun H locs hP hS => ?_)
        cases h
        exact z_reti C hr hlk hP hS dX2_number_74
      · have h := z_in hc3 h
        by_cases hc7 : x1 = 3
        · have h := z_ip hc7 h
          refine lv_tableIn (tgt := 75) (off := 74) hx hb dX2_number_1 (by rw [hc7]; decide) (by rw [hc7]; decide) (by rw [hc7]; rfl) (by decide) ?_
          refine lv_aload_n hx hb dX2_number_75 rfl (lv_at hl 0 rfl) ?_
          obtain ⟨r8, m9, e10, h⟩ := zb_some h
          refine z_calli hS (va_runV (As := []) (rest := []) C (c_X2_cutTracks l G e10 _) (cwV 0 hts gX2_number_X2_cutTracks rfl rfl rfl hv_X2_cutTracks ⟨Nat.le_of_ble_eq_true rfl, Nat.le_of_ble_eq_true rfl⟩) (z_preV Z hS hP (by decide) (z_E_0 _) rfl rfl) rfl rfl hl.1 rfl (lv_room (Nat.le_of_ble_eq_true rfl)) dX2_number_76 ⟨Nat.zero_le _, Nat.zero_le _⟩) (fun H locs hP hS => ?_)
          cases h
          exact z_reti C hr hlk hP hS dX2_number_79
        · have h := z_in hc7 h
          by_cases hc11 : x1 = 4
          · have h := z_ip hc11 h
            refine lv_tableIn (tgt := 80) (off := 79) hx hb dX2_number_1 (by rw [hc11]; decide) (by rw [hc11]; decide) (by rw [hc11]; rfl) (by decide) ?_
            refine lv_aload_n hx hb dX2_number_80 rfl (lv_at hl 0 rfl) ?_
            refine z_get C Z hP (k := 0) (ci := 2) (j := 12) (N := 19) (v := .int ((μ 0 12))) (by decide) (z_E_0 _) rfl inX2_number_X2 (by decide) wX2_number_3 rfl dX2_number_81 ?_
            cases h
            exact z_reti C hr hlk hP hS dX2_number_84
          · have h := z_in hc11 h
            by_cases hc12 : x1 = 5
            · have h := z_ip hc12 h
              refine lv_tableIn (tgt := 85) (off := 84) hx hb dX2_number_1 (by rw [hc12]; decide) (by rw [hc12]; decide) (by rw [hc12]; rfl) (by decide) ?_
              refine lv_aload_n hx hb dX2_number_85 rfl (lv_at hl 0 rfl) ?_
              refine z_get C Z hP (k := 0) (ci := 2) (j := 13) (N := 19) (v := .int ((μ 0 13))) (by decide) (z_E_0 _) rfl inX2_number_X2 (by decide) wX2_number_4 rfl dX2_number_86 ?_
              cases h
              exact z_reti C hr hlk hP hS dX2_number_89
            · have h := z_in hc12 h
              by_cases hc13 : x1 = 6
              · have h := z_ip hc13 h
                refine lv_tableIn (tgt := 90) (off := 89) hx hb dX2_number_1 (by rw [hc13]; decide) (by rw [hc13]; decide) (by rw [hc13]; rfl) (by decide) ?_
                refine lv_aload_n hx hb dX2_number_90 rfl (lv_at hl 0 rfl) ?_
                refine z_get C Z hP (k := 0) (ci := 2) (j := 14) (N := 19) (v := .int ((μ 0 14))) (by decide) (z_E_0 _) rfl inX2_number_X2 (by decide) wX2_number_5 rfl dX2_number_91 ?_
                cases h
                exact z_reti C hr hlk hP hS dX2_number_94
              · have h := z_in hc13 h
                by_cases hc14 : x1 = 7
                · have h := z_ip hc14 h
                  refine lv_tableIn (tgt := 95) (off := 94) hx hb dX2_number_1 (by rw [hc14]; decide) (by rw [hc14]; decide) (by rw [hc14]; rfl) (by decide) ?_
                  refine lv_aload_n hx hb dX2_number_95 rfl (lv_at hl 0 rfl) ?_
                  obtain ⟨r15, m16, e17, h⟩ := zb_some h
                  refine z_calli hS (va_runV (As := []) (rest := []) C (c_X2_layersTogether l G e17 _) (cwV 0 hts gX2_number_X2_layersTogether rfl rfl rfl hv_X2_layersTogether ⟨Nat.le_of_ble_eq_true rfl, Nat.le_of_ble_eq_true rfl⟩) (z_preV Z hS hP (by decide) (z_E_0 _) rfl rfl) rfl rfl hl.1 rfl (lv_room (Nat.le_of_ble_eq_true rfl)) dX2_number_96 ⟨Nat.zero_le _, Nat.zero_le _⟩) (fun H locs hP hS => ?_)
                  cases h
                  exact z_reti C hr hlk hP hS dX2_number_99
                · have h := z_in hc14 h
                  by_cases hc18 : x1 = 8
                  · have h := z_ip hc18 h
                    refine lv_tableIn (tgt := 100) (off := 99) hx hb dX2_number_1 (by rw [hc18]; decide) (by rw [hc18]; decide) (by rw [hc18]; rfl) (by decide) ?_
                    refine lv_aload_n hx hb dX2_number_100 rfl (lv_at hl 0 rfl) ?_
                    refine z_get C Z hP (k := 0) (ci := 2) (j := 15) (N := 19) (v := .int ((μ 0 15))) (by decide) (z_E_0 _) rfl inX2_number_X2 (by decide) wX2_number_6 rfl dX2_number_101 ?_
                    cases h
                    exact z_reti C hr hlk hP hS dX2_number_104
                  · have h := z_in hc18 h
                    by_cases hc19 : x1 = 9
                    · have h := z_ip hc19 h
                      refine lv_tableIn (tgt := 105) (off := 104) hx hb dX2_number_1 (by rw [hc19]; decide) (by rw [hc19]; decide) (by rw [hc19]; rfl) (by decide) ?_
                      refine lv_aload_n hx hb dX2_number_105 rfl (lv_at hl 0 rfl) ?_
                      refine z_get C Z hP (k := 0) (ci := 2) (j := 16) (N := 19) (v := .int ((μ 0 16))) (by decide) (z_E_0 _) rfl inX2_number_X2 (by decide) wX2_number_7 rfl dX2_number_106 ?_
                      cases h
                      exact z_reti C hr hlk hP hS dX2_number_109
                    · have h := z_in hc19 h
                      by_cases hc20 : x1 = 10
                      · have h := z_ip hc20 h
                        refine lv_tableIn (tgt := 110) (off := 109) hx hb dX2_number_1 (by rw [hc20]; decide) (by rw [hc20]; decide) (by rw [hc20]; rfl) (by decide) ?_
                        refine lv_aload_n hx hb dX2_number_110 rfl (lv_at hl 0 rfl) ?_
                        refine z_get C Z hP (k := 0) (ci := 2) (j := 17) (N := 19) (v := .int ((μ 0 17))) (by decide) (z_E_0 _) rfl inX2_number_X2 (by decide) wX2_number_8 rfl dX2_number_111 ?_
                        cases h
                        exact z_reti C hr hlk hP hS dX2_number_114
                      · have h := z_in hc20 h
                        refine lv_tableOut (tgt := 115) hx hb dX2_number_1 (by
                          have qhc1 : (x1).toInt ≠ 0 := fun q => hc1 (Int32.toInt_inj.mp (q.trans (by decide)))
                          have qhc2 : (x1).toInt ≠ 1 := fun q => hc2 (Int32.toInt_inj.mp (q.trans (by decide)))
                          have qhc3 : (x1).toInt ≠ 2 := fun q => hc3 (Int32.toInt_inj.mp (q.trans (by decide)))
                          have qhc7 : (x1).toInt ≠ 3 := fun q => hc7 (Int32.toInt_inj.mp (q.trans (by decide)))
                          have qhc11 : (x1).toInt ≠ 4 := fun q => hc11 (Int32.toInt_inj.mp (q.trans (by decide)))
                          have qhc12 : (x1).toInt ≠ 5 := fun q => hc12 (Int32.toInt_inj.mp (q.trans (by decide)))
                          have qhc13 : (x1).toInt ≠ 6 := fun q => hc13 (Int32.toInt_inj.mp (q.trans (by decide)))
                          have qhc14 : (x1).toInt ≠ 7 := fun q => hc14 (Int32.toInt_inj.mp (q.trans (by decide)))
                          have qhc18 : (x1).toInt ≠ 8 := fun q => hc18 (Int32.toInt_inj.mp (q.trans (by decide)))
                          have qhc19 : (x1).toInt ≠ 9 := fun q => hc19 (Int32.toInt_inj.mp (q.trans (by decide)))
                          have qhc20 : (x1).toInt ≠ 10 := fun q => hc20 (Int32.toInt_inj.mp (q.trans (by decide)))
                          omega) (by decide) ?_
                        refine lv_aload_n hx hb dX2_number_115 rfl (lv_at hl 0 rfl) ?_
                        refine z_get C Z hP (k := 0) (ci := 2) (j := 18) (N := 19) (v := .int ((μ 0 18))) (by decide) (z_E_0 _) rfl inX2_number_X2 (by decide) wX2_number_9 rfl dX2_number_116 ?_
                        cases h
                        exact z_reti C hr hlk hP hS dX2_number_119
abbrev rm_X2_soundsBetter : Room := { frames := 0, cells := 0, slots := 0, locals := 0 }
theorem hd_X2_soundsBetter : yX2_soundsBetter.cls ≠ "java/lang/invoke/MethodHandle" ∧ yX2_soundsBetter.cls ≠ "java/lang/invoke/VarHandle" ∧ (parseMethodDescriptor yX2_soundsBetter.desc).map (fun d => d.parameters.length) = some 2 := by decide +kernel
theorem hv_X2_soundsBetter : yX2_soundsBetter.cls = RX2 ∧ yX2_soundsBetter.cls ≠ "java/lang/invoke/MethodHandle" ∧ yX2_soundsBetter.cls ≠ "java/lang/invoke/VarHandle" ∧ (parseMethodDescriptor yX2_soundsBetter.desc).map (fun d => d.parameters.length) = some 2 := ⟨rfl, hd_X2_soundsBetter⟩
theorem wX2_soundsBetter_0 : Cond.fieldLink RX2 15 "WaxCopies$Wax" "clearness" "[I" ∈ wsX2_soundsBetter := by decide +kernel
theorem inX2_soundsBetter_X2 : ∀ w ∈ wsX20, w ∈ wsX2_soundsBetter := by decide +kernel
theorem wX2_soundsBetter_2 : Cond.fieldLink RX2 18 "WaxCopies$Wax" "flutter" "[I" ∈ wsX2_soundsBetter := by decide +kernel
set_option maxHeartbeats 4000000 in
set_option maxRecDepth 100000 in
theorem c_X2_soundsBetter (l : Launch) (G : zG) {x1 : Int32} {x2 : Int32} {μ mu1 : Mm} {r : Int32} (h : f_X2_soundsBetter x1 x2 μ = some (r, mu1)) (sz : Nat) : Met l yX2_soundsBetter wsX2_soundsBetter rm_X2_soundsBetter (z_Pre G μ [.ref (G.2.1 (0)), .int (x1), .int (x2)] sz) (z_Qi G r mu1 sz) 0 0 (z_A G sz) := by
  refine z_start (cc := cX2_soundsBetter) (maxL := 3) (ret := (some .boolean)) (own := RX2) (by decide) rfl rfl (Nat.le_of_ble_eq_true rfl) (fun p e s m args below meth c C hr hlk Z hP ls hl => ?_) sz
  have hx := C.1
  have hb := C.2.1
  have hts := C.2.2.2.2
  have hS : va_S (z_A G s.heap.size) s.heap s.heap [] := va_S.rf
  have hl : lv_has ls 3 [(0, .ref (G.2.1 (0))), (1, .int (x1)), (2, .int (x2))] := hl
  unfold f_X2_soundsBetter at h
  refine lv_aload_n hx hb dX2_soundsBetter_0 rfl (lv_at hl 0 rfl) ?_
  refine z_get C Z hP (k := 0) (ci := 2) (j := 1) (N := 19) (v := .ref (G.2.1 (2))) (by decide) (z_E_0 _) rfl inX2_soundsBetter_X2 (by decide) wX2_soundsBetter_0 rfl dX2_soundsBetter_1 ?_
  refine lv_iload_n hx hb dX2_soundsBetter_4 rfl (lv_at hl 1 rfl) ?_
  obtain ⟨hg1, h⟩ := z_g h
  refine z_iald C Z hP (k := 2) (n := 24) (j := (x1).toNatClampNeg) (by decide) (z_E_2 _) hg1 rfl dX2_soundsBetter_5 ?_
  refine lv_aload_n hx hb dX2_soundsBetter_6 rfl (lv_at hl 0 rfl) ?_
  refine z_get C Z hP (k := 0) (ci := 2) (j := 1) (N := 19) (v := .ref (G.2.1 (2))) (by decide) (z_E_0 _) rfl inX2_soundsBetter_X2 (by decide) wX2_soundsBetter_0 rfl dX2_soundsBetter_7 ?_
  refine lv_iload_n hx hb dX2_soundsBetter_10 rfl (lv_at hl 2 rfl) ?_
  obtain ⟨hg2, h⟩ := z_g h
  refine z_iald C Z hP (k := 2) (n := 24) (j := (x2).toNatClampNeg) (by decide) (z_E_2 _) hg2 rfl dX2_soundsBetter_11 ?_
  refine lv_icmp_eq (tgt := 36) hx hb dX2_soundsBetter_12 (by decide) (fun hc3 => ?_) (fun hc3 => ?_)
  · have h := z_ip hc3 h
    refine lv_aload_n hx hb dX2_soundsBetter_36 rfl (lv_at hl 0 rfl) ?_
    refine z_get C Z hP (k := 0) (ci := 2) (j := 2) (N := 19) (v := .ref (G.2.1 (3))) (by decide) (z_E_0 _) rfl inX2_soundsBetter_X2 (by decide) wX2_soundsBetter_2 rfl dX2_soundsBetter_37 ?_
    refine lv_iload_n hx hb dX2_soundsBetter_40 rfl (lv_at hl 1 rfl) ?_
    refine z_iald C Z hP (k := 3) (n := 24) (j := (x1).toNatClampNeg) (by decide) (z_E_3 _) hg1 rfl dX2_soundsBetter_41 ?_
    refine lv_aload_n hx hb dX2_soundsBetter_42 rfl (lv_at hl 0 rfl) ?_
    refine z_get C Z hP (k := 0) (ci := 2) (j := 2) (N := 19) (v := .ref (G.2.1 (3))) (by decide) (z_E_0 _) rfl inX2_soundsBetter_X2 (by decide) wX2_soundsBetter_2 rfl dX2_soundsBetter_43 ?_
    refine lv_iload_n hx hb dX2_soundsBetter_46 rfl (lv_at hl 2 rfl) ?_
    refine z_iald C Z hP (k := 3) (n := 24) (j := (x2).toNatClampNeg) (by decide) (z_E_3 _) hg2 rfl dX2_soundsBetter_47 ?_
    refine lv_icmp_ge (tgt := 55) hx hb dX2_soundsBetter_48 (by decide) (fun hc4 => ?_) (fun hc4 => ?_)
    · have h := z_ip hc4 h
      refine lv_iconst (v := 0) hx hb dX2_soundsBetter_55 (by decide) ?_
      cases h
      exact z_retz C hr hlk rfl hP hS dX2_soundsBetter_56
    · have h := z_in hc4 h
      refine lv_iconst (v := 1) hx hb dX2_soundsBetter_51 (by decide) ?_
      refine lv_goto (tgt := 56) hx hb dX2_soundsBetter_52 (by decide) ?_
      cases h
      exact z_retz C hr hlk rfl hP hS dX2_soundsBetter_56
  · have h := z_in hc3 h
    refine lv_aload_n hx hb dX2_soundsBetter_15 rfl (lv_at hl 0 rfl) ?_
    refine z_get C Z hP (k := 0) (ci := 2) (j := 1) (N := 19) (v := .ref (G.2.1 (2))) (by decide) (z_E_0 _) rfl inX2_soundsBetter_X2 (by decide) wX2_soundsBetter_0 rfl dX2_soundsBetter_16 ?_
    refine lv_iload_n hx hb dX2_soundsBetter_19 rfl (lv_at hl 1 rfl) ?_
    refine z_iald C Z hP (k := 2) (n := 24) (j := (x1).toNatClampNeg) (by decide) (z_E_2 _) hg1 rfl dX2_soundsBetter_20 ?_
    refine lv_aload_n hx hb dX2_soundsBetter_21 rfl (lv_at hl 0 rfl) ?_
    refine z_get C Z hP (k := 0) (ci := 2) (j := 1) (N := 19) (v := .ref (G.2.1 (2))) (by decide) (z_E_0 _) rfl inX2_soundsBetter_X2 (by decide) wX2_soundsBetter_0 rfl dX2_soundsBetter_22 ?_
    refine lv_iload_n hx hb dX2_soundsBetter_25 rfl (lv_at hl 2 rfl) ?_
    refine z_iald C Z hP (k := 2) (n := 24) (j := (x2).toNatClampNeg) (by decide) (z_E_2 _) hg2 rfl dX2_soundsBetter_26 ?_
    refine lv_icmp_le (tgt := 34) hx hb dX2_soundsBetter_27 (by decide) (fun hc5 => ?_) (fun hc5 => ?_)
    · have h := z_ip hc5 h
      refine lv_iconst (v := 0) hx hb dX2_soundsBetter_34 (by decide) ?_
      cases h
      exact z_retz C hr hlk rfl hP hS dX2_soundsBetter_35
    · have h := z_in hc5 h
      refine lv_iconst (v := 1) hx hb dX2_soundsBetter_30 (by decide) ?_
      refine lv_goto (tgt := 35) hx hb dX2_soundsBetter_31 (by decide) ?_
      cases h
      exact z_retz C hr hlk rfl hP hS dX2_soundsBetter_35
abbrev rm_X2_clearestTrack : Room := { frames := 1, cells := 0, slots := 0, locals := 22 }
theorem hd_X2_clearestTrack : yX2_clearestTrack.cls ≠ "java/lang/invoke/MethodHandle" ∧ yX2_clearestTrack.cls ≠ "java/lang/invoke/VarHandle" ∧ (parseMethodDescriptor yX2_clearestTrack.desc).map (fun d => d.parameters.length) = some 0 := by decide +kernel
theorem hv_X2_clearestTrack : yX2_clearestTrack.cls = RX2 ∧ yX2_clearestTrack.cls ≠ "java/lang/invoke/MethodHandle" ∧ yX2_clearestTrack.cls ≠ "java/lang/invoke/VarHandle" ∧ (parseMethodDescriptor yX2_clearestTrack.desc).map (fun d => d.parameters.length) = some 0 := ⟨rfl, hd_X2_clearestTrack⟩
set_option maxHeartbeats 8000000 in
set_option maxRecDepth 100000 in
theorem L_X2_clearestTrack_b4 {p : Program} {l : Launch} {e : Env} {s : State} {m : MethodId} {args : Array Value} {below : List Frame} {meth : Method} {c : Code} {G : zG} {r : Int32} {mu1 : Mm}  (C : CallFix p m c cX2_clearestTrack 3 s args wsX2_clearestTrack RX2) (hr : meth.sig.returnType = (some .int)) (hlk : meth.locks = false) (Z : z_Z G (z_A G s.heap.size) s)  :
    ∀ (n : Nat) (x1 : Int32) (x2 : Int32) (μ : Mm), f_X2_clearestTrack_b4  n x1 x2 μ = some (r, mu1) → ∀ (H : Heap) (locs : List Loc), z_P G μ H → va_S (z_A G s.heap.size) s.heap H locs → ∀ ls : Array Slot, lv_has ls 3 [(0, .ref (G.2.1 (0))), (1, .int (x1)), (2, .int (x2))] → W p l e rm_X2_clearestTrack s m args below meth c H locs 0 0 (MQ below (z_Qi G r mu1 s.heap.size) args s 0 0 (z_A G s.heap.size)) (F0 m 4 ls []) := by
  have hx := C.1
  have hb := C.2.1
  have hts := C.2.2.2.2
  intro n
  induction n with
  | zero =>
    intro x1 x2 μ h
    rw [f_X2_clearestTrack_b4] at h
    cases h
  | succ n ih =>
    intro x1 x2 μ h H locs hP hS ls hl
    rw [f_X2_clearestTrack_b4] at h
    refine lv_iload_n hx hb dX2_clearestTrack_4 rfl (lv_at hl 2 rfl) ?_
    refine lv_bipush (v := 24) hx hb dX2_clearestTrack_5 (by decide) ?_
    refine lv_icmp_ge (tgt := 40) hx hb dX2_clearestTrack_7 (by decide) (fun hc1 => ?_) (fun hc1 => ?_)
    · have h := z_ip hc1 h
      refine lv_iload_n hx hb dX2_clearestTrack_40 rfl (lv_at hl 1 rfl) ?_
      cases h
      exact z_reti C hr hlk hP hS dX2_clearestTrack_41
    · have h := z_in hc1 h
      refine lv_aload_n hx hb dX2_clearestTrack_10 rfl (lv_at hl 0 rfl) ?_
      refine lv_iload_n hx hb dX2_clearestTrack_11 rfl (lv_at hl 2 rfl) ?_
      obtain ⟨r2, m3, e4, h⟩ := zb_some h
      refine z_calli hS (va_runV (As := [.int (x2)]) (rest := []) C (c_X2_isCut l G e4 _) (cwV 1 hts gX2_clearestTrack_X2_isCut rfl rfl rfl hv_X2_isCut ⟨Nat.le_of_ble_eq_true rfl, Nat.le_of_ble_eq_true rfl⟩) (z_preV Z hS hP (by decide) (z_E_0 _) rfl rfl) rfl rfl hl.1 rfl (lv_room (Nat.le_of_ble_eq_true rfl)) dX2_clearestTrack_12 ⟨Nat.zero_le _, Nat.zero_le _⟩) (fun H locs hP hS => ?_)
      refine lv_if_eq (tgt := 34) hx hb dX2_clearestTrack_15 (by decide) (fun hc5 => ?_) (fun hc5 => ?_)
      · have h := z_ip hc5 h
        refine lv_iinc (v := (x2 + 1)) (lv' := [(2, .int ((x2 + 1))), (0, .ref (G.2.1 (0))), (1, .int (x1))]) hx hb dX2_clearestTrack_34 hl (k := 2) rfl rfl (by decide) rfl (fun ls hl => ?_)
        refine lv_goto (tgt := 4) hx hb dX2_clearestTrack_37 (by decide) ?_
        exact ih _ _ _ h _ _ hP hS ls (lv_sub hl [1, 2, 0] rfl)
      · have h := z_in hc5 h
        refine lv_iload_n hx hb dX2_clearestTrack_18 rfl (lv_at hl 1 rfl) ?_
        refine lv_iconst (v := (-1)) hx hb dX2_clearestTrack_19 (by decide) ?_
        refine lv_icmp_eq (tgt := 32) hx hb dX2_clearestTrack_20 (by decide) (fun hc6 => ?_) (fun hc6 => ?_)
        · have h := z_ip hc6 h
          refine lv_iload_n hx hb dX2_clearestTrack_32 rfl (lv_at hl 2 rfl) ?_
          refine lv_istore_n (lv' := [(1, .int (x2)), (0, .ref (G.2.1 (0))), (2, .int (x2))]) hx hb dX2_clearestTrack_33 rfl hl (by decide) rfl (fun ls hl => ?_)
          refine lv_iinc (v := (x2 + 1)) (lv' := [(2, .int ((x2 + 1))), (1, .int (x2)), (0, .ref (G.2.1 (0)))]) hx hb dX2_clearestTrack_34 hl (k := 2) rfl rfl (by decide) rfl (fun ls hl => ?_)
          refine lv_goto (tgt := 4) hx hb dX2_clearestTrack_37 (by decide) ?_
          exact ih _ _ _ h _ _ hP hS ls (lv_sub hl [2, 1, 0] rfl)
        · have h := z_in hc6 h
          refine lv_aload_n hx hb dX2_clearestTrack_23 rfl (lv_at hl 0 rfl) ?_
          refine lv_iload_n hx hb dX2_clearestTrack_24 rfl (lv_at hl 2 rfl) ?_
          refine lv_iload_n hx hb dX2_clearestTrack_25 rfl (lv_at hl 1 rfl) ?_
          obtain ⟨r7, m8, e9, h⟩ := zb_some h
          refine z_calli hS (va_runV (As := [.int (x2), .int (x1)]) (rest := []) C (c_X2_soundsBetter l G e9 _) (cwV 2 hts gX2_clearestTrack_X2_soundsBetter rfl rfl rfl hv_X2_soundsBetter ⟨Nat.le_of_ble_eq_true rfl, Nat.le_of_ble_eq_true rfl⟩) (z_preV Z hS hP (by decide) (z_E_0 _) rfl rfl) rfl rfl hl.1 rfl (lv_room (Nat.le_of_ble_eq_true rfl)) dX2_clearestTrack_26 ⟨Nat.zero_le _, Nat.zero_le _⟩) (fun H locs hP hS => ?_)
          refine lv_if_eq (tgt := 34) hx hb dX2_clearestTrack_29 (by decide) (fun hc10 => ?_) (fun hc10 => ?_)
          · have h := z_ip hc10 h
            refine lv_iinc (v := (x2 + 1)) (lv' := [(2, .int ((x2 + 1))), (0, .ref (G.2.1 (0))), (1, .int (x1))]) hx hb dX2_clearestTrack_34 hl (k := 2) rfl rfl (by decide) rfl (fun ls hl => ?_)
            refine lv_goto (tgt := 4) hx hb dX2_clearestTrack_37 (by decide) ?_
            exact ih _ _ _ h _ _ hP hS ls (lv_sub hl [1, 2, 0] rfl)
          · have h := z_in hc10 h
            refine lv_iload_n hx hb dX2_clearestTrack_32 rfl (lv_at hl 2 rfl) ?_
            refine lv_istore_n (lv' := [(1, .int (x2)), (0, .ref (G.2.1 (0))), (2, .int (x2))]) hx hb dX2_clearestTrack_33 rfl hl (by decide) rfl (fun ls hl => ?_)
            refine lv_iinc (v := (x2 + 1)) (lv' := [(2, .int ((x2 + 1))), (1, .int (x2)), (0, .ref (G.2.1 (0)))]) hx hb dX2_clearestTrack_34 hl (k := 2) rfl rfl (by decide) rfl (fun ls hl => ?_)
            refine lv_goto (tgt := 4) hx hb dX2_clearestTrack_37 (by decide) ?_
            exact ih _ _ _ h _ _ hP hS ls (lv_sub hl [2, 1, 0] rfl)
set_option maxHeartbeats 4000000 in
set_option maxRecDepth 100000 in
theorem c_X2_clearestTrack (l : Launch) (G : zG) {μ mu1 : Mm} {r : Int32} (h : f_X2_clearestTrack μ = some (r, mu1)) (sz : Nat) : Met l yX2_clearestTrack wsX2_clearestTrack rm_X2_clearestTrack (z_Pre G μ [.ref (G.2.1 (0))] sz) (z_Qi G r mu1 sz) 0 0 (z_A G sz) := by
  refine z_start (cc := cX2_clearestTrack) (maxL := 3) (ret := (some .int)) (own := RX2) (by decide) rfl rfl (Nat.le_of_ble_eq_true rfl) (fun p e s m args below meth c C hr hlk Z hP ls hl => ?_) sz
  have hx := C.1
  have hb := C.2.1
  have hts := C.2.2.2.2
  have hS : va_S (z_A G s.heap.size) s.heap s.heap [] := va_S.rf
  have hl : lv_has ls 3 [(0, .ref (G.2.1 (0)))] := hl
  unfold f_X2_clearestTrack at h
  refine lv_iconst (v := (-1)) hx hb dX2_clearestTrack_0 (by decide) ?_
  refine lv_istore_n (lv' := [(1, .int ((-1))), (0, .ref (G.2.1 (0)))]) hx hb dX2_clearestTrack_1 rfl hl (by decide) rfl (fun ls hl => ?_)
  refine lv_iconst (v := 0) hx hb dX2_clearestTrack_2 (by decide) ?_
  refine lv_istore_n (lv' := [(2, .int (0)), (1, .int ((-1))), (0, .ref (G.2.1 (0)))]) hx hb dX2_clearestTrack_3 rfl hl (by decide) rfl (fun ls hl => ?_)
  exact L_X2_clearestTrack_b4 C hr hlk Z z_F _ _ _ h _ _ hP hS ls (lv_sub hl [2, 1, 0] rfl)
abbrev rm_X2_depthTogether : Room := { frames := 0, cells := 0, slots := 0, locals := 0 }
theorem hd_X2_depthTogether : yX2_depthTogether.cls ≠ "java/lang/invoke/MethodHandle" ∧ yX2_depthTogether.cls ≠ "java/lang/invoke/VarHandle" ∧ (parseMethodDescriptor yX2_depthTogether.desc).map (fun d => d.parameters.length) = some 0 := by decide +kernel
theorem hv_X2_depthTogether : yX2_depthTogether.cls = RX2 ∧ yX2_depthTogether.cls ≠ "java/lang/invoke/MethodHandle" ∧ yX2_depthTogether.cls ≠ "java/lang/invoke/VarHandle" ∧ (parseMethodDescriptor yX2_depthTogether.desc).map (fun d => d.parameters.length) = some 0 := ⟨rfl, hd_X2_depthTogether⟩
theorem wX2_depthTogether_0 : Cond.fieldLink RX2 9 "WaxCopies$Wax" "depth" "[I" ∈ wsX2_depthTogether := by decide +kernel
theorem inX2_depthTogether_X2 : ∀ w ∈ wsX20, w ∈ wsX2_depthTogether := by decide +kernel
set_option maxHeartbeats 8000000 in
set_option maxRecDepth 100000 in
theorem L_X2_depthTogether_b4 {p : Program} {l : Launch} {e : Env} {s : State} {m : MethodId} {args : Array Value} {below : List Frame} {meth : Method} {c : Code} {G : zG} {r : Int32} {mu1 : Mm}  (C : CallFix p m c cX2_depthTogether 3 s args wsX2_depthTogether RX2) (hr : meth.sig.returnType = (some .int)) (hlk : meth.locks = false) (Z : z_Z G (z_A G s.heap.size) s)  :
    ∀ (n : Nat) (x1 : Int32) (x2 : Int32) (μ : Mm), f_X2_depthTogether_b4  n x1 x2 μ = some (r, mu1) → ∀ (H : Heap) (locs : List Loc), z_P G μ H → va_S (z_A G s.heap.size) s.heap H locs → ∀ ls : Array Slot, lv_has ls 3 [(0, .ref (G.2.1 (0))), (1, .int (x1)), (2, .int (x2))] → W p l e rm_X2_depthTogether s m args below meth c H locs 0 0 (MQ below (z_Qi G r mu1 s.heap.size) args s 0 0 (z_A G s.heap.size)) (F0 m 4 ls []) := by
  have hx := C.1
  have hb := C.2.1
  have hts := C.2.2.2.2
  intro n
  induction n with
  | zero =>
    intro x1 x2 μ h
    rw [f_X2_depthTogether_b4] at h
    cases h
  | succ n ih =>
    intro x1 x2 μ h H locs hP hS ls hl
    rw [f_X2_depthTogether_b4] at h
    refine lv_iload_n hx hb dX2_depthTogether_4 rfl (lv_at hl 2 rfl) ?_
    refine lv_bipush (v := 24) hx hb dX2_depthTogether_5 (by decide) ?_
    refine lv_icmp_ge (tgt := 25) hx hb dX2_depthTogether_7 (by decide) (fun hc1 => ?_) (fun hc1 => ?_)
    · have h := z_ip hc1 h
      refine lv_iload_n hx hb dX2_depthTogether_25 rfl (lv_at hl 1 rfl) ?_
      cases h
      exact z_reti C hr hlk hP hS dX2_depthTogether_26
    · have h := z_in hc1 h
      refine lv_iload_n hx hb dX2_depthTogether_10 rfl (lv_at hl 1 rfl) ?_
      refine lv_aload_n hx hb dX2_depthTogether_11 rfl (lv_at hl 0 rfl) ?_
      refine z_get C Z hP (k := 0) (ci := 2) (j := 0) (N := 19) (v := .ref (G.2.1 (1))) (by decide) (z_E_0 _) rfl inX2_depthTogether_X2 (by decide) wX2_depthTogether_0 rfl dX2_depthTogether_12 ?_
      refine lv_iload_n hx hb dX2_depthTogether_15 rfl (lv_at hl 2 rfl) ?_
      obtain ⟨hg2, h⟩ := z_g h
      refine z_iald C Z hP (k := 1) (n := 24) (j := (x2).toNatClampNeg) (by decide) (z_E_1 _) hg2 rfl dX2_depthTogether_16 ?_
      refine lv_iadd hx hb dX2_depthTogether_17 ?_
      refine lv_istore_n (lv' := [(1, .int ((x1 + (μ (1) ((x2).toNatClampNeg))))), (0, .ref (G.2.1 (0))), (2, .int (x2))]) hx hb dX2_depthTogether_18 rfl hl (by decide) rfl (fun ls hl => ?_)
      refine lv_iinc (v := (x2 + 1)) (lv' := [(2, .int ((x2 + 1))), (1, .int ((x1 + (μ (1) ((x2).toNatClampNeg))))), (0, .ref (G.2.1 (0)))]) hx hb dX2_depthTogether_19 hl (k := 2) rfl rfl (by decide) rfl (fun ls hl => ?_)
      refine lv_goto (tgt := 4) hx hb dX2_depthTogether_22 (by decide) ?_
      exact ih _ _ _ h _ _ hP hS ls (lv_sub hl [2, 1, 0] rfl)
set_option maxHeartbeats 4000000 in
set_option maxRecDepth 100000 in
theorem c_X2_depthTogether (l : Launch) (G : zG) {μ mu1 : Mm} {r : Int32} (h : f_X2_depthTogether μ = some (r, mu1)) (sz : Nat) : Met l yX2_depthTogether wsX2_depthTogether rm_X2_depthTogether (z_Pre G μ [.ref (G.2.1 (0))] sz) (z_Qi G r mu1 sz) 0 0 (z_A G sz) := by
  refine z_start (cc := cX2_depthTogether) (maxL := 3) (ret := (some .int)) (own := RX2) (by decide) rfl rfl (Nat.le_of_ble_eq_true rfl) (fun p e s m args below meth c C hr hlk Z hP ls hl => ?_) sz
  have hx := C.1
  have hb := C.2.1
  have hts := C.2.2.2.2
  have hS : va_S (z_A G s.heap.size) s.heap s.heap [] := va_S.rf
  have hl : lv_has ls 3 [(0, .ref (G.2.1 (0)))] := hl
  unfold f_X2_depthTogether at h
  refine lv_iconst (v := 0) hx hb dX2_depthTogether_0 (by decide) ?_
  refine lv_istore_n (lv' := [(1, .int (0)), (0, .ref (G.2.1 (0)))]) hx hb dX2_depthTogether_1 rfl hl (by decide) rfl (fun ls hl => ?_)
  refine lv_iconst (v := 0) hx hb dX2_depthTogether_2 (by decide) ?_
  refine lv_istore_n (lv' := [(2, .int (0)), (1, .int (0)), (0, .ref (G.2.1 (0)))]) hx hb dX2_depthTogether_3 rfl hl (by decide) rfl (fun ls hl => ?_)
  exact L_X2_depthTogether_b4 C hr hlk Z z_F _ _ _ h _ _ hP hS ls (lv_sub hl [2, 1, 0] rfl)
abbrev rm_X2_clearnessTogether : Room := { frames := 1, cells := 0, slots := 0, locals := 21 }
theorem hd_X2_clearnessTogether : yX2_clearnessTogether.cls ≠ "java/lang/invoke/MethodHandle" ∧ yX2_clearnessTogether.cls ≠ "java/lang/invoke/VarHandle" ∧ (parseMethodDescriptor yX2_clearnessTogether.desc).map (fun d => d.parameters.length) = some 0 := by decide +kernel
theorem hv_X2_clearnessTogether : yX2_clearnessTogether.cls = RX2 ∧ yX2_clearnessTogether.cls ≠ "java/lang/invoke/MethodHandle" ∧ yX2_clearnessTogether.cls ≠ "java/lang/invoke/VarHandle" ∧ (parseMethodDescriptor yX2_clearnessTogether.desc).map (fun d => d.parameters.length) = some 0 := ⟨rfl, hd_X2_clearnessTogether⟩
theorem wX2_clearnessTogether_0 : Cond.fieldLink RX2 15 "WaxCopies$Wax" "clearness" "[I" ∈ wsX2_clearnessTogether := by decide +kernel
theorem inX2_clearnessTogether_X2 : ∀ w ∈ wsX20, w ∈ wsX2_clearnessTogether := by decide +kernel
set_option maxHeartbeats 8000000 in
set_option maxRecDepth 100000 in
theorem L_X2_clearnessTogether_b4 {p : Program} {l : Launch} {e : Env} {s : State} {m : MethodId} {args : Array Value} {below : List Frame} {meth : Method} {c : Code} {G : zG} {r : Int32} {mu1 : Mm}  (C : CallFix p m c cX2_clearnessTogether 3 s args wsX2_clearnessTogether RX2) (hr : meth.sig.returnType = (some .int)) (hlk : meth.locks = false) (Z : z_Z G (z_A G s.heap.size) s)  :
    ∀ (n : Nat) (x1 : Int32) (x2 : Int32) (μ : Mm), f_X2_clearnessTogether_b4  n x1 x2 μ = some (r, mu1) → ∀ (H : Heap) (locs : List Loc), z_P G μ H → va_S (z_A G s.heap.size) s.heap H locs → ∀ ls : Array Slot, lv_has ls 3 [(0, .ref (G.2.1 (0))), (1, .int (x1)), (2, .int (x2))] → W p l e rm_X2_clearnessTogether s m args below meth c H locs 0 0 (MQ below (z_Qi G r mu1 s.heap.size) args s 0 0 (z_A G s.heap.size)) (F0 m 4 ls []) := by
  have hx := C.1
  have hb := C.2.1
  have hts := C.2.2.2.2
  intro n
  induction n with
  | zero =>
    intro x1 x2 μ h
    rw [f_X2_clearnessTogether_b4] at h
    cases h
  | succ n ih =>
    intro x1 x2 μ h H locs hP hS ls hl
    rw [f_X2_clearnessTogether_b4] at h
    refine lv_iload_n hx hb dX2_clearnessTogether_4 rfl (lv_at hl 2 rfl) ?_
    refine lv_bipush (v := 24) hx hb dX2_clearnessTogether_5 (by decide) ?_
    refine lv_icmp_ge (tgt := 37) hx hb dX2_clearnessTogether_7 (by decide) (fun hc1 => ?_) (fun hc1 => ?_)
    · have h := z_ip hc1 h
      refine lv_iload_n hx hb dX2_clearnessTogether_37 rfl (lv_at hl 1 rfl) ?_
      cases h
      exact z_reti C hr hlk hP hS dX2_clearnessTogether_38
    · have h := z_in hc1 h
      refine lv_iload_n hx hb dX2_clearnessTogether_10 rfl (lv_at hl 1 rfl) ?_
      refine lv_aload_n hx hb dX2_clearnessTogether_11 rfl (lv_at hl 0 rfl) ?_
      refine lv_iload_n hx hb dX2_clearnessTogether_12 rfl (lv_at hl 2 rfl) ?_
      obtain ⟨r2, m3, e4, h⟩ := zb_some h
      refine z_calli hS (va_runV (As := [.int (x2)]) (rest := [.int (x1)]) C (c_X2_isCut l G e4 _) (cwV 1 hts gX2_clearnessTogether_X2_isCut rfl rfl rfl hv_X2_isCut ⟨Nat.le_of_ble_eq_true rfl, Nat.le_of_ble_eq_true rfl⟩) (z_preV Z hS hP (by decide) (z_E_0 _) rfl rfl) rfl rfl hl.1 rfl (lv_room (Nat.le_of_ble_eq_true rfl)) dX2_clearnessTogether_13 ⟨Nat.zero_le _, Nat.zero_le _⟩) (fun H locs hP hS => ?_)
      refine lv_if_eq (tgt := 28) hx hb dX2_clearnessTogether_16 (by decide) (fun hc5 => ?_) (fun hc5 => ?_)
      · have h := z_ip hc5 h
        refine lv_iconst (v := 0) hx hb dX2_clearnessTogether_28 (by decide) ?_
        refine lv_iadd hx hb dX2_clearnessTogether_29 ?_
        refine lv_istore_n (lv' := [(1, .int ((x1 + 0))), (0, .ref (G.2.1 (0))), (2, .int (x2))]) hx hb dX2_clearnessTogether_30 rfl hl (by decide) rfl (fun ls hl => ?_)
        refine lv_iinc (v := (x2 + 1)) (lv' := [(2, .int ((x2 + 1))), (1, .int ((x1 + 0))), (0, .ref (G.2.1 (0)))]) hx hb dX2_clearnessTogether_31 hl (k := 2) rfl rfl (by decide) rfl (fun ls hl => ?_)
        refine lv_goto (tgt := 4) hx hb dX2_clearnessTogether_34 (by decide) ?_
        exact ih _ _ _ h _ _ hP hS ls (lv_sub hl [2, 1, 0] rfl)
      · have h := z_in hc5 h
        refine lv_aload_n hx hb dX2_clearnessTogether_19 rfl (lv_at hl 0 rfl) ?_
        refine z_get C Z hP (k := 0) (ci := 2) (j := 1) (N := 19) (v := .ref (G.2.1 (2))) (by decide) (z_E_0 _) rfl inX2_clearnessTogether_X2 (by decide) wX2_clearnessTogether_0 rfl dX2_clearnessTogether_20 ?_
        refine lv_iload_n hx hb dX2_clearnessTogether_23 rfl (lv_at hl 2 rfl) ?_
        obtain ⟨hg6, h⟩ := z_g h
        refine z_iald C Z hP (k := 2) (n := 24) (j := (x2).toNatClampNeg) (by decide) (z_E_2 _) hg6 rfl dX2_clearnessTogether_24 ?_
        refine lv_goto (tgt := 29) hx hb dX2_clearnessTogether_25 (by decide) ?_
        refine lv_iadd hx hb dX2_clearnessTogether_29 ?_
        refine lv_istore_n (lv' := [(1, .int ((x1 + (m3 (2) ((x2).toNatClampNeg))))), (0, .ref (G.2.1 (0))), (2, .int (x2))]) hx hb dX2_clearnessTogether_30 rfl hl (by decide) rfl (fun ls hl => ?_)
        refine lv_iinc (v := (x2 + 1)) (lv' := [(2, .int ((x2 + 1))), (1, .int ((x1 + (m3 (2) ((x2).toNatClampNeg))))), (0, .ref (G.2.1 (0)))]) hx hb dX2_clearnessTogether_31 hl (k := 2) rfl rfl (by decide) rfl (fun ls hl => ?_)
        refine lv_goto (tgt := 4) hx hb dX2_clearnessTogether_34 (by decide) ?_
        exact ih _ _ _ h _ _ hP hS ls (lv_sub hl [2, 1, 0] rfl)
set_option maxHeartbeats 4000000 in
set_option maxRecDepth 100000 in
theorem c_X2_clearnessTogether (l : Launch) (G : zG) {μ mu1 : Mm} {r : Int32} (h : f_X2_clearnessTogether μ = some (r, mu1)) (sz : Nat) : Met l yX2_clearnessTogether wsX2_clearnessTogether rm_X2_clearnessTogether (z_Pre G μ [.ref (G.2.1 (0))] sz) (z_Qi G r mu1 sz) 0 0 (z_A G sz) := by
  refine z_start (cc := cX2_clearnessTogether) (maxL := 3) (ret := (some .int)) (own := RX2) (by decide) rfl rfl (Nat.le_of_ble_eq_true rfl) (fun p e s m args below meth c C hr hlk Z hP ls hl => ?_) sz
  have hx := C.1
  have hb := C.2.1
  have hts := C.2.2.2.2
  have hS : va_S (z_A G s.heap.size) s.heap s.heap [] := va_S.rf
  have hl : lv_has ls 3 [(0, .ref (G.2.1 (0)))] := hl
  unfold f_X2_clearnessTogether at h
  refine lv_iconst (v := 0) hx hb dX2_clearnessTogether_0 (by decide) ?_
  refine lv_istore_n (lv' := [(1, .int (0)), (0, .ref (G.2.1 (0)))]) hx hb dX2_clearnessTogether_1 rfl hl (by decide) rfl (fun ls hl => ?_)
  refine lv_iconst (v := 0) hx hb dX2_clearnessTogether_2 (by decide) ?_
  refine lv_istore_n (lv' := [(2, .int (0)), (1, .int (0)), (0, .ref (G.2.1 (0)))]) hx hb dX2_clearnessTogether_3 rfl hl (by decide) rfl (fun ls hl => ?_)
  exact L_X2_clearnessTogether_b4 C hr hlk Z z_F _ _ _ h _ _ hP hS ls (lv_sub hl [2, 1, 0] rfl)
abbrev rm_X2_comesFrom : Room := { frames := 0, cells := 0, slots := 0, locals := 0 }
theorem hd_X2_comesFrom : yX2_comesFrom.cls ≠ "java/lang/invoke/MethodHandle" ∧ yX2_comesFrom.cls ≠ "java/lang/invoke/VarHandle" ∧ (parseMethodDescriptor yX2_comesFrom.desc).map (fun d => d.parameters.length) = some 2 := by decide +kernel
theorem hv_X2_comesFrom : yX2_comesFrom.cls = RX2 ∧ yX2_comesFrom.cls ≠ "java/lang/invoke/MethodHandle" ∧ yX2_comesFrom.cls ≠ "java/lang/invoke/VarHandle" ∧ (parseMethodDescriptor yX2_comesFrom.desc).map (fun d => d.parameters.length) = some 2 := ⟨rfl, hd_X2_comesFrom⟩
theorem wX2_comesFrom_0 : Cond.fieldLink RX2 24 "WaxCopies$Wax" "mother" "[I" ∈ wsX2_comesFrom := by decide +kernel
theorem inX2_comesFrom_X2 : ∀ w ∈ wsX20, w ∈ wsX2_comesFrom := by decide +kernel
set_option maxHeartbeats 8000000 in
set_option maxRecDepth 100000 in
theorem L_X2_comesFrom_b10 {p : Program} {l : Launch} {e : Env} {s : State} {m : MethodId} {args : Array Value} {below : List Frame} {meth : Method} {c : Code} {G : zG} {r : Int32} {mu1 : Mm}  (C : CallFix p m c cX2_comesFrom 5 s args wsX2_comesFrom RX2) (hr : meth.sig.returnType = (some .boolean)) (hlk : meth.locks = false) (Z : z_Z G (z_A G s.heap.size) s)  :
    ∀ (n : Nat) (x2 : Int32) (x3 : Int32) (x4 : Int32) (μ : Mm), f_X2_comesFrom_b10  n x2 x3 x4 μ = some (r, mu1) → ∀ (H : Heap) (locs : List Loc), z_P G μ H → va_S (z_A G s.heap.size) s.heap H locs → ∀ ls : Array Slot, lv_has ls 5 [(0, .ref (G.2.1 (0))), (2, .int (x2)), (3, .int (x3)), (4, .int (x4))] → W p l e rm_X2_comesFrom s m args below meth c H locs 0 0 (MQ below (z_Qi G r mu1 s.heap.size) args s 0 0 (z_A G s.heap.size)) (F0 m 10 ls []) := by
  have hx := C.1
  have hb := C.2.1
  have hts := C.2.2.2.2
  intro n
  induction n with
  | zero =>
    intro x2 x3 x4 μ h
    rw [f_X2_comesFrom_b10] at h
    cases h
  | succ n ih =>
    intro x2 x3 x4 μ h H locs hP hS ls hl
    rw [f_X2_comesFrom_b10] at h
    refine lv_iload hx hb dX2_comesFrom_10 (lv_at hl 3 rfl) ?_
    refine lv_bipush (v := 24) hx hb dX2_comesFrom_12 (by decide) ?_
    refine lv_icmp_ge (tgt := 47) hx hb dX2_comesFrom_14 (by decide) (fun hc2 => ?_) (fun hc2 => ?_)
    · have h := z_ip hc2 h
      refine lv_iconst (v := 0) hx hb dX2_comesFrom_47 (by decide) ?_
      cases h
      exact z_retz C hr hlk rfl hP hS dX2_comesFrom_48
    · have h := z_in hc2 h
      refine lv_iload_n hx hb dX2_comesFrom_17 rfl (lv_at hl 2 rfl) ?_
      refine lv_if_lt (tgt := 47) hx hb dX2_comesFrom_18 (by decide) (fun hc3 => ?_) (fun hc3 => ?_)
      · have h := z_ip hc3 h
        refine lv_iconst (v := 0) hx hb dX2_comesFrom_47 (by decide) ?_
        cases h
        exact z_retz C hr hlk rfl hP hS dX2_comesFrom_48
      · have h := z_in hc3 h
        refine lv_iload_n hx hb dX2_comesFrom_21 rfl (lv_at hl 2 rfl) ?_
        refine lv_bipush (v := 24) hx hb dX2_comesFrom_22 (by decide) ?_
        refine lv_icmp_ge (tgt := 47) hx hb dX2_comesFrom_24 (by decide) (fun hc4 => ?_) (fun hc4 => ?_)
        · have h := z_ip hc4 h
          refine lv_iconst (v := 0) hx hb dX2_comesFrom_47 (by decide) ?_
          cases h
          exact z_retz C hr hlk rfl hP hS dX2_comesFrom_48
        · have h := z_in hc4 h
          refine lv_iload_n hx hb dX2_comesFrom_27 rfl (lv_at hl 2 rfl) ?_
          refine lv_iload_n hx hb dX2_comesFrom_28 rfl (lv_at hl 1 rfl) ?_
          refine lv_icmp_ne (tgt := 34) hx hb dX2_comesFrom_29 (by decide) (fun hc5 => ?_) (fun hc5 => ?_)
          · have h := z_in hc5 h
            refine lv_aload_n hx hb dX2_comesFrom_34 rfl (lv_at hl 0 rfl) ?_
            refine z_get C Z hP (k := 0) (ci := 2) (j := 4) (N := 19) (v := .ref (G.2.1 (5))) (by decide) (z_E_0 _) rfl inX2_comesFrom_X2 (by decide) wX2_comesFrom_0 rfl dX2_comesFrom_35 ?_
            refine lv_iload_n hx hb dX2_comesFrom_38 rfl (lv_at hl 2 rfl) ?_
            obtain ⟨hg6, h⟩ := z_g h
            refine z_iald C Z hP (k := 5) (n := 24) (j := (x3).toNatClampNeg) (by decide) (z_E_5 _) hg6 rfl dX2_comesFrom_39 ?_
            refine lv_istore_n (lv' := [(3, .int ((μ (5) ((x3).toNatClampNeg)))), (0, .ref (G.2.1 (0))), (2, .int (x2)), (4, .int (x4))]) hx hb dX2_comesFrom_40 rfl hl (by decide) rfl (fun ls hl => ?_)
            refine lv_iinc (v := (x4 + 1)) (lv' := [(4, .int ((x4 + 1))), (3, .int ((μ (5) ((x3).toNatClampNeg)))), (0, .ref (G.2.1 (0))), (2, .int (x2))]) hx hb dX2_comesFrom_41 hl (k := 3) rfl rfl (by decide) rfl (fun ls hl => ?_)
            refine lv_goto (tgt := 10) hx hb dX2_comesFrom_44 (by decide) ?_
            exact ih _ _ _ _ h _ _ hP hS ls (lv_sub hl [2, 3, 1, 0] rfl)
          · have h := z_ip hc5 h
            refine lv_iconst (v := 1) hx hb dX2_comesFrom_32 (by decide) ?_
            cases h
            exact z_retz C hr hlk rfl hP hS dX2_comesFrom_33
set_option maxHeartbeats 4000000 in
set_option maxRecDepth 100000 in
theorem c_X2_comesFrom (l : Launch) (G : zG) {x1 : Int32} {x2 : Int32} {μ mu1 : Mm} {r : Int32} (h : f_X2_comesFrom x1 x2 μ = some (r, mu1)) (sz : Nat) : Met l yX2_comesFrom wsX2_comesFrom rm_X2_comesFrom (z_Pre G μ [.ref (G.2.1 (0)), .int (x1), .int (x2)] sz) (z_Qi G r mu1 sz) 0 0 (z_A G sz) := by
  refine z_start (cc := cX2_comesFrom) (maxL := 5) (ret := (some .boolean)) (own := RX2) (by decide) rfl rfl (Nat.le_of_ble_eq_true rfl) (fun p e s m args below meth c C hr hlk Z hP ls hl => ?_) sz
  have hx := C.1
  have hb := C.2.1
  have hts := C.2.2.2.2
  have hS : va_S (z_A G s.heap.size) s.heap s.heap [] := va_S.rf
  have hl : lv_has ls 5 [(0, .ref (G.2.1 (0))), (1, .int (x1)), (2, .int (x2))] := hl
  unfold f_X2_comesFrom at h
  refine lv_aload_n hx hb dX2_comesFrom_0 rfl (lv_at hl 0 rfl) ?_
  refine z_get C Z hP (k := 0) (ci := 2) (j := 4) (N := 19) (v := .ref (G.2.1 (5))) (by decide) (z_E_0 _) rfl inX2_comesFrom_X2 (by decide) wX2_comesFrom_0 rfl dX2_comesFrom_1 ?_
  refine lv_iload_n hx hb dX2_comesFrom_4 rfl (lv_at hl 1 rfl) ?_
  obtain ⟨hg1, h⟩ := z_g h
  refine z_iald C Z hP (k := 5) (n := 24) (j := (x1).toNatClampNeg) (by decide) (z_E_5 _) hg1 rfl dX2_comesFrom_5 ?_
  refine lv_istore_n (lv' := [(3, .int ((μ (5) ((x1).toNatClampNeg)))), (0, .ref (G.2.1 (0))), (1, .int (x1)), (2, .int (x2))]) hx hb dX2_comesFrom_6 rfl hl (by decide) rfl (fun ls hl => ?_)
  refine lv_iconst (v := 0) hx hb dX2_comesFrom_7 (by decide) ?_
  refine lv_istore (lv' := [(4, .int (0)), (3, .int ((μ (5) ((x1).toNatClampNeg)))), (0, .ref (G.2.1 (0))), (1, .int (x1)), (2, .int (x2))]) hx hb dX2_comesFrom_8 hl (by decide) rfl (fun ls hl => ?_)
  exact L_X2_comesFrom_b10 C hr hlk Z z_F _ _ _ _ h _ _ hP hS ls (lv_sub hl [2, 4, 1, 0] rfl)
abbrev rm_X2_descendants : Room := { frames := 1, cells := 0, slots := 0, locals := 24 }
theorem hd_X2_descendants : yX2_descendants.cls ≠ "java/lang/invoke/MethodHandle" ∧ yX2_descendants.cls ≠ "java/lang/invoke/VarHandle" ∧ (parseMethodDescriptor yX2_descendants.desc).map (fun d => d.parameters.length) = some 1 := by decide +kernel
theorem hv_X2_descendants : yX2_descendants.cls = RX2 ∧ yX2_descendants.cls ≠ "java/lang/invoke/MethodHandle" ∧ yX2_descendants.cls ≠ "java/lang/invoke/VarHandle" ∧ (parseMethodDescriptor yX2_descendants.desc).map (fun d => d.parameters.length) = some 1 := ⟨rfl, hd_X2_descendants⟩
set_option maxHeartbeats 8000000 in
set_option maxRecDepth 100000 in
theorem L_X2_descendants_b4 {p : Program} {l : Launch} {e : Env} {s : State} {m : MethodId} {args : Array Value} {below : List Frame} {meth : Method} {c : Code} {G : zG} {r : Int32} {mu1 : Mm}  (C : CallFix p m c cX2_descendants 4 s args wsX2_descendants RX2) (hr : meth.sig.returnType = (some .int)) (hlk : meth.locks = false) (Z : z_Z G (z_A G s.heap.size) s)  :
    ∀ (n : Nat) (x1 : Int32) (x2 : Int32) (x3 : Int32) (μ : Mm), f_X2_descendants_b4  n x1 x2 x3 μ = some (r, mu1) → ∀ (H : Heap) (locs : List Loc), z_P G μ H → va_S (z_A G s.heap.size) s.heap H locs → ∀ ls : Array Slot, lv_has ls 4 [(0, .ref (G.2.1 (0))), (1, .int (x1)), (2, .int (x2)), (3, .int (x3))] → W p l e rm_X2_descendants s m args below meth c H locs 0 0 (MQ below (z_Qi G r mu1 s.heap.size) args s 0 0 (z_A G s.heap.size)) (F0 m 4 ls []) := by
  have hx := C.1
  have hb := C.2.1
  have hts := C.2.2.2.2
  intro n
  induction n with
  | zero =>
    intro x1 x2 x3 μ h
    rw [f_X2_descendants_b4] at h
    cases h
  | succ n ih =>
    intro x1 x2 x3 μ h H locs hP hS ls hl
    rw [f_X2_descendants_b4] at h
    refine lv_iload_n hx hb dX2_descendants_4 rfl (lv_at hl 3 rfl) ?_
    refine lv_bipush (v := 24) hx hb dX2_descendants_5 (by decide) ?_
    refine lv_icmp_ge (tgt := 33) hx hb dX2_descendants_7 (by decide) (fun hc1 => ?_) (fun hc1 => ?_)
    · have h := z_ip hc1 h
      refine lv_iload_n hx hb dX2_descendants_33 rfl (lv_at hl 2 rfl) ?_
      cases h
      exact z_reti C hr hlk hP hS dX2_descendants_34
    · have h := z_in hc1 h
      refine lv_iload_n hx hb dX2_descendants_10 rfl (lv_at hl 3 rfl) ?_
      refine lv_iload_n hx hb dX2_descendants_11 rfl (lv_at hl 1 rfl) ?_
      refine lv_icmp_eq (tgt := 27) hx hb dX2_descendants_12 (by decide) (fun hc2 => ?_) (fun hc2 => ?_)
      · have h := z_ip hc2 h
        refine lv_iinc (v := (x3 + 1)) (lv' := [(3, .int ((x3 + 1))), (0, .ref (G.2.1 (0))), (1, .int (x1)), (2, .int (x2))]) hx hb dX2_descendants_27 hl (k := 3) rfl rfl (by decide) rfl (fun ls hl => ?_)
        refine lv_goto (tgt := 4) hx hb dX2_descendants_30 (by decide) ?_
        exact ih _ _ _ _ h _ _ hP hS ls (lv_sub hl [1, 2, 3, 0] rfl)
      · have h := z_in hc2 h
        refine lv_aload_n hx hb dX2_descendants_15 rfl (lv_at hl 0 rfl) ?_
        refine lv_iload_n hx hb dX2_descendants_16 rfl (lv_at hl 3 rfl) ?_
        refine lv_iload_n hx hb dX2_descendants_17 rfl (lv_at hl 1 rfl) ?_
        obtain ⟨r3, m4, e5, h⟩ := zb_some h
        refine z_calli hS (va_runV (As := [.int (x3), .int (x1)]) (rest := []) C (c_X2_comesFrom l G e5 _) (cwV 2 hts gX2_descendants_X2_comesFrom rfl rfl rfl hv_X2_comesFrom ⟨Nat.le_of_ble_eq_true rfl, Nat.le_of_ble_eq_true rfl⟩) (z_preV Z hS hP (by decide) (z_E_0 _) rfl rfl) rfl rfl hl.1 rfl (lv_room (Nat.le_of_ble_eq_true rfl)) dX2_descendants_18 ⟨Nat.zero_le _, Nat.zero_le _⟩) (fun H locs hP hS => ?_)
        refine lv_if_eq (tgt := 27) hx hb dX2_descendants_21 (by decide) (fun hc6 => ?_) (fun hc6 => ?_)
        · have h := z_ip hc6 h
          refine lv_iinc (v := (x3 + 1)) (lv' := [(3, .int ((x3 + 1))), (0, .ref (G.2.1 (0))), (1, .int (x1)), (2, .int (x2))]) hx hb dX2_descendants_27 hl (k := 3) rfl rfl (by decide) rfl (fun ls hl => ?_)
          refine lv_goto (tgt := 4) hx hb dX2_descendants_30 (by decide) ?_
          exact ih _ _ _ _ h _ _ hP hS ls (lv_sub hl [1, 2, 3, 0] rfl)
        · have h := z_in hc6 h
          refine lv_iinc (v := (x2 + 1)) (lv' := [(2, .int ((x2 + 1))), (0, .ref (G.2.1 (0))), (1, .int (x1)), (3, .int (x3))]) hx hb dX2_descendants_24 hl (k := 2) rfl rfl (by decide) rfl (fun ls hl => ?_)
          refine lv_iinc (v := (x3 + 1)) (lv' := [(3, .int ((x3 + 1))), (2, .int ((x2 + 1))), (0, .ref (G.2.1 (0))), (1, .int (x1))]) hx hb dX2_descendants_27 hl (k := 3) rfl rfl (by decide) rfl (fun ls hl => ?_)
          refine lv_goto (tgt := 4) hx hb dX2_descendants_30 (by decide) ?_
          exact ih _ _ _ _ h _ _ hP hS ls (lv_sub hl [2, 3, 1, 0] rfl)
set_option maxHeartbeats 4000000 in
set_option maxRecDepth 100000 in
theorem c_X2_descendants (l : Launch) (G : zG) {x1 : Int32} {μ mu1 : Mm} {r : Int32} (h : f_X2_descendants x1 μ = some (r, mu1)) (sz : Nat) : Met l yX2_descendants wsX2_descendants rm_X2_descendants (z_Pre G μ [.ref (G.2.1 (0)), .int (x1)] sz) (z_Qi G r mu1 sz) 0 0 (z_A G sz) := by
  refine z_start (cc := cX2_descendants) (maxL := 4) (ret := (some .int)) (own := RX2) (by decide) rfl rfl (Nat.le_of_ble_eq_true rfl) (fun p e s m args below meth c C hr hlk Z hP ls hl => ?_) sz
  have hx := C.1
  have hb := C.2.1
  have hts := C.2.2.2.2
  have hS : va_S (z_A G s.heap.size) s.heap s.heap [] := va_S.rf
  have hl : lv_has ls 4 [(0, .ref (G.2.1 (0))), (1, .int (x1))] := hl
  unfold f_X2_descendants at h
  refine lv_iconst (v := 0) hx hb dX2_descendants_0 (by decide) ?_
  refine lv_istore_n (lv' := [(2, .int (0)), (0, .ref (G.2.1 (0))), (1, .int (x1))]) hx hb dX2_descendants_1 rfl hl (by decide) rfl (fun ls hl => ?_)
  refine lv_iconst (v := 0) hx hb dX2_descendants_2 (by decide) ?_
  refine lv_istore_n (lv' := [(3, .int (0)), (2, .int (0)), (0, .ref (G.2.1 (0))), (1, .int (x1))]) hx hb dX2_descendants_3 rfl hl (by decide) rfl (fun ls hl => ?_)
  exact L_X2_descendants_b4 C hr hlk Z z_F _ _ _ _ h _ _ hP hS ls (lv_sub hl [2, 3, 1, 0] rfl)
