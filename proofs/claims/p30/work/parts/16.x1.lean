abbrev rm_X1_forget : Room := { frames := 0, cells := 0, slots := 0, locals := 0 }
theorem hd_X1_forget : yX1_forget.cls ≠ "java/lang/invoke/MethodHandle" ∧ yX1_forget.cls ≠ "java/lang/invoke/VarHandle" ∧ (parseMethodDescriptor yX1_forget.desc).map (fun d => d.parameters.length) = some 3 := by decide +kernel
theorem hv_X1_forget : yX1_forget.cls = RX1 ∧ yX1_forget.cls ≠ "java/lang/invoke/MethodHandle" ∧ yX1_forget.cls ≠ "java/lang/invoke/VarHandle" ∧ (parseMethodDescriptor yX1_forget.desc).map (fun d => d.parameters.length) = some 3 := ⟨rfl, hd_X1_forget⟩
set_option maxHeartbeats 8000000 in
set_option maxRecDepth 100000 in
theorem L_X1_forget_b11 {p : Program} {l : Launch} {e : Env} {s : State} {m : MethodId} {args : Array Value} {below : List Frame} {meth : Method} {c : Code} {G : zG} {r : Unit} {mu1 : Mm} {ag2 : Nat → Int32 → Int32 → Int32 → Mm → Option (Unit × Mm)} (C : CallFix p m c cX1_forget 5 s args wsX1_forget RX1) (hr : meth.sig.returnType = none) (hlk : meth.locks = false) (Z : z_Z G (z_A G s.heap.size) s) (hag2 : ∀ (x0 : Nat) (x1 : Int32) (x2 : Int32) (x3 : Int32) (μ : Mm), ag2 x0 x1 x2 x3 μ = some (r, mu1) → ∀ (H : Heap) (locs : List Loc), z_P G μ H → va_S (z_A G s.heap.size) s.heap H locs → ∀ ls : Array Slot, lv_has ls 5 [(0, .ref (G.2.1 (x0))), (1, .int (x1)), (2, .int (x2)), (3, .int (x3))] → W p l e rm_X1_forget s m args below meth c H locs 0 0 (MQ below (z_Qv G r mu1 s.heap.size) args s 0 0 (z_A G s.heap.size)) (F0 m 2 ls [])) :
    ∀ (n : Nat) (x0 : Nat) (x1 : Int32) (x2 : Int32) (x3 : Int32) (x4 : Int32) (μ : Mm), f_X1_forget_b11 ag2 n x0 x1 x2 x3 x4 μ = some (r, mu1) → ∀ (H : Heap) (locs : List Loc), z_P G μ H → va_S (z_A G s.heap.size) s.heap H locs → ∀ ls : Array Slot, lv_has ls 5 [(0, .ref (G.2.1 (x0))), (1, .int (x1)), (2, .int (x2)), (3, .int (x3)), (4, .int (x4))] → W p l e rm_X1_forget s m args below meth c H locs 0 0 (MQ below (z_Qv G r mu1 s.heap.size) args s 0 0 (z_A G s.heap.size)) (F0 m 11 ls []) := by
  have hx := C.1
  have hb := C.2.1
  have hts := C.2.2.2.2
  intro n
  induction n with
  | zero =>
    intro x0 x1 x2 x3 x4 μ h
    rw [f_X1_forget_b11] at h
    cases h
  | succ n ih =>
    intro x0 x1 x2 x3 x4 μ h H locs hP hS ls hl
    rw [f_X1_forget_b11] at h
    refine lv_iload hx hb dX1_forget_11 (lv_at hl 4 rfl) ?_
    refine lv_iload_n hx hb dX1_forget_13 rfl (lv_at hl 2 rfl) ?_
    refine lv_icmp_gt (tgt := 30) hx hb dX1_forget_14 (by decide) (fun hc2 => ?_) (fun hc2 => ?_)
    · have h := z_ip hc2 h
      refine lv_iinc (v := (x3 + 1)) (lv' := [(3, .int ((x3 + 1))), (0, .ref (G.2.1 (x0))), (1, .int (x1)), (2, .int (x2)), (4, .int (x4))]) hx hb dX1_forget_30 hl (k := 3) rfl rfl (by decide) rfl (fun ls hl => ?_)
      refine lv_goto (tgt := 2) hx hb dX1_forget_33 (by decide) ?_
      exact hag2 _ _ _ _ _ h _ _ hP hS ls (lv_sub hl [1, 2, 3, 0] rfl)
    · have h := z_in hc2 h
      refine lv_aload_n hx hb dX1_forget_17 rfl (lv_at hl 0 rfl) ?_
      refine lv_iload_n hx hb dX1_forget_18 rfl (lv_at hl 3 rfl) ?_
      obtain ⟨hg3, h⟩ := z_g h
      obtain ⟨hg4, h⟩ := z_g h
      refine z_aldA C Z hP (k := x0) (n := 10) (b := G.2.1 (99 + 10 * (x0 - 97) + (x3).toNatClampNeg)) (by omega) (z_E_out hg3 _) hg4 rfl dX1_forget_19 ?_
      have hw5 : 99 ≤ (99 + 10 * (x0 - 97) + (x3).toNatClampNeg) ∧ (99 + 10 * (x0 - 97) + (x3).toNatClampNeg) < 119 := z_rowin hg3 hg4 rfl
      refine lv_iload hx hb dX1_forget_20 (lv_at hl 4 rfl) ?_
      refine lv_iconst (v := (-1)) hx hb dX1_forget_22 (by decide) ?_
      obtain ⟨hg6, h⟩ := z_g h
      refine z_iast C Z hP hS (k := (99 + 10 * (x0 - 97) + (x3).toNatClampNeg)) (n := 101) (j := (x4).toNatClampNeg) (by omega) (fun r => z_E_row hw5 r) hg6 rfl dX1_forget_23 (fun H locs hP hS => ?_)
      refine lv_iinc (v := (x4 + 1)) (lv' := [(4, .int ((x4 + 1))), (0, .ref (G.2.1 (x0))), (1, .int (x1)), (2, .int (x2)), (3, .int (x3))]) hx hb dX1_forget_24 hl (k := 4) rfl rfl (by decide) rfl (fun ls hl => ?_)
      refine lv_goto (tgt := 11) hx hb dX1_forget_27 (by decide) ?_
      exact ih _ _ _ _ _ _ h _ _ hP hS ls (lv_sub hl [1, 2, 3, 4, 0] rfl)
set_option maxHeartbeats 8000000 in
set_option maxRecDepth 100000 in
theorem L_X1_forget_b2 {p : Program} {l : Launch} {e : Env} {s : State} {m : MethodId} {args : Array Value} {below : List Frame} {meth : Method} {c : Code} {G : zG} {r : Unit} {mu1 : Mm}  (C : CallFix p m c cX1_forget 5 s args wsX1_forget RX1) (hr : meth.sig.returnType = none) (hlk : meth.locks = false) (Z : z_Z G (z_A G s.heap.size) s)  :
    ∀ (n : Nat) (x0 : Nat) (x1 : Int32) (x2 : Int32) (x3 : Int32) (μ : Mm), f_X1_forget_b2  n x0 x1 x2 x3 μ = some (r, mu1) → ∀ (H : Heap) (locs : List Loc), z_P G μ H → va_S (z_A G s.heap.size) s.heap H locs → ∀ ls : Array Slot, lv_has ls 5 [(0, .ref (G.2.1 (x0))), (1, .int (x1)), (2, .int (x2)), (3, .int (x3))] → W p l e rm_X1_forget s m args below meth c H locs 0 0 (MQ below (z_Qv G r mu1 s.heap.size) args s 0 0 (z_A G s.heap.size)) (F0 m 2 ls []) := by
  have hx := C.1
  have hb := C.2.1
  have hts := C.2.2.2.2
  intro n
  induction n with
  | zero =>
    intro x0 x1 x2 x3 μ h
    rw [f_X1_forget_b2] at h
    cases h
  | succ n ih =>
    intro x0 x1 x2 x3 μ h H locs hP hS ls hl
    rw [f_X1_forget_b2] at h
    refine lv_iload_n hx hb dX1_forget_2 rfl (lv_at hl 3 rfl) ?_
    refine lv_bipush (v := 9) hx hb dX1_forget_3 (by decide) ?_
    refine lv_icmp_gt (tgt := 36) hx hb dX1_forget_5 (by decide) (fun hc1 => ?_) (fun hc1 => ?_)
    · have h := z_ip hc1 h
      cases h
      exact z_retv C hr hlk hP hS dX1_forget_36
    · have h := z_in hc1 h
      refine lv_iload_n hx hb dX1_forget_8 rfl (lv_at hl 1 rfl) ?_
      refine lv_istore (lv' := [(4, .int (x1)), (0, .ref (G.2.1 (x0))), (1, .int (x1)), (2, .int (x2)), (3, .int (x3))]) hx hb dX1_forget_9 hl (by decide) rfl (fun ls hl => ?_)
      exact L_X1_forget_b11 C hr hlk Z ih z_F _ _ _ _ _ _ h _ _ hP hS ls (lv_sub hl [1, 2, 3, 4, 0] rfl)
set_option maxHeartbeats 4000000 in
set_option maxRecDepth 100000 in
theorem c_X1_forget (l : Launch) (G : zG) {x0 : Nat} {x1 : Int32} {x2 : Int32} {μ mu1 : Mm} {r : Unit} (h : f_X1_forget x0 x1 x2 μ = some (r, mu1)) (sz : Nat) : Met l yX1_forget wsX1_forget rm_X1_forget (z_Pre G μ [.ref (G.2.1 (x0)), .int (x1), .int (x2)] sz) (z_Qv G r mu1 sz) 0 0 (z_A G sz) := by
  refine z_start (cc := cX1_forget) (maxL := 5) (ret := none) (own := RX1) (by decide) rfl rfl (Nat.le_of_ble_eq_true rfl) (fun p e s m args below meth c C hr hlk Z hP ls hl => ?_) sz
  have hx := C.1
  have hb := C.2.1
  have hts := C.2.2.2.2
  have hS : va_S (z_A G s.heap.size) s.heap s.heap [] := va_S.rf
  have hl : lv_has ls 5 [(0, .ref (G.2.1 (x0))), (1, .int (x1)), (2, .int (x2))] := hl
  unfold f_X1_forget at h
  refine lv_iconst (v := 1) hx hb dX1_forget_0 (by decide) ?_
  refine lv_istore_n (lv' := [(3, .int (1)), (0, .ref (G.2.1 (x0))), (1, .int (x1)), (2, .int (x2))]) hx hb dX1_forget_1 rfl hl (by decide) rfl (fun ls hl => ?_)
  exact L_X1_forget_b2 C hr hlk Z z_F _ _ _ _ _ h _ _ hP hS ls (lv_sub hl [1, 2, 3, 0] rfl)
abbrev rm_X1_stepOn : Room := { frames := 2, cells := 0, slots := 0, locals := 43 }
theorem hd_X1_stepOn : yX1_stepOn.cls ≠ "java/lang/invoke/MethodHandle" ∧ yX1_stepOn.cls ≠ "java/lang/invoke/VarHandle" ∧ (parseMethodDescriptor yX1_stepOn.desc).map (fun d => d.parameters.length) = some 2 := by decide +kernel
theorem hv_X1_stepOn : yX1_stepOn.cls = RX1 ∧ yX1_stepOn.cls ≠ "java/lang/invoke/MethodHandle" ∧ yX1_stepOn.cls ≠ "java/lang/invoke/VarHandle" ∧ (parseMethodDescriptor yX1_stepOn.desc).map (fun d => d.parameters.length) = some 2 := ⟨rfl, hd_X1_stepOn⟩
theorem wX1_stepOn_0 : Cond.fieldLink RX1 11 "WaxCopies$Steps" "best" "[[I" ∈ wsX1_stepOn := by decide +kernel
theorem inX1_stepOn_X1 : ∀ w ∈ wsX10, w ∈ wsX1_stepOn := by decide +kernel
theorem wX1_stepOn_2 : Cond.initialized RX3 ∈ wsX1_stepOn := by decide +kernel
theorem wX1_stepOn_3 : Cond.static yX3_copiedDepth ∈ wsX1_stepOn := by decide +kernel
theorem wX1_stepOn_4 : Cond.static yX3_sharpnessAfter ∈ wsX1_stepOn := by decide +kernel
theorem wX1_stepOn_5 : Cond.static yX3_copiedClearness ∈ wsX1_stepOn := by decide +kernel
theorem wX1_stepOn_6 : Cond.fieldLink RX1 16 "WaxCopies$Steps" "next" "[[I" ∈ wsX1_stepOn := by decide +kernel
theorem wX1_stepOn_7 : Cond.methodLink RX1 41 Lib.Math.max.name ∈ wsX1_stepOn := by decide +kernel
theorem wX1_stepOn_8 : Cond.static Lib.Math.max.name ∈ wsX1_stepOn := by decide +kernel
theorem wX1_stepOn_9 : Cond.initialized "java/lang/Math" ∈ wsX1_stepOn := by decide +kernel
theorem wX1_stepOn_10 : Cond.code Lib.Math.max.name Lib.Math.max.code 2 (some .int) ∈ wsX1_stepOn := by decide +kernel
set_option maxHeartbeats 8000000 in
set_option maxRecDepth 100000 in
theorem L_X1_stepOn_b31 {p : Program} {l : Launch} {e : Env} {s : State} {m : MethodId} {args : Array Value} {below : List Frame} {meth : Method} {c : Code} {G : zG} {r : Unit} {mu1 : Mm} {ag2 : Int32 → Int32 → Int32 → Mm → Option (Unit × Mm)} {ag11 : Int32 → Int32 → Int32 → Int32 → Mm → Option (Unit × Mm)} (C : CallFix p m c cX1_stepOn 10 s args wsX1_stepOn RX1) (hr : meth.sig.returnType = none) (hlk : meth.locks = false) (Z : z_Z G (z_A G s.heap.size) s) (hag2 : ∀ (x1 : Int32) (x2 : Int32) (x3 : Int32) (μ : Mm), ag2 x1 x2 x3 μ = some (r, mu1) → ∀ (H : Heap) (locs : List Loc), z_P G μ H → va_S (z_A G s.heap.size) s.heap H locs → ∀ ls : Array Slot, lv_has ls 10 [(0, .ref (G.2.1 (96))), (1, .int (x1)), (2, .int (x2)), (3, .int (x3))] → W p l e rm_X1_stepOn s m args below meth c H locs 0 0 (MQ below (z_Qv G r mu1 s.heap.size) args s 0 0 (z_A G s.heap.size)) (F0 m 2 ls [])) (hag11 : ∀ (x1 : Int32) (x2 : Int32) (x3 : Int32) (x4 : Int32) (μ : Mm), ag11 x1 x2 x3 x4 μ = some (r, mu1) → ∀ (H : Heap) (locs : List Loc), z_P G μ H → va_S (z_A G s.heap.size) s.heap H locs → ∀ ls : Array Slot, lv_has ls 10 [(0, .ref (G.2.1 (96))), (1, .int (x1)), (2, .int (x2)), (3, .int (x3)), (4, .int (x4))] → W p l e rm_X1_stepOn s m args below meth c H locs 0 0 (MQ below (z_Qv G r mu1 s.heap.size) args s 0 0 (z_A G s.heap.size)) (F0 m 11 ls [])) :
    ∀ (n : Nat) (x1 : Int32) (x2 : Int32) (x3 : Int32) (x4 : Int32) (x5 : Int32) (x6 : Int32) (μ : Mm), f_X1_stepOn_b31 ag2 ag11 n x1 x2 x3 x4 x5 x6 μ = some (r, mu1) → ∀ (H : Heap) (locs : List Loc), z_P G μ H → va_S (z_A G s.heap.size) s.heap H locs → ∀ ls : Array Slot, lv_has ls 10 [(0, .ref (G.2.1 (96))), (1, .int (x1)), (2, .int (x2)), (3, .int (x3)), (4, .int (x4)), (5, .int (x5)), (6, .int (x6))] → W p l e rm_X1_stepOn s m args below meth c H locs 0 0 (MQ below (z_Qv G r mu1 s.heap.size) args s 0 0 (z_A G s.heap.size)) (F0 m 31 ls []) := by
  have hx := C.1
  have hb := C.2.1
  have hts := C.2.2.2.2
  intro n
  induction n with
  | zero =>
    intro x1 x2 x3 x4 x5 x6 μ h
    rw [f_X1_stepOn_b31] at h
    cases h
  | succ n ih =>
    intro x1 x2 x3 x4 x5 x6 μ h H locs hP hS ls hl
    rw [f_X1_stepOn_b31] at h
    refine lv_iload hx hb dX1_stepOn_31 (lv_at hl 6 rfl) ?_
    refine lv_iconst (v := 3) hx hb dX1_stepOn_33 (by decide) ?_
    refine lv_icmp_gt (tgt := 103) hx hb dX1_stepOn_34 (by decide) (fun hc7 => ?_) (fun hc7 => ?_)
    · have h := z_ip hc7 h
      refine lv_iinc (v := (x4 + 1)) (lv' := [(4, .int ((x4 + 1))), (0, .ref (G.2.1 (96))), (1, .int (x1)), (2, .int (x2)), (3, .int (x3)), (5, .int (x5)), (6, .int (x6))]) hx hb dX1_stepOn_103 hl (k := 4) rfl rfl (by decide) rfl (fun ls hl => ?_)
      refine lv_goto (tgt := 11) hx hb dX1_stepOn_106 (by decide) ?_
      exact hag11 _ _ _ _ _ h _ _ hP hS ls (lv_sub hl [1, 2, 3, 4, 0] rfl)
    · have h := z_in hc7 h
      refine lv_iload hx hb dX1_stepOn_37 (lv_at hl 5 rfl) ?_
      refine lv_iconst (v := (-1)) hx hb dX1_stepOn_39 (by decide) ?_
      refine lv_icmp_eq (tgt := 103) hx hb dX1_stepOn_40 (by decide) (fun hc8 => ?_) (fun hc8 => ?_)
      · have h := z_ip hc8 h
        refine lv_iinc (v := (x4 + 1)) (lv' := [(4, .int ((x4 + 1))), (0, .ref (G.2.1 (96))), (1, .int (x1)), (2, .int (x2)), (3, .int (x3)), (5, .int (x5)), (6, .int (x6))]) hx hb dX1_stepOn_103 hl (k := 4) rfl rfl (by decide) rfl (fun ls hl => ?_)
        refine lv_goto (tgt := 11) hx hb dX1_stepOn_106 (by decide) ?_
        exact hag11 _ _ _ _ _ h _ _ hP hS ls (lv_sub hl [1, 2, 3, 4, 0] rfl)
      · have h := z_in hc8 h
        refine lv_iload_n hx hb dX1_stepOn_43 rfl (lv_at hl 3 rfl) ?_
        refine lv_iload hx hb dX1_stepOn_44 (lv_at hl 6 rfl) ?_
        obtain ⟨r9, m10, e11, h⟩ := zb_some h
        refine z_calli hS (va_runSN (As := [.int (x3), .int (x6)]) (rest := []) C (c_X3_copiedDepth l G e11 _) ⟨va_cnB 2 hts gX1_stepOn_X3_copiedDepth_n34 rfl rfl rfl (Z.2.2.2.2.1 (RX1, 34, yX3_copiedDepth) (by decide +kernel)) (C.2.2.2.2 _ wX1_stepOn_2) hd_X3_copiedDepth ⟨Nat.le_of_ble_eq_true rfl, Nat.le_of_ble_eq_true rfl⟩, C.2.2.2.2 _ wX1_stepOn_3, trivial⟩ (z_preS Z hS hP) rfl rfl hl.1 rfl (lv_room (Nat.le_of_ble_eq_true rfl)) dX1_stepOn_46 ⟨Nat.zero_le _, Nat.zero_le _⟩) (fun H locs hP hS => ?_)
        refine lv_istore (lv' := [(7, .int (r9)), (0, .ref (G.2.1 (96))), (1, .int (x1)), (2, .int (x2)), (3, .int (x3)), (4, .int (x4)), (5, .int (x5)), (6, .int (x6))]) hx hb dX1_stepOn_49 hl (by decide) rfl (fun ls hl => ?_)
        refine lv_iload hx hb dX1_stepOn_51 (lv_at hl 5 rfl) ?_
        refine lv_iload hx hb dX1_stepOn_53 (lv_at hl 0 rfl) ?_
        obtain ⟨r12, m13, e14, h⟩ := zb_some h
        refine z_calli hS (va_runSN (As := [.int (x4), .int (r9)]) (rest := []) C (c_X3_sharpnessAfter l G e14 _) ⟨va_cnB 2 hts gX1_stepOn_X3_sharpnessAfter_n23 rfl rfl rfl (Z.2.2.2.2.1 (RX1, 23, yX3_sharpnessAfter) (by decide +kernel)) (C.2.2.2.2 _ wX1_stepOn_2) hd_X3_sharpnessAfter ⟨Nat.le_of_ble_eq_true rfl, Nat.le_of_ble_eq_true rfl⟩, C.2.2.2.2 _ wX1_stepOn_4, trivial⟩ (z_preS Z hS hP) rfl rfl hl.1 rfl (lv_room (Nat.le_of_ble_eq_true rfl)) dX1_stepOn_55 ⟨Nat.zero_le _, Nat.zero_le _⟩) (fun H locs hP hS => ?_)
        refine lv_istore (lv' := [(8, .int (r12)), (7, .int (r9)), (0, .ref (G.2.1 (96))), (1, .int (x1)), (2, .int (x2)), (3, .int (x3)), (4, .int (x4)), (5, .int (x5)), (6, .int (x6))]) hx hb dX1_stepOn_58 hl (by decide) rfl (fun ls hl => ?_)
        refine lv_iload hx hb dX1_stepOn_60 (lv_at hl 7 rfl) ?_
        refine lv_iload hx hb dX1_stepOn_62 (lv_at hl 8 rfl) ?_
        refine lv_iload hx hb dX1_stepOn_64 (lv_at hl 6 rfl) ?_
        refine lv_iconst (v := 0) hx hb dX1_stepOn_66 (by decide) ?_
        obtain ⟨r15, m16, e17, h⟩ := zb_some h
        refine z_calli hS (va_runSN (As := [.int (x5), .int (x6), .int (x4), .int (0)]) (rest := []) C (c_X3_copiedClearness l G e17 _) ⟨va_cnB 4 hts gX1_stepOn_X3_copiedClearness_n37 rfl rfl rfl (Z.2.2.2.2.1 (RX1, 37, yX3_copiedClearness) (by decide +kernel)) (C.2.2.2.2 _ wX1_stepOn_2) hd_X3_copiedClearness ⟨Nat.le_of_ble_eq_true rfl, Nat.le_of_ble_eq_true rfl⟩, C.2.2.2.2 _ wX1_stepOn_5, trivial⟩ (z_preS Z hS hP) rfl rfl hl.1 rfl (lv_room (Nat.le_of_ble_eq_true rfl)) dX1_stepOn_67 ⟨Nat.zero_le _, Nat.zero_le _⟩) (fun H locs hP hS => ?_)
        refine lv_istore (lv' := [(9, .int (r15)), (8, .int (r12)), (7, .int (r9)), (0, .ref (G.2.1 (96))), (1, .int (x1)), (2, .int (x2)), (3, .int (x3)), (4, .int (x4)), (5, .int (x5)), (6, .int (x6))]) hx hb dX1_stepOn_70 hl (by decide) rfl (fun ls hl => ?_)
        refine lv_aload_n hx hb dX1_stepOn_72 rfl (lv_at hl 3 rfl) ?_
        refine z_get C Z hP (k := 96) (ci := 1) (j := 1) (N := 2) (v := .ref (G.2.1 ((z_rf (m16 96 1))))) (by decide) (z_E_96 _) rfl inX1_stepOn_X1 (by decide) wX1_stepOn_6 rfl dX1_stepOn_73 ?_
        refine lv_iload hx hb dX1_stepOn_76 (lv_at hl 2 rfl) ?_
        obtain ⟨hg18, h⟩ := z_g h
        obtain ⟨hg19, h⟩ := z_g h
        refine z_aldA C Z hP (k := (z_rf (m16 96 1))) (n := 10) (b := G.2.1 (99 + 10 * ((z_rf (m16 96 1)) - 97) + (r9).toNatClampNeg)) (by omega) (z_E_out hg18 _) hg19 rfl dX1_stepOn_78 ?_
        have hw20 : 99 ≤ (99 + 10 * ((z_rf (m16 96 1)) - 97) + (r9).toNatClampNeg) ∧ (99 + 10 * ((z_rf (m16 96 1)) - 97) + (r9).toNatClampNeg) < 119 := z_rowin hg18 hg19 rfl
        refine lv_iload hx hb dX1_stepOn_79 (lv_at hl 1 rfl) ?_
        refine lv_aload_n hx hb dX1_stepOn_81 rfl (lv_at hl 3 rfl) ?_
        refine z_get C Z hP (k := 96) (ci := 1) (j := 1) (N := 2) (v := .ref (G.2.1 ((z_rf (m16 96 1))))) (by decide) (z_E_96 _) rfl inX1_stepOn_X1 (by decide) wX1_stepOn_6 rfl dX1_stepOn_82 ?_
        refine lv_iload hx hb dX1_stepOn_85 (lv_at hl 2 rfl) ?_
        refine z_aldA C Z hP (k := (z_rf (m16 96 1))) (n := 10) (b := G.2.1 (99 + 10 * ((z_rf (m16 96 1)) - 97) + (r9).toNatClampNeg)) (by omega) (z_E_out hg18 _) hg19 rfl dX1_stepOn_87 ?_
        have hw21 : 99 ≤ (99 + 10 * ((z_rf (m16 96 1)) - 97) + (r9).toNatClampNeg) ∧ (99 + 10 * ((z_rf (m16 96 1)) - 97) + (r9).toNatClampNeg) < 119 := z_rowin hg18 hg19 rfl
        refine lv_iload hx hb dX1_stepOn_88 (lv_at hl 1 rfl) ?_
        obtain ⟨hg22, h⟩ := z_g h
        refine z_iald C Z hP (k := (99 + 10 * ((z_rf (m16 96 1)) - 97) + (r9).toNatClampNeg)) (n := 101) (j := (r12).toNatClampNeg) (by omega) (z_E_row hw21 _) hg22 rfl dX1_stepOn_90 ?_
        refine lv_iload hx hb dX1_stepOn_91 (lv_at hl 0 rfl) ?_
        refine va_mmax hx hb (C.2.2.1.trans hl.1.symm) C.2.2.2.1 (C.2.2.2.2 _ wX1_stepOn_7) (C.2.2.2.2 _ wX1_stepOn_8) (C.2.2.2.2 _ wX1_stepOn_9) (C.2.2.2.2 _ wX1_stepOn_10) (Nat.le_of_ble_eq_true rfl) (Nat.le_of_ble_eq_true rfl) (Nat.zero_le _) (Nat.zero_le _) dX1_stepOn_93 ?_
        refine z_iast C Z hP hS (k := (99 + 10 * ((z_rf (m16 96 1)) - 97) + (r9).toNatClampNeg)) (n := 101) (j := (r12).toNatClampNeg) (by omega) (fun r => z_E_row hw20 r) hg22 rfl dX1_stepOn_96 (fun H locs hP hS => ?_)
        refine lv_iinc (v := (x6 + 1)) (lv' := [(6, .int ((x6 + 1))), (9, .int (r15)), (8, .int (r12)), (7, .int (r9)), (0, .ref (G.2.1 (96))), (1, .int (x1)), (2, .int (x2)), (3, .int (x3)), (4, .int (x4)), (5, .int (x5))]) hx hb dX1_stepOn_97 hl (k := 9) rfl rfl (by decide) rfl (fun ls hl => ?_)
        refine lv_goto (tgt := 31) hx hb dX1_stepOn_100 (by decide) ?_
        exact ih _ _ _ _ _ _ _ h _ _ hP hS ls (lv_sub hl [4, 5, 6, 7, 8, 9, 0] rfl)
set_option maxHeartbeats 8000000 in
set_option maxRecDepth 100000 in
theorem L_X1_stepOn_b11 {p : Program} {l : Launch} {e : Env} {s : State} {m : MethodId} {args : Array Value} {below : List Frame} {meth : Method} {c : Code} {G : zG} {r : Unit} {mu1 : Mm} {ag2 : Int32 → Int32 → Int32 → Mm → Option (Unit × Mm)} (C : CallFix p m c cX1_stepOn 10 s args wsX1_stepOn RX1) (hr : meth.sig.returnType = none) (hlk : meth.locks = false) (Z : z_Z G (z_A G s.heap.size) s) (hag2 : ∀ (x1 : Int32) (x2 : Int32) (x3 : Int32) (μ : Mm), ag2 x1 x2 x3 μ = some (r, mu1) → ∀ (H : Heap) (locs : List Loc), z_P G μ H → va_S (z_A G s.heap.size) s.heap H locs → ∀ ls : Array Slot, lv_has ls 10 [(0, .ref (G.2.1 (96))), (1, .int (x1)), (2, .int (x2)), (3, .int (x3))] → W p l e rm_X1_stepOn s m args below meth c H locs 0 0 (MQ below (z_Qv G r mu1 s.heap.size) args s 0 0 (z_A G s.heap.size)) (F0 m 2 ls [])) :
    ∀ (n : Nat) (x1 : Int32) (x2 : Int32) (x3 : Int32) (x4 : Int32) (μ : Mm), f_X1_stepOn_b11 ag2 n x1 x2 x3 x4 μ = some (r, mu1) → ∀ (H : Heap) (locs : List Loc), z_P G μ H → va_S (z_A G s.heap.size) s.heap H locs → ∀ ls : Array Slot, lv_has ls 10 [(0, .ref (G.2.1 (96))), (1, .int (x1)), (2, .int (x2)), (3, .int (x3)), (4, .int (x4))] → W p l e rm_X1_stepOn s m args below meth c H locs 0 0 (MQ below (z_Qv G r mu1 s.heap.size) args s 0 0 (z_A G s.heap.size)) (F0 m 11 ls []) := by
  have hx := C.1
  have hb := C.2.1
  have hts := C.2.2.2.2
  intro n
  induction n with
  | zero =>
    intro x1 x2 x3 x4 μ h
    rw [f_X1_stepOn_b11] at h
    cases h
  | succ n ih =>
    intro x1 x2 x3 x4 μ h H locs hP hS ls hl
    rw [f_X1_stepOn_b11] at h
    refine lv_iload hx hb dX1_stepOn_11 (lv_at hl 4 rfl) ?_
    refine lv_iload_n hx hb dX1_stepOn_13 rfl (lv_at hl 2 rfl) ?_
    refine lv_icmp_gt (tgt := 109) hx hb dX1_stepOn_14 (by decide) (fun hc2 => ?_) (fun hc2 => ?_)
    · have h := z_ip hc2 h
      refine lv_iinc (v := (x3 + 1)) (lv' := [(3, .int ((x3 + 1))), (0, .ref (G.2.1 (96))), (1, .int (x1)), (2, .int (x2)), (4, .int (x4))]) hx hb dX1_stepOn_109 hl (k := 3) rfl rfl (by decide) rfl (fun ls hl => ?_)
      refine lv_goto (tgt := 2) hx hb dX1_stepOn_112 (by decide) ?_
      exact hag2 _ _ _ _ h _ _ hP hS ls (lv_sub hl [1, 2, 3, 0] rfl)
    · have h := z_in hc2 h
      refine lv_aload_n hx hb dX1_stepOn_17 rfl (lv_at hl 0 rfl) ?_
      refine z_get C Z hP (k := 96) (ci := 1) (j := 0) (N := 2) (v := .ref (G.2.1 ((z_rf (μ 96 0))))) (by decide) (z_E_96 _) rfl inX1_stepOn_X1 (by decide) wX1_stepOn_0 rfl dX1_stepOn_18 ?_
      refine lv_iload_n hx hb dX1_stepOn_21 rfl (lv_at hl 3 rfl) ?_
      obtain ⟨hg3, h⟩ := z_g h
      obtain ⟨hg4, h⟩ := z_g h
      refine z_aldA C Z hP (k := (z_rf (μ 96 0))) (n := 10) (b := G.2.1 (99 + 10 * ((z_rf (μ 96 0)) - 97) + (x3).toNatClampNeg)) (by omega) (z_E_out hg3 _) hg4 rfl dX1_stepOn_22 ?_
      have hw5 : 99 ≤ (99 + 10 * ((z_rf (μ 96 0)) - 97) + (x3).toNatClampNeg) ∧ (99 + 10 * ((z_rf (μ 96 0)) - 97) + (x3).toNatClampNeg) < 119 := z_rowin hg3 hg4 rfl
      refine lv_iload hx hb dX1_stepOn_23 (lv_at hl 4 rfl) ?_
      obtain ⟨hg6, h⟩ := z_g h
      refine z_iald C Z hP (k := (99 + 10 * ((z_rf (μ 96 0)) - 97) + (x3).toNatClampNeg)) (n := 101) (j := (x4).toNatClampNeg) (by omega) (z_E_row hw5 _) hg6 rfl dX1_stepOn_25 ?_
      refine lv_istore (lv' := [(5, .int ((μ ((99 + 10 * ((z_rf (μ 96 0)) - 97) + (x3).toNatClampNeg)) ((x4).toNatClampNeg)))), (0, .ref (G.2.1 (96))), (1, .int (x1)), (2, .int (x2)), (3, .int (x3)), (4, .int (x4))]) hx hb dX1_stepOn_26 hl (by decide) rfl (fun ls hl => ?_)
      refine lv_iconst (v := 1) hx hb dX1_stepOn_28 (by decide) ?_
      refine lv_istore (lv' := [(6, .int (1)), (5, .int ((μ ((99 + 10 * ((z_rf (μ 96 0)) - 97) + (x3).toNatClampNeg)) ((x4).toNatClampNeg)))), (0, .ref (G.2.1 (96))), (1, .int (x1)), (2, .int (x2)), (3, .int (x3)), (4, .int (x4))]) hx hb dX1_stepOn_29 hl (by decide) rfl (fun ls hl => ?_)
      exact L_X1_stepOn_b31 C hr hlk Z hag2 ih z_F _ _ _ _ _ _ _ h _ _ hP hS ls (lv_sub hl [2, 3, 4, 5, 6, 1, 0] rfl)
set_option maxHeartbeats 8000000 in
set_option maxRecDepth 100000 in
theorem L_X1_stepOn_b2 {p : Program} {l : Launch} {e : Env} {s : State} {m : MethodId} {args : Array Value} {below : List Frame} {meth : Method} {c : Code} {G : zG} {r : Unit} {mu1 : Mm}  (C : CallFix p m c cX1_stepOn 10 s args wsX1_stepOn RX1) (hr : meth.sig.returnType = none) (hlk : meth.locks = false) (Z : z_Z G (z_A G s.heap.size) s)  :
    ∀ (n : Nat) (x1 : Int32) (x2 : Int32) (x3 : Int32) (μ : Mm), f_X1_stepOn_b2  n x1 x2 x3 μ = some (r, mu1) → ∀ (H : Heap) (locs : List Loc), z_P G μ H → va_S (z_A G s.heap.size) s.heap H locs → ∀ ls : Array Slot, lv_has ls 10 [(0, .ref (G.2.1 (96))), (1, .int (x1)), (2, .int (x2)), (3, .int (x3))] → W p l e rm_X1_stepOn s m args below meth c H locs 0 0 (MQ below (z_Qv G r mu1 s.heap.size) args s 0 0 (z_A G s.heap.size)) (F0 m 2 ls []) := by
  have hx := C.1
  have hb := C.2.1
  have hts := C.2.2.2.2
  intro n
  induction n with
  | zero =>
    intro x1 x2 x3 μ h
    rw [f_X1_stepOn_b2] at h
    cases h
  | succ n ih =>
    intro x1 x2 x3 μ h H locs hP hS ls hl
    rw [f_X1_stepOn_b2] at h
    refine lv_iload_n hx hb dX1_stepOn_2 rfl (lv_at hl 3 rfl) ?_
    refine lv_bipush (v := 9) hx hb dX1_stepOn_3 (by decide) ?_
    refine lv_icmp_gt (tgt := 115) hx hb dX1_stepOn_5 (by decide) (fun hc1 => ?_) (fun hc1 => ?_)
    · have h := z_ip hc1 h
      cases h
      exact z_retv C hr hlk hP hS dX1_stepOn_115
    · have h := z_in hc1 h
      refine lv_iload_n hx hb dX1_stepOn_8 rfl (lv_at hl 1 rfl) ?_
      refine lv_istore (lv' := [(4, .int (x1)), (0, .ref (G.2.1 (96))), (1, .int (x1)), (2, .int (x2)), (3, .int (x3))]) hx hb dX1_stepOn_9 hl (by decide) rfl (fun ls hl => ?_)
      exact L_X1_stepOn_b11 C hr hlk Z ih z_F _ _ _ _ _ h _ _ hP hS ls (lv_sub hl [1, 2, 3, 4, 0] rfl)
set_option maxHeartbeats 4000000 in
set_option maxRecDepth 100000 in
theorem c_X1_stepOn (l : Launch) (G : zG) {x1 : Int32} {x2 : Int32} {μ mu1 : Mm} {r : Unit} (h : f_X1_stepOn x1 x2 μ = some (r, mu1)) (sz : Nat) : Met l yX1_stepOn wsX1_stepOn rm_X1_stepOn (z_Pre G μ [.ref (G.2.1 (96)), .int (x1), .int (x2)] sz) (z_Qv G r mu1 sz) 0 0 (z_A G sz) := by
  refine z_start (cc := cX1_stepOn) (maxL := 10) (ret := none) (own := RX1) (by decide) rfl rfl (Nat.le_of_ble_eq_true rfl) (fun p e s m args below meth c C hr hlk Z hP ls hl => ?_) sz
  have hx := C.1
  have hb := C.2.1
  have hts := C.2.2.2.2
  have hS : va_S (z_A G s.heap.size) s.heap s.heap [] := va_S.rf
  have hl : lv_has ls 10 [(0, .ref (G.2.1 (96))), (1, .int (x1)), (2, .int (x2))] := hl
  unfold f_X1_stepOn at h
  refine lv_iconst (v := 1) hx hb dX1_stepOn_0 (by decide) ?_
  refine lv_istore_n (lv' := [(3, .int (1)), (0, .ref (G.2.1 (96))), (1, .int (x1)), (2, .int (x2))]) hx hb dX1_stepOn_1 rfl hl (by decide) rfl (fun ls hl => ?_)
  exact L_X1_stepOn_b2 C hr hlk Z z_F _ _ _ _ h _ _ hP hS ls (lv_sub hl [1, 2, 3, 0] rfl)
abbrev rm_X1_clearestOf : Room := { frames := 1, cells := 0, slots := 0, locals := 13 }
theorem hd_X1_clearestOf : yX1_clearestOf.cls ≠ "java/lang/invoke/MethodHandle" ∧ yX1_clearestOf.cls ≠ "java/lang/invoke/VarHandle" ∧ (parseMethodDescriptor yX1_clearestOf.desc).map (fun d => d.parameters.length) = some 2 := by decide +kernel
theorem hv_X1_clearestOf : yX1_clearestOf.cls = RX1 ∧ yX1_clearestOf.cls ≠ "java/lang/invoke/MethodHandle" ∧ yX1_clearestOf.cls ≠ "java/lang/invoke/VarHandle" ∧ (parseMethodDescriptor yX1_clearestOf.desc).map (fun d => d.parameters.length) = some 2 := ⟨rfl, hd_X1_clearestOf⟩
theorem wX1_clearestOf_0 : Cond.fieldLink RX1 11 "WaxCopies$Steps" "best" "[[I" ∈ wsX1_clearestOf := by decide +kernel
theorem inX1_clearestOf_X1 : ∀ w ∈ wsX10, w ∈ wsX1_clearestOf := by decide +kernel
theorem wX1_clearestOf_2 : Cond.methodLink RX1 41 Lib.Math.max.name ∈ wsX1_clearestOf := by decide +kernel
theorem wX1_clearestOf_3 : Cond.static Lib.Math.max.name ∈ wsX1_clearestOf := by decide +kernel
theorem wX1_clearestOf_4 : Cond.initialized "java/lang/Math" ∈ wsX1_clearestOf := by decide +kernel
theorem wX1_clearestOf_5 : Cond.code Lib.Math.max.name Lib.Math.max.code 2 (some .int) ∈ wsX1_clearestOf := by decide +kernel
set_option maxHeartbeats 8000000 in
set_option maxRecDepth 100000 in
theorem L_X1_clearestOf_b15 {p : Program} {l : Launch} {e : Env} {s : State} {m : MethodId} {args : Array Value} {below : List Frame} {meth : Method} {c : Code} {G : zG} {r : Int32} {mu1 : Mm} {ag5 : Int32 → Int32 → Int32 → Int32 → Mm → Option (Int32 × Mm)} (C : CallFix p m c cX1_clearestOf 6 s args wsX1_clearestOf RX1) (hr : meth.sig.returnType = (some .int)) (hlk : meth.locks = false) (Z : z_Z G (z_A G s.heap.size) s) (hag5 : ∀ (x1 : Int32) (x2 : Int32) (x3 : Int32) (x4 : Int32) (μ : Mm), ag5 x1 x2 x3 x4 μ = some (r, mu1) → ∀ (H : Heap) (locs : List Loc), z_P G μ H → va_S (z_A G s.heap.size) s.heap H locs → ∀ ls : Array Slot, lv_has ls 6 [(0, .ref (G.2.1 (96))), (1, .int (x1)), (2, .int (x2)), (3, .int (x3)), (4, .int (x4))] → W p l e rm_X1_clearestOf s m args below meth c H locs 0 0 (MQ below (z_Qi G r mu1 s.heap.size) args s 0 0 (z_A G s.heap.size)) (F0 m 5 ls [])) :
    ∀ (n : Nat) (x1 : Int32) (x2 : Int32) (x3 : Int32) (x4 : Int32) (x5 : Int32) (μ : Mm), f_X1_clearestOf_b15 ag5 n x1 x2 x3 x4 x5 μ = some (r, mu1) → ∀ (H : Heap) (locs : List Loc), z_P G μ H → va_S (z_A G s.heap.size) s.heap H locs → ∀ ls : Array Slot, lv_has ls 6 [(0, .ref (G.2.1 (96))), (1, .int (x1)), (2, .int (x2)), (3, .int (x3)), (4, .int (x4)), (5, .int (x5))] → W p l e rm_X1_clearestOf s m args below meth c H locs 0 0 (MQ below (z_Qi G r mu1 s.heap.size) args s 0 0 (z_A G s.heap.size)) (F0 m 15 ls []) := by
  have hx := C.1
  have hb := C.2.1
  have hts := C.2.2.2.2
  intro n
  induction n with
  | zero =>
    intro x1 x2 x3 x4 x5 μ h
    rw [f_X1_clearestOf_b15] at h
    cases h
  | succ n ih =>
    intro x1 x2 x3 x4 x5 μ h H locs hP hS ls hl
    rw [f_X1_clearestOf_b15] at h
    refine lv_iload hx hb dX1_clearestOf_15 (lv_at hl 5 rfl) ?_
    refine lv_iload_n hx hb dX1_clearestOf_17 rfl (lv_at hl 2 rfl) ?_
    refine lv_icmp_gt (tgt := 42) hx hb dX1_clearestOf_18 (by decide) (fun hc2 => ?_) (fun hc2 => ?_)
    · have h := z_ip hc2 h
      refine lv_iinc (v := (x4 + 1)) (lv' := [(4, .int ((x4 + 1))), (0, .ref (G.2.1 (96))), (1, .int (x1)), (2, .int (x2)), (3, .int (x3)), (5, .int (x5))]) hx hb dX1_clearestOf_42 hl (k := 4) rfl rfl (by decide) rfl (fun ls hl => ?_)
      refine lv_goto (tgt := 5) hx hb dX1_clearestOf_45 (by decide) ?_
      exact hag5 _ _ _ _ _ h _ _ hP hS ls (lv_sub hl [1, 2, 3, 4, 0] rfl)
    · have h := z_in hc2 h
      refine lv_iload_n hx hb dX1_clearestOf_21 rfl (lv_at hl 3 rfl) ?_
      refine lv_aload_n hx hb dX1_clearestOf_22 rfl (lv_at hl 0 rfl) ?_
      refine z_get C Z hP (k := 96) (ci := 1) (j := 0) (N := 2) (v := .ref (G.2.1 ((z_rf (μ 96 0))))) (by decide) (z_E_96 _) rfl inX1_clearestOf_X1 (by decide) wX1_clearestOf_0 rfl dX1_clearestOf_23 ?_
      refine lv_iload hx hb dX1_clearestOf_26 (lv_at hl 4 rfl) ?_
      obtain ⟨hg3, h⟩ := z_g h
      obtain ⟨hg4, h⟩ := z_g h
      refine z_aldA C Z hP (k := (z_rf (μ 96 0))) (n := 10) (b := G.2.1 (99 + 10 * ((z_rf (μ 96 0)) - 97) + (x4).toNatClampNeg)) (by omega) (z_E_out hg3 _) hg4 rfl dX1_clearestOf_28 ?_
      have hw5 : 99 ≤ (99 + 10 * ((z_rf (μ 96 0)) - 97) + (x4).toNatClampNeg) ∧ (99 + 10 * ((z_rf (μ 96 0)) - 97) + (x4).toNatClampNeg) < 119 := z_rowin hg3 hg4 rfl
      refine lv_iload hx hb dX1_clearestOf_29 (lv_at hl 5 rfl) ?_
      obtain ⟨hg6, h⟩ := z_g h
      refine z_iald C Z hP (k := (99 + 10 * ((z_rf (μ 96 0)) - 97) + (x4).toNatClampNeg)) (n := 101) (j := (x5).toNatClampNeg) (by omega) (z_E_row hw5 _) hg6 rfl dX1_clearestOf_31 ?_
      refine va_mmax hx hb (C.2.2.1.trans hl.1.symm) C.2.2.2.1 (C.2.2.2.2 _ wX1_clearestOf_2) (C.2.2.2.2 _ wX1_clearestOf_3) (C.2.2.2.2 _ wX1_clearestOf_4) (C.2.2.2.2 _ wX1_clearestOf_5) (Nat.le_of_ble_eq_true rfl) (Nat.le_of_ble_eq_true rfl) (Nat.zero_le _) (Nat.zero_le _) dX1_clearestOf_32 ?_
      refine lv_istore_n (lv' := [(3, .int ((if x3 < (μ ((99 + 10 * ((z_rf (μ 96 0)) - 97) + (x4).toNatClampNeg)) ((x5).toNatClampNeg)) then (μ ((99 + 10 * ((z_rf (μ 96 0)) - 97) + (x4).toNatClampNeg)) ((x5).toNatClampNeg)) else x3))), (0, .ref (G.2.1 (96))), (1, .int (x1)), (2, .int (x2)), (4, .int (x4)), (5, .int (x5))]) hx hb dX1_clearestOf_35 rfl hl (by decide) rfl (fun ls hl => ?_)
      refine lv_iinc (v := (x5 + 1)) (lv' := [(5, .int ((x5 + 1))), (3, .int ((if x3 < (μ ((99 + 10 * ((z_rf (μ 96 0)) - 97) + (x4).toNatClampNeg)) ((x5).toNatClampNeg)) then (μ ((99 + 10 * ((z_rf (μ 96 0)) - 97) + (x4).toNatClampNeg)) ((x5).toNatClampNeg)) else x3))), (0, .ref (G.2.1 (96))), (1, .int (x1)), (2, .int (x2)), (4, .int (x4))]) hx hb dX1_clearestOf_36 hl (k := 5) rfl rfl (by decide) rfl (fun ls hl => ?_)
      refine lv_goto (tgt := 15) hx hb dX1_clearestOf_39 (by decide) ?_
      exact ih _ _ _ _ _ _ h _ _ hP hS ls (lv_sub hl [2, 3, 4, 1, 5, 0] rfl)
set_option maxHeartbeats 8000000 in
set_option maxRecDepth 100000 in
theorem L_X1_clearestOf_b5 {p : Program} {l : Launch} {e : Env} {s : State} {m : MethodId} {args : Array Value} {below : List Frame} {meth : Method} {c : Code} {G : zG} {r : Int32} {mu1 : Mm}  (C : CallFix p m c cX1_clearestOf 6 s args wsX1_clearestOf RX1) (hr : meth.sig.returnType = (some .int)) (hlk : meth.locks = false) (Z : z_Z G (z_A G s.heap.size) s)  :
    ∀ (n : Nat) (x1 : Int32) (x2 : Int32) (x3 : Int32) (x4 : Int32) (μ : Mm), f_X1_clearestOf_b5  n x1 x2 x3 x4 μ = some (r, mu1) → ∀ (H : Heap) (locs : List Loc), z_P G μ H → va_S (z_A G s.heap.size) s.heap H locs → ∀ ls : Array Slot, lv_has ls 6 [(0, .ref (G.2.1 (96))), (1, .int (x1)), (2, .int (x2)), (3, .int (x3)), (4, .int (x4))] → W p l e rm_X1_clearestOf s m args below meth c H locs 0 0 (MQ below (z_Qi G r mu1 s.heap.size) args s 0 0 (z_A G s.heap.size)) (F0 m 5 ls []) := by
  have hx := C.1
  have hb := C.2.1
  have hts := C.2.2.2.2
  intro n
  induction n with
  | zero =>
    intro x1 x2 x3 x4 μ h
    rw [f_X1_clearestOf_b5] at h
    cases h
  | succ n ih =>
    intro x1 x2 x3 x4 μ h H locs hP hS ls hl
    rw [f_X1_clearestOf_b5] at h
    refine lv_iload hx hb dX1_clearestOf_5 (lv_at hl 4 rfl) ?_
    refine lv_bipush (v := 9) hx hb dX1_clearestOf_7 (by decide) ?_
    refine lv_icmp_gt (tgt := 48) hx hb dX1_clearestOf_9 (by decide) (fun hc1 => ?_) (fun hc1 => ?_)
    · have h := z_ip hc1 h
      refine lv_iload_n hx hb dX1_clearestOf_48 rfl (lv_at hl 3 rfl) ?_
      cases h
      exact z_reti C hr hlk hP hS dX1_clearestOf_49
    · have h := z_in hc1 h
      refine lv_iload_n hx hb dX1_clearestOf_12 rfl (lv_at hl 1 rfl) ?_
      refine lv_istore (lv' := [(5, .int (x1)), (0, .ref (G.2.1 (96))), (1, .int (x1)), (2, .int (x2)), (3, .int (x3)), (4, .int (x4))]) hx hb dX1_clearestOf_13 hl (by decide) rfl (fun ls hl => ?_)
      exact L_X1_clearestOf_b15 C hr hlk Z ih z_F _ _ _ _ _ _ h _ _ hP hS ls (lv_sub hl [1, 2, 3, 4, 5, 0] rfl)
set_option maxHeartbeats 4000000 in
set_option maxRecDepth 100000 in
theorem c_X1_clearestOf (l : Launch) (G : zG) {x1 : Int32} {x2 : Int32} {μ mu1 : Mm} {r : Int32} (h : f_X1_clearestOf x1 x2 μ = some (r, mu1)) (sz : Nat) : Met l yX1_clearestOf wsX1_clearestOf rm_X1_clearestOf (z_Pre G μ [.ref (G.2.1 (96)), .int (x1), .int (x2)] sz) (z_Qi G r mu1 sz) 0 0 (z_A G sz) := by
  refine z_start (cc := cX1_clearestOf) (maxL := 6) (ret := (some .int)) (own := RX1) (by decide) rfl rfl (Nat.le_of_ble_eq_true rfl) (fun p e s m args below meth c C hr hlk Z hP ls hl => ?_) sz
  have hx := C.1
  have hb := C.2.1
  have hts := C.2.2.2.2
  have hS : va_S (z_A G s.heap.size) s.heap s.heap [] := va_S.rf
  have hl : lv_has ls 6 [(0, .ref (G.2.1 (96))), (1, .int (x1)), (2, .int (x2))] := hl
  unfold f_X1_clearestOf at h
  refine lv_iconst (v := (-1)) hx hb dX1_clearestOf_0 (by decide) ?_
  refine lv_istore_n (lv' := [(3, .int ((-1))), (0, .ref (G.2.1 (96))), (1, .int (x1)), (2, .int (x2))]) hx hb dX1_clearestOf_1 rfl hl (by decide) rfl (fun ls hl => ?_)
  refine lv_iconst (v := 1) hx hb dX1_clearestOf_2 (by decide) ?_
  refine lv_istore (lv' := [(4, .int (1)), (3, .int ((-1))), (0, .ref (G.2.1 (96))), (1, .int (x1)), (2, .int (x2))]) hx hb dX1_clearestOf_3 hl (by decide) rfl (fun ls hl => ?_)
  exact L_X1_clearestOf_b5 C hr hlk Z z_F _ _ _ _ _ h _ _ hP hS ls (lv_sub hl [2, 3, 4, 1, 0] rfl)
abbrev rm_X1_clearestAfter : Room := { frames := 3, cells := 0, slots := 0, locals := 72 }
theorem hd_X1_clearestAfter : yX1_clearestAfter.cls ≠ "java/lang/invoke/MethodHandle" ∧ yX1_clearestAfter.cls ≠ "java/lang/invoke/VarHandle" ∧ (parseMethodDescriptor yX1_clearestAfter.desc).map (fun d => d.parameters.length) = some 4 := by decide +kernel
theorem hv_X1_clearestAfter : yX1_clearestAfter.cls = RX1 ∧ yX1_clearestAfter.cls ≠ "java/lang/invoke/MethodHandle" ∧ yX1_clearestAfter.cls ≠ "java/lang/invoke/VarHandle" ∧ (parseMethodDescriptor yX1_clearestAfter.desc).map (fun d => d.parameters.length) = some 4 := ⟨rfl, hd_X1_clearestAfter⟩
theorem wX1_clearestAfter_0 : Cond.fieldLink RX1 11 "WaxCopies$Steps" "best" "[[I" ∈ wsX1_clearestAfter := by decide +kernel
theorem inX1_clearestAfter_X1 : ∀ w ∈ wsX10, w ∈ wsX1_clearestAfter := by decide +kernel
theorem wX1_clearestAfter_2 : Cond.initialized RX3 ∈ wsX1_clearestAfter := by decide +kernel
theorem wX1_clearestAfter_3 : Cond.static yX3_sharpnessAfter ∈ wsX1_clearestAfter := by decide +kernel
theorem wX1_clearestAfter_4 : Cond.fieldLink RX1 16 "WaxCopies$Steps" "next" "[[I" ∈ wsX1_clearestAfter := by decide +kernel
set_option maxHeartbeats 8000000 in
set_option maxRecDepth 100000 in
theorem L_X1_clearestAfter_b28 {p : Program} {l : Launch} {e : Env} {s : State} {m : MethodId} {args : Array Value} {below : List Frame} {meth : Method} {c : Code} {G : zG} {r : Int32} {mu1 : Mm}  (C : CallFix p m c cX1_clearestAfter 9 s args wsX1_clearestAfter RX1) (hr : meth.sig.returnType = (some .int)) (hlk : meth.locks = false) (Z : z_Z G (z_A G s.heap.size) s)  :
    ∀ (n : Nat) (x1 : Int32) (x4 : Int32) (x5 : Int32) (x6 : Int32) (μ : Mm), f_X1_clearestAfter_b28  n x1 x4 x5 x6 μ = some (r, mu1) → ∀ (H : Heap) (locs : List Loc), z_P G μ H → va_S (z_A G s.heap.size) s.heap H locs → ∀ ls : Array Slot, lv_has ls 9 [(0, .ref (G.2.1 (96))), (1, .int (x1)), (4, .int (x4)), (5, .int (x5)), (6, .int (x6))] → W p l e rm_X1_clearestAfter s m args below meth c H locs 0 0 (MQ below (z_Qi G r mu1 s.heap.size) args s 0 0 (z_A G s.heap.size)) (F0 m 28 ls []) := by
  have hx := C.1
  have hb := C.2.1
  have hts := C.2.2.2.2
  intro n
  induction n with
  | zero =>
    intro x1 x4 x5 x6 μ h
    rw [f_X1_clearestAfter_b28] at h
    cases h
  | succ n ih =>
    intro x1 x4 x5 x6 μ h H locs hP hS ls hl
    rw [f_X1_clearestAfter_b28] at h
    refine lv_iload hx hb dX1_clearestAfter_28 (lv_at hl 4 rfl) ?_
    refine lv_iload_n hx hb dX1_clearestAfter_30 rfl (lv_at hl 1 rfl) ?_
    refine lv_icmp_ge (tgt := 92) hx hb dX1_clearestAfter_31 (by decide) (fun hc8 => ?_) (fun hc8 => ?_)
    · have h := z_ip hc8 h
      refine lv_aload_n hx hb dX1_clearestAfter_92 rfl (lv_at hl 0 rfl) ?_
      refine lv_iload hx hb dX1_clearestAfter_93 (lv_at hl 3 rfl) ?_
      refine lv_iload hx hb dX1_clearestAfter_95 (lv_at hl 2 rfl) ?_
      obtain ⟨r9, m10, e11, h⟩ := zb_some h
      refine z_calli hS (va_runV (As := [.int (x5), .int (x4)]) (rest := []) C (c_X1_clearestOf l G e11 _) (cwV 2 hts gX1_clearestAfter_X1_clearestOf rfl rfl rfl hv_X1_clearestOf ⟨Nat.le_of_ble_eq_true rfl, Nat.le_of_ble_eq_true rfl⟩) (z_preV Z hS hP (by decide) (z_E_96 _) rfl rfl) rfl rfl hl.1 rfl (lv_room (Nat.le_of_ble_eq_true rfl)) dX1_clearestAfter_97 ⟨Nat.zero_le _, Nat.zero_le _⟩) (fun H locs hP hS => ?_)
      cases h
      exact z_reti C hr hlk hP hS dX1_clearestAfter_100
    · have h := z_in hc8 h
      refine lv_iload hx hb dX1_clearestAfter_34 (lv_at hl 3 rfl) ?_
      refine lv_bipush (v := 9) hx hb dX1_clearestAfter_36 (by decide) ?_
      obtain ⟨r12, m13, e14, h⟩ := zb_some h
      refine z_calli hS (va_runSN (As := [.int (x5), .int (9)]) (rest := []) C (c_X3_sharpnessAfter l G e14 _) ⟨va_cnB 2 hts gX1_clearestAfter_X3_sharpnessAfter_n23 rfl rfl rfl (Z.2.2.2.2.1 (RX1, 23, yX3_sharpnessAfter) (by decide +kernel)) (C.2.2.2.2 _ wX1_clearestAfter_2) hd_X3_sharpnessAfter ⟨Nat.le_of_ble_eq_true rfl, Nat.le_of_ble_eq_true rfl⟩, C.2.2.2.2 _ wX1_clearestAfter_3, trivial⟩ (z_preS Z hS hP) rfl rfl hl.1 rfl (lv_room (Nat.le_of_ble_eq_true rfl)) dX1_clearestAfter_38 ⟨Nat.zero_le _, Nat.zero_le _⟩) (fun H locs hP hS => ?_)
      refine lv_istore (lv' := [(7, .int (r12)), (0, .ref (G.2.1 (96))), (1, .int (x1)), (4, .int (x4)), (5, .int (x5)), (6, .int (x6))]) hx hb dX1_clearestAfter_41 hl (by decide) rfl (fun ls hl => ?_)
      refine lv_aload_n hx hb dX1_clearestAfter_43 rfl (lv_at hl 1 rfl) ?_
      refine z_get C Z hP (k := 96) (ci := 1) (j := 1) (N := 2) (v := .ref (G.2.1 ((z_rf (m13 96 1))))) (by decide) (z_E_96 _) rfl inX1_clearestAfter_X1 (by decide) wX1_clearestAfter_4 rfl dX1_clearestAfter_44 ?_
      refine lv_iload hx hb dX1_clearestAfter_47 (lv_at hl 0 rfl) ?_
      refine lv_iload hx hb dX1_clearestAfter_49 (lv_at hl 3 rfl) ?_
      obtain ⟨r15, m16, e17, h⟩ := zb_some h
      refine z_callv hS (va_runS (As := [.ref (G.2.1 ((z_rf (m13 96 1)))), .int (r12), .int (x4)]) (rest := []) C (c_X1_forget l G e17 _) (va_cwS 3 hts gX1_clearestAfter_X1_forget rfl rfl rfl hd_X1_forget ⟨Nat.le_of_ble_eq_true rfl, Nat.le_of_ble_eq_true rfl⟩) (z_preS Z hS hP) rfl rfl hl.1 rfl (lv_room (Nat.le_of_ble_eq_true rfl)) dX1_clearestAfter_51 ⟨Nat.zero_le _, Nat.zero_le _⟩) (fun H locs hP hS => ?_)
      refine lv_aload_n hx hb dX1_clearestAfter_54 rfl (lv_at hl 1 rfl) ?_
      refine lv_iload hx hb dX1_clearestAfter_55 (lv_at hl 4 rfl) ?_
      refine lv_iload hx hb dX1_clearestAfter_57 (lv_at hl 3 rfl) ?_
      obtain ⟨r18, m19, e20, h⟩ := zb_some h
      refine z_callv hS (va_runV (As := [.int (x5), .int (x4)]) (rest := []) C (c_X1_stepOn l G e20 _) (cwV 2 hts gX1_clearestAfter_X1_stepOn rfl rfl rfl hv_X1_stepOn ⟨Nat.le_of_ble_eq_true rfl, Nat.le_of_ble_eq_true rfl⟩) (z_preV Z hS hP (by decide) (z_E_96 _) rfl rfl) rfl rfl hl.1 rfl (lv_room (Nat.le_of_ble_eq_true rfl)) dX1_clearestAfter_59 ⟨Nat.zero_le _, Nat.zero_le _⟩) (fun H locs hP hS => ?_)
      refine lv_aload_n hx hb dX1_clearestAfter_62 rfl (lv_at hl 1 rfl) ?_
      refine z_get C Z hP (k := 96) (ci := 1) (j := 0) (N := 2) (v := .ref (G.2.1 ((z_rf (m19 96 0))))) (by decide) (z_E_96 _) rfl inX1_clearestAfter_X1 (by decide) wX1_clearestAfter_0 rfl dX1_clearestAfter_63 ?_
      refine lv_astore (lv' := [(8, .ref (G.2.1 ((z_rf (m19 96 0))))), (7, .int (r12)), (0, .ref (G.2.1 (96))), (1, .int (x1)), (4, .int (x4)), (5, .int (x5)), (6, .int (x6))]) hx hb dX1_clearestAfter_66 hl (by decide) rfl (fun ls hl => ?_)
      refine lv_aload_n hx hb dX1_clearestAfter_68 rfl (lv_at hl 2 rfl) ?_
      refine lv_aload_n hx hb dX1_clearestAfter_69 rfl (lv_at hl 2 rfl) ?_
      refine z_get C Z hP (k := 96) (ci := 1) (j := 1) (N := 2) (v := .ref (G.2.1 ((z_rf (m19 96 1))))) (by decide) (z_E_96 _) rfl inX1_clearestAfter_X1 (by decide) wX1_clearestAfter_4 rfl dX1_clearestAfter_70 ?_
      obtain ⟨hg21, h⟩ := z_g h
      refine z_put C Z hP hS (k := 96) (ci := 1) (j := 0) (N := 2) (x := (nI (z_rf (m19 96 1)))) (v := .ref (G.2.1 ((z_rf (m19 96 1))))) (ty := .array (.array .int)) (by decide) (z_E_96 _) rfl inX1_clearestAfter_X1 tyX1_ok nmX1 (by decide) wX1_clearestAfter_0 rfl (by decide +kernel) rfl rfl (Nat.le_of_ble_eq_true rfl) (by rw [z_S_96_0, show z_rf (nI (z_rf (m19 96 1))) = (z_rf (m19 96 1)) from nI_clamp (by omega)]) dX1_clearestAfter_73 (fun H locs hP hS => ?_)
      refine lv_aload_n hx hb dX1_clearestAfter_76 rfl (lv_at hl 2 rfl) ?_
      refine lv_aload hx hb dX1_clearestAfter_77 (lv_at hl 0 rfl) ?_
      obtain ⟨hg22, h⟩ := z_g h
      refine z_put C Z hP hS (k := 96) (ci := 1) (j := 1) (N := 2) (x := (nI (z_rf (m19 96 0)))) (v := .ref (G.2.1 ((z_rf (m19 96 0))))) (ty := .array (.array .int)) (by decide) (z_E_96 _) rfl inX1_clearestAfter_X1 tyX1_ok nmX1 (by decide) wX1_clearestAfter_4 rfl (by decide +kernel) rfl rfl (Nat.le_of_ble_eq_true rfl) (by rw [z_S_96_1, show z_rf (nI (z_rf (m19 96 0))) = (z_rf (m19 96 0)) from nI_clamp (by omega)]) dX1_clearestAfter_79 (fun H locs hP hS => ?_)
      refine lv_iload hx hb dX1_clearestAfter_82 (lv_at hl 1 rfl) ?_
      refine lv_istore (lv' := [(5, .int (r12)), (8, .ref (G.2.1 ((z_rf (m19 96 0))))), (7, .int (r12)), (0, .ref (G.2.1 (96))), (1, .int (x1)), (4, .int (x4)), (6, .int (x6))]) hx hb dX1_clearestAfter_84 hl (by decide) rfl (fun ls hl => ?_)
      refine lv_iinc (v := (x6 + 1)) (lv' := [(6, .int ((x6 + 1))), (5, .int (r12)), (8, .ref (G.2.1 ((z_rf (m19 96 0))))), (7, .int (r12)), (0, .ref (G.2.1 (96))), (1, .int (x1)), (4, .int (x4))]) hx hb dX1_clearestAfter_86 hl (k := 6) rfl rfl (by decide) rfl (fun ls hl => ?_)
      refine lv_goto (tgt := 28) hx hb dX1_clearestAfter_89 (by decide) ?_
      exact ih _ _ _ _ _ h _ _ hP hS ls (lv_sub hl [4, 5, 6, 1, 0] rfl)
set_option maxHeartbeats 4000000 in
set_option maxRecDepth 100000 in
theorem c_X1_clearestAfter (l : Launch) (G : zG) {x1 : Int32} {x2 : Int32} {x3 : Int32} {x4 : Int32} {μ mu1 : Mm} {r : Int32} (h : f_X1_clearestAfter x1 x2 x3 x4 μ = some (r, mu1)) (sz : Nat) : Met l yX1_clearestAfter wsX1_clearestAfter rm_X1_clearestAfter (z_Pre G μ [.ref (G.2.1 (96)), .int (x1), .int (x2), .int (x3), .int (x4)] sz) (z_Qi G r mu1 sz) 0 0 (z_A G sz) := by
  refine z_start (cc := cX1_clearestAfter) (maxL := 9) (ret := (some .int)) (own := RX1) (by decide) rfl rfl (Nat.le_of_ble_eq_true rfl) (fun p e s m args below meth c C hr hlk Z hP ls hl => ?_) sz
  have hx := C.1
  have hb := C.2.1
  have hts := C.2.2.2.2
  have hS : va_S (z_A G s.heap.size) s.heap s.heap [] := va_S.rf
  have hl : lv_has ls 9 [(0, .ref (G.2.1 (96))), (1, .int (x1)), (2, .int (x2)), (3, .int (x3)), (4, .int (x4))] := hl
  unfold f_X1_clearestAfter at h
  refine lv_iload hx hb dX1_clearestAfter_0 (lv_at hl 4 rfl) ?_
  refine lv_istore (lv' := [(5, .int (x4)), (0, .ref (G.2.1 (96))), (1, .int (x1)), (2, .int (x2)), (3, .int (x3)), (4, .int (x4))]) hx hb dX1_clearestAfter_2 hl (by decide) rfl (fun ls hl => ?_)
  refine lv_aload_n hx hb dX1_clearestAfter_4 rfl (lv_at hl 1 rfl) ?_
  refine z_get C Z hP (k := 96) (ci := 1) (j := 0) (N := 2) (v := .ref (G.2.1 ((z_rf (μ 96 0))))) (by decide) (z_E_96 _) rfl inX1_clearestAfter_X1 (by decide) wX1_clearestAfter_0 rfl dX1_clearestAfter_5 ?_
  refine lv_iload hx hb dX1_clearestAfter_8 (lv_at hl 0 rfl) ?_
  refine lv_iload hx hb dX1_clearestAfter_10 (lv_at hl 5 rfl) ?_
  obtain ⟨r1, m2, e3, h⟩ := zb_some h
  refine z_callv hS (va_runS (As := [.ref (G.2.1 ((z_rf (μ 96 0)))), .int (x4), .int (x4)]) (rest := []) C (c_X1_forget l G e3 _) (va_cwS 3 hts gX1_clearestAfter_X1_forget rfl rfl rfl hd_X1_forget ⟨Nat.le_of_ble_eq_true rfl, Nat.le_of_ble_eq_true rfl⟩) (z_preS Z hS hP) rfl rfl hl.1 rfl (lv_room (Nat.le_of_ble_eq_true rfl)) dX1_clearestAfter_12 ⟨Nat.zero_le _, Nat.zero_le _⟩) (fun H locs hP hS => ?_)
  refine lv_aload_n hx hb dX1_clearestAfter_15 rfl (lv_at hl 1 rfl) ?_
  refine z_get C Z hP (k := 96) (ci := 1) (j := 0) (N := 2) (v := .ref (G.2.1 ((z_rf (m2 96 0))))) (by decide) (z_E_96 _) rfl inX1_clearestAfter_X1 (by decide) wX1_clearestAfter_0 rfl dX1_clearestAfter_16 ?_
  refine lv_iload_n hx hb dX1_clearestAfter_19 rfl (lv_at hl 3 rfl) ?_
  obtain ⟨hg4, h⟩ := z_g h
  obtain ⟨hg5, h⟩ := z_g h
  refine z_aldA C Z hP (k := (z_rf (m2 96 0))) (n := 10) (b := G.2.1 (99 + 10 * ((z_rf (m2 96 0)) - 97) + (x2).toNatClampNeg)) (by omega) (z_E_out hg4 _) hg5 rfl dX1_clearestAfter_20 ?_
  have hw6 : 99 ≤ (99 + 10 * ((z_rf (m2 96 0)) - 97) + (x2).toNatClampNeg) ∧ (99 + 10 * ((z_rf (m2 96 0)) - 97) + (x2).toNatClampNeg) < 119 := z_rowin hg4 hg5 rfl
  refine lv_iload hx hb dX1_clearestAfter_21 (lv_at hl 5 rfl) ?_
  refine lv_iload_n hx hb dX1_clearestAfter_23 rfl (lv_at hl 4 rfl) ?_
  obtain ⟨hg7, h⟩ := z_g h
  refine z_iast C Z hP hS (k := (99 + 10 * ((z_rf (m2 96 0)) - 97) + (x2).toNatClampNeg)) (n := 101) (j := (x4).toNatClampNeg) (by omega) (fun r => z_E_row hw6 r) hg7 rfl dX1_clearestAfter_24 (fun H locs hP hS => ?_)
  refine lv_iconst (v := 0) hx hb dX1_clearestAfter_25 (by decide) ?_
  refine lv_istore (lv' := [(6, .int (0)), (5, .int (x4)), (0, .ref (G.2.1 (96))), (1, .int (x1)), (2, .int (x2)), (3, .int (x3)), (4, .int (x4))]) hx hb dX1_clearestAfter_26 hl (by decide) rfl (fun ls hl => ?_)
  exact L_X1_clearestAfter_b28 C hr hlk Z z_F _ _ _ _ _ h _ _ hP hS ls (lv_sub hl [2, 3, 6, 1, 0] rfl)
