abbrev rm_X3_checkTrack : Room := { frames := 0, cells := 0, slots := 0, locals := 0 }
theorem hd_X3_checkTrack : yX3_checkTrack.cls ≠ "java/lang/invoke/MethodHandle" ∧ yX3_checkTrack.cls ≠ "java/lang/invoke/VarHandle" ∧ (parseMethodDescriptor yX3_checkTrack.desc).map (fun d => d.parameters.length) = some 1 := by decide +kernel
theorem hv_X3_checkTrack : yX3_checkTrack.cls = RX3 ∧ yX3_checkTrack.cls ≠ "java/lang/invoke/MethodHandle" ∧ yX3_checkTrack.cls ≠ "java/lang/invoke/VarHandle" ∧ (parseMethodDescriptor yX3_checkTrack.desc).map (fun d => d.parameters.length) = some 1 := ⟨rfl, hd_X3_checkTrack⟩
set_option maxHeartbeats 4000000 in
set_option maxRecDepth 100000 in
theorem c_X3_checkTrack (l : Launch) (G : zG) {x1 : Int32} {μ mu1 : Mm} {r : Unit} (h : f_X3_checkTrack x1 μ = some (.inr r, mu1)) (sz : Nat) : Met l yX3_checkTrack wsX3_checkTrack rm_X3_checkTrack (z_Pre G μ [.ref (G.2.1 (90)), .int (x1)] sz) (z_Qv G r mu1 sz) 0 0 (z_A G sz) := by
  refine z_start (cc := cX3_checkTrack) (maxL := 2) (ret := none) (own := RX3) (by decide) rfl rfl (Nat.le_of_ble_eq_true rfl) (fun p e s m args below meth c C hr hlk Z hP ls hl => ?_) sz
  have hx := C.1
  have hb := C.2.1
  have hts := C.2.2.2.2
  have hS : va_S (z_A G s.heap.size) s.heap s.heap [] := va_S.rf
  have hl : lv_has ls 2 [(0, .ref (G.2.1 (90))), (1, .int (x1))] := hl
  unfold f_X3_checkTrack at h
  refine lv_iload_n hx hb dX3_checkTrack_0 rfl (lv_at hl 1 rfl) ?_
  refine lv_if_lt (tgt := 10) hx hb dX3_checkTrack_1 (by decide) (fun hc1 => ?_) (fun hc1 => ?_)
  · have h := z_ip hc1 h
    cases h
  · have h := z_in hc1 h
    refine lv_iload_n hx hb dX3_checkTrack_4 rfl (lv_at hl 1 rfl) ?_
    refine lv_bipush (v := 24) hx hb dX3_checkTrack_5 (by decide) ?_
    refine lv_icmp_lt (tgt := 21) hx hb dX3_checkTrack_7 (by decide) (fun hc2 => ?_) (fun hc2 => ?_)
    · have h := z_ip hc2 h
      cases h
      exact z_retv C hr hlk hP hS dX3_checkTrack_21
    · have h := z_in hc2 h
      cases h
abbrev rm_X3_checkLoudness : Room := { frames := 0, cells := 0, slots := 0, locals := 0 }
theorem hd_X3_checkLoudness : yX3_checkLoudness.cls ≠ "java/lang/invoke/MethodHandle" ∧ yX3_checkLoudness.cls ≠ "java/lang/invoke/VarHandle" ∧ (parseMethodDescriptor yX3_checkLoudness.desc).map (fun d => d.parameters.length) = some 1 := by decide +kernel
theorem hv_X3_checkLoudness : yX3_checkLoudness.cls = RX3 ∧ yX3_checkLoudness.cls ≠ "java/lang/invoke/MethodHandle" ∧ yX3_checkLoudness.cls ≠ "java/lang/invoke/VarHandle" ∧ (parseMethodDescriptor yX3_checkLoudness.desc).map (fun d => d.parameters.length) = some 1 := ⟨rfl, hd_X3_checkLoudness⟩
set_option maxHeartbeats 4000000 in
set_option maxRecDepth 100000 in
theorem c_X3_checkLoudness (l : Launch) (G : zG) {x1 : Int32} {μ mu1 : Mm} {r : Unit} (h : f_X3_checkLoudness x1 μ = some (.inr r, mu1)) (sz : Nat) : Met l yX3_checkLoudness wsX3_checkLoudness rm_X3_checkLoudness (z_Pre G μ [.ref (G.2.1 (90)), .int (x1)] sz) (z_Qv G r mu1 sz) 0 0 (z_A G sz) := by
  refine z_start (cc := cX3_checkLoudness) (maxL := 2) (ret := none) (own := RX3) (by decide) rfl rfl (Nat.le_of_ble_eq_true rfl) (fun p e s m args below meth c C hr hlk Z hP ls hl => ?_) sz
  have hx := C.1
  have hb := C.2.1
  have hts := C.2.2.2.2
  have hS : va_S (z_A G s.heap.size) s.heap s.heap [] := va_S.rf
  have hl : lv_has ls 2 [(0, .ref (G.2.1 (90))), (1, .int (x1))] := hl
  unfold f_X3_checkLoudness at h
  refine lv_iload_n hx hb dX3_checkLoudness_0 rfl (lv_at hl 1 rfl) ?_
  refine lv_iconst (v := 1) hx hb dX3_checkLoudness_1 (by decide) ?_
  refine lv_icmp_lt (tgt := 11) hx hb dX3_checkLoudness_2 (by decide) (fun hc1 => ?_) (fun hc1 => ?_)
  · have h := z_ip hc1 h
    cases h
  · have h := z_in hc1 h
    refine lv_iload_n hx hb dX3_checkLoudness_5 rfl (lv_at hl 1 rfl) ?_
    refine lv_bipush (v := 9) hx hb dX3_checkLoudness_6 (by decide) ?_
    refine lv_icmp_le (tgt := 22) hx hb dX3_checkLoudness_8 (by decide) (fun hc2 => ?_) (fun hc2 => ?_)
    · have h := z_ip hc2 h
      cases h
      exact z_retv C hr hlk hP hS dX3_checkLoudness_22
    · have h := z_in hc2 h
      cases h
abbrev rm_X3_dropOldestState : Room := { frames := 0, cells := 0, slots := 0, locals := 0 }
theorem hd_X3_dropOldestState : yX3_dropOldestState.cls ≠ "java/lang/invoke/MethodHandle" ∧ yX3_dropOldestState.cls ≠ "java/lang/invoke/VarHandle" ∧ (parseMethodDescriptor yX3_dropOldestState.desc).map (fun d => d.parameters.length) = some 0 := by decide +kernel
theorem hv_X3_dropOldestState : yX3_dropOldestState.cls = RX3 ∧ yX3_dropOldestState.cls ≠ "java/lang/invoke/MethodHandle" ∧ yX3_dropOldestState.cls ≠ "java/lang/invoke/VarHandle" ∧ (parseMethodDescriptor yX3_dropOldestState.desc).map (fun d => d.parameters.length) = some 0 := ⟨rfl, hd_X3_dropOldestState⟩
theorem wX3_dropOldestState_0 : Cond.fieldLink RX3 24 "WaxCopies" "saved" "[LWaxCopies$Wax;" ∈ wsX3_dropOldestState := by decide +kernel
theorem inX3_dropOldestState_X3 : ∀ w ∈ wsX30, w ∈ wsX3_dropOldestState := by decide +kernel
theorem wX3_dropOldestState_2 : Cond.fieldLink RX3 27 "WaxCopies" "savedStates" "I" ∈ wsX3_dropOldestState := by decide +kernel
set_option maxHeartbeats 8000000 in
set_option maxRecDepth 100000 in
theorem L_X3_dropOldestState_b9 {p : Program} {l : Launch} {e : Env} {s : State} {m : MethodId} {args : Array Value} {below : List Frame} {meth : Method} {c : Code} {G : zG} {r : Unit} {mu1 : Mm}  (C : CallFix p m c cX3_dropOldestState 3 s args wsX3_dropOldestState RX3) (hr : meth.sig.returnType = none) (hlk : meth.locks = false) (Z : z_Z G (z_A G s.heap.size) s)  :
    ∀ (n : Nat) (x1 : Nat) (x2 : Int32) (μ : Mm), f_X3_dropOldestState_b9  n x1 x2 μ = some (r, mu1) → ∀ (H : Heap) (locs : List Loc), z_P G μ H → va_S (z_A G s.heap.size) s.heap H locs → ∀ ls : Array Slot, lv_has ls 3 [(0, .ref (G.2.1 (90))), (1, .ref (G.2.1 (x1))), (2, .int (x2))] → W p l e rm_X3_dropOldestState s m args below meth c H locs 0 0 (MQ below (z_Qv G r mu1 s.heap.size) args s 0 0 (z_A G s.heap.size)) (F0 m 9 ls []) := by
  have hx := C.1
  have hb := C.2.1
  have hts := C.2.2.2.2
  intro n
  induction n with
  | zero =>
    intro x1 x2 μ h
    rw [f_X3_dropOldestState_b9] at h
    cases h
  | succ n ih =>
    intro x1 x2 μ h H locs hP hS ls hl
    rw [f_X3_dropOldestState_b9] at h
    refine lv_iload_n hx hb dX3_dropOldestState_9 rfl (lv_at hl 2 rfl) ?_
    refine lv_bipush (v := 6) hx hb dX3_dropOldestState_10 (by decide) ?_
    refine lv_icmp_ge (tgt := 35) hx hb dX3_dropOldestState_12 (by decide) (fun hc2 => ?_) (fun hc2 => ?_)
    · have h := z_ip hc2 h
      refine lv_aload_n hx hb dX3_dropOldestState_35 rfl (lv_at hl 0 rfl) ?_
      refine z_get C Z hP (k := 90) (ci := 3) (j := 3) (N := 7) (v := .ref (G.2.1 (93))) (by decide) (z_E_90 _) rfl inX3_dropOldestState_X3 (by decide) wX3_dropOldestState_0 rfl dX3_dropOldestState_36 ?_
      refine lv_iconst (v := 5) hx hb dX3_dropOldestState_39 (by decide) ?_
      refine lv_aload_n hx hb dX3_dropOldestState_40 rfl (lv_at hl 1 rfl) ?_
      obtain ⟨hg3, h⟩ := z_g h
      refine z_astq C Z hP hS (v := x1) (j := 5) (Nat.lt_trans hg3.2 (by decide)) (z_E_wax hg3 _) (show z_ix 5 6 by decide) rfl dX3_dropOldestState_41 (fun H locs hP hS => ?_)
      refine lv_aload_n hx hb dX3_dropOldestState_42 rfl (lv_at hl 0 rfl) ?_
      refine lv_iconst (v := 5) hx hb dX3_dropOldestState_43 (by decide) ?_
      refine z_put C Z hP hS (k := 90) (ci := 3) (j := 4) (N := 7) (x := 5) (v := .int (5)) (ty := .int) (by decide) (z_E_90 _) rfl inX3_dropOldestState_X3 tyX3_ok nmX3 (by decide) wX3_dropOldestState_2 rfl (by decide +kernel) rfl rfl (Nat.le_of_ble_eq_true rfl) (z_S_90_4 _ _) dX3_dropOldestState_44 (fun H locs hP hS => ?_)
      cases h
      exact z_retv C hr hlk hP hS dX3_dropOldestState_47
    · have h := z_in hc2 h
      refine lv_aload_n hx hb dX3_dropOldestState_15 rfl (lv_at hl 0 rfl) ?_
      refine z_get C Z hP (k := 90) (ci := 3) (j := 3) (N := 7) (v := .ref (G.2.1 (93))) (by decide) (z_E_90 _) rfl inX3_dropOldestState_X3 (by decide) wX3_dropOldestState_0 rfl dX3_dropOldestState_16 ?_
      refine lv_iload_n hx hb dX3_dropOldestState_19 rfl (lv_at hl 2 rfl) ?_
      refine lv_iconst (v := 1) hx hb dX3_dropOldestState_20 (by decide) ?_
      refine lv_isub hx hb dX3_dropOldestState_21 ?_
      refine lv_aload_n hx hb dX3_dropOldestState_22 rfl (lv_at hl 0 rfl) ?_
      refine z_get C Z hP (k := 90) (ci := 3) (j := 3) (N := 7) (v := .ref (G.2.1 (93))) (by decide) (z_E_90 _) rfl inX3_dropOldestState_X3 (by decide) wX3_dropOldestState_0 rfl dX3_dropOldestState_23 ?_
      refine lv_iload_n hx hb dX3_dropOldestState_26 rfl (lv_at hl 2 rfl) ?_
      obtain ⟨hg4, h⟩ := z_g h
      refine z_aldq C Z hP (k := 93) (n := 6) (b := G.2.1 (z_rf (μ 93 ((x2).toNatClampNeg)))) (by decide) (z_E_93 _) hg4 rfl dX3_dropOldestState_27 ?_
      obtain ⟨hg5, h⟩ := z_g h
      obtain ⟨hg6, h⟩ := z_g h
      refine z_astq C Z hP hS (v := (z_rf (μ 93 ((x2).toNatClampNeg)))) (j := ((x2 - 1)).toNatClampNeg) (Nat.lt_trans hg5.2 (by decide)) (z_E_wax hg5 _) hg6 rfl dX3_dropOldestState_28 (fun H locs hP hS => ?_)
      refine lv_iinc (v := (x2 + 1)) (lv' := [(2, .int ((x2 + 1))), (0, .ref (G.2.1 (90))), (1, .ref (G.2.1 (x1)))]) hx hb dX3_dropOldestState_29 hl (k := 2) rfl rfl (by decide) rfl (fun ls hl => ?_)
      refine lv_goto (tgt := 9) hx hb dX3_dropOldestState_32 (by decide) ?_
      exact ih _ _ _ h _ _ hP hS ls (lv_sub hl [1, 2, 0] rfl)
set_option maxHeartbeats 4000000 in
set_option maxRecDepth 100000 in
theorem c_X3_dropOldestState (l : Launch) (G : zG) {μ mu1 : Mm} {r : Unit} (h : f_X3_dropOldestState μ = some (r, mu1)) (sz : Nat) : Met l yX3_dropOldestState wsX3_dropOldestState rm_X3_dropOldestState (z_Pre G μ [.ref (G.2.1 (90))] sz) (z_Qv G r mu1 sz) 0 0 (z_A G sz) := by
  refine z_start (cc := cX3_dropOldestState) (maxL := 3) (ret := none) (own := RX3) (by decide) rfl rfl (Nat.le_of_ble_eq_true rfl) (fun p e s m args below meth c C hr hlk Z hP ls hl => ?_) sz
  have hx := C.1
  have hb := C.2.1
  have hts := C.2.2.2.2
  have hS : va_S (z_A G s.heap.size) s.heap s.heap [] := va_S.rf
  have hl : lv_has ls 3 [(0, .ref (G.2.1 (90)))] := hl
  unfold f_X3_dropOldestState at h
  refine lv_aload_n hx hb dX3_dropOldestState_0 rfl (lv_at hl 0 rfl) ?_
  refine z_get C Z hP (k := 90) (ci := 3) (j := 3) (N := 7) (v := .ref (G.2.1 (93))) (by decide) (z_E_90 _) rfl inX3_dropOldestState_X3 (by decide) wX3_dropOldestState_0 rfl dX3_dropOldestState_1 ?_
  refine lv_iconst (v := 0) hx hb dX3_dropOldestState_4 (by decide) ?_
  refine z_aldq C Z hP (k := 93) (n := 6) (b := G.2.1 (z_rf (μ 93 0))) (by decide) (z_E_93 _) (show z_ix 0 6 by decide) rfl dX3_dropOldestState_5 ?_
  obtain ⟨hg1, h⟩ := z_g h
  refine lv_astore_n (lv' := [(1, .ref (G.2.1 ((z_rf (μ 93 0))))), (0, .ref (G.2.1 (90)))]) hx hb dX3_dropOldestState_6 rfl hl (by decide) rfl (fun ls hl => ?_)
  refine lv_iconst (v := 1) hx hb dX3_dropOldestState_7 (by decide) ?_
  refine lv_istore_n (lv' := [(2, .int (1)), (1, .ref (G.2.1 ((z_rf (μ 93 0))))), (0, .ref (G.2.1 (90)))]) hx hb dX3_dropOldestState_8 rfl hl (by decide) rfl (fun ls hl => ?_)
  exact L_X3_dropOldestState_b9 C hr hlk Z z_F _ _ _ h _ _ hP hS ls (lv_sub hl [2, 1, 0] rfl)
abbrev rm_X3_saveState : Room := { frames := 2, cells := 0, slots := 0, locals := 61 }
theorem hd_X3_saveState : yX3_saveState.cls ≠ "java/lang/invoke/MethodHandle" ∧ yX3_saveState.cls ≠ "java/lang/invoke/VarHandle" ∧ (parseMethodDescriptor yX3_saveState.desc).map (fun d => d.parameters.length) = some 0 := by decide +kernel
theorem hv_X3_saveState : yX3_saveState.cls = RX3 ∧ yX3_saveState.cls ≠ "java/lang/invoke/MethodHandle" ∧ yX3_saveState.cls ≠ "java/lang/invoke/VarHandle" ∧ (parseMethodDescriptor yX3_saveState.desc).map (fun d => d.parameters.length) = some 0 := ⟨rfl, hd_X3_saveState⟩
theorem wX3_saveState_0 : Cond.fieldLink RX3 27 "WaxCopies" "savedStates" "I" ∈ wsX3_saveState := by decide +kernel
theorem inX3_saveState_X3 : ∀ w ∈ wsX30, w ∈ wsX3_saveState := by decide +kernel
theorem wX3_saveState_2 : Cond.fieldLink RX3 24 "WaxCopies" "saved" "[LWaxCopies$Wax;" ∈ wsX3_saveState := by decide +kernel
theorem wX3_saveState_3 : Cond.fieldLink RX3 12 "WaxCopies" "now" "LWaxCopies$Wax;" ∈ wsX3_saveState := by decide +kernel
set_option maxHeartbeats 8000000 in
set_option maxRecDepth 100000 in
theorem L_X3_saveState_b13 {p : Program} {l : Launch} {e : Env} {s : State} {m : MethodId} {args : Array Value} {below : List Frame} {meth : Method} {c : Code} {G : zG} {r : Unit} {mu1 : Mm}  (C : CallFix p m c cX3_saveState 1 s args wsX3_saveState RX3) (hr : meth.sig.returnType = none) (hlk : meth.locks = false) (Z : z_Z G (z_A G s.heap.size) s)  :
    ∀  (μ : Mm), f_X3_saveState_b13   μ = some (r, mu1) → ∀ (H : Heap) (locs : List Loc), z_P G μ H → va_S (z_A G s.heap.size) s.heap H locs → ∀ ls : Array Slot, lv_has ls 1 [(0, .ref (G.2.1 (90)))] → W p l e rm_X3_saveState s m args below meth c H locs 0 0 (MQ below (z_Qv G r mu1 s.heap.size) args s 0 0 (z_A G s.heap.size)) (F0 m 13 ls []) := by
  have hx := C.1
  have hb := C.2.1
  have hts := C.2.2.2.2
  intro  μ h H locs hP hS ls hl
  unfold f_X3_saveState_b13 at h
  refine lv_aload_n hx hb dX3_saveState_13 rfl (lv_at hl 0 rfl) ?_
  refine z_get C Z hP (k := 90) (ci := 3) (j := 3) (N := 7) (v := .ref (G.2.1 (93))) (by decide) (z_E_90 _) rfl inX3_saveState_X3 (by decide) wX3_saveState_2 rfl dX3_saveState_14 ?_
  refine lv_aload_n hx hb dX3_saveState_17 rfl (lv_at hl 0 rfl) ?_
  refine z_get C Z hP (k := 90) (ci := 3) (j := 4) (N := 7) (v := .int ((μ 90 4))) (by decide) (z_E_90 _) rfl inX3_saveState_X3 (by decide) wX3_saveState_0 rfl dX3_saveState_18 ?_
  obtain ⟨hg2, h⟩ := z_g h
  refine z_aldq C Z hP (k := 93) (n := 6) (b := G.2.1 (z_rf (μ 93 (((μ 90 4)).toNatClampNeg)))) (by decide) (z_E_93 _) hg2 rfl dX3_saveState_21 ?_
  obtain ⟨hg3, h⟩ := z_g h
  refine lv_aload_n hx hb dX3_saveState_22 rfl (lv_at hl 0 rfl) ?_
  refine z_get C Z hP (k := 90) (ci := 3) (j := 0) (N := 7) (v := .ref (G.2.1 (0))) (by decide) (z_E_90 _) rfl inX3_saveState_X3 (by decide) wX3_saveState_3 rfl dX3_saveState_23 ?_
  obtain ⟨r4, m5, e6, h⟩ := zb_some h
  refine z_callv hS (va_runV (As := [.ref (G.2.1 (0))]) (rest := []) C (c_X2_takeOver l G e6 _) (cwV 1 hts gX3_saveState_X2_takeOver rfl rfl rfl hv_X2_takeOver ⟨Nat.le_of_ble_eq_true rfl, Nat.le_of_ble_eq_true rfl⟩) (z_preV Z hS hP (Nat.lt_trans hg3.2 (by decide)) (z_E_wax hg3 _) rfl rfl) rfl rfl hl.1 rfl (lv_room (Nat.le_of_ble_eq_true rfl)) dX3_saveState_26 ⟨Nat.zero_le _, Nat.zero_le _⟩) (fun H locs hP hS => ?_)
  refine lv_aload_n hx hb dX3_saveState_29 rfl (lv_at hl 0 rfl) ?_
  refine lv_dup hx hb dX3_saveState_30 rfl ?_
  refine z_get C Z hP (k := 90) (ci := 3) (j := 4) (N := 7) (v := .int ((m5 90 4))) (by decide) (z_E_90 _) rfl inX3_saveState_X3 (by decide) wX3_saveState_0 rfl dX3_saveState_31 ?_
  refine lv_iconst (v := 1) hx hb dX3_saveState_34 (by decide) ?_
  refine lv_iadd hx hb dX3_saveState_35 ?_
  refine z_put C Z hP hS (k := 90) (ci := 3) (j := 4) (N := 7) (x := ((m5 90 4) + 1)) (v := .int (((m5 90 4) + 1))) (ty := .int) (by decide) (z_E_90 _) rfl inX3_saveState_X3 tyX3_ok nmX3 (by decide) wX3_saveState_0 rfl (by decide +kernel) rfl rfl (Nat.le_of_ble_eq_true rfl) (z_S_90_4 _ _) dX3_saveState_36 (fun H locs hP hS => ?_)
  cases h
  exact z_retv C hr hlk hP hS dX3_saveState_39
set_option maxHeartbeats 4000000 in
set_option maxRecDepth 100000 in
theorem c_X3_saveState (l : Launch) (G : zG) {μ mu1 : Mm} {r : Unit} (h : f_X3_saveState μ = some (r, mu1)) (sz : Nat) : Met l yX3_saveState wsX3_saveState rm_X3_saveState (z_Pre G μ [.ref (G.2.1 (90))] sz) (z_Qv G r mu1 sz) 0 0 (z_A G sz) := by
  refine z_start (cc := cX3_saveState) (maxL := 1) (ret := none) (own := RX3) (by decide) rfl rfl (Nat.le_of_ble_eq_true rfl) (fun p e s m args below meth c C hr hlk Z hP ls hl => ?_) sz
  have hx := C.1
  have hb := C.2.1
  have hts := C.2.2.2.2
  have hS : va_S (z_A G s.heap.size) s.heap s.heap [] := va_S.rf
  have hl : lv_has ls 1 [(0, .ref (G.2.1 (90)))] := hl
  unfold f_X3_saveState at h
  refine lv_aload_n hx hb dX3_saveState_0 rfl (lv_at hl 0 rfl) ?_
  refine z_get C Z hP (k := 90) (ci := 3) (j := 4) (N := 7) (v := .int ((μ 90 4))) (by decide) (z_E_90 _) rfl inX3_saveState_X3 (by decide) wX3_saveState_0 rfl dX3_saveState_1 ?_
  refine lv_bipush (v := 6) hx hb dX3_saveState_4 (by decide) ?_
  refine lv_icmp_lt (tgt := 13) hx hb dX3_saveState_6 (by decide) (fun hc1 => ?_) (fun hc1 => ?_)
  · have h := z_ip hc1 h
    exact L_X3_saveState_b13 C hr hlk Z _ h _ _ hP hS ls (lv_sub hl [0] rfl)
  · have h := z_in hc1 h
    refine lv_aload_n hx hb dX3_saveState_9 rfl (lv_at hl 0 rfl) ?_
    obtain ⟨r7, m8, e9, h⟩ := zb_some h
    refine z_callv hS (va_runV (As := []) (rest := []) C (c_X3_dropOldestState l G e9 _) (cwV 0 hts gX3_saveState_X3_dropOldestState rfl rfl rfl hv_X3_dropOldestState ⟨Nat.le_of_ble_eq_true rfl, Nat.le_of_ble_eq_true rfl⟩) (z_preV Z hS hP (by decide) (z_E_90 _) rfl rfl) rfl rfl hl.1 rfl (lv_room (Nat.le_of_ble_eq_true rfl)) dX3_saveState_10 ⟨Nat.zero_le _, Nat.zero_le _⟩) (fun H locs hP hS => ?_)
    exact L_X3_saveState_b13 C hr hlk Z _ h _ _ hP hS ls (lv_sub hl [0] rfl)
abbrev rm_X3_speak : Room := { frames := 4, cells := 0, slots := 0, locals := 81 }
theorem hd_X3_speak : yX3_speak.cls ≠ "java/lang/invoke/MethodHandle" ∧ yX3_speak.cls ≠ "java/lang/invoke/VarHandle" ∧ (parseMethodDescriptor yX3_speak.desc).map (fun d => d.parameters.length) = some 2 := by decide +kernel
theorem hv_X3_speak : yX3_speak.cls = RX3 ∧ yX3_speak.cls ≠ "java/lang/invoke/MethodHandle" ∧ yX3_speak.cls ≠ "java/lang/invoke/VarHandle" ∧ (parseMethodDescriptor yX3_speak.desc).map (fun d => d.parameters.length) = some 2 := ⟨rfl, hd_X3_speak⟩
theorem wX3_speak_0 : Cond.fieldLink RX3 12 "WaxCopies" "now" "LWaxCopies$Wax;" ∈ wsX3_speak := by decide +kernel
theorem inX3_speak_X3 : ∀ w ∈ wsX30, w ∈ wsX3_speak := by decide +kernel
set_option maxHeartbeats 4000000 in
set_option maxRecDepth 100000 in
theorem c_X3_speak (l : Launch) (G : zG) {x1 : Int32} {x2 : Int32} {μ mu1 : Mm} {r : Int32} (h : f_X3_speak x1 x2 μ = some (.inr r, mu1)) (sz : Nat) : Met l yX3_speak wsX3_speak rm_X3_speak (z_Pre G μ [.ref (G.2.1 (90)), .int (x1), .int (x2)] sz) (z_Qi G r mu1 sz) 0 0 (z_A G sz) := by
  refine z_start (cc := cX3_speak) (maxL := 3) (ret := (some .int)) (own := RX3) (by decide) rfl rfl (Nat.le_of_ble_eq_true rfl) (fun p e s m args below meth c C hr hlk Z hP ls hl => ?_) sz
  have hx := C.1
  have hb := C.2.1
  have hts := C.2.2.2.2
  have hS : va_S (z_A G s.heap.size) s.heap s.heap [] := va_S.rf
  have hl : lv_has ls 3 [(0, .ref (G.2.1 (90))), (1, .int (x1)), (2, .int (x2))] := hl
  unfold f_X3_speak at h
  refine lv_aload_n hx hb dX3_speak_0 rfl (lv_at hl 0 rfl) ?_
  refine lv_iload_n hx hb dX3_speak_1 rfl (lv_at hl 1 rfl) ?_
  obtain ⟨r1, m2, e3, h⟩ := zbx_r h
  refine z_callv hS (va_runV (As := [.int (x1)]) (rest := []) C (c_X3_checkTrack l G e3 _) (cwV 1 hts gX3_speak_X3_checkTrack rfl rfl rfl hv_X3_checkTrack ⟨Nat.le_of_ble_eq_true rfl, Nat.le_of_ble_eq_true rfl⟩) (z_preV Z hS hP (by decide) (z_E_90 _) rfl rfl) rfl rfl hl.1 rfl (lv_room (Nat.le_of_ble_eq_true rfl)) dX3_speak_2 ⟨Nat.zero_le _, Nat.zero_le _⟩) (fun H locs hP hS => ?_)
  refine lv_aload_n hx hb dX3_speak_5 rfl (lv_at hl 0 rfl) ?_
  refine lv_iload_n hx hb dX3_speak_6 rfl (lv_at hl 2 rfl) ?_
  obtain ⟨r4, m5, e6, h⟩ := zbx_r h
  refine z_callv hS (va_runV (As := [.int (x2)]) (rest := []) C (c_X3_checkLoudness l G e6 _) (cwV 1 hts gX3_speak_X3_checkLoudness rfl rfl rfl hv_X3_checkLoudness ⟨Nat.le_of_ble_eq_true rfl, Nat.le_of_ble_eq_true rfl⟩) (z_preV Z hS hP (by decide) (z_E_90 _) rfl rfl) rfl rfl hl.1 rfl (lv_room (Nat.le_of_ble_eq_true rfl)) dX3_speak_7 ⟨Nat.zero_le _, Nat.zero_le _⟩) (fun H locs hP hS => ?_)
  refine lv_aload_n hx hb dX3_speak_10 rfl (lv_at hl 0 rfl) ?_
  obtain ⟨r7, m8, e9, h⟩ := zb_some h
  refine z_callv hS (va_runV (As := []) (rest := []) C (c_X3_saveState l G e9 _) (cwV 0 hts gX3_speak_X3_saveState rfl rfl rfl hv_X3_saveState ⟨Nat.le_of_ble_eq_true rfl, Nat.le_of_ble_eq_true rfl⟩) (z_preV Z hS hP (by decide) (z_E_90 _) rfl rfl) rfl rfl hl.1 rfl (lv_room (Nat.le_of_ble_eq_true rfl)) dX3_speak_11 ⟨Nat.zero_le _, Nat.zero_le _⟩) (fun H locs hP hS => ?_)
  refine lv_aload_n hx hb dX3_speak_14 rfl (lv_at hl 0 rfl) ?_
  refine z_get C Z hP (k := 90) (ci := 3) (j := 0) (N := 7) (v := .ref (G.2.1 (0))) (by decide) (z_E_90 _) rfl inX3_speak_X3 (by decide) wX3_speak_0 rfl dX3_speak_15 ?_
  refine lv_iload_n hx hb dX3_speak_18 rfl (lv_at hl 1 rfl) ?_
  refine lv_iload_n hx hb dX3_speak_19 rfl (lv_at hl 2 rfl) ?_
  obtain ⟨r10, m11, e12, h⟩ := zb_some h
  refine z_calli hS (va_runV (As := [.int (x1), .int (x2)]) (rest := []) C (c_X2_speakOnto l G e12 _) (cwV 2 hts gX3_speak_X2_speakOnto rfl rfl rfl hv_X2_speakOnto ⟨Nat.le_of_ble_eq_true rfl, Nat.le_of_ble_eq_true rfl⟩) (z_preV Z hS hP (by decide) (z_E_0 _) rfl rfl) rfl rfl hl.1 rfl (lv_room (Nat.le_of_ble_eq_true rfl)) dX3_speak_20 ⟨Nat.zero_le _, Nat.zero_le _⟩) (fun H locs hP hS => ?_)
  cases h
  exact z_reti C hr hlk hP hS dX3_speak_23
abbrev rm_X3_checkLever : Room := { frames := 0, cells := 0, slots := 0, locals := 0 }
theorem hd_X3_checkLever : yX3_checkLever.cls ≠ "java/lang/invoke/MethodHandle" ∧ yX3_checkLever.cls ≠ "java/lang/invoke/VarHandle" ∧ (parseMethodDescriptor yX3_checkLever.desc).map (fun d => d.parameters.length) = some 1 := by decide +kernel
theorem hv_X3_checkLever : yX3_checkLever.cls = RX3 ∧ yX3_checkLever.cls ≠ "java/lang/invoke/MethodHandle" ∧ yX3_checkLever.cls ≠ "java/lang/invoke/VarHandle" ∧ (parseMethodDescriptor yX3_checkLever.desc).map (fun d => d.parameters.length) = some 1 := ⟨rfl, hd_X3_checkLever⟩
set_option maxHeartbeats 4000000 in
set_option maxRecDepth 100000 in
theorem c_X3_checkLever (l : Launch) (G : zG) {x1 : Int32} {μ mu1 : Mm} {r : Unit} (h : f_X3_checkLever x1 μ = some (.inr r, mu1)) (sz : Nat) : Met l yX3_checkLever wsX3_checkLever rm_X3_checkLever (z_Pre G μ [.ref (G.2.1 (90)), .int (x1)] sz) (z_Qv G r mu1 sz) 0 0 (z_A G sz) := by
  refine z_start (cc := cX3_checkLever) (maxL := 2) (ret := none) (own := RX3) (by decide) rfl rfl (Nat.le_of_ble_eq_true rfl) (fun p e s m args below meth c C hr hlk Z hP ls hl => ?_) sz
  have hx := C.1
  have hb := C.2.1
  have hts := C.2.2.2.2
  have hS : va_S (z_A G s.heap.size) s.heap s.heap [] := va_S.rf
  have hl : lv_has ls 2 [(0, .ref (G.2.1 (90))), (1, .int (x1))] := hl
  unfold f_X3_checkLever at h
  refine lv_iload_n hx hb dX3_checkLever_0 rfl (lv_at hl 1 rfl) ?_
  refine lv_iconst (v := 1) hx hb dX3_checkLever_1 (by decide) ?_
  refine lv_icmp_lt (tgt := 10) hx hb dX3_checkLever_2 (by decide) (fun hc1 => ?_) (fun hc1 => ?_)
  · have h := z_ip hc1 h
    cases h
  · have h := z_in hc1 h
    refine lv_iload_n hx hb dX3_checkLever_5 rfl (lv_at hl 1 rfl) ?_
    refine lv_iconst (v := 3) hx hb dX3_checkLever_6 (by decide) ?_
    refine lv_icmp_le (tgt := 21) hx hb dX3_checkLever_7 (by decide) (fun hc2 => ?_) (fun hc2 => ?_)
    · have h := z_ip hc2 h
      cases h
      exact z_retv C hr hlk hP hS dX3_checkLever_21
    · have h := z_in hc2 h
      cases h
abbrev rm_X3_copy : Room := { frames := 4, cells := 0, slots := 0, locals := 90 }
theorem hd_X3_copy : yX3_copy.cls ≠ "java/lang/invoke/MethodHandle" ∧ yX3_copy.cls ≠ "java/lang/invoke/VarHandle" ∧ (parseMethodDescriptor yX3_copy.desc).map (fun d => d.parameters.length) = some 3 := by decide +kernel
theorem hv_X3_copy : yX3_copy.cls = RX3 ∧ yX3_copy.cls ≠ "java/lang/invoke/MethodHandle" ∧ yX3_copy.cls ≠ "java/lang/invoke/VarHandle" ∧ (parseMethodDescriptor yX3_copy.desc).map (fun d => d.parameters.length) = some 3 := ⟨rfl, hd_X3_copy⟩
theorem wX3_copy_0 : Cond.fieldLink RX3 12 "WaxCopies" "now" "LWaxCopies$Wax;" ∈ wsX3_copy := by decide +kernel
theorem inX3_copy_X3 : ∀ w ∈ wsX30, w ∈ wsX3_copy := by decide +kernel
set_option maxHeartbeats 4000000 in
set_option maxRecDepth 100000 in
theorem c_X3_copy (l : Launch) (G : zG) {x1 : Int32} {x2 : Int32} {x3 : Int32} {μ mu1 : Mm} {r : Int32} (h : f_X3_copy x1 x2 x3 μ = some (.inr r, mu1)) (sz : Nat) : Met l yX3_copy wsX3_copy rm_X3_copy (z_Pre G μ [.ref (G.2.1 (90)), .int (x1), .int (x2), .int (x3)] sz) (z_Qi G r mu1 sz) 0 0 (z_A G sz) := by
  refine z_start (cc := cX3_copy) (maxL := 4) (ret := (some .int)) (own := RX3) (by decide) rfl rfl (Nat.le_of_ble_eq_true rfl) (fun p e s m args below meth c C hr hlk Z hP ls hl => ?_) sz
  have hx := C.1
  have hb := C.2.1
  have hts := C.2.2.2.2
  have hS : va_S (z_A G s.heap.size) s.heap s.heap [] := va_S.rf
  have hl : lv_has ls 4 [(0, .ref (G.2.1 (90))), (1, .int (x1)), (2, .int (x2)), (3, .int (x3))] := hl
  unfold f_X3_copy at h
  refine lv_aload_n hx hb dX3_copy_0 rfl (lv_at hl 0 rfl) ?_
  refine lv_iload_n hx hb dX3_copy_1 rfl (lv_at hl 1 rfl) ?_
  obtain ⟨r1, m2, e3, h⟩ := zbx_r h
  refine z_callv hS (va_runV (As := [.int (x1)]) (rest := []) C (c_X3_checkTrack l G e3 _) (cwV 1 hts gX3_copy_X3_checkTrack rfl rfl rfl hv_X3_checkTrack ⟨Nat.le_of_ble_eq_true rfl, Nat.le_of_ble_eq_true rfl⟩) (z_preV Z hS hP (by decide) (z_E_90 _) rfl rfl) rfl rfl hl.1 rfl (lv_room (Nat.le_of_ble_eq_true rfl)) dX3_copy_2 ⟨Nat.zero_le _, Nat.zero_le _⟩) (fun H locs hP hS => ?_)
  refine lv_aload_n hx hb dX3_copy_5 rfl (lv_at hl 0 rfl) ?_
  refine lv_iload_n hx hb dX3_copy_6 rfl (lv_at hl 2 rfl) ?_
  obtain ⟨r4, m5, e6, h⟩ := zbx_r h
  refine z_callv hS (va_runV (As := [.int (x2)]) (rest := []) C (c_X3_checkTrack l G e6 _) (cwV 1 hts gX3_copy_X3_checkTrack rfl rfl rfl hv_X3_checkTrack ⟨Nat.le_of_ble_eq_true rfl, Nat.le_of_ble_eq_true rfl⟩) (z_preV Z hS hP (by decide) (z_E_90 _) rfl rfl) rfl rfl hl.1 rfl (lv_room (Nat.le_of_ble_eq_true rfl)) dX3_copy_7 ⟨Nat.zero_le _, Nat.zero_le _⟩) (fun H locs hP hS => ?_)
  refine lv_aload_n hx hb dX3_copy_10 rfl (lv_at hl 0 rfl) ?_
  refine lv_iload_n hx hb dX3_copy_11 rfl (lv_at hl 3 rfl) ?_
  obtain ⟨r7, m8, e9, h⟩ := zbx_r h
  refine z_callv hS (va_runV (As := [.int (x3)]) (rest := []) C (c_X3_checkLever l G e9 _) (cwV 1 hts gX3_copy_X3_checkLever rfl rfl rfl hv_X3_checkLever ⟨Nat.le_of_ble_eq_true rfl, Nat.le_of_ble_eq_true rfl⟩) (z_preV Z hS hP (by decide) (z_E_90 _) rfl rfl) rfl rfl hl.1 rfl (lv_room (Nat.le_of_ble_eq_true rfl)) dX3_copy_12 ⟨Nat.zero_le _, Nat.zero_le _⟩) (fun H locs hP hS => ?_)
  refine lv_aload_n hx hb dX3_copy_15 rfl (lv_at hl 0 rfl) ?_
  obtain ⟨r10, m11, e12, h⟩ := zb_some h
  refine z_callv hS (va_runV (As := []) (rest := []) C (c_X3_saveState l G e12 _) (cwV 0 hts gX3_copy_X3_saveState rfl rfl rfl hv_X3_saveState ⟨Nat.le_of_ble_eq_true rfl, Nat.le_of_ble_eq_true rfl⟩) (z_preV Z hS hP (by decide) (z_E_90 _) rfl rfl) rfl rfl hl.1 rfl (lv_room (Nat.le_of_ble_eq_true rfl)) dX3_copy_16 ⟨Nat.zero_le _, Nat.zero_le _⟩) (fun H locs hP hS => ?_)
  refine lv_aload_n hx hb dX3_copy_19 rfl (lv_at hl 0 rfl) ?_
  refine z_get C Z hP (k := 90) (ci := 3) (j := 0) (N := 7) (v := .ref (G.2.1 (0))) (by decide) (z_E_90 _) rfl inX3_copy_X3 (by decide) wX3_copy_0 rfl dX3_copy_20 ?_
  refine lv_iload_n hx hb dX3_copy_23 rfl (lv_at hl 1 rfl) ?_
  refine lv_iload_n hx hb dX3_copy_24 rfl (lv_at hl 2 rfl) ?_
  refine lv_iload_n hx hb dX3_copy_25 rfl (lv_at hl 3 rfl) ?_
  obtain ⟨r13, m14, e15, h⟩ := zb_some h
  refine z_calli hS (va_runV (As := [.int (x1), .int (x2), .int (x3)]) (rest := []) C (c_X2_copyOnto l G e15 _) (cwV 3 hts gX3_copy_X2_copyOnto rfl rfl rfl hv_X2_copyOnto ⟨Nat.le_of_ble_eq_true rfl, Nat.le_of_ble_eq_true rfl⟩) (z_preV Z hS hP (by decide) (z_E_0 _) rfl rfl) rfl rfl hl.1 rfl (lv_room (Nat.le_of_ble_eq_true rfl)) dX3_copy_26 ⟨Nat.zero_le _, Nat.zero_le _⟩) (fun H locs hP hS => ?_)
  cases h
  exact z_reti C hr hlk hP hS dX3_copy_29
abbrev rm_X3_play : Room := { frames := 3, cells := 0, slots := 0, locals := 81 }
theorem hd_X3_play : yX3_play.cls ≠ "java/lang/invoke/MethodHandle" ∧ yX3_play.cls ≠ "java/lang/invoke/VarHandle" ∧ (parseMethodDescriptor yX3_play.desc).map (fun d => d.parameters.length) = some 1 := by decide +kernel
theorem hv_X3_play : yX3_play.cls = RX3 ∧ yX3_play.cls ≠ "java/lang/invoke/MethodHandle" ∧ yX3_play.cls ≠ "java/lang/invoke/VarHandle" ∧ (parseMethodDescriptor yX3_play.desc).map (fun d => d.parameters.length) = some 1 := ⟨rfl, hd_X3_play⟩
theorem wX3_play_0 : Cond.fieldLink RX3 12 "WaxCopies" "now" "LWaxCopies$Wax;" ∈ wsX3_play := by decide +kernel
theorem inX3_play_X3 : ∀ w ∈ wsX30, w ∈ wsX3_play := by decide +kernel
set_option maxHeartbeats 4000000 in
set_option maxRecDepth 100000 in
theorem c_X3_play (l : Launch) (G : zG) {x1 : Int32} {μ mu1 : Mm} {r : Int32} (h : f_X3_play x1 μ = some (.inr r, mu1)) (sz : Nat) : Met l yX3_play wsX3_play rm_X3_play (z_Pre G μ [.ref (G.2.1 (90)), .int (x1)] sz) (z_Qi G r mu1 sz) 0 0 (z_A G sz) := by
  refine z_start (cc := cX3_play) (maxL := 2) (ret := (some .int)) (own := RX3) (by decide) rfl rfl (Nat.le_of_ble_eq_true rfl) (fun p e s m args below meth c C hr hlk Z hP ls hl => ?_) sz
  have hx := C.1
  have hb := C.2.1
  have hts := C.2.2.2.2
  have hS : va_S (z_A G s.heap.size) s.heap s.heap [] := va_S.rf
  have hl : lv_has ls 2 [(0, .ref (G.2.1 (90))), (1, .int (x1))] := hl
  unfold f_X3_play at h
  refine lv_aload_n hx hb dX3_play_0 rfl (lv_at hl 0 rfl) ?_
  refine lv_iload_n hx hb dX3_play_1 rfl (lv_at hl 1 rfl) ?_
  obtain ⟨r1, m2, e3, h⟩ := zbx_r h
  refine z_callv hS (va_runV (As := [.int (x1)]) (rest := []) C (c_X3_checkTrack l G e3 _) (cwV 1 hts gX3_play_X3_checkTrack rfl rfl rfl hv_X3_checkTrack ⟨Nat.le_of_ble_eq_true rfl, Nat.le_of_ble_eq_true rfl⟩) (z_preV Z hS hP (by decide) (z_E_90 _) rfl rfl) rfl rfl hl.1 rfl (lv_room (Nat.le_of_ble_eq_true rfl)) dX3_play_2 ⟨Nat.zero_le _, Nat.zero_le _⟩) (fun H locs hP hS => ?_)
  refine lv_aload_n hx hb dX3_play_5 rfl (lv_at hl 0 rfl) ?_
  obtain ⟨r4, m5, e6, h⟩ := zb_some h
  refine z_callv hS (va_runV (As := []) (rest := []) C (c_X3_saveState l G e6 _) (cwV 0 hts gX3_play_X3_saveState rfl rfl rfl hv_X3_saveState ⟨Nat.le_of_ble_eq_true rfl, Nat.le_of_ble_eq_true rfl⟩) (z_preV Z hS hP (by decide) (z_E_90 _) rfl rfl) rfl rfl hl.1 rfl (lv_room (Nat.le_of_ble_eq_true rfl)) dX3_play_6 ⟨Nat.zero_le _, Nat.zero_le _⟩) (fun H locs hP hS => ?_)
  refine lv_aload_n hx hb dX3_play_9 rfl (lv_at hl 0 rfl) ?_
  refine z_get C Z hP (k := 90) (ci := 3) (j := 0) (N := 7) (v := .ref (G.2.1 (0))) (by decide) (z_E_90 _) rfl inX3_play_X3 (by decide) wX3_play_0 rfl dX3_play_10 ?_
  refine lv_iload_n hx hb dX3_play_13 rfl (lv_at hl 1 rfl) ?_
  obtain ⟨r7, m8, e9, h⟩ := zb_some h
  refine z_calli hS (va_runV (As := [.int (x1)]) (rest := []) C (c_X2_playTrack l G e9 _) (cwV 1 hts gX3_play_X2_playTrack rfl rfl rfl hv_X2_playTrack ⟨Nat.le_of_ble_eq_true rfl, Nat.le_of_ble_eq_true rfl⟩) (z_preV Z hS hP (by decide) (z_E_0 _) rfl rfl) rfl rfl hl.1 rfl (lv_room (Nat.le_of_ble_eq_true rfl)) dX3_play_14 ⟨Nat.zero_le _, Nat.zero_le _⟩) (fun H locs hP hS => ?_)
  cases h
  exact z_reti C hr hlk hP hS dX3_play_17
abbrev rm_X3_checkCylinder : Room := { frames := 0, cells := 0, slots := 0, locals := 0 }
theorem hd_X3_checkCylinder : yX3_checkCylinder.cls ≠ "java/lang/invoke/MethodHandle" ∧ yX3_checkCylinder.cls ≠ "java/lang/invoke/VarHandle" ∧ (parseMethodDescriptor yX3_checkCylinder.desc).map (fun d => d.parameters.length) = some 1 := by decide +kernel
theorem hv_X3_checkCylinder : yX3_checkCylinder.cls = RX3 ∧ yX3_checkCylinder.cls ≠ "java/lang/invoke/MethodHandle" ∧ yX3_checkCylinder.cls ≠ "java/lang/invoke/VarHandle" ∧ (parseMethodDescriptor yX3_checkCylinder.desc).map (fun d => d.parameters.length) = some 1 := ⟨rfl, hd_X3_checkCylinder⟩
set_option maxHeartbeats 4000000 in
set_option maxRecDepth 100000 in
theorem c_X3_checkCylinder (l : Launch) (G : zG) {x1 : Int32} {μ mu1 : Mm} {r : Unit} (h : f_X3_checkCylinder x1 μ = some (.inr r, mu1)) (sz : Nat) : Met l yX3_checkCylinder wsX3_checkCylinder rm_X3_checkCylinder (z_Pre G μ [.ref (G.2.1 (90)), .int (x1)] sz) (z_Qv G r mu1 sz) 0 0 (z_A G sz) := by
  refine z_start (cc := cX3_checkCylinder) (maxL := 2) (ret := none) (own := RX3) (by decide) rfl rfl (Nat.le_of_ble_eq_true rfl) (fun p e s m args below meth c C hr hlk Z hP ls hl => ?_) sz
  have hx := C.1
  have hb := C.2.1
  have hts := C.2.2.2.2
  have hS : va_S (z_A G s.heap.size) s.heap s.heap [] := va_S.rf
  have hl : lv_has ls 2 [(0, .ref (G.2.1 (90))), (1, .int (x1))] := hl
  unfold f_X3_checkCylinder at h
  refine lv_iload_n hx hb dX3_checkCylinder_0 rfl (lv_at hl 1 rfl) ?_
  refine lv_if_lt (tgt := 10) hx hb dX3_checkCylinder_1 (by decide) (fun hc1 => ?_) (fun hc1 => ?_)
  · have h := z_ip hc1 h
    cases h
  · have h := z_in hc1 h
    refine lv_iload_n hx hb dX3_checkCylinder_4 rfl (lv_at hl 1 rfl) ?_
    refine lv_bipush (v := 6) hx hb dX3_checkCylinder_5 (by decide) ?_
    refine lv_icmp_lt (tgt := 21) hx hb dX3_checkCylinder_7 (by decide) (fun hc2 => ?_) (fun hc2 => ?_)
    · have h := z_ip hc2 h
      cases h
      exact z_retv C hr hlk hP hS dX3_checkCylinder_21
    · have h := z_in hc2 h
      cases h
abbrev rm_X3_shave : Room := { frames := 3, cells := 0, slots := 0, locals := 81 }
theorem hd_X3_shave : yX3_shave.cls ≠ "java/lang/invoke/MethodHandle" ∧ yX3_shave.cls ≠ "java/lang/invoke/VarHandle" ∧ (parseMethodDescriptor yX3_shave.desc).map (fun d => d.parameters.length) = some 1 := by decide +kernel
theorem hv_X3_shave : yX3_shave.cls = RX3 ∧ yX3_shave.cls ≠ "java/lang/invoke/MethodHandle" ∧ yX3_shave.cls ≠ "java/lang/invoke/VarHandle" ∧ (parseMethodDescriptor yX3_shave.desc).map (fun d => d.parameters.length) = some 1 := ⟨rfl, hd_X3_shave⟩
theorem wX3_shave_0 : Cond.fieldLink RX3 12 "WaxCopies" "now" "LWaxCopies$Wax;" ∈ wsX3_shave := by decide +kernel
theorem inX3_shave_X3 : ∀ w ∈ wsX30, w ∈ wsX3_shave := by decide +kernel
set_option maxHeartbeats 4000000 in
set_option maxRecDepth 100000 in
theorem c_X3_shave (l : Launch) (G : zG) {x1 : Int32} {μ mu1 : Mm} {r : Int32} (h : f_X3_shave x1 μ = some (.inr r, mu1)) (sz : Nat) : Met l yX3_shave wsX3_shave rm_X3_shave (z_Pre G μ [.ref (G.2.1 (90)), .int (x1)] sz) (z_Qi G r mu1 sz) 0 0 (z_A G sz) := by
  refine z_start (cc := cX3_shave) (maxL := 2) (ret := (some .int)) (own := RX3) (by decide) rfl rfl (Nat.le_of_ble_eq_true rfl) (fun p e s m args below meth c C hr hlk Z hP ls hl => ?_) sz
  have hx := C.1
  have hb := C.2.1
  have hts := C.2.2.2.2
  have hS : va_S (z_A G s.heap.size) s.heap s.heap [] := va_S.rf
  have hl : lv_has ls 2 [(0, .ref (G.2.1 (90))), (1, .int (x1))] := hl
  unfold f_X3_shave at h
  refine lv_aload_n hx hb dX3_shave_0 rfl (lv_at hl 0 rfl) ?_
  refine lv_iload_n hx hb dX3_shave_1 rfl (lv_at hl 1 rfl) ?_
  obtain ⟨r1, m2, e3, h⟩ := zbx_r h
  refine z_callv hS (va_runV (As := [.int (x1)]) (rest := []) C (c_X3_checkCylinder l G e3 _) (cwV 1 hts gX3_shave_X3_checkCylinder rfl rfl rfl hv_X3_checkCylinder ⟨Nat.le_of_ble_eq_true rfl, Nat.le_of_ble_eq_true rfl⟩) (z_preV Z hS hP (by decide) (z_E_90 _) rfl rfl) rfl rfl hl.1 rfl (lv_room (Nat.le_of_ble_eq_true rfl)) dX3_shave_2 ⟨Nat.zero_le _, Nat.zero_le _⟩) (fun H locs hP hS => ?_)
  refine lv_aload_n hx hb dX3_shave_5 rfl (lv_at hl 0 rfl) ?_
  obtain ⟨r4, m5, e6, h⟩ := zb_some h
  refine z_callv hS (va_runV (As := []) (rest := []) C (c_X3_saveState l G e6 _) (cwV 0 hts gX3_shave_X3_saveState rfl rfl rfl hv_X3_saveState ⟨Nat.le_of_ble_eq_true rfl, Nat.le_of_ble_eq_true rfl⟩) (z_preV Z hS hP (by decide) (z_E_90 _) rfl rfl) rfl rfl hl.1 rfl (lv_room (Nat.le_of_ble_eq_true rfl)) dX3_shave_6 ⟨Nat.zero_le _, Nat.zero_le _⟩) (fun H locs hP hS => ?_)
  refine lv_aload_n hx hb dX3_shave_9 rfl (lv_at hl 0 rfl) ?_
  refine z_get C Z hP (k := 90) (ci := 3) (j := 0) (N := 7) (v := .ref (G.2.1 (0))) (by decide) (z_E_90 _) rfl inX3_shave_X3 (by decide) wX3_shave_0 rfl dX3_shave_10 ?_
  refine lv_iload_n hx hb dX3_shave_13 rfl (lv_at hl 1 rfl) ?_
  obtain ⟨r7, m8, e9, h⟩ := zb_some h
  refine z_calli hS (va_runV (As := [.int (x1)]) (rest := []) C (c_X2_shaveCylinder l G e9 _) (cwV 1 hts gX3_shave_X2_shaveCylinder rfl rfl rfl hv_X2_shaveCylinder ⟨Nat.le_of_ble_eq_true rfl, Nat.le_of_ble_eq_true rfl⟩) (z_preV Z hS hP (by decide) (z_E_0 _) rfl rfl) rfl rfl hl.1 rfl (lv_room (Nat.le_of_ble_eq_true rfl)) dX3_shave_14 ⟨Nat.zero_le _, Nat.zero_le _⟩) (fun H locs hP hS => ?_)
  cases h
  exact z_reti C hr hlk hP hS dX3_shave_17
abbrev rm_X3_wind : Room := { frames := 3, cells := 0, slots := 0, locals := 81 }
theorem hd_X3_wind : yX3_wind.cls ≠ "java/lang/invoke/MethodHandle" ∧ yX3_wind.cls ≠ "java/lang/invoke/VarHandle" ∧ (parseMethodDescriptor yX3_wind.desc).map (fun d => d.parameters.length) = some 0 := by decide +kernel
theorem hv_X3_wind : yX3_wind.cls = RX3 ∧ yX3_wind.cls ≠ "java/lang/invoke/MethodHandle" ∧ yX3_wind.cls ≠ "java/lang/invoke/VarHandle" ∧ (parseMethodDescriptor yX3_wind.desc).map (fun d => d.parameters.length) = some 0 := ⟨rfl, hd_X3_wind⟩
theorem wX3_wind_0 : Cond.fieldLink RX3 12 "WaxCopies" "now" "LWaxCopies$Wax;" ∈ wsX3_wind := by decide +kernel
theorem inX3_wind_X3 : ∀ w ∈ wsX30, w ∈ wsX3_wind := by decide +kernel
set_option maxHeartbeats 4000000 in
set_option maxRecDepth 100000 in
theorem c_X3_wind (l : Launch) (G : zG) {μ mu1 : Mm} {r : Int32} (h : f_X3_wind μ = some (r, mu1)) (sz : Nat) : Met l yX3_wind wsX3_wind rm_X3_wind (z_Pre G μ [.ref (G.2.1 (90))] sz) (z_Qi G r mu1 sz) 0 0 (z_A G sz) := by
  refine z_start (cc := cX3_wind) (maxL := 1) (ret := (some .int)) (own := RX3) (by decide) rfl rfl (Nat.le_of_ble_eq_true rfl) (fun p e s m args below meth c C hr hlk Z hP ls hl => ?_) sz
  have hx := C.1
  have hb := C.2.1
  have hts := C.2.2.2.2
  have hS : va_S (z_A G s.heap.size) s.heap s.heap [] := va_S.rf
  have hl : lv_has ls 1 [(0, .ref (G.2.1 (90)))] := hl
  unfold f_X3_wind at h
  refine lv_aload_n hx hb dX3_wind_0 rfl (lv_at hl 0 rfl) ?_
  obtain ⟨r1, m2, e3, h⟩ := zb_some h
  refine z_callv hS (va_runV (As := []) (rest := []) C (c_X3_saveState l G e3 _) (cwV 0 hts gX3_wind_X3_saveState rfl rfl rfl hv_X3_saveState ⟨Nat.le_of_ble_eq_true rfl, Nat.le_of_ble_eq_true rfl⟩) (z_preV Z hS hP (by decide) (z_E_90 _) rfl rfl) rfl rfl hl.1 rfl (lv_room (Nat.le_of_ble_eq_true rfl)) dX3_wind_1 ⟨Nat.zero_le _, Nat.zero_le _⟩) (fun H locs hP hS => ?_)
  refine lv_aload_n hx hb dX3_wind_4 rfl (lv_at hl 0 rfl) ?_
  refine z_get C Z hP (k := 90) (ci := 3) (j := 0) (N := 7) (v := .ref (G.2.1 (0))) (by decide) (z_E_90 _) rfl inX3_wind_X3 (by decide) wX3_wind_0 rfl dX3_wind_5 ?_
  obtain ⟨r4, m5, e6, h⟩ := zb_some h
  refine z_calli hS (va_runV (As := []) (rest := []) C (c_X2_windUp l G e6 _) (cwV 0 hts gX3_wind_X2_windUp rfl rfl rfl hv_X2_windUp ⟨Nat.le_of_ble_eq_true rfl, Nat.le_of_ble_eq_true rfl⟩) (z_preV Z hS hP (by decide) (z_E_0 _) rfl rfl) rfl rfl hl.1 rfl (lv_room (Nat.le_of_ble_eq_true rfl)) dX3_wind_8 ⟨Nat.zero_le _, Nat.zero_le _⟩) (fun H locs hP hS => ?_)
  cases h
  exact z_reti C hr hlk hP hS dX3_wind_11
abbrev rm_X3_sharpen : Room := { frames := 3, cells := 0, slots := 0, locals := 81 }
theorem hd_X3_sharpen : yX3_sharpen.cls ≠ "java/lang/invoke/MethodHandle" ∧ yX3_sharpen.cls ≠ "java/lang/invoke/VarHandle" ∧ (parseMethodDescriptor yX3_sharpen.desc).map (fun d => d.parameters.length) = some 0 := by decide +kernel
theorem hv_X3_sharpen : yX3_sharpen.cls = RX3 ∧ yX3_sharpen.cls ≠ "java/lang/invoke/MethodHandle" ∧ yX3_sharpen.cls ≠ "java/lang/invoke/VarHandle" ∧ (parseMethodDescriptor yX3_sharpen.desc).map (fun d => d.parameters.length) = some 0 := ⟨rfl, hd_X3_sharpen⟩
theorem wX3_sharpen_0 : Cond.fieldLink RX3 12 "WaxCopies" "now" "LWaxCopies$Wax;" ∈ wsX3_sharpen := by decide +kernel
theorem inX3_sharpen_X3 : ∀ w ∈ wsX30, w ∈ wsX3_sharpen := by decide +kernel
set_option maxHeartbeats 4000000 in
set_option maxRecDepth 100000 in
theorem c_X3_sharpen (l : Launch) (G : zG) {μ mu1 : Mm} {r : Int32} (h : f_X3_sharpen μ = some (r, mu1)) (sz : Nat) : Met l yX3_sharpen wsX3_sharpen rm_X3_sharpen (z_Pre G μ [.ref (G.2.1 (90))] sz) (z_Qi G r mu1 sz) 0 0 (z_A G sz) := by
  refine z_start (cc := cX3_sharpen) (maxL := 1) (ret := (some .int)) (own := RX3) (by decide) rfl rfl (Nat.le_of_ble_eq_true rfl) (fun p e s m args below meth c C hr hlk Z hP ls hl => ?_) sz
  have hx := C.1
  have hb := C.2.1
  have hts := C.2.2.2.2
  have hS : va_S (z_A G s.heap.size) s.heap s.heap [] := va_S.rf
  have hl : lv_has ls 1 [(0, .ref (G.2.1 (90)))] := hl
  unfold f_X3_sharpen at h
  refine lv_aload_n hx hb dX3_sharpen_0 rfl (lv_at hl 0 rfl) ?_
  obtain ⟨r1, m2, e3, h⟩ := zb_some h
  refine z_callv hS (va_runV (As := []) (rest := []) C (c_X3_saveState l G e3 _) (cwV 0 hts gX3_sharpen_X3_saveState rfl rfl rfl hv_X3_saveState ⟨Nat.le_of_ble_eq_true rfl, Nat.le_of_ble_eq_true rfl⟩) (z_preV Z hS hP (by decide) (z_E_90 _) rfl rfl) rfl rfl hl.1 rfl (lv_room (Nat.le_of_ble_eq_true rfl)) dX3_sharpen_1 ⟨Nat.zero_le _, Nat.zero_le _⟩) (fun H locs hP hS => ?_)
  refine lv_aload_n hx hb dX3_sharpen_4 rfl (lv_at hl 0 rfl) ?_
  refine z_get C Z hP (k := 90) (ci := 3) (j := 0) (N := 7) (v := .ref (G.2.1 (0))) (by decide) (z_E_90 _) rfl inX3_sharpen_X3 (by decide) wX3_sharpen_0 rfl dX3_sharpen_5 ?_
  obtain ⟨r4, m5, e6, h⟩ := zb_some h
  refine z_calli hS (va_runV (As := []) (rest := []) C (c_X2_sharpenPoint l G e6 _) (cwV 0 hts gX3_sharpen_X2_sharpenPoint rfl rfl rfl hv_X2_sharpenPoint ⟨Nat.le_of_ble_eq_true rfl, Nat.le_of_ble_eq_true rfl⟩) (z_preV Z hS hP (by decide) (z_E_0 _) rfl rfl) rfl rfl hl.1 rfl (lv_room (Nat.le_of_ble_eq_true rfl)) dX3_sharpen_8 ⟨Nat.zero_le _, Nat.zero_le _⟩) (fun H locs hP hS => ?_)
  cases h
  exact z_reti C hr hlk hP hS dX3_sharpen_11
abbrev rm_X3_renew : Room := { frames := 3, cells := 0, slots := 0, locals := 81 }
theorem hd_X3_renew : yX3_renew.cls ≠ "java/lang/invoke/MethodHandle" ∧ yX3_renew.cls ≠ "java/lang/invoke/VarHandle" ∧ (parseMethodDescriptor yX3_renew.desc).map (fun d => d.parameters.length) = some 2 := by decide +kernel
theorem hv_X3_renew : yX3_renew.cls = RX3 ∧ yX3_renew.cls ≠ "java/lang/invoke/MethodHandle" ∧ yX3_renew.cls ≠ "java/lang/invoke/VarHandle" ∧ (parseMethodDescriptor yX3_renew.desc).map (fun d => d.parameters.length) = some 2 := ⟨rfl, hd_X3_renew⟩
theorem wX3_renew_0 : Cond.fieldLink RX3 12 "WaxCopies" "now" "LWaxCopies$Wax;" ∈ wsX3_renew := by decide +kernel
theorem inX3_renew_X3 : ∀ w ∈ wsX30, w ∈ wsX3_renew := by decide +kernel
set_option maxHeartbeats 4000000 in
set_option maxRecDepth 100000 in
theorem c_X3_renew (l : Launch) (G : zG) {x1 : Int32} {x2 : Int32} {μ mu1 : Mm} {r : Int32} (h : f_X3_renew x1 x2 μ = some (.inr r, mu1)) (sz : Nat) : Met l yX3_renew wsX3_renew rm_X3_renew (z_Pre G μ [.ref (G.2.1 (90)), .int (x1), .int (x2)] sz) (z_Qi G r mu1 sz) 0 0 (z_A G sz) := by
  refine z_start (cc := cX3_renew) (maxL := 3) (ret := (some .int)) (own := RX3) (by decide) rfl rfl (Nat.le_of_ble_eq_true rfl) (fun p e s m args below meth c C hr hlk Z hP ls hl => ?_) sz
  have hx := C.1
  have hb := C.2.1
  have hts := C.2.2.2.2
  have hS : va_S (z_A G s.heap.size) s.heap s.heap [] := va_S.rf
  have hl : lv_has ls 3 [(0, .ref (G.2.1 (90))), (1, .int (x1)), (2, .int (x2))] := hl
  unfold f_X3_renew at h
  refine lv_aload_n hx hb dX3_renew_0 rfl (lv_at hl 0 rfl) ?_
  refine lv_iload_n hx hb dX3_renew_1 rfl (lv_at hl 1 rfl) ?_
  obtain ⟨r1, m2, e3, h⟩ := zbx_r h
  refine z_callv hS (va_runV (As := [.int (x1)]) (rest := []) C (c_X3_checkCylinder l G e3 _) (cwV 1 hts gX3_renew_X3_checkCylinder rfl rfl rfl hv_X3_checkCylinder ⟨Nat.le_of_ble_eq_true rfl, Nat.le_of_ble_eq_true rfl⟩) (z_preV Z hS hP (by decide) (z_E_90 _) rfl rfl) rfl rfl hl.1 rfl (lv_room (Nat.le_of_ble_eq_true rfl)) dX3_renew_2 ⟨Nat.zero_le _, Nat.zero_le _⟩) (fun H locs hP hS => ?_)
  refine lv_iload_n hx hb dX3_renew_5 rfl (lv_at hl 2 rfl) ?_
  refine lv_if_lt (tgt := 15) hx hb dX3_renew_6 (by decide) (fun hc4 => ?_) (fun hc4 => ?_)
  · have h := z_ip hc4 h
    cases h
  · have h := z_in hc4 h
    refine lv_iload_n hx hb dX3_renew_9 rfl (lv_at hl 2 rfl) ?_
    refine lv_bipush (v := 100) hx hb dX3_renew_10 (by decide) ?_
    refine lv_icmp_le (tgt := 25) hx hb dX3_renew_12 (by decide) (fun hc5 => ?_) (fun hc5 => ?_)
    · have h := z_ip hc5 h
      refine lv_aload_n hx hb dX3_renew_25 rfl (lv_at hl 0 rfl) ?_
      obtain ⟨r6, m7, e8, h⟩ := zb_some h
      refine z_callv hS (va_runV (As := []) (rest := []) C (c_X3_saveState l G e8 _) (cwV 0 hts gX3_renew_X3_saveState rfl rfl rfl hv_X3_saveState ⟨Nat.le_of_ble_eq_true rfl, Nat.le_of_ble_eq_true rfl⟩) (z_preV Z hS hP (by decide) (z_E_90 _) rfl rfl) rfl rfl hl.1 rfl (lv_room (Nat.le_of_ble_eq_true rfl)) dX3_renew_26 ⟨Nat.zero_le _, Nat.zero_le _⟩) (fun H locs hP hS => ?_)
      refine lv_aload_n hx hb dX3_renew_29 rfl (lv_at hl 0 rfl) ?_
      refine z_get C Z hP (k := 90) (ci := 3) (j := 0) (N := 7) (v := .ref (G.2.1 (0))) (by decide) (z_E_90 _) rfl inX3_renew_X3 (by decide) wX3_renew_0 rfl dX3_renew_30 ?_
      refine lv_iload_n hx hb dX3_renew_33 rfl (lv_at hl 1 rfl) ?_
      refine lv_iload_n hx hb dX3_renew_34 rfl (lv_at hl 2 rfl) ?_
      obtain ⟨r9, m10, e11, h⟩ := zb_some h
      refine z_calli hS (va_runV (As := [.int (x1), .int (x2)]) (rest := []) C (c_X2_renewCylinder l G e11 _) (cwV 2 hts gX3_renew_X2_renewCylinder rfl rfl rfl hv_X2_renewCylinder ⟨Nat.le_of_ble_eq_true rfl, Nat.le_of_ble_eq_true rfl⟩) (z_preV Z hS hP (by decide) (z_E_0 _) rfl rfl) rfl rfl hl.1 rfl (lv_room (Nat.le_of_ble_eq_true rfl)) dX3_renew_35 ⟨Nat.zero_le _, Nat.zero_le _⟩) (fun H locs hP hS => ?_)
      cases h
      exact z_reti C hr hlk hP hS dX3_renew_38
    · have h := z_in hc5 h
      cases h
abbrev rm_X3_set : Room := { frames := 3, cells := 0, slots := 0, locals := 81 }
theorem hd_X3_set : yX3_set.cls ≠ "java/lang/invoke/MethodHandle" ∧ yX3_set.cls ≠ "java/lang/invoke/VarHandle" ∧ (parseMethodDescriptor yX3_set.desc).map (fun d => d.parameters.length) = some 1 := by decide +kernel
theorem hv_X3_set : yX3_set.cls = RX3 ∧ yX3_set.cls ≠ "java/lang/invoke/MethodHandle" ∧ yX3_set.cls ≠ "java/lang/invoke/VarHandle" ∧ (parseMethodDescriptor yX3_set.desc).map (fun d => d.parameters.length) = some 1 := ⟨rfl, hd_X3_set⟩
theorem wX3_set_0 : Cond.fieldLink RX3 12 "WaxCopies" "now" "LWaxCopies$Wax;" ∈ wsX3_set := by decide +kernel
theorem inX3_set_X3 : ∀ w ∈ wsX30, w ∈ wsX3_set := by decide +kernel
theorem wX3_set_2 : Cond.fieldLink RX3 95 "WaxCopies$Wax" "wear" "I" ∈ wsX3_set := by decide +kernel
theorem inX3_set_X2 : ∀ w ∈ wsX20, w ∈ wsX3_set := by decide +kernel
set_option maxHeartbeats 4000000 in
set_option maxRecDepth 100000 in
theorem c_X3_set (l : Launch) (G : zG) {x1 : Int32} {μ mu1 : Mm} {r : Int32} (h : f_X3_set x1 μ = some (.inr r, mu1)) (sz : Nat) : Met l yX3_set wsX3_set rm_X3_set (z_Pre G μ [.ref (G.2.1 (90)), .int (x1)] sz) (z_Qi G r mu1 sz) 0 0 (z_A G sz) := by
  refine z_start (cc := cX3_set) (maxL := 3) (ret := (some .int)) (own := RX3) (by decide) rfl rfl (Nat.le_of_ble_eq_true rfl) (fun p e s m args below meth c C hr hlk Z hP ls hl => ?_) sz
  have hx := C.1
  have hb := C.2.1
  have hts := C.2.2.2.2
  have hS : va_S (z_A G s.heap.size) s.heap s.heap [] := va_S.rf
  have hl : lv_has ls 3 [(0, .ref (G.2.1 (90))), (1, .int (x1))] := hl
  unfold f_X3_set at h
  refine lv_iload_n hx hb dX3_set_0 rfl (lv_at hl 1 rfl) ?_
  refine lv_if_lt (tgt := 10) hx hb dX3_set_1 (by decide) (fun hc1 => ?_) (fun hc1 => ?_)
  · have h := z_ip hc1 h
    cases h
  · have h := z_in hc1 h
    refine lv_iload_n hx hb dX3_set_4 rfl (lv_at hl 1 rfl) ?_
    refine lv_bipush (v := 20) hx hb dX3_set_5 (by decide) ?_
    refine lv_icmp_le (tgt := 20) hx hb dX3_set_7 (by decide) (fun hc2 => ?_) (fun hc2 => ?_)
    · have h := z_ip hc2 h
      refine lv_aload_n hx hb dX3_set_20 rfl (lv_at hl 0 rfl) ?_
      obtain ⟨r3, m4, e5, h⟩ := zb_some h
      refine z_callv hS (va_runV (As := []) (rest := []) C (c_X3_saveState l G e5 _) (cwV 0 hts gX3_set_X3_saveState rfl rfl rfl hv_X3_saveState ⟨Nat.le_of_ble_eq_true rfl, Nat.le_of_ble_eq_true rfl⟩) (z_preV Z hS hP (by decide) (z_E_90 _) rfl rfl) rfl rfl hl.1 rfl (lv_room (Nat.le_of_ble_eq_true rfl)) dX3_set_21 ⟨Nat.zero_le _, Nat.zero_le _⟩) (fun H locs hP hS => ?_)
      refine lv_aload_n hx hb dX3_set_24 rfl (lv_at hl 0 rfl) ?_
      refine z_get C Z hP (k := 90) (ci := 3) (j := 0) (N := 7) (v := .ref (G.2.1 (0))) (by decide) (z_E_90 _) rfl inX3_set_X3 (by decide) wX3_set_0 rfl dX3_set_25 ?_
      refine z_get C Z hP (k := 0) (ci := 2) (j := 11) (N := 19) (v := .int ((m4 0 11))) (by decide) (z_E_0 _) rfl inX3_set_X2 (by decide) wX3_set_2 rfl dX3_set_28 ?_
      refine lv_istore_n (lv' := [(2, .int ((m4 0 11))), (0, .ref (G.2.1 (90))), (1, .int (x1))]) hx hb dX3_set_31 rfl hl (by decide) rfl (fun ls hl => ?_)
      refine lv_aload_n hx hb dX3_set_32 rfl (lv_at hl 1 rfl) ?_
      refine z_get C Z hP (k := 90) (ci := 3) (j := 0) (N := 7) (v := .ref (G.2.1 (0))) (by decide) (z_E_90 _) rfl inX3_set_X3 (by decide) wX3_set_0 rfl dX3_set_33 ?_
      refine lv_iload_n hx hb dX3_set_36 rfl (lv_at hl 2 rfl) ?_
      refine z_put C Z hP hS (k := 0) (ci := 2) (j := 11) (N := 19) (x := x1) (v := .int (x1)) (ty := .int) (by decide) (z_E_0 _) rfl inX3_set_X2 tyX2_ok nmX2 (by decide) wX3_set_2 rfl (by decide +kernel) rfl rfl (Nat.le_of_ble_eq_true rfl) (z_S_0_11 _ _) dX3_set_37 (fun H locs hP hS => ?_)
      refine lv_iload_n hx hb dX3_set_40 rfl (lv_at hl 0 rfl) ?_
      cases h
      exact z_reti C hr hlk hP hS dX3_set_41
    · have h := z_in hc2 h
      cases h
abbrev rm_X3_undo : Room := { frames := 2, cells := 0, slots := 0, locals := 61 }
theorem hd_X3_undo : yX3_undo.cls ≠ "java/lang/invoke/MethodHandle" ∧ yX3_undo.cls ≠ "java/lang/invoke/VarHandle" ∧ (parseMethodDescriptor yX3_undo.desc).map (fun d => d.parameters.length) = some 0 := by decide +kernel
theorem hv_X3_undo : yX3_undo.cls = RX3 ∧ yX3_undo.cls ≠ "java/lang/invoke/MethodHandle" ∧ yX3_undo.cls ≠ "java/lang/invoke/VarHandle" ∧ (parseMethodDescriptor yX3_undo.desc).map (fun d => d.parameters.length) = some 0 := ⟨rfl, hd_X3_undo⟩
theorem wX3_undo_0 : Cond.fieldLink RX3 27 "WaxCopies" "savedStates" "I" ∈ wsX3_undo := by decide +kernel
theorem inX3_undo_X3 : ∀ w ∈ wsX30, w ∈ wsX3_undo := by decide +kernel
theorem wX3_undo_2 : Cond.fieldLink RX3 12 "WaxCopies" "now" "LWaxCopies$Wax;" ∈ wsX3_undo := by decide +kernel
theorem wX3_undo_3 : Cond.fieldLink RX3 24 "WaxCopies" "saved" "[LWaxCopies$Wax;" ∈ wsX3_undo := by decide +kernel
set_option maxHeartbeats 4000000 in
set_option maxRecDepth 100000 in
theorem c_X3_undo (l : Launch) (G : zG) {μ mu1 : Mm} {r : Int32} (h : f_X3_undo μ = some (.inr r, mu1)) (sz : Nat) : Met l yX3_undo wsX3_undo rm_X3_undo (z_Pre G μ [.ref (G.2.1 (90))] sz) (z_Qi G r mu1 sz) 0 0 (z_A G sz) := by
  refine z_start (cc := cX3_undo) (maxL := 1) (ret := (some .int)) (own := RX3) (by decide) rfl rfl (Nat.le_of_ble_eq_true rfl) (fun p e s m args below meth c C hr hlk Z hP ls hl => ?_) sz
  have hx := C.1
  have hb := C.2.1
  have hts := C.2.2.2.2
  have hS : va_S (z_A G s.heap.size) s.heap s.heap [] := va_S.rf
  have hl : lv_has ls 1 [(0, .ref (G.2.1 (90)))] := hl
  unfold f_X3_undo at h
  refine lv_aload_n hx hb dX3_undo_0 rfl (lv_at hl 0 rfl) ?_
  refine z_get C Z hP (k := 90) (ci := 3) (j := 4) (N := 7) (v := .int ((μ 90 4))) (by decide) (z_E_90 _) rfl inX3_undo_X3 (by decide) wX3_undo_0 rfl dX3_undo_1 ?_
  refine lv_if_gt (tgt := 17) hx hb dX3_undo_4 (by decide) (fun hc1 => ?_) (fun hc1 => ?_)
  · have h := z_ip hc1 h
    refine lv_aload_n hx hb dX3_undo_17 rfl (lv_at hl 0 rfl) ?_
    refine lv_dup hx hb dX3_undo_18 rfl ?_
    refine z_get C Z hP (k := 90) (ci := 3) (j := 4) (N := 7) (v := .int ((μ 90 4))) (by decide) (z_E_90 _) rfl inX3_undo_X3 (by decide) wX3_undo_0 rfl dX3_undo_19 ?_
    refine lv_iconst (v := 1) hx hb dX3_undo_22 (by decide) ?_
    refine lv_isub hx hb dX3_undo_23 ?_
    refine z_put C Z hP hS (k := 90) (ci := 3) (j := 4) (N := 7) (x := ((μ 90 4) - 1)) (v := .int (((μ 90 4) - 1))) (ty := .int) (by decide) (z_E_90 _) rfl inX3_undo_X3 tyX3_ok nmX3 (by decide) wX3_undo_0 rfl (by decide +kernel) rfl rfl (Nat.le_of_ble_eq_true rfl) (z_S_90_4 _ _) dX3_undo_24 (fun H locs hP hS => ?_)
    refine lv_aload_n hx hb dX3_undo_27 rfl (lv_at hl 0 rfl) ?_
    refine z_get C Z hP (k := 90) (ci := 3) (j := 0) (N := 7) (v := .ref (G.2.1 (0))) (by decide) (z_E_90 _) rfl inX3_undo_X3 (by decide) wX3_undo_2 rfl dX3_undo_28 ?_
    refine lv_aload_n hx hb dX3_undo_31 rfl (lv_at hl 0 rfl) ?_
    refine z_get C Z hP (k := 90) (ci := 3) (j := 3) (N := 7) (v := .ref (G.2.1 (93))) (by decide) (z_E_90 _) rfl inX3_undo_X3 (by decide) wX3_undo_3 rfl dX3_undo_32 ?_
    refine lv_aload_n hx hb dX3_undo_35 rfl (lv_at hl 0 rfl) ?_
    refine z_get C Z hP (k := 90) (ci := 3) (j := 4) (N := 7) (v := .int (((z_up μ (90) 4 ((μ 90 4) - 1)) 90 4))) (by decide) (z_E_90 _) rfl inX3_undo_X3 (by decide) wX3_undo_0 rfl dX3_undo_36 ?_
    obtain ⟨hg2, h⟩ := z_g h
    refine z_aldq C Z hP (k := 93) (n := 6) (b := G.2.1 (z_rf ((z_up μ (90) 4 ((μ 90 4) - 1)) 93 ((((z_up μ (90) 4 ((μ 90 4) - 1)) 90 4)).toNatClampNeg)))) (by decide) (z_E_93 _) hg2 rfl dX3_undo_39 ?_
    obtain ⟨hg3, h⟩ := z_g h
    obtain ⟨r4, m5, e6, h⟩ := zb_some h
    refine z_callv hS (va_runV (As := [.ref (G.2.1 ((z_rf ((z_up μ (90) 4 ((μ 90 4) - 1)) 93 ((((z_up μ (90) 4 ((μ 90 4) - 1)) 90 4)).toNatClampNeg)))))]) (rest := []) C (c_X2_takeOver l G e6 _) (cwV 1 hts gX3_undo_X2_takeOver rfl rfl rfl hv_X2_takeOver ⟨Nat.le_of_ble_eq_true rfl, Nat.le_of_ble_eq_true rfl⟩) (z_preV Z hS hP (by decide) (z_E_0 _) rfl rfl) rfl rfl hl.1 rfl (lv_room (Nat.le_of_ble_eq_true rfl)) dX3_undo_40 ⟨Nat.zero_le _, Nat.zero_le _⟩) (fun H locs hP hS => ?_)
    refine lv_aload_n hx hb dX3_undo_43 rfl (lv_at hl 0 rfl) ?_
    refine z_get C Z hP (k := 90) (ci := 3) (j := 4) (N := 7) (v := .int ((m5 90 4))) (by decide) (z_E_90 _) rfl inX3_undo_X3 (by decide) wX3_undo_0 rfl dX3_undo_44 ?_
    cases h
    exact z_reti C hr hlk hP hS dX3_undo_47
  · have h := z_in hc1 h
    cases h
abbrev rm_X3_checkWhat : Room := { frames := 0, cells := 0, slots := 0, locals := 0 }
theorem hd_X3_checkWhat : yX3_checkWhat.cls ≠ "java/lang/invoke/MethodHandle" ∧ yX3_checkWhat.cls ≠ "java/lang/invoke/VarHandle" ∧ (parseMethodDescriptor yX3_checkWhat.desc).map (fun d => d.parameters.length) = some 2 := by decide +kernel
theorem hv_X3_checkWhat : yX3_checkWhat.cls = RX3 ∧ yX3_checkWhat.cls ≠ "java/lang/invoke/MethodHandle" ∧ yX3_checkWhat.cls ≠ "java/lang/invoke/VarHandle" ∧ (parseMethodDescriptor yX3_checkWhat.desc).map (fun d => d.parameters.length) = some 2 := ⟨rfl, hd_X3_checkWhat⟩
set_option maxHeartbeats 4000000 in
set_option maxRecDepth 100000 in
theorem c_X3_checkWhat (l : Launch) (G : zG) {x1 : Int32} {x2 : Int32} {μ mu1 : Mm} {r : Unit} (h : f_X3_checkWhat x1 x2 μ = some (.inr r, mu1)) (sz : Nat) : Met l yX3_checkWhat wsX3_checkWhat rm_X3_checkWhat (z_Pre G μ [.ref (G.2.1 (90)), .int (x1), .int (x2)] sz) (z_Qv G r mu1 sz) 0 0 (z_A G sz) := by
  refine z_start (cc := cX3_checkWhat) (maxL := 3) (ret := none) (own := RX3) (by decide) rfl rfl (Nat.le_of_ble_eq_true rfl) (fun p e s m args below meth c C hr hlk Z hP ls hl => ?_) sz
  have hx := C.1
  have hb := C.2.1
  have hts := C.2.2.2.2
  have hS : va_S (z_A G s.heap.size) s.heap s.heap [] := va_S.rf
  have hl : lv_has ls 3 [(0, .ref (G.2.1 (90))), (1, .int (x1)), (2, .int (x2))] := hl
  unfold f_X3_checkWhat at h
  refine lv_iload_n hx hb dX3_checkWhat_0 rfl (lv_at hl 1 rfl) ?_
  refine lv_if_lt (tgt := 9) hx hb dX3_checkWhat_1 (by decide) (fun hc1 => ?_) (fun hc1 => ?_)
  · have h := z_ip hc1 h
    cases h
  · have h := z_in hc1 h
    refine lv_iload_n hx hb dX3_checkWhat_4 rfl (lv_at hl 1 rfl) ?_
    refine lv_iload_n hx hb dX3_checkWhat_5 rfl (lv_at hl 2 rfl) ?_
    refine lv_icmp_lt (tgt := 20) hx hb dX3_checkWhat_6 (by decide) (fun hc2 => ?_) (fun hc2 => ?_)
    · have h := z_ip hc2 h
      cases h
      exact z_retv C hr hlk hP hS dX3_checkWhat_20
    · have h := z_in hc2 h
      cases h
abbrev rm_X3_trackOf : Room := { frames := 2, cells := 0, slots := 0, locals := 43 }
theorem hd_X3_trackOf : yX3_trackOf.cls ≠ "java/lang/invoke/MethodHandle" ∧ yX3_trackOf.cls ≠ "java/lang/invoke/VarHandle" ∧ (parseMethodDescriptor yX3_trackOf.desc).map (fun d => d.parameters.length) = some 2 := by decide +kernel
theorem hv_X3_trackOf : yX3_trackOf.cls = RX3 ∧ yX3_trackOf.cls ≠ "java/lang/invoke/MethodHandle" ∧ yX3_trackOf.cls ≠ "java/lang/invoke/VarHandle" ∧ (parseMethodDescriptor yX3_trackOf.desc).map (fun d => d.parameters.length) = some 2 := ⟨rfl, hd_X3_trackOf⟩
theorem wX3_trackOf_0 : Cond.fieldLink RX3 12 "WaxCopies" "now" "LWaxCopies$Wax;" ∈ wsX3_trackOf := by decide +kernel
theorem inX3_trackOf_X3 : ∀ w ∈ wsX30, w ∈ wsX3_trackOf := by decide +kernel
set_option maxHeartbeats 4000000 in
set_option maxRecDepth 100000 in
theorem c_X3_trackOf (l : Launch) (G : zG) {x1 : Int32} {x2 : Int32} {μ mu1 : Mm} {r : Int32} (h : f_X3_trackOf x1 x2 μ = some (.inr r, mu1)) (sz : Nat) : Met l yX3_trackOf wsX3_trackOf rm_X3_trackOf (z_Pre G μ [.ref (G.2.1 (90)), .int (x1), .int (x2)] sz) (z_Qi G r mu1 sz) 0 0 (z_A G sz) := by
  refine z_start (cc := cX3_trackOf) (maxL := 3) (ret := (some .int)) (own := RX3) (by decide) rfl rfl (Nat.le_of_ble_eq_true rfl) (fun p e s m args below meth c C hr hlk Z hP ls hl => ?_) sz
  have hx := C.1
  have hb := C.2.1
  have hts := C.2.2.2.2
  have hS : va_S (z_A G s.heap.size) s.heap s.heap [] := va_S.rf
  have hl : lv_has ls 3 [(0, .ref (G.2.1 (90))), (1, .int (x1)), (2, .int (x2))] := hl
  unfold f_X3_trackOf at h
  refine lv_aload_n hx hb dX3_trackOf_0 rfl (lv_at hl 0 rfl) ?_
  refine lv_iload_n hx hb dX3_trackOf_1 rfl (lv_at hl 1 rfl) ?_
  obtain ⟨r1, m2, e3, h⟩ := zbx_r h
  refine z_callv hS (va_runV (As := [.int (x1)]) (rest := []) C (c_X3_checkTrack l G e3 _) (cwV 1 hts gX3_trackOf_X3_checkTrack rfl rfl rfl hv_X3_checkTrack ⟨Nat.le_of_ble_eq_true rfl, Nat.le_of_ble_eq_true rfl⟩) (z_preV Z hS hP (by decide) (z_E_90 _) rfl rfl) rfl rfl hl.1 rfl (lv_room (Nat.le_of_ble_eq_true rfl)) dX3_trackOf_2 ⟨Nat.zero_le _, Nat.zero_le _⟩) (fun H locs hP hS => ?_)
  refine lv_aload_n hx hb dX3_trackOf_5 rfl (lv_at hl 0 rfl) ?_
  refine lv_iload_n hx hb dX3_trackOf_6 rfl (lv_at hl 2 rfl) ?_
  refine lv_bipush (v := 7) hx hb dX3_trackOf_7 (by decide) ?_
  obtain ⟨r4, m5, e6, h⟩ := zbx_r h
  refine z_callv hS (va_runV (As := [.int (x2), .int (7)]) (rest := []) C (c_X3_checkWhat l G e6 _) (cwV 2 hts gX3_trackOf_X3_checkWhat rfl rfl rfl hv_X3_checkWhat ⟨Nat.le_of_ble_eq_true rfl, Nat.le_of_ble_eq_true rfl⟩) (z_preV Z hS hP (by decide) (z_E_90 _) rfl rfl) rfl rfl hl.1 rfl (lv_room (Nat.le_of_ble_eq_true rfl)) dX3_trackOf_9 ⟨Nat.zero_le _, Nat.zero_le _⟩) (fun H locs hP hS => ?_)
  refine lv_aload_n hx hb dX3_trackOf_12 rfl (lv_at hl 0 rfl) ?_
  refine z_get C Z hP (k := 90) (ci := 3) (j := 0) (N := 7) (v := .ref (G.2.1 (0))) (by decide) (z_E_90 _) rfl inX3_trackOf_X3 (by decide) wX3_trackOf_0 rfl dX3_trackOf_13 ?_
  refine lv_iload_n hx hb dX3_trackOf_16 rfl (lv_at hl 1 rfl) ?_
  refine lv_iload_n hx hb dX3_trackOf_17 rfl (lv_at hl 2 rfl) ?_
  obtain ⟨r7, m8, e9, h⟩ := zb_some h
  refine z_calli hS (va_runV (As := [.int (x1), .int (x2)]) (rest := []) C (c_X2_trackProperty l G e9 _) (cwV 2 hts gX3_trackOf_X2_trackProperty rfl rfl rfl hv_X2_trackProperty ⟨Nat.le_of_ble_eq_true rfl, Nat.le_of_ble_eq_true rfl⟩) (z_preV Z hS hP (by decide) (z_E_0 _) rfl rfl) rfl rfl hl.1 rfl (lv_room (Nat.le_of_ble_eq_true rfl)) dX3_trackOf_18 ⟨Nat.zero_le _, Nat.zero_le _⟩) (fun H locs hP hS => ?_)
  cases h
  exact z_reti C hr hlk hP hS dX3_trackOf_21
abbrev rm_X3_cylinderOf : Room := { frames := 3, cells := 0, slots := 0, locals := 67 }
theorem hd_X3_cylinderOf : yX3_cylinderOf.cls ≠ "java/lang/invoke/MethodHandle" ∧ yX3_cylinderOf.cls ≠ "java/lang/invoke/VarHandle" ∧ (parseMethodDescriptor yX3_cylinderOf.desc).map (fun d => d.parameters.length) = some 2 := by decide +kernel
theorem hv_X3_cylinderOf : yX3_cylinderOf.cls = RX3 ∧ yX3_cylinderOf.cls ≠ "java/lang/invoke/MethodHandle" ∧ yX3_cylinderOf.cls ≠ "java/lang/invoke/VarHandle" ∧ (parseMethodDescriptor yX3_cylinderOf.desc).map (fun d => d.parameters.length) = some 2 := ⟨rfl, hd_X3_cylinderOf⟩
theorem wX3_cylinderOf_0 : Cond.fieldLink RX3 12 "WaxCopies" "now" "LWaxCopies$Wax;" ∈ wsX3_cylinderOf := by decide +kernel
theorem inX3_cylinderOf_X3 : ∀ w ∈ wsX30, w ∈ wsX3_cylinderOf := by decide +kernel
set_option maxHeartbeats 4000000 in
set_option maxRecDepth 100000 in
theorem c_X3_cylinderOf (l : Launch) (G : zG) {x1 : Int32} {x2 : Int32} {μ mu1 : Mm} {r : Int32} (h : f_X3_cylinderOf x1 x2 μ = some (.inr r, mu1)) (sz : Nat) : Met l yX3_cylinderOf wsX3_cylinderOf rm_X3_cylinderOf (z_Pre G μ [.ref (G.2.1 (90)), .int (x1), .int (x2)] sz) (z_Qi G r mu1 sz) 0 0 (z_A G sz) := by
  refine z_start (cc := cX3_cylinderOf) (maxL := 3) (ret := (some .int)) (own := RX3) (by decide) rfl rfl (Nat.le_of_ble_eq_true rfl) (fun p e s m args below meth c C hr hlk Z hP ls hl => ?_) sz
  have hx := C.1
  have hb := C.2.1
  have hts := C.2.2.2.2
  have hS : va_S (z_A G s.heap.size) s.heap s.heap [] := va_S.rf
  have hl : lv_has ls 3 [(0, .ref (G.2.1 (90))), (1, .int (x1)), (2, .int (x2))] := hl
  unfold f_X3_cylinderOf at h
  refine lv_aload_n hx hb dX3_cylinderOf_0 rfl (lv_at hl 0 rfl) ?_
  refine lv_iload_n hx hb dX3_cylinderOf_1 rfl (lv_at hl 1 rfl) ?_
  obtain ⟨r1, m2, e3, h⟩ := zbx_r h
  refine z_callv hS (va_runV (As := [.int (x1)]) (rest := []) C (c_X3_checkCylinder l G e3 _) (cwV 1 hts gX3_cylinderOf_X3_checkCylinder rfl rfl rfl hv_X3_checkCylinder ⟨Nat.le_of_ble_eq_true rfl, Nat.le_of_ble_eq_true rfl⟩) (z_preV Z hS hP (by decide) (z_E_90 _) rfl rfl) rfl rfl hl.1 rfl (lv_room (Nat.le_of_ble_eq_true rfl)) dX3_cylinderOf_2 ⟨Nat.zero_le _, Nat.zero_le _⟩) (fun H locs hP hS => ?_)
  refine lv_aload_n hx hb dX3_cylinderOf_5 rfl (lv_at hl 0 rfl) ?_
  refine lv_iload_n hx hb dX3_cylinderOf_6 rfl (lv_at hl 2 rfl) ?_
  refine lv_iconst (v := 5) hx hb dX3_cylinderOf_7 (by decide) ?_
  obtain ⟨r4, m5, e6, h⟩ := zbx_r h
  refine z_callv hS (va_runV (As := [.int (x2), .int (5)]) (rest := []) C (c_X3_checkWhat l G e6 _) (cwV 2 hts gX3_cylinderOf_X3_checkWhat rfl rfl rfl hv_X3_checkWhat ⟨Nat.le_of_ble_eq_true rfl, Nat.le_of_ble_eq_true rfl⟩) (z_preV Z hS hP (by decide) (z_E_90 _) rfl rfl) rfl rfl hl.1 rfl (lv_room (Nat.le_of_ble_eq_true rfl)) dX3_cylinderOf_8 ⟨Nat.zero_le _, Nat.zero_le _⟩) (fun H locs hP hS => ?_)
  refine lv_aload_n hx hb dX3_cylinderOf_11 rfl (lv_at hl 0 rfl) ?_
  refine z_get C Z hP (k := 90) (ci := 3) (j := 0) (N := 7) (v := .ref (G.2.1 (0))) (by decide) (z_E_90 _) rfl inX3_cylinderOf_X3 (by decide) wX3_cylinderOf_0 rfl dX3_cylinderOf_12 ?_
  refine lv_iload_n hx hb dX3_cylinderOf_15 rfl (lv_at hl 1 rfl) ?_
  refine lv_iload_n hx hb dX3_cylinderOf_16 rfl (lv_at hl 2 rfl) ?_
  obtain ⟨r7, m8, e9, h⟩ := zb_some h
  refine z_calli hS (va_runV (As := [.int (x1), .int (x2)]) (rest := []) C (c_X2_cylinderProperty l G e9 _) (cwV 2 hts gX3_cylinderOf_X2_cylinderProperty rfl rfl rfl hv_X2_cylinderProperty ⟨Nat.le_of_ble_eq_true rfl, Nat.le_of_ble_eq_true rfl⟩) (z_preV Z hS hP (by decide) (z_E_0 _) rfl rfl) rfl rfl hl.1 rfl (lv_room (Nat.le_of_ble_eq_true rfl)) dX3_cylinderOf_17 ⟨Nat.zero_le _, Nat.zero_le _⟩) (fun H locs hP hS => ?_)
  cases h
  exact z_reti C hr hlk hP hS dX3_cylinderOf_20
abbrev rm_X3_count : Room := { frames := 4, cells := 0, slots := 0, locals := 88 }
theorem hd_X3_count : yX3_count.cls ≠ "java/lang/invoke/MethodHandle" ∧ yX3_count.cls ≠ "java/lang/invoke/VarHandle" ∧ (parseMethodDescriptor yX3_count.desc).map (fun d => d.parameters.length) = some 1 := by decide +kernel
theorem hv_X3_count : yX3_count.cls = RX3 ∧ yX3_count.cls ≠ "java/lang/invoke/MethodHandle" ∧ yX3_count.cls ≠ "java/lang/invoke/VarHandle" ∧ (parseMethodDescriptor yX3_count.desc).map (fun d => d.parameters.length) = some 1 := ⟨rfl, hd_X3_count⟩
theorem wX3_count_0 : Cond.fieldLink RX3 12 "WaxCopies" "now" "LWaxCopies$Wax;" ∈ wsX3_count := by decide +kernel
theorem inX3_count_X3 : ∀ w ∈ wsX30, w ∈ wsX3_count := by decide +kernel
theorem wX3_count_2 : Cond.fieldLink RX3 27 "WaxCopies" "savedStates" "I" ∈ wsX3_count := by decide +kernel
set_option maxHeartbeats 4000000 in
set_option maxRecDepth 100000 in
theorem c_X3_count (l : Launch) (G : zG) {x1 : Int32} {μ mu1 : Mm} {r : Int32} (h : f_X3_count x1 μ = some (.inr r, mu1)) (sz : Nat) : Met l yX3_count wsX3_count rm_X3_count (z_Pre G μ [.ref (G.2.1 (90)), .int (x1)] sz) (z_Qi G r mu1 sz) 0 0 (z_A G sz) := by
  refine z_start (cc := cX3_count) (maxL := 2) (ret := (some .int)) (own := RX3) (by decide) rfl rfl (Nat.le_of_ble_eq_true rfl) (fun p e s m args below meth c C hr hlk Z hP ls hl => ?_) sz
  have hx := C.1
  have hb := C.2.1
  have hts := C.2.2.2.2
  have hS : va_S (z_A G s.heap.size) s.heap s.heap [] := va_S.rf
  have hl : lv_has ls 2 [(0, .ref (G.2.1 (90))), (1, .int (x1))] := hl
  unfold f_X3_count at h
  refine lv_aload_n hx hb dX3_count_0 rfl (lv_at hl 0 rfl) ?_
  refine lv_iload_n hx hb dX3_count_1 rfl (lv_at hl 1 rfl) ?_
  refine lv_bipush (v := 13) hx hb dX3_count_2 (by decide) ?_
  obtain ⟨r1, m2, e3, h⟩ := zbx_r h
  refine z_callv hS (va_runV (As := [.int (x1), .int (13)]) (rest := []) C (c_X3_checkWhat l G e3 _) (cwV 2 hts gX3_count_X3_checkWhat rfl rfl rfl hv_X3_checkWhat ⟨Nat.le_of_ble_eq_true rfl, Nat.le_of_ble_eq_true rfl⟩) (z_preV Z hS hP (by decide) (z_E_90 _) rfl rfl) rfl rfl hl.1 rfl (lv_room (Nat.le_of_ble_eq_true rfl)) dX3_count_4 ⟨Nat.zero_le _, Nat.zero_le _⟩) (fun H locs hP hS => ?_)
  refine lv_iload_n hx hb dX3_count_7 rfl (lv_at hl 1 rfl) ?_
  refine lv_bipush (v := 12) hx hb dX3_count_8 (by decide) ?_
  refine lv_icmp_ne (tgt := 20) hx hb dX3_count_10 (by decide) (fun hc4 => ?_) (fun hc4 => ?_)
  · have h := z_in hc4 h
    refine lv_aload_n hx hb dX3_count_20 rfl (lv_at hl 0 rfl) ?_
    refine z_get C Z hP (k := 90) (ci := 3) (j := 0) (N := 7) (v := .ref (G.2.1 (0))) (by decide) (z_E_90 _) rfl inX3_count_X3 (by decide) wX3_count_0 rfl dX3_count_21 ?_
    refine lv_iload_n hx hb dX3_count_24 rfl (lv_at hl 1 rfl) ?_
    obtain ⟨r5, m6, e7, h⟩ := zb_some h
    refine z_calli hS (va_runV (As := [.int (x1)]) (rest := []) C (c_X2_number l G e7 _) (cwV 1 hts gX3_count_X2_number rfl rfl rfl hv_X2_number ⟨Nat.le_of_ble_eq_true rfl, Nat.le_of_ble_eq_true rfl⟩) (z_preV Z hS hP (by decide) (z_E_0 _) rfl rfl) rfl rfl hl.1 rfl (lv_room (Nat.le_of_ble_eq_true rfl)) dX3_count_25 ⟨Nat.zero_le _, Nat.zero_le _⟩) (fun H locs hP hS => ?_)
    cases h
    exact z_reti C hr hlk hP hS dX3_count_28
  · have h := z_ip hc4 h
    refine lv_aload_n hx hb dX3_count_13 rfl (lv_at hl 0 rfl) ?_
    refine z_get C Z hP (k := 90) (ci := 3) (j := 4) (N := 7) (v := .int ((m2 90 4))) (by decide) (z_E_90 _) rfl inX3_count_X3 (by decide) wX3_count_2 rfl dX3_count_14 ?_
    refine lv_goto (tgt := 28) hx hb dX3_count_17 (by decide) ?_
    cases h
    exact z_reti C hr hlk hP hS dX3_count_28
abbrev rm_X3_setting : Room := { frames := 0, cells := 0, slots := 0, locals := 0 }
theorem hd_X3_setting : yX3_setting.cls ≠ "java/lang/invoke/MethodHandle" ∧ yX3_setting.cls ≠ "java/lang/invoke/VarHandle" ∧ (parseMethodDescriptor yX3_setting.desc).map (fun d => d.parameters.length) = some 0 := by decide +kernel
theorem hv_X3_setting : yX3_setting.cls = RX3 ∧ yX3_setting.cls ≠ "java/lang/invoke/MethodHandle" ∧ yX3_setting.cls ≠ "java/lang/invoke/VarHandle" ∧ (parseMethodDescriptor yX3_setting.desc).map (fun d => d.parameters.length) = some 0 := ⟨rfl, hd_X3_setting⟩
theorem wX3_setting_0 : Cond.fieldLink RX3 12 "WaxCopies" "now" "LWaxCopies$Wax;" ∈ wsX3_setting := by decide +kernel
theorem inX3_setting_X3 : ∀ w ∈ wsX30, w ∈ wsX3_setting := by decide +kernel
theorem wX3_setting_2 : Cond.fieldLink RX3 95 "WaxCopies$Wax" "wear" "I" ∈ wsX3_setting := by decide +kernel
theorem inX3_setting_X2 : ∀ w ∈ wsX20, w ∈ wsX3_setting := by decide +kernel
set_option maxHeartbeats 4000000 in
set_option maxRecDepth 100000 in
theorem c_X3_setting (l : Launch) (G : zG) {μ mu1 : Mm} {r : Int32} (h : f_X3_setting μ = some (r, mu1)) (sz : Nat) : Met l yX3_setting wsX3_setting rm_X3_setting (z_Pre G μ [.ref (G.2.1 (90))] sz) (z_Qi G r mu1 sz) 0 0 (z_A G sz) := by
  refine z_start (cc := cX3_setting) (maxL := 1) (ret := (some .int)) (own := RX3) (by decide) rfl rfl (Nat.le_of_ble_eq_true rfl) (fun p e s m args below meth c C hr hlk Z hP ls hl => ?_) sz
  have hx := C.1
  have hb := C.2.1
  have hts := C.2.2.2.2
  have hS : va_S (z_A G s.heap.size) s.heap s.heap [] := va_S.rf
  have hl : lv_has ls 1 [(0, .ref (G.2.1 (90)))] := hl
  unfold f_X3_setting at h
  refine lv_aload_n hx hb dX3_setting_0 rfl (lv_at hl 0 rfl) ?_
  refine z_get C Z hP (k := 90) (ci := 3) (j := 0) (N := 7) (v := .ref (G.2.1 (0))) (by decide) (z_E_90 _) rfl inX3_setting_X3 (by decide) wX3_setting_0 rfl dX3_setting_1 ?_
  refine z_get C Z hP (k := 0) (ci := 2) (j := 11) (N := 19) (v := .int ((μ 0 11))) (by decide) (z_E_0 _) rfl inX3_setting_X2 (by decide) wX3_setting_2 rfl dX3_setting_4 ?_
  cases h
  exact z_reti C hr hlk hP hS dX3_setting_7
abbrev rm_X3_whyNot : Room := { frames := 2, cells := 0, slots := 0, locals := 43 }
theorem hd_X3_whyNot : yX3_whyNot.cls ≠ "java/lang/invoke/MethodHandle" ∧ yX3_whyNot.cls ≠ "java/lang/invoke/VarHandle" ∧ (parseMethodDescriptor yX3_whyNot.desc).map (fun d => d.parameters.length) = some 2 := by decide +kernel
theorem hv_X3_whyNot : yX3_whyNot.cls = RX3 ∧ yX3_whyNot.cls ≠ "java/lang/invoke/MethodHandle" ∧ yX3_whyNot.cls ≠ "java/lang/invoke/VarHandle" ∧ (parseMethodDescriptor yX3_whyNot.desc).map (fun d => d.parameters.length) = some 2 := ⟨rfl, hd_X3_whyNot⟩
theorem wX3_whyNot_0 : Cond.fieldLink RX3 12 "WaxCopies" "now" "LWaxCopies$Wax;" ∈ wsX3_whyNot := by decide +kernel
theorem inX3_whyNot_X3 : ∀ w ∈ wsX30, w ∈ wsX3_whyNot := by decide +kernel
set_option maxHeartbeats 4000000 in
set_option maxRecDepth 100000 in
theorem c_X3_whyNot (l : Launch) (G : zG) {x1 : Int32} {x2 : Int32} {μ mu1 : Mm} {r : Int32} (h : f_X3_whyNot x1 x2 μ = some (.inr r, mu1)) (sz : Nat) : Met l yX3_whyNot wsX3_whyNot rm_X3_whyNot (z_Pre G μ [.ref (G.2.1 (90)), .int (x1), .int (x2)] sz) (z_Qi G r mu1 sz) 0 0 (z_A G sz) := by
  refine z_start (cc := cX3_whyNot) (maxL := 3) (ret := (some .int)) (own := RX3) (by decide) rfl rfl (Nat.le_of_ble_eq_true rfl) (fun p e s m args below meth c C hr hlk Z hP ls hl => ?_) sz
  have hx := C.1
  have hb := C.2.1
  have hts := C.2.2.2.2
  have hS : va_S (z_A G s.heap.size) s.heap s.heap [] := va_S.rf
  have hl : lv_has ls 3 [(0, .ref (G.2.1 (90))), (1, .int (x1)), (2, .int (x2))] := hl
  unfold f_X3_whyNot at h
  refine lv_aload_n hx hb dX3_whyNot_0 rfl (lv_at hl 0 rfl) ?_
  refine lv_iload_n hx hb dX3_whyNot_1 rfl (lv_at hl 1 rfl) ?_
  obtain ⟨r1, m2, e3, h⟩ := zbx_r h
  refine z_callv hS (va_runV (As := [.int (x1)]) (rest := []) C (c_X3_checkTrack l G e3 _) (cwV 1 hts gX3_whyNot_X3_checkTrack rfl rfl rfl hv_X3_checkTrack ⟨Nat.le_of_ble_eq_true rfl, Nat.le_of_ble_eq_true rfl⟩) (z_preV Z hS hP (by decide) (z_E_90 _) rfl rfl) rfl rfl hl.1 rfl (lv_room (Nat.le_of_ble_eq_true rfl)) dX3_whyNot_2 ⟨Nat.zero_le _, Nat.zero_le _⟩) (fun H locs hP hS => ?_)
  refine lv_aload_n hx hb dX3_whyNot_5 rfl (lv_at hl 0 rfl) ?_
  refine lv_iload_n hx hb dX3_whyNot_6 rfl (lv_at hl 2 rfl) ?_
  obtain ⟨r4, m5, e6, h⟩ := zbx_r h
  refine z_callv hS (va_runV (As := [.int (x2)]) (rest := []) C (c_X3_checkLoudness l G e6 _) (cwV 1 hts gX3_whyNot_X3_checkLoudness rfl rfl rfl hv_X3_checkLoudness ⟨Nat.le_of_ble_eq_true rfl, Nat.le_of_ble_eq_true rfl⟩) (z_preV Z hS hP (by decide) (z_E_90 _) rfl rfl) rfl rfl hl.1 rfl (lv_room (Nat.le_of_ble_eq_true rfl)) dX3_whyNot_7 ⟨Nat.zero_le _, Nat.zero_le _⟩) (fun H locs hP hS => ?_)
  refine lv_aload_n hx hb dX3_whyNot_10 rfl (lv_at hl 0 rfl) ?_
  refine z_get C Z hP (k := 90) (ci := 3) (j := 0) (N := 7) (v := .ref (G.2.1 (0))) (by decide) (z_E_90 _) rfl inX3_whyNot_X3 (by decide) wX3_whyNot_0 rfl dX3_whyNot_11 ?_
  refine lv_iload_n hx hb dX3_whyNot_14 rfl (lv_at hl 1 rfl) ?_
  refine lv_iload_n hx hb dX3_whyNot_15 rfl (lv_at hl 2 rfl) ?_
  obtain ⟨r7, m8, e9, h⟩ := zb_some h
  refine z_calli hS (va_runV (As := [.int (x1), .int (x2)]) (rest := []) C (c_X2_reasonNotToSpeak l G e9 _) (cwV 2 hts gX3_whyNot_X2_reasonNotToSpeak rfl rfl rfl hv_X2_reasonNotToSpeak ⟨Nat.le_of_ble_eq_true rfl, Nat.le_of_ble_eq_true rfl⟩) (z_preV Z hS hP (by decide) (z_E_0 _) rfl rfl) rfl rfl hl.1 rfl (lv_room (Nat.le_of_ble_eq_true rfl)) dX3_whyNot_16 ⟨Nat.zero_le _, Nat.zero_le _⟩) (fun H locs hP hS => ?_)
  cases h
  exact z_reti C hr hlk hP hS dX3_whyNot_19
abbrev rm_X3_ifCopied : Room := { frames := 3, cells := 0, slots := 0, locals := 65 }
theorem hd_X3_ifCopied : yX3_ifCopied.cls ≠ "java/lang/invoke/MethodHandle" ∧ yX3_ifCopied.cls ≠ "java/lang/invoke/VarHandle" ∧ (parseMethodDescriptor yX3_ifCopied.desc).map (fun d => d.parameters.length) = some 3 := by decide +kernel
theorem hv_X3_ifCopied : yX3_ifCopied.cls = RX3 ∧ yX3_ifCopied.cls ≠ "java/lang/invoke/MethodHandle" ∧ yX3_ifCopied.cls ≠ "java/lang/invoke/VarHandle" ∧ (parseMethodDescriptor yX3_ifCopied.desc).map (fun d => d.parameters.length) = some 3 := ⟨rfl, hd_X3_ifCopied⟩
theorem wX3_ifCopied_0 : Cond.fieldLink RX3 12 "WaxCopies" "now" "LWaxCopies$Wax;" ∈ wsX3_ifCopied := by decide +kernel
theorem inX3_ifCopied_X3 : ∀ w ∈ wsX30, w ∈ wsX3_ifCopied := by decide +kernel
set_option maxHeartbeats 4000000 in
set_option maxRecDepth 100000 in
theorem c_X3_ifCopied (l : Launch) (G : zG) {x1 : Int32} {x2 : Int32} {x3 : Int32} {μ mu1 : Mm} {r : Int32} (h : f_X3_ifCopied x1 x2 x3 μ = some (.inr r, mu1)) (sz : Nat) : Met l yX3_ifCopied wsX3_ifCopied rm_X3_ifCopied (z_Pre G μ [.ref (G.2.1 (90)), .int (x1), .int (x2), .int (x3)] sz) (z_Qi G r mu1 sz) 0 0 (z_A G sz) := by
  refine z_start (cc := cX3_ifCopied) (maxL := 5) (ret := (some .int)) (own := RX3) (by decide) rfl rfl (Nat.le_of_ble_eq_true rfl) (fun p e s m args below meth c C hr hlk Z hP ls hl => ?_) sz
  have hx := C.1
  have hb := C.2.1
  have hts := C.2.2.2.2
  have hS : va_S (z_A G s.heap.size) s.heap s.heap [] := va_S.rf
  have hl : lv_has ls 5 [(0, .ref (G.2.1 (90))), (1, .int (x1)), (2, .int (x2)), (3, .int (x3))] := hl
  unfold f_X3_ifCopied at h
  refine lv_aload_n hx hb dX3_ifCopied_0 rfl (lv_at hl 0 rfl) ?_
  refine lv_iload_n hx hb dX3_ifCopied_1 rfl (lv_at hl 1 rfl) ?_
  obtain ⟨r1, m2, e3, h⟩ := zbx_r h
  refine z_callv hS (va_runV (As := [.int (x1)]) (rest := []) C (c_X3_checkTrack l G e3 _) (cwV 1 hts gX3_ifCopied_X3_checkTrack rfl rfl rfl hv_X3_checkTrack ⟨Nat.le_of_ble_eq_true rfl, Nat.le_of_ble_eq_true rfl⟩) (z_preV Z hS hP (by decide) (z_E_90 _) rfl rfl) rfl rfl hl.1 rfl (lv_room (Nat.le_of_ble_eq_true rfl)) dX3_ifCopied_2 ⟨Nat.zero_le _, Nat.zero_le _⟩) (fun H locs hP hS => ?_)
  refine lv_aload_n hx hb dX3_ifCopied_5 rfl (lv_at hl 0 rfl) ?_
  refine lv_iload_n hx hb dX3_ifCopied_6 rfl (lv_at hl 2 rfl) ?_
  obtain ⟨r4, m5, e6, h⟩ := zbx_r h
  refine z_callv hS (va_runV (As := [.int (x2)]) (rest := []) C (c_X3_checkTrack l G e6 _) (cwV 1 hts gX3_ifCopied_X3_checkTrack rfl rfl rfl hv_X3_checkTrack ⟨Nat.le_of_ble_eq_true rfl, Nat.le_of_ble_eq_true rfl⟩) (z_preV Z hS hP (by decide) (z_E_90 _) rfl rfl) rfl rfl hl.1 rfl (lv_room (Nat.le_of_ble_eq_true rfl)) dX3_ifCopied_7 ⟨Nat.zero_le _, Nat.zero_le _⟩) (fun H locs hP hS => ?_)
  refine lv_aload_n hx hb dX3_ifCopied_10 rfl (lv_at hl 0 rfl) ?_
  refine lv_iload_n hx hb dX3_ifCopied_11 rfl (lv_at hl 3 rfl) ?_
  obtain ⟨r7, m8, e9, h⟩ := zbx_r h
  refine z_callv hS (va_runV (As := [.int (x3)]) (rest := []) C (c_X3_checkLever l G e9 _) (cwV 1 hts gX3_ifCopied_X3_checkLever rfl rfl rfl hv_X3_checkLever ⟨Nat.le_of_ble_eq_true rfl, Nat.le_of_ble_eq_true rfl⟩) (z_preV Z hS hP (by decide) (z_E_90 _) rfl rfl) rfl rfl hl.1 rfl (lv_room (Nat.le_of_ble_eq_true rfl)) dX3_ifCopied_12 ⟨Nat.zero_le _, Nat.zero_le _⟩) (fun H locs hP hS => ?_)
  refine lv_aload_n hx hb dX3_ifCopied_15 rfl (lv_at hl 0 rfl) ?_
  refine z_get C Z hP (k := 90) (ci := 3) (j := 0) (N := 7) (v := .ref (G.2.1 (0))) (by decide) (z_E_90 _) rfl inX3_ifCopied_X3 (by decide) wX3_ifCopied_0 rfl dX3_ifCopied_16 ?_
  refine lv_iload_n hx hb dX3_ifCopied_19 rfl (lv_at hl 1 rfl) ?_
  refine lv_iload_n hx hb dX3_ifCopied_20 rfl (lv_at hl 2 rfl) ?_
  refine lv_iload_n hx hb dX3_ifCopied_21 rfl (lv_at hl 3 rfl) ?_
  obtain ⟨r10, m11, e12, h⟩ := zb_some h
  refine z_calli hS (va_runV (As := [.int (x1), .int (x2), .int (x3)]) (rest := []) C (c_X2_reasonNotToCopy l G e12 _) (cwV 3 hts gX3_ifCopied_X2_reasonNotToCopy rfl rfl rfl hv_X2_reasonNotToCopy ⟨Nat.le_of_ble_eq_true rfl, Nat.le_of_ble_eq_true rfl⟩) (z_preV Z hS hP (by decide) (z_E_0 _) rfl rfl) rfl rfl hl.1 rfl (lv_room (Nat.le_of_ble_eq_true rfl)) dX3_ifCopied_22 ⟨Nat.zero_le _, Nat.zero_le _⟩) (fun H locs hP hS => ?_)
  refine lv_istore (lv' := [(4, .int (r10)), (0, .ref (G.2.1 (90))), (1, .int (x1)), (2, .int (x2)), (3, .int (x3))]) hx hb dX3_ifCopied_25 hl (by decide) rfl (fun ls hl => ?_)
  refine lv_iload hx hb dX3_ifCopied_27 (lv_at hl 0 rfl) ?_
  refine lv_if_ne (tgt := 44) hx hb dX3_ifCopied_29 (by decide) (fun hc13 => ?_) (fun hc13 => ?_)
  · have h := z_in hc13 h
    refine lv_iload hx hb dX3_ifCopied_44 (lv_at hl 0 rfl) ?_
    refine lv_ineg hx hb dX3_ifCopied_46 ?_
    cases h
    exact z_reti C hr hlk hP hS dX3_ifCopied_47
  · have h := z_ip hc13 h
    refine lv_aload_n hx hb dX3_ifCopied_32 rfl (lv_at hl 1 rfl) ?_
    refine z_get C Z hP (k := 90) (ci := 3) (j := 0) (N := 7) (v := .ref (G.2.1 (0))) (by decide) (z_E_90 _) rfl inX3_ifCopied_X3 (by decide) wX3_ifCopied_0 rfl dX3_ifCopied_33 ?_
    refine lv_iload_n hx hb dX3_ifCopied_36 rfl (lv_at hl 2 rfl) ?_
    refine lv_iload_n hx hb dX3_ifCopied_37 rfl (lv_at hl 4 rfl) ?_
    obtain ⟨r14, m15, e16, h⟩ := zb_some h
    refine z_calli hS (va_runV (As := [.int (x1), .int (x3)]) (rest := []) C (c_X2_clearnessIfCopied l G e16 _) (cwV 2 hts gX3_ifCopied_X2_clearnessIfCopied rfl rfl rfl hv_X2_clearnessIfCopied ⟨Nat.le_of_ble_eq_true rfl, Nat.le_of_ble_eq_true rfl⟩) (z_preV Z hS hP (by decide) (z_E_0 _) rfl rfl) rfl rfl hl.1 rfl (lv_room (Nat.le_of_ble_eq_true rfl)) dX3_ifCopied_38 ⟨Nat.zero_le _, Nat.zero_le _⟩) (fun H locs hP hS => ?_)
    refine lv_goto (tgt := 47) hx hb dX3_ifCopied_41 (by decide) ?_
    cases h
    exact z_reti C hr hlk hP hS dX3_ifCopied_47
abbrev rm_X3_clearestOfAllLevers_v0 : Room := { frames := 2, cells := 0, slots := 0, locals := 43 }
theorem hd_X3_clearestOfAllLevers_v0 : yX3_clearestOfAllLevers.cls ≠ "java/lang/invoke/MethodHandle" ∧ yX3_clearestOfAllLevers.cls ≠ "java/lang/invoke/VarHandle" ∧ (parseMethodDescriptor yX3_clearestOfAllLevers.desc).map (fun d => d.parameters.length) = some 4 := by decide +kernel
theorem hv_X3_clearestOfAllLevers_v0 : yX3_clearestOfAllLevers.cls = RX3 ∧ yX3_clearestOfAllLevers.cls ≠ "java/lang/invoke/MethodHandle" ∧ yX3_clearestOfAllLevers.cls ≠ "java/lang/invoke/VarHandle" ∧ (parseMethodDescriptor yX3_clearestOfAllLevers.desc).map (fun d => d.parameters.length) = some 4 := ⟨rfl, hd_X3_clearestOfAllLevers_v0⟩
set_option maxHeartbeats 8000000 in
set_option maxRecDepth 100000 in
theorem L_X3_clearestOfAllLevers_v0_b12 {p : Program} {l : Launch} {e : Env} {s : State} {m : MethodId} {args : Array Value} {below : List Frame} {meth : Method} {c : Code} {G : zG} {r : Int32} {mu1 : Mm}  (C : CallFix p m c cX3_clearestOfAllLevers 8 s args wsX3_clearestOfAllLevers RX3) (hr : meth.sig.returnType = (some .int)) (hlk : meth.locks = false) (Z : z_Z G (z_A G s.heap.size) s)  :
    ∀ (n : Nat) (x0 : Int32) (x1 : Int32) (x2 : Int32) (x3 : Int32) (x4 : Int32) (x5 : Int32) (μ : Mm), f_X3_clearestOfAllLevers_v0_b12  n x0 x1 x2 x3 x4 x5 μ = some (r, mu1) → ∀ (H : Heap) (locs : List Loc), z_P G μ H → va_S (z_A G s.heap.size) s.heap H locs → ∀ ls : Array Slot, lv_has ls 8 [(0, .int (x0)), (1, .int (x1)), (2, .int (x2)), (3, .int (x3)), (4, .int (x4)), (5, .int (x5))] → W p l e rm_X3_clearestOfAllLevers_v0 s m args below meth c H locs 0 0 (MQ below (z_Qi G r mu1 s.heap.size) args s 0 0 (z_A G s.heap.size)) (F0 m 12 ls []) := by
  have hx := C.1
  have hb := C.2.1
  have hts := C.2.2.2.2
  intro n
  induction n with
  | zero =>
    intro x0 x1 x2 x3 x4 x5 μ h
    rw [f_X3_clearestOfAllLevers_v0_b12] at h
    cases h
  | succ n ih =>
    intro x0 x1 x2 x3 x4 x5 μ h H locs hP hS ls hl
    rw [f_X3_clearestOfAllLevers_v0_b12] at h
    refine lv_iload hx hb dX3_clearestOfAllLevers_12 (lv_at hl 5 rfl) ?_
    refine lv_iconst (v := 3) hx hb dX3_clearestOfAllLevers_14 (by decide) ?_
    refine lv_icmp_gt (tgt := 65) hx hb dX3_clearestOfAllLevers_15 (by decide) (fun hc2 => ?_) (fun hc2 => ?_)
    · have h := z_ip hc2 h
      refine lv_iload hx hb dX3_clearestOfAllLevers_65 (lv_at hl 4 rfl) ?_
      cases h
      exact z_reti C hr hlk hP hS dX3_clearestOfAllLevers_67
    · have h := z_in hc2 h
      refine lv_iload_n hx hb dX3_clearestOfAllLevers_18 rfl (lv_at hl 1 rfl) ?_
      refine lv_iload hx hb dX3_clearestOfAllLevers_19 (lv_at hl 5 rfl) ?_
      obtain ⟨r3, m4, e5, h⟩ := zb_some h
      refine z_calli hS (va_runS (As := [.int (x1), .int (x5)]) (rest := []) C (c_X3_copiedDepth l G e5 _) (va_cwS 2 hts gX3_clearestOfAllLevers_X3_copiedDepth rfl rfl rfl hd_X3_copiedDepth ⟨Nat.le_of_ble_eq_true rfl, Nat.le_of_ble_eq_true rfl⟩) (z_preS Z hS hP) rfl rfl hl.1 rfl (lv_room (Nat.le_of_ble_eq_true rfl)) dX3_clearestOfAllLevers_21 ⟨Nat.zero_le _, Nat.zero_le _⟩) (fun H locs hP hS => ?_)
      refine lv_istore (lv' := [(6, .int (r3)), (0, .int (x0)), (1, .int (x1)), (2, .int (x2)), (3, .int (x3)), (4, .int (x4)), (5, .int (x5))]) hx hb dX3_clearestOfAllLevers_24 hl (by decide) rfl (fun ls hl => ?_)
      refine lv_iload_n hx hb dX3_clearestOfAllLevers_26 rfl (lv_at hl 3 rfl) ?_
      refine lv_iload hx hb dX3_clearestOfAllLevers_27 (lv_at hl 6 rfl) ?_
      refine lv_iload_n hx hb dX3_clearestOfAllLevers_29 rfl (lv_at hl 4 rfl) ?_
      refine lv_iconst (v := 0) hx hb dX3_clearestOfAllLevers_30 (by decide) ?_
      obtain ⟨r6, m7, e8, h⟩ := zb_some h
      refine z_calli hS (va_runS (As := [.int (x2), .int (x5), .int (x3), .int (0)]) (rest := []) C (c_X3_copiedClearness l G e8 _) (va_cwS 4 hts gX3_clearestOfAllLevers_X3_copiedClearness rfl rfl rfl hd_X3_copiedClearness ⟨Nat.le_of_ble_eq_true rfl, Nat.le_of_ble_eq_true rfl⟩) (z_preS Z hS hP) rfl rfl hl.1 rfl (lv_room (Nat.le_of_ble_eq_true rfl)) dX3_clearestOfAllLevers_31 ⟨Nat.zero_le _, Nat.zero_le _⟩) (fun H locs hP hS => ?_)
      refine lv_istore (lv' := [(7, .int (r6)), (6, .int (r3)), (0, .int (x0)), (1, .int (x1)), (2, .int (x2)), (3, .int (x3)), (4, .int (x4)), (5, .int (x5))]) hx hb dX3_clearestOfAllLevers_34 hl (by decide) rfl (fun ls hl => ?_)
      refine lv_iload hx hb dX3_clearestOfAllLevers_36 (lv_at hl 6 rfl) ?_
      refine lv_iload_n hx hb dX3_clearestOfAllLevers_38 rfl (lv_at hl 2 rfl) ?_
      refine lv_iconst (v := 1) hx hb dX3_clearestOfAllLevers_39 (by decide) ?_
      refine lv_isub hx hb dX3_clearestOfAllLevers_40 ?_
      refine lv_iload hx hb dX3_clearestOfAllLevers_41 (lv_at hl 1 rfl) ?_
      refine lv_iload hx hb dX3_clearestOfAllLevers_43 (lv_at hl 0 rfl) ?_
      refine lv_iload_n hx hb dX3_clearestOfAllLevers_45 rfl (lv_at hl 5 rfl) ?_
      refine lv_iload hx hb dX3_clearestOfAllLevers_46 (lv_at hl 1 rfl) ?_
      obtain ⟨r9, m10, e11, h⟩ := zb_some h
      refine z_calli hS (va_runS (As := [.int (x3), .int (r3)]) (rest := [.int (r6), .int (r3), .int ((x0 - 1)), .int (x4)]) C (c_X3_sharpnessAfter l G e11 _) (va_cwS 2 hts gX3_clearestOfAllLevers_X3_sharpnessAfter rfl rfl rfl hd_X3_sharpnessAfter ⟨Nat.le_of_ble_eq_true rfl, Nat.le_of_ble_eq_true rfl⟩) (z_preS Z hS hP) rfl rfl hl.1 rfl (lv_room (Nat.le_of_ble_eq_true rfl)) dX3_clearestOfAllLevers_48 ⟨Nat.zero_le _, Nat.zero_le _⟩) (fun H locs hP hS => ?_)
      cases h
set_option maxHeartbeats 4000000 in
set_option maxRecDepth 100000 in
theorem c_X3_clearestOfAllLevers_v0 (l : Launch) (G : zG) {x0 : Int32} {x1 : Int32} {x2 : Int32} {x3 : Int32} {μ mu1 : Mm} {r : Int32} (h : f_X3_clearestOfAllLevers_v0 x0 x1 x2 x3 μ = some (r, mu1)) (sz : Nat) : Met l yX3_clearestOfAllLevers wsX3_clearestOfAllLevers rm_X3_clearestOfAllLevers_v0 (z_Pre G μ [.int (x0), .int (x1), .int (x2), .int (x3)] sz) (z_Qi G r mu1 sz) 0 0 (z_A G sz) := by
  refine z_start (cc := cX3_clearestOfAllLevers) (maxL := 8) (ret := (some .int)) (own := RX3) (by decide) rfl rfl (Nat.le_of_ble_eq_true rfl) (fun p e s m args below meth c C hr hlk Z hP ls hl => ?_) sz
  have hx := C.1
  have hb := C.2.1
  have hts := C.2.2.2.2
  have hS : va_S (z_A G s.heap.size) s.heap s.heap [] := va_S.rf
  have hl : lv_has ls 8 [(0, .int (x0)), (1, .int (x1)), (2, .int (x2)), (3, .int (x3))] := hl
  unfold f_X3_clearestOfAllLevers_v0 at h
  refine lv_iload_n hx hb dX3_clearestOfAllLevers_0 rfl (lv_at hl 0 rfl) ?_
  refine lv_if_gt (tgt := 6) hx hb dX3_clearestOfAllLevers_1 (by decide) (fun hc1 => ?_) (fun hc1 => ?_)
  · have h := z_ip hc1 h
    refine lv_iconst (v := (-1)) hx hb dX3_clearestOfAllLevers_6 (by decide) ?_
    refine lv_istore (lv' := [(4, .int ((-1))), (0, .int (x0)), (1, .int (x1)), (2, .int (x2)), (3, .int (x3))]) hx hb dX3_clearestOfAllLevers_7 hl (by decide) rfl (fun ls hl => ?_)
    refine lv_iconst (v := 1) hx hb dX3_clearestOfAllLevers_9 (by decide) ?_
    refine lv_istore (lv' := [(5, .int (1)), (4, .int ((-1))), (0, .int (x0)), (1, .int (x1)), (2, .int (x2)), (3, .int (x3))]) hx hb dX3_clearestOfAllLevers_10 hl (by decide) rfl (fun ls hl => ?_)
    exact L_X3_clearestOfAllLevers_v0_b12 C hr hlk Z z_F _ _ _ _ _ _ _ h _ _ hP hS ls (lv_sub hl [2, 3, 4, 5, 1, 0] rfl)
  · have h := z_in hc1 h
    refine lv_iload_n hx hb dX3_clearestOfAllLevers_4 rfl (lv_at hl 2 rfl) ?_
    cases h
    exact z_reti C hr hlk hP hS dX3_clearestOfAllLevers_5
abbrev rm_X3_clearestOfAllLevers_v1 : Room := { frames := 3, cells := 0, slots := 0, locals := 70 }
theorem hd_X3_clearestOfAllLevers_v1 : yX3_clearestOfAllLevers.cls ≠ "java/lang/invoke/MethodHandle" ∧ yX3_clearestOfAllLevers.cls ≠ "java/lang/invoke/VarHandle" ∧ (parseMethodDescriptor yX3_clearestOfAllLevers.desc).map (fun d => d.parameters.length) = some 4 := by decide +kernel
theorem hv_X3_clearestOfAllLevers_v1 : yX3_clearestOfAllLevers.cls = RX3 ∧ yX3_clearestOfAllLevers.cls ≠ "java/lang/invoke/MethodHandle" ∧ yX3_clearestOfAllLevers.cls ≠ "java/lang/invoke/VarHandle" ∧ (parseMethodDescriptor yX3_clearestOfAllLevers.desc).map (fun d => d.parameters.length) = some 4 := ⟨rfl, hd_X3_clearestOfAllLevers_v1⟩
theorem wX3_clearestOfAllLevers_v1_0 : Cond.methodLink RX3 290 Lib.Math.max.name ∈ wsX3_clearestOfAllLevers := by decide +kernel
theorem wX3_clearestOfAllLevers_v1_1 : Cond.static Lib.Math.max.name ∈ wsX3_clearestOfAllLevers := by decide +kernel
theorem wX3_clearestOfAllLevers_v1_2 : Cond.initialized "java/lang/Math" ∈ wsX3_clearestOfAllLevers := by decide +kernel
theorem wX3_clearestOfAllLevers_v1_3 : Cond.code Lib.Math.max.name Lib.Math.max.code 2 (some .int) ∈ wsX3_clearestOfAllLevers := by decide +kernel
set_option maxHeartbeats 8000000 in
set_option maxRecDepth 100000 in
theorem L_X3_clearestOfAllLevers_v1_b12 {p : Program} {l : Launch} {e : Env} {s : State} {m : MethodId} {args : Array Value} {below : List Frame} {meth : Method} {c : Code} {G : zG} {r : Int32} {mu1 : Mm}  (C : CallFix p m c cX3_clearestOfAllLevers 8 s args wsX3_clearestOfAllLevers RX3) (hr : meth.sig.returnType = (some .int)) (hlk : meth.locks = false) (Z : z_Z G (z_A G s.heap.size) s)  :
    ∀ (n : Nat) (x0 : Int32) (x1 : Int32) (x2 : Int32) (x3 : Int32) (x4 : Int32) (x5 : Int32) (μ : Mm), f_X3_clearestOfAllLevers_v1_b12  n x0 x1 x2 x3 x4 x5 μ = some (r, mu1) → ∀ (H : Heap) (locs : List Loc), z_P G μ H → va_S (z_A G s.heap.size) s.heap H locs → ∀ ls : Array Slot, lv_has ls 8 [(0, .int (x0)), (1, .int (x1)), (2, .int (x2)), (3, .int (x3)), (4, .int (x4)), (5, .int (x5))] → W p l e rm_X3_clearestOfAllLevers_v1 s m args below meth c H locs 0 0 (MQ below (z_Qi G r mu1 s.heap.size) args s 0 0 (z_A G s.heap.size)) (F0 m 12 ls []) := by
  have hx := C.1
  have hb := C.2.1
  have hts := C.2.2.2.2
  intro n
  induction n with
  | zero =>
    intro x0 x1 x2 x3 x4 x5 μ h
    rw [f_X3_clearestOfAllLevers_v1_b12] at h
    cases h
  | succ n ih =>
    intro x0 x1 x2 x3 x4 x5 μ h H locs hP hS ls hl
    rw [f_X3_clearestOfAllLevers_v1_b12] at h
    refine lv_iload hx hb dX3_clearestOfAllLevers_12 (lv_at hl 5 rfl) ?_
    refine lv_iconst (v := 3) hx hb dX3_clearestOfAllLevers_14 (by decide) ?_
    refine lv_icmp_gt (tgt := 65) hx hb dX3_clearestOfAllLevers_15 (by decide) (fun hc2 => ?_) (fun hc2 => ?_)
    · have h := z_ip hc2 h
      refine lv_iload hx hb dX3_clearestOfAllLevers_65 (lv_at hl 4 rfl) ?_
      cases h
      exact z_reti C hr hlk hP hS dX3_clearestOfAllLevers_67
    · have h := z_in hc2 h
      refine lv_iload_n hx hb dX3_clearestOfAllLevers_18 rfl (lv_at hl 1 rfl) ?_
      refine lv_iload hx hb dX3_clearestOfAllLevers_19 (lv_at hl 5 rfl) ?_
      obtain ⟨r3, m4, e5, h⟩ := zb_some h
      refine z_calli hS (va_runS (As := [.int (x1), .int (x5)]) (rest := []) C (c_X3_copiedDepth l G e5 _) (va_cwS 2 hts gX3_clearestOfAllLevers_X3_copiedDepth rfl rfl rfl hd_X3_copiedDepth ⟨Nat.le_of_ble_eq_true rfl, Nat.le_of_ble_eq_true rfl⟩) (z_preS Z hS hP) rfl rfl hl.1 rfl (lv_room (Nat.le_of_ble_eq_true rfl)) dX3_clearestOfAllLevers_21 ⟨Nat.zero_le _, Nat.zero_le _⟩) (fun H locs hP hS => ?_)
      refine lv_istore (lv' := [(6, .int (r3)), (0, .int (x0)), (1, .int (x1)), (2, .int (x2)), (3, .int (x3)), (4, .int (x4)), (5, .int (x5))]) hx hb dX3_clearestOfAllLevers_24 hl (by decide) rfl (fun ls hl => ?_)
      refine lv_iload_n hx hb dX3_clearestOfAllLevers_26 rfl (lv_at hl 3 rfl) ?_
      refine lv_iload hx hb dX3_clearestOfAllLevers_27 (lv_at hl 6 rfl) ?_
      refine lv_iload_n hx hb dX3_clearestOfAllLevers_29 rfl (lv_at hl 4 rfl) ?_
      refine lv_iconst (v := 0) hx hb dX3_clearestOfAllLevers_30 (by decide) ?_
      obtain ⟨r6, m7, e8, h⟩ := zb_some h
      refine z_calli hS (va_runS (As := [.int (x2), .int (x5), .int (x3), .int (0)]) (rest := []) C (c_X3_copiedClearness l G e8 _) (va_cwS 4 hts gX3_clearestOfAllLevers_X3_copiedClearness rfl rfl rfl hd_X3_copiedClearness ⟨Nat.le_of_ble_eq_true rfl, Nat.le_of_ble_eq_true rfl⟩) (z_preS Z hS hP) rfl rfl hl.1 rfl (lv_room (Nat.le_of_ble_eq_true rfl)) dX3_clearestOfAllLevers_31 ⟨Nat.zero_le _, Nat.zero_le _⟩) (fun H locs hP hS => ?_)
      refine lv_istore (lv' := [(7, .int (r6)), (6, .int (r3)), (0, .int (x0)), (1, .int (x1)), (2, .int (x2)), (3, .int (x3)), (4, .int (x4)), (5, .int (x5))]) hx hb dX3_clearestOfAllLevers_34 hl (by decide) rfl (fun ls hl => ?_)
      refine lv_iload hx hb dX3_clearestOfAllLevers_36 (lv_at hl 6 rfl) ?_
      refine lv_iload_n hx hb dX3_clearestOfAllLevers_38 rfl (lv_at hl 2 rfl) ?_
      refine lv_iconst (v := 1) hx hb dX3_clearestOfAllLevers_39 (by decide) ?_
      refine lv_isub hx hb dX3_clearestOfAllLevers_40 ?_
      refine lv_iload hx hb dX3_clearestOfAllLevers_41 (lv_at hl 1 rfl) ?_
      refine lv_iload hx hb dX3_clearestOfAllLevers_43 (lv_at hl 0 rfl) ?_
      refine lv_iload_n hx hb dX3_clearestOfAllLevers_45 rfl (lv_at hl 5 rfl) ?_
      refine lv_iload hx hb dX3_clearestOfAllLevers_46 (lv_at hl 1 rfl) ?_
      obtain ⟨r9, m10, e11, h⟩ := zb_some h
      refine z_calli hS (va_runS (As := [.int (x3), .int (r3)]) (rest := [.int (r6), .int (r3), .int ((x0 - 1)), .int (x4)]) C (c_X3_sharpnessAfter l G e11 _) (va_cwS 2 hts gX3_clearestOfAllLevers_X3_sharpnessAfter rfl rfl rfl hd_X3_sharpnessAfter ⟨Nat.le_of_ble_eq_true rfl, Nat.le_of_ble_eq_true rfl⟩) (z_preS Z hS hP) rfl rfl hl.1 rfl (lv_room (Nat.le_of_ble_eq_true rfl)) dX3_clearestOfAllLevers_48 ⟨Nat.zero_le _, Nat.zero_le _⟩) (fun H locs hP hS => ?_)
      obtain ⟨r12, m13, e14, h⟩ := zb_some h
      refine z_calli hS (va_runS (As := [.int ((x0 - 1)), .int (r3), .int (r6), .int (r9)]) (rest := [.int (x4)]) C (c_X3_clearestOfAllLevers_v0 l G e14 _) (va_cwS 4 hts gX3_clearestOfAllLevers_X3_clearestOfAllLevers rfl rfl rfl hd_X3_clearestOfAllLevers_v0 ⟨Nat.le_of_ble_eq_true rfl, Nat.le_of_ble_eq_true rfl⟩) (z_preS Z hS hP) rfl rfl hl.1 rfl (lv_room (Nat.le_of_ble_eq_true rfl)) dX3_clearestOfAllLevers_51 ⟨Nat.zero_le _, Nat.zero_le _⟩) (fun H locs hP hS => ?_)
      refine va_mmax hx hb (C.2.2.1.trans hl.1.symm) C.2.2.2.1 (C.2.2.2.2 _ wX3_clearestOfAllLevers_v1_0) (C.2.2.2.2 _ wX3_clearestOfAllLevers_v1_1) (C.2.2.2.2 _ wX3_clearestOfAllLevers_v1_2) (C.2.2.2.2 _ wX3_clearestOfAllLevers_v1_3) (Nat.le_of_ble_eq_true rfl) (Nat.le_of_ble_eq_true rfl) (Nat.zero_le _) (Nat.zero_le _) dX3_clearestOfAllLevers_54 ?_
      refine lv_istore (lv' := [(4, .int ((if x4 < r12 then r12 else x4))), (7, .int (r6)), (6, .int (r3)), (0, .int (x0)), (1, .int (x1)), (2, .int (x2)), (3, .int (x3)), (5, .int (x5))]) hx hb dX3_clearestOfAllLevers_57 hl (by decide) rfl (fun ls hl => ?_)
      refine lv_iinc (v := (x5 + 1)) (lv' := [(5, .int ((x5 + 1))), (4, .int ((if x4 < r12 then r12 else x4))), (7, .int (r6)), (6, .int (r3)), (0, .int (x0)), (1, .int (x1)), (2, .int (x2)), (3, .int (x3))]) hx hb dX3_clearestOfAllLevers_59 hl (k := 7) rfl rfl (by decide) rfl (fun ls hl => ?_)
      refine lv_goto (tgt := 12) hx hb dX3_clearestOfAllLevers_62 (by decide) ?_
      exact ih _ _ _ _ _ _ _ h _ _ hP hS ls (lv_sub hl [4, 5, 6, 7, 1, 0] rfl)
set_option maxHeartbeats 4000000 in
set_option maxRecDepth 100000 in
theorem c_X3_clearestOfAllLevers_v1 (l : Launch) (G : zG) {x0 : Int32} {x1 : Int32} {x2 : Int32} {x3 : Int32} {μ mu1 : Mm} {r : Int32} (h : f_X3_clearestOfAllLevers_v1 x0 x1 x2 x3 μ = some (r, mu1)) (sz : Nat) : Met l yX3_clearestOfAllLevers wsX3_clearestOfAllLevers rm_X3_clearestOfAllLevers_v1 (z_Pre G μ [.int (x0), .int (x1), .int (x2), .int (x3)] sz) (z_Qi G r mu1 sz) 0 0 (z_A G sz) := by
  refine z_start (cc := cX3_clearestOfAllLevers) (maxL := 8) (ret := (some .int)) (own := RX3) (by decide) rfl rfl (Nat.le_of_ble_eq_true rfl) (fun p e s m args below meth c C hr hlk Z hP ls hl => ?_) sz
  have hx := C.1
  have hb := C.2.1
  have hts := C.2.2.2.2
  have hS : va_S (z_A G s.heap.size) s.heap s.heap [] := va_S.rf
  have hl : lv_has ls 8 [(0, .int (x0)), (1, .int (x1)), (2, .int (x2)), (3, .int (x3))] := hl
  unfold f_X3_clearestOfAllLevers_v1 at h
  refine lv_iload_n hx hb dX3_clearestOfAllLevers_0 rfl (lv_at hl 0 rfl) ?_
  refine lv_if_gt (tgt := 6) hx hb dX3_clearestOfAllLevers_1 (by decide) (fun hc1 => ?_) (fun hc1 => ?_)
  · have h := z_ip hc1 h
    refine lv_iconst (v := (-1)) hx hb dX3_clearestOfAllLevers_6 (by decide) ?_
    refine lv_istore (lv' := [(4, .int ((-1))), (0, .int (x0)), (1, .int (x1)), (2, .int (x2)), (3, .int (x3))]) hx hb dX3_clearestOfAllLevers_7 hl (by decide) rfl (fun ls hl => ?_)
    refine lv_iconst (v := 1) hx hb dX3_clearestOfAllLevers_9 (by decide) ?_
    refine lv_istore (lv' := [(5, .int (1)), (4, .int ((-1))), (0, .int (x0)), (1, .int (x1)), (2, .int (x2)), (3, .int (x3))]) hx hb dX3_clearestOfAllLevers_10 hl (by decide) rfl (fun ls hl => ?_)
    exact L_X3_clearestOfAllLevers_v1_b12 C hr hlk Z z_F _ _ _ _ _ _ _ h _ _ hP hS ls (lv_sub hl [2, 3, 4, 5, 1, 0] rfl)
  · have h := z_in hc1 h
    refine lv_iload_n hx hb dX3_clearestOfAllLevers_4 rfl (lv_at hl 2 rfl) ?_
    cases h
    exact z_reti C hr hlk hP hS dX3_clearestOfAllLevers_5
abbrev rm_X3_clearestOfAllLevers_v2 : Room := { frames := 4, cells := 0, slots := 0, locals := 97 }
theorem hd_X3_clearestOfAllLevers_v2 : yX3_clearestOfAllLevers.cls ≠ "java/lang/invoke/MethodHandle" ∧ yX3_clearestOfAllLevers.cls ≠ "java/lang/invoke/VarHandle" ∧ (parseMethodDescriptor yX3_clearestOfAllLevers.desc).map (fun d => d.parameters.length) = some 4 := by decide +kernel
theorem hv_X3_clearestOfAllLevers_v2 : yX3_clearestOfAllLevers.cls = RX3 ∧ yX3_clearestOfAllLevers.cls ≠ "java/lang/invoke/MethodHandle" ∧ yX3_clearestOfAllLevers.cls ≠ "java/lang/invoke/VarHandle" ∧ (parseMethodDescriptor yX3_clearestOfAllLevers.desc).map (fun d => d.parameters.length) = some 4 := ⟨rfl, hd_X3_clearestOfAllLevers_v2⟩
theorem wX3_clearestOfAllLevers_v2_0 : Cond.methodLink RX3 290 Lib.Math.max.name ∈ wsX3_clearestOfAllLevers := by decide +kernel
theorem wX3_clearestOfAllLevers_v2_1 : Cond.static Lib.Math.max.name ∈ wsX3_clearestOfAllLevers := by decide +kernel
theorem wX3_clearestOfAllLevers_v2_2 : Cond.initialized "java/lang/Math" ∈ wsX3_clearestOfAllLevers := by decide +kernel
theorem wX3_clearestOfAllLevers_v2_3 : Cond.code Lib.Math.max.name Lib.Math.max.code 2 (some .int) ∈ wsX3_clearestOfAllLevers := by decide +kernel
set_option maxHeartbeats 8000000 in
set_option maxRecDepth 100000 in
theorem L_X3_clearestOfAllLevers_v2_b12 {p : Program} {l : Launch} {e : Env} {s : State} {m : MethodId} {args : Array Value} {below : List Frame} {meth : Method} {c : Code} {G : zG} {r : Int32} {mu1 : Mm}  (C : CallFix p m c cX3_clearestOfAllLevers 8 s args wsX3_clearestOfAllLevers RX3) (hr : meth.sig.returnType = (some .int)) (hlk : meth.locks = false) (Z : z_Z G (z_A G s.heap.size) s)  :
    ∀ (n : Nat) (x0 : Int32) (x1 : Int32) (x2 : Int32) (x3 : Int32) (x4 : Int32) (x5 : Int32) (μ : Mm), f_X3_clearestOfAllLevers_v2_b12  n x0 x1 x2 x3 x4 x5 μ = some (r, mu1) → ∀ (H : Heap) (locs : List Loc), z_P G μ H → va_S (z_A G s.heap.size) s.heap H locs → ∀ ls : Array Slot, lv_has ls 8 [(0, .int (x0)), (1, .int (x1)), (2, .int (x2)), (3, .int (x3)), (4, .int (x4)), (5, .int (x5))] → W p l e rm_X3_clearestOfAllLevers_v2 s m args below meth c H locs 0 0 (MQ below (z_Qi G r mu1 s.heap.size) args s 0 0 (z_A G s.heap.size)) (F0 m 12 ls []) := by
  have hx := C.1
  have hb := C.2.1
  have hts := C.2.2.2.2
  intro n
  induction n with
  | zero =>
    intro x0 x1 x2 x3 x4 x5 μ h
    rw [f_X3_clearestOfAllLevers_v2_b12] at h
    cases h
  | succ n ih =>
    intro x0 x1 x2 x3 x4 x5 μ h H locs hP hS ls hl
    rw [f_X3_clearestOfAllLevers_v2_b12] at h
    refine lv_iload hx hb dX3_clearestOfAllLevers_12 (lv_at hl 5 rfl) ?_
    refine lv_iconst (v := 3) hx hb dX3_clearestOfAllLevers_14 (by decide) ?_
    refine lv_icmp_gt (tgt := 65) hx hb dX3_clearestOfAllLevers_15 (by decide) (fun hc2 => ?_) (fun hc2 => ?_)
    · have h := z_ip hc2 h
      refine lv_iload hx hb dX3_clearestOfAllLevers_65 (lv_at hl 4 rfl) ?_
      cases h
      exact z_reti C hr hlk hP hS dX3_clearestOfAllLevers_67
    · have h := z_in hc2 h
      refine lv_iload_n hx hb dX3_clearestOfAllLevers_18 rfl (lv_at hl 1 rfl) ?_
      refine lv_iload hx hb dX3_clearestOfAllLevers_19 (lv_at hl 5 rfl) ?_
      obtain ⟨r3, m4, e5, h⟩ := zb_some h
      refine z_calli hS (va_runS (As := [.int (x1), .int (x5)]) (rest := []) C (c_X3_copiedDepth l G e5 _) (va_cwS 2 hts gX3_clearestOfAllLevers_X3_copiedDepth rfl rfl rfl hd_X3_copiedDepth ⟨Nat.le_of_ble_eq_true rfl, Nat.le_of_ble_eq_true rfl⟩) (z_preS Z hS hP) rfl rfl hl.1 rfl (lv_room (Nat.le_of_ble_eq_true rfl)) dX3_clearestOfAllLevers_21 ⟨Nat.zero_le _, Nat.zero_le _⟩) (fun H locs hP hS => ?_)
      refine lv_istore (lv' := [(6, .int (r3)), (0, .int (x0)), (1, .int (x1)), (2, .int (x2)), (3, .int (x3)), (4, .int (x4)), (5, .int (x5))]) hx hb dX3_clearestOfAllLevers_24 hl (by decide) rfl (fun ls hl => ?_)
      refine lv_iload_n hx hb dX3_clearestOfAllLevers_26 rfl (lv_at hl 3 rfl) ?_
      refine lv_iload hx hb dX3_clearestOfAllLevers_27 (lv_at hl 6 rfl) ?_
      refine lv_iload_n hx hb dX3_clearestOfAllLevers_29 rfl (lv_at hl 4 rfl) ?_
      refine lv_iconst (v := 0) hx hb dX3_clearestOfAllLevers_30 (by decide) ?_
      obtain ⟨r6, m7, e8, h⟩ := zb_some h
      refine z_calli hS (va_runS (As := [.int (x2), .int (x5), .int (x3), .int (0)]) (rest := []) C (c_X3_copiedClearness l G e8 _) (va_cwS 4 hts gX3_clearestOfAllLevers_X3_copiedClearness rfl rfl rfl hd_X3_copiedClearness ⟨Nat.le_of_ble_eq_true rfl, Nat.le_of_ble_eq_true rfl⟩) (z_preS Z hS hP) rfl rfl hl.1 rfl (lv_room (Nat.le_of_ble_eq_true rfl)) dX3_clearestOfAllLevers_31 ⟨Nat.zero_le _, Nat.zero_le _⟩) (fun H locs hP hS => ?_)
      refine lv_istore (lv' := [(7, .int (r6)), (6, .int (r3)), (0, .int (x0)), (1, .int (x1)), (2, .int (x2)), (3, .int (x3)), (4, .int (x4)), (5, .int (x5))]) hx hb dX3_clearestOfAllLevers_34 hl (by decide) rfl (fun ls hl => ?_)
      refine lv_iload hx hb dX3_clearestOfAllLevers_36 (lv_at hl 6 rfl) ?_
      refine lv_iload_n hx hb dX3_clearestOfAllLevers_38 rfl (lv_at hl 2 rfl) ?_
      refine lv_iconst (v := 1) hx hb dX3_clearestOfAllLevers_39 (by decide) ?_
      refine lv_isub hx hb dX3_clearestOfAllLevers_40 ?_
      refine lv_iload hx hb dX3_clearestOfAllLevers_41 (lv_at hl 1 rfl) ?_
      refine lv_iload hx hb dX3_clearestOfAllLevers_43 (lv_at hl 0 rfl) ?_
      refine lv_iload_n hx hb dX3_clearestOfAllLevers_45 rfl (lv_at hl 5 rfl) ?_
      refine lv_iload hx hb dX3_clearestOfAllLevers_46 (lv_at hl 1 rfl) ?_
      obtain ⟨r9, m10, e11, h⟩ := zb_some h
      refine z_calli hS (va_runS (As := [.int (x3), .int (r3)]) (rest := [.int (r6), .int (r3), .int ((x0 - 1)), .int (x4)]) C (c_X3_sharpnessAfter l G e11 _) (va_cwS 2 hts gX3_clearestOfAllLevers_X3_sharpnessAfter rfl rfl rfl hd_X3_sharpnessAfter ⟨Nat.le_of_ble_eq_true rfl, Nat.le_of_ble_eq_true rfl⟩) (z_preS Z hS hP) rfl rfl hl.1 rfl (lv_room (Nat.le_of_ble_eq_true rfl)) dX3_clearestOfAllLevers_48 ⟨Nat.zero_le _, Nat.zero_le _⟩) (fun H locs hP hS => ?_)
      obtain ⟨r12, m13, e14, h⟩ := zb_some h
      refine z_calli hS (va_runS (As := [.int ((x0 - 1)), .int (r3), .int (r6), .int (r9)]) (rest := [.int (x4)]) C (c_X3_clearestOfAllLevers_v1 l G e14 _) (va_cwS 4 hts gX3_clearestOfAllLevers_X3_clearestOfAllLevers rfl rfl rfl hd_X3_clearestOfAllLevers_v1 ⟨Nat.le_of_ble_eq_true rfl, Nat.le_of_ble_eq_true rfl⟩) (z_preS Z hS hP) rfl rfl hl.1 rfl (lv_room (Nat.le_of_ble_eq_true rfl)) dX3_clearestOfAllLevers_51 ⟨Nat.zero_le _, Nat.zero_le _⟩) (fun H locs hP hS => ?_)
      refine va_mmax hx hb (C.2.2.1.trans hl.1.symm) C.2.2.2.1 (C.2.2.2.2 _ wX3_clearestOfAllLevers_v2_0) (C.2.2.2.2 _ wX3_clearestOfAllLevers_v2_1) (C.2.2.2.2 _ wX3_clearestOfAllLevers_v2_2) (C.2.2.2.2 _ wX3_clearestOfAllLevers_v2_3) (Nat.le_of_ble_eq_true rfl) (Nat.le_of_ble_eq_true rfl) (Nat.zero_le _) (Nat.zero_le _) dX3_clearestOfAllLevers_54 ?_
      refine lv_istore (lv' := [(4, .int ((if x4 < r12 then r12 else x4))), (7, .int (r6)), (6, .int (r3)), (0, .int (x0)), (1, .int (x1)), (2, .int (x2)), (3, .int (x3)), (5, .int (x5))]) hx hb dX3_clearestOfAllLevers_57 hl (by decide) rfl (fun ls hl => ?_)
      refine lv_iinc (v := (x5 + 1)) (lv' := [(5, .int ((x5 + 1))), (4, .int ((if x4 < r12 then r12 else x4))), (7, .int (r6)), (6, .int (r3)), (0, .int (x0)), (1, .int (x1)), (2, .int (x2)), (3, .int (x3))]) hx hb dX3_clearestOfAllLevers_59 hl (k := 7) rfl rfl (by decide) rfl (fun ls hl => ?_)
      refine lv_goto (tgt := 12) hx hb dX3_clearestOfAllLevers_62 (by decide) ?_
      exact ih _ _ _ _ _ _ _ h _ _ hP hS ls (lv_sub hl [4, 5, 6, 7, 1, 0] rfl)
set_option maxHeartbeats 4000000 in
set_option maxRecDepth 100000 in
theorem c_X3_clearestOfAllLevers_v2 (l : Launch) (G : zG) {x0 : Int32} {x1 : Int32} {x2 : Int32} {x3 : Int32} {μ mu1 : Mm} {r : Int32} (h : f_X3_clearestOfAllLevers_v2 x0 x1 x2 x3 μ = some (r, mu1)) (sz : Nat) : Met l yX3_clearestOfAllLevers wsX3_clearestOfAllLevers rm_X3_clearestOfAllLevers_v2 (z_Pre G μ [.int (x0), .int (x1), .int (x2), .int (x3)] sz) (z_Qi G r mu1 sz) 0 0 (z_A G sz) := by
  refine z_start (cc := cX3_clearestOfAllLevers) (maxL := 8) (ret := (some .int)) (own := RX3) (by decide) rfl rfl (Nat.le_of_ble_eq_true rfl) (fun p e s m args below meth c C hr hlk Z hP ls hl => ?_) sz
  have hx := C.1
  have hb := C.2.1
  have hts := C.2.2.2.2
  have hS : va_S (z_A G s.heap.size) s.heap s.heap [] := va_S.rf
  have hl : lv_has ls 8 [(0, .int (x0)), (1, .int (x1)), (2, .int (x2)), (3, .int (x3))] := hl
  unfold f_X3_clearestOfAllLevers_v2 at h
  refine lv_iload_n hx hb dX3_clearestOfAllLevers_0 rfl (lv_at hl 0 rfl) ?_
  refine lv_if_gt (tgt := 6) hx hb dX3_clearestOfAllLevers_1 (by decide) (fun hc1 => ?_) (fun hc1 => ?_)
  · have h := z_ip hc1 h
    refine lv_iconst (v := (-1)) hx hb dX3_clearestOfAllLevers_6 (by decide) ?_
    refine lv_istore (lv' := [(4, .int ((-1))), (0, .int (x0)), (1, .int (x1)), (2, .int (x2)), (3, .int (x3))]) hx hb dX3_clearestOfAllLevers_7 hl (by decide) rfl (fun ls hl => ?_)
    refine lv_iconst (v := 1) hx hb dX3_clearestOfAllLevers_9 (by decide) ?_
    refine lv_istore (lv' := [(5, .int (1)), (4, .int ((-1))), (0, .int (x0)), (1, .int (x1)), (2, .int (x2)), (3, .int (x3))]) hx hb dX3_clearestOfAllLevers_10 hl (by decide) rfl (fun ls hl => ?_)
    exact L_X3_clearestOfAllLevers_v2_b12 C hr hlk Z z_F _ _ _ _ _ _ _ h _ _ hP hS ls (lv_sub hl [2, 3, 4, 5, 1, 0] rfl)
  · have h := z_in hc1 h
    refine lv_iload_n hx hb dX3_clearestOfAllLevers_4 rfl (lv_at hl 2 rfl) ?_
    cases h
    exact z_reti C hr hlk hP hS dX3_clearestOfAllLevers_5
abbrev rm_X3_clearestOfAllLevers_v3 : Room := { frames := 5, cells := 0, slots := 0, locals := 124 }
theorem hd_X3_clearestOfAllLevers_v3 : yX3_clearestOfAllLevers.cls ≠ "java/lang/invoke/MethodHandle" ∧ yX3_clearestOfAllLevers.cls ≠ "java/lang/invoke/VarHandle" ∧ (parseMethodDescriptor yX3_clearestOfAllLevers.desc).map (fun d => d.parameters.length) = some 4 := by decide +kernel
theorem hv_X3_clearestOfAllLevers_v3 : yX3_clearestOfAllLevers.cls = RX3 ∧ yX3_clearestOfAllLevers.cls ≠ "java/lang/invoke/MethodHandle" ∧ yX3_clearestOfAllLevers.cls ≠ "java/lang/invoke/VarHandle" ∧ (parseMethodDescriptor yX3_clearestOfAllLevers.desc).map (fun d => d.parameters.length) = some 4 := ⟨rfl, hd_X3_clearestOfAllLevers_v3⟩
theorem wX3_clearestOfAllLevers_v3_0 : Cond.methodLink RX3 290 Lib.Math.max.name ∈ wsX3_clearestOfAllLevers := by decide +kernel
theorem wX3_clearestOfAllLevers_v3_1 : Cond.static Lib.Math.max.name ∈ wsX3_clearestOfAllLevers := by decide +kernel
theorem wX3_clearestOfAllLevers_v3_2 : Cond.initialized "java/lang/Math" ∈ wsX3_clearestOfAllLevers := by decide +kernel
theorem wX3_clearestOfAllLevers_v3_3 : Cond.code Lib.Math.max.name Lib.Math.max.code 2 (some .int) ∈ wsX3_clearestOfAllLevers := by decide +kernel
set_option maxHeartbeats 8000000 in
set_option maxRecDepth 100000 in
theorem L_X3_clearestOfAllLevers_v3_b12 {p : Program} {l : Launch} {e : Env} {s : State} {m : MethodId} {args : Array Value} {below : List Frame} {meth : Method} {c : Code} {G : zG} {r : Int32} {mu1 : Mm}  (C : CallFix p m c cX3_clearestOfAllLevers 8 s args wsX3_clearestOfAllLevers RX3) (hr : meth.sig.returnType = (some .int)) (hlk : meth.locks = false) (Z : z_Z G (z_A G s.heap.size) s)  :
    ∀ (n : Nat) (x0 : Int32) (x1 : Int32) (x2 : Int32) (x3 : Int32) (x4 : Int32) (x5 : Int32) (μ : Mm), f_X3_clearestOfAllLevers_v3_b12  n x0 x1 x2 x3 x4 x5 μ = some (r, mu1) → ∀ (H : Heap) (locs : List Loc), z_P G μ H → va_S (z_A G s.heap.size) s.heap H locs → ∀ ls : Array Slot, lv_has ls 8 [(0, .int (x0)), (1, .int (x1)), (2, .int (x2)), (3, .int (x3)), (4, .int (x4)), (5, .int (x5))] → W p l e rm_X3_clearestOfAllLevers_v3 s m args below meth c H locs 0 0 (MQ below (z_Qi G r mu1 s.heap.size) args s 0 0 (z_A G s.heap.size)) (F0 m 12 ls []) := by
  have hx := C.1
  have hb := C.2.1
  have hts := C.2.2.2.2
  intro n
  induction n with
  | zero =>
    intro x0 x1 x2 x3 x4 x5 μ h
    rw [f_X3_clearestOfAllLevers_v3_b12] at h
    cases h
  | succ n ih =>
    intro x0 x1 x2 x3 x4 x5 μ h H locs hP hS ls hl
    rw [f_X3_clearestOfAllLevers_v3_b12] at h
    refine lv_iload hx hb dX3_clearestOfAllLevers_12 (lv_at hl 5 rfl) ?_
    refine lv_iconst (v := 3) hx hb dX3_clearestOfAllLevers_14 (by decide) ?_
    refine lv_icmp_gt (tgt := 65) hx hb dX3_clearestOfAllLevers_15 (by decide) (fun hc2 => ?_) (fun hc2 => ?_)
    · have h := z_ip hc2 h
      refine lv_iload hx hb dX3_clearestOfAllLevers_65 (lv_at hl 4 rfl) ?_
      cases h
      exact z_reti C hr hlk hP hS dX3_clearestOfAllLevers_67
    · have h := z_in hc2 h
      refine lv_iload_n hx hb dX3_clearestOfAllLevers_18 rfl (lv_at hl 1 rfl) ?_
      refine lv_iload hx hb dX3_clearestOfAllLevers_19 (lv_at hl 5 rfl) ?_
      obtain ⟨r3, m4, e5, h⟩ := zb_some h
      refine z_calli hS (va_runS (As := [.int (x1), .int (x5)]) (rest := []) C (c_X3_copiedDepth l G e5 _) (va_cwS 2 hts gX3_clearestOfAllLevers_X3_copiedDepth rfl rfl rfl hd_X3_copiedDepth ⟨Nat.le_of_ble_eq_true rfl, Nat.le_of_ble_eq_true rfl⟩) (z_preS Z hS hP) rfl rfl hl.1 rfl (lv_room (Nat.le_of_ble_eq_true rfl)) dX3_clearestOfAllLevers_21 ⟨Nat.zero_le _, Nat.zero_le _⟩) (fun H locs hP hS => ?_)
      refine lv_istore (lv' := [(6, .int (r3)), (0, .int (x0)), (1, .int (x1)), (2, .int (x2)), (3, .int (x3)), (4, .int (x4)), (5, .int (x5))]) hx hb dX3_clearestOfAllLevers_24 hl (by decide) rfl (fun ls hl => ?_)
      refine lv_iload_n hx hb dX3_clearestOfAllLevers_26 rfl (lv_at hl 3 rfl) ?_
      refine lv_iload hx hb dX3_clearestOfAllLevers_27 (lv_at hl 6 rfl) ?_
      refine lv_iload_n hx hb dX3_clearestOfAllLevers_29 rfl (lv_at hl 4 rfl) ?_
      refine lv_iconst (v := 0) hx hb dX3_clearestOfAllLevers_30 (by decide) ?_
      obtain ⟨r6, m7, e8, h⟩ := zb_some h
      refine z_calli hS (va_runS (As := [.int (x2), .int (x5), .int (x3), .int (0)]) (rest := []) C (c_X3_copiedClearness l G e8 _) (va_cwS 4 hts gX3_clearestOfAllLevers_X3_copiedClearness rfl rfl rfl hd_X3_copiedClearness ⟨Nat.le_of_ble_eq_true rfl, Nat.le_of_ble_eq_true rfl⟩) (z_preS Z hS hP) rfl rfl hl.1 rfl (lv_room (Nat.le_of_ble_eq_true rfl)) dX3_clearestOfAllLevers_31 ⟨Nat.zero_le _, Nat.zero_le _⟩) (fun H locs hP hS => ?_)
      refine lv_istore (lv' := [(7, .int (r6)), (6, .int (r3)), (0, .int (x0)), (1, .int (x1)), (2, .int (x2)), (3, .int (x3)), (4, .int (x4)), (5, .int (x5))]) hx hb dX3_clearestOfAllLevers_34 hl (by decide) rfl (fun ls hl => ?_)
      refine lv_iload hx hb dX3_clearestOfAllLevers_36 (lv_at hl 6 rfl) ?_
      refine lv_iload_n hx hb dX3_clearestOfAllLevers_38 rfl (lv_at hl 2 rfl) ?_
      refine lv_iconst (v := 1) hx hb dX3_clearestOfAllLevers_39 (by decide) ?_
      refine lv_isub hx hb dX3_clearestOfAllLevers_40 ?_
      refine lv_iload hx hb dX3_clearestOfAllLevers_41 (lv_at hl 1 rfl) ?_
      refine lv_iload hx hb dX3_clearestOfAllLevers_43 (lv_at hl 0 rfl) ?_
      refine lv_iload_n hx hb dX3_clearestOfAllLevers_45 rfl (lv_at hl 5 rfl) ?_
      refine lv_iload hx hb dX3_clearestOfAllLevers_46 (lv_at hl 1 rfl) ?_
      obtain ⟨r9, m10, e11, h⟩ := zb_some h
      refine z_calli hS (va_runS (As := [.int (x3), .int (r3)]) (rest := [.int (r6), .int (r3), .int ((x0 - 1)), .int (x4)]) C (c_X3_sharpnessAfter l G e11 _) (va_cwS 2 hts gX3_clearestOfAllLevers_X3_sharpnessAfter rfl rfl rfl hd_X3_sharpnessAfter ⟨Nat.le_of_ble_eq_true rfl, Nat.le_of_ble_eq_true rfl⟩) (z_preS Z hS hP) rfl rfl hl.1 rfl (lv_room (Nat.le_of_ble_eq_true rfl)) dX3_clearestOfAllLevers_48 ⟨Nat.zero_le _, Nat.zero_le _⟩) (fun H locs hP hS => ?_)
      obtain ⟨r12, m13, e14, h⟩ := zb_some h
      refine z_calli hS (va_runS (As := [.int ((x0 - 1)), .int (r3), .int (r6), .int (r9)]) (rest := [.int (x4)]) C (c_X3_clearestOfAllLevers_v2 l G e14 _) (va_cwS 4 hts gX3_clearestOfAllLevers_X3_clearestOfAllLevers rfl rfl rfl hd_X3_clearestOfAllLevers_v2 ⟨Nat.le_of_ble_eq_true rfl, Nat.le_of_ble_eq_true rfl⟩) (z_preS Z hS hP) rfl rfl hl.1 rfl (lv_room (Nat.le_of_ble_eq_true rfl)) dX3_clearestOfAllLevers_51 ⟨Nat.zero_le _, Nat.zero_le _⟩) (fun H locs hP hS => ?_)
      refine va_mmax hx hb (C.2.2.1.trans hl.1.symm) C.2.2.2.1 (C.2.2.2.2 _ wX3_clearestOfAllLevers_v3_0) (C.2.2.2.2 _ wX3_clearestOfAllLevers_v3_1) (C.2.2.2.2 _ wX3_clearestOfAllLevers_v3_2) (C.2.2.2.2 _ wX3_clearestOfAllLevers_v3_3) (Nat.le_of_ble_eq_true rfl) (Nat.le_of_ble_eq_true rfl) (Nat.zero_le _) (Nat.zero_le _) dX3_clearestOfAllLevers_54 ?_
      refine lv_istore (lv' := [(4, .int ((if x4 < r12 then r12 else x4))), (7, .int (r6)), (6, .int (r3)), (0, .int (x0)), (1, .int (x1)), (2, .int (x2)), (3, .int (x3)), (5, .int (x5))]) hx hb dX3_clearestOfAllLevers_57 hl (by decide) rfl (fun ls hl => ?_)
      refine lv_iinc (v := (x5 + 1)) (lv' := [(5, .int ((x5 + 1))), (4, .int ((if x4 < r12 then r12 else x4))), (7, .int (r6)), (6, .int (r3)), (0, .int (x0)), (1, .int (x1)), (2, .int (x2)), (3, .int (x3))]) hx hb dX3_clearestOfAllLevers_59 hl (k := 7) rfl rfl (by decide) rfl (fun ls hl => ?_)
      refine lv_goto (tgt := 12) hx hb dX3_clearestOfAllLevers_62 (by decide) ?_
      exact ih _ _ _ _ _ _ _ h _ _ hP hS ls (lv_sub hl [4, 5, 6, 7, 1, 0] rfl)
set_option maxHeartbeats 4000000 in
set_option maxRecDepth 100000 in
theorem c_X3_clearestOfAllLevers_v3 (l : Launch) (G : zG) {x0 : Int32} {x1 : Int32} {x2 : Int32} {x3 : Int32} {μ mu1 : Mm} {r : Int32} (h : f_X3_clearestOfAllLevers_v3 x0 x1 x2 x3 μ = some (r, mu1)) (sz : Nat) : Met l yX3_clearestOfAllLevers wsX3_clearestOfAllLevers rm_X3_clearestOfAllLevers_v3 (z_Pre G μ [.int (x0), .int (x1), .int (x2), .int (x3)] sz) (z_Qi G r mu1 sz) 0 0 (z_A G sz) := by
  refine z_start (cc := cX3_clearestOfAllLevers) (maxL := 8) (ret := (some .int)) (own := RX3) (by decide) rfl rfl (Nat.le_of_ble_eq_true rfl) (fun p e s m args below meth c C hr hlk Z hP ls hl => ?_) sz
  have hx := C.1
  have hb := C.2.1
  have hts := C.2.2.2.2
  have hS : va_S (z_A G s.heap.size) s.heap s.heap [] := va_S.rf
  have hl : lv_has ls 8 [(0, .int (x0)), (1, .int (x1)), (2, .int (x2)), (3, .int (x3))] := hl
  unfold f_X3_clearestOfAllLevers_v3 at h
  refine lv_iload_n hx hb dX3_clearestOfAllLevers_0 rfl (lv_at hl 0 rfl) ?_
  refine lv_if_gt (tgt := 6) hx hb dX3_clearestOfAllLevers_1 (by decide) (fun hc1 => ?_) (fun hc1 => ?_)
  · have h := z_ip hc1 h
    refine lv_iconst (v := (-1)) hx hb dX3_clearestOfAllLevers_6 (by decide) ?_
    refine lv_istore (lv' := [(4, .int ((-1))), (0, .int (x0)), (1, .int (x1)), (2, .int (x2)), (3, .int (x3))]) hx hb dX3_clearestOfAllLevers_7 hl (by decide) rfl (fun ls hl => ?_)
    refine lv_iconst (v := 1) hx hb dX3_clearestOfAllLevers_9 (by decide) ?_
    refine lv_istore (lv' := [(5, .int (1)), (4, .int ((-1))), (0, .int (x0)), (1, .int (x1)), (2, .int (x2)), (3, .int (x3))]) hx hb dX3_clearestOfAllLevers_10 hl (by decide) rfl (fun ls hl => ?_)
    exact L_X3_clearestOfAllLevers_v3_b12 C hr hlk Z z_F _ _ _ _ _ _ _ h _ _ hP hS ls (lv_sub hl [2, 3, 4, 5, 1, 0] rfl)
  · have h := z_in hc1 h
    refine lv_iload_n hx hb dX3_clearestOfAllLevers_4 rfl (lv_at hl 2 rfl) ?_
    cases h
    exact z_reti C hr hlk hP hS dX3_clearestOfAllLevers_5
abbrev rm_X3_clearestOfAllLevers_v4 : Room := { frames := 6, cells := 0, slots := 0, locals := 151 }
theorem hd_X3_clearestOfAllLevers_v4 : yX3_clearestOfAllLevers.cls ≠ "java/lang/invoke/MethodHandle" ∧ yX3_clearestOfAllLevers.cls ≠ "java/lang/invoke/VarHandle" ∧ (parseMethodDescriptor yX3_clearestOfAllLevers.desc).map (fun d => d.parameters.length) = some 4 := by decide +kernel
theorem hv_X3_clearestOfAllLevers_v4 : yX3_clearestOfAllLevers.cls = RX3 ∧ yX3_clearestOfAllLevers.cls ≠ "java/lang/invoke/MethodHandle" ∧ yX3_clearestOfAllLevers.cls ≠ "java/lang/invoke/VarHandle" ∧ (parseMethodDescriptor yX3_clearestOfAllLevers.desc).map (fun d => d.parameters.length) = some 4 := ⟨rfl, hd_X3_clearestOfAllLevers_v4⟩
theorem wX3_clearestOfAllLevers_v4_0 : Cond.methodLink RX3 290 Lib.Math.max.name ∈ wsX3_clearestOfAllLevers := by decide +kernel
theorem wX3_clearestOfAllLevers_v4_1 : Cond.static Lib.Math.max.name ∈ wsX3_clearestOfAllLevers := by decide +kernel
theorem wX3_clearestOfAllLevers_v4_2 : Cond.initialized "java/lang/Math" ∈ wsX3_clearestOfAllLevers := by decide +kernel
theorem wX3_clearestOfAllLevers_v4_3 : Cond.code Lib.Math.max.name Lib.Math.max.code 2 (some .int) ∈ wsX3_clearestOfAllLevers := by decide +kernel
set_option maxHeartbeats 8000000 in
set_option maxRecDepth 100000 in
theorem L_X3_clearestOfAllLevers_v4_b12 {p : Program} {l : Launch} {e : Env} {s : State} {m : MethodId} {args : Array Value} {below : List Frame} {meth : Method} {c : Code} {G : zG} {r : Int32} {mu1 : Mm}  (C : CallFix p m c cX3_clearestOfAllLevers 8 s args wsX3_clearestOfAllLevers RX3) (hr : meth.sig.returnType = (some .int)) (hlk : meth.locks = false) (Z : z_Z G (z_A G s.heap.size) s)  :
    ∀ (n : Nat) (x0 : Int32) (x1 : Int32) (x2 : Int32) (x3 : Int32) (x4 : Int32) (x5 : Int32) (μ : Mm), f_X3_clearestOfAllLevers_v4_b12  n x0 x1 x2 x3 x4 x5 μ = some (r, mu1) → ∀ (H : Heap) (locs : List Loc), z_P G μ H → va_S (z_A G s.heap.size) s.heap H locs → ∀ ls : Array Slot, lv_has ls 8 [(0, .int (x0)), (1, .int (x1)), (2, .int (x2)), (3, .int (x3)), (4, .int (x4)), (5, .int (x5))] → W p l e rm_X3_clearestOfAllLevers_v4 s m args below meth c H locs 0 0 (MQ below (z_Qi G r mu1 s.heap.size) args s 0 0 (z_A G s.heap.size)) (F0 m 12 ls []) := by
  have hx := C.1
  have hb := C.2.1
  have hts := C.2.2.2.2
  intro n
  induction n with
  | zero =>
    intro x0 x1 x2 x3 x4 x5 μ h
    rw [f_X3_clearestOfAllLevers_v4_b12] at h
    cases h
  | succ n ih =>
    intro x0 x1 x2 x3 x4 x5 μ h H locs hP hS ls hl
    rw [f_X3_clearestOfAllLevers_v4_b12] at h
    refine lv_iload hx hb dX3_clearestOfAllLevers_12 (lv_at hl 5 rfl) ?_
    refine lv_iconst (v := 3) hx hb dX3_clearestOfAllLevers_14 (by decide) ?_
    refine lv_icmp_gt (tgt := 65) hx hb dX3_clearestOfAllLevers_15 (by decide) (fun hc2 => ?_) (fun hc2 => ?_)
    · have h := z_ip hc2 h
      refine lv_iload hx hb dX3_clearestOfAllLevers_65 (lv_at hl 4 rfl) ?_
      cases h
      exact z_reti C hr hlk hP hS dX3_clearestOfAllLevers_67
    · have h := z_in hc2 h
      refine lv_iload_n hx hb dX3_clearestOfAllLevers_18 rfl (lv_at hl 1 rfl) ?_
      refine lv_iload hx hb dX3_clearestOfAllLevers_19 (lv_at hl 5 rfl) ?_
      obtain ⟨r3, m4, e5, h⟩ := zb_some h
      refine z_calli hS (va_runS (As := [.int (x1), .int (x5)]) (rest := []) C (c_X3_copiedDepth l G e5 _) (va_cwS 2 hts gX3_clearestOfAllLevers_X3_copiedDepth rfl rfl rfl hd_X3_copiedDepth ⟨Nat.le_of_ble_eq_true rfl, Nat.le_of_ble_eq_true rfl⟩) (z_preS Z hS hP) rfl rfl hl.1 rfl (lv_room (Nat.le_of_ble_eq_true rfl)) dX3_clearestOfAllLevers_21 ⟨Nat.zero_le _, Nat.zero_le _⟩) (fun H locs hP hS => ?_)
      refine lv_istore (lv' := [(6, .int (r3)), (0, .int (x0)), (1, .int (x1)), (2, .int (x2)), (3, .int (x3)), (4, .int (x4)), (5, .int (x5))]) hx hb dX3_clearestOfAllLevers_24 hl (by decide) rfl (fun ls hl => ?_)
      refine lv_iload_n hx hb dX3_clearestOfAllLevers_26 rfl (lv_at hl 3 rfl) ?_
      refine lv_iload hx hb dX3_clearestOfAllLevers_27 (lv_at hl 6 rfl) ?_
      refine lv_iload_n hx hb dX3_clearestOfAllLevers_29 rfl (lv_at hl 4 rfl) ?_
      refine lv_iconst (v := 0) hx hb dX3_clearestOfAllLevers_30 (by decide) ?_
      obtain ⟨r6, m7, e8, h⟩ := zb_some h
      refine z_calli hS (va_runS (As := [.int (x2), .int (x5), .int (x3), .int (0)]) (rest := []) C (c_X3_copiedClearness l G e8 _) (va_cwS 4 hts gX3_clearestOfAllLevers_X3_copiedClearness rfl rfl rfl hd_X3_copiedClearness ⟨Nat.le_of_ble_eq_true rfl, Nat.le_of_ble_eq_true rfl⟩) (z_preS Z hS hP) rfl rfl hl.1 rfl (lv_room (Nat.le_of_ble_eq_true rfl)) dX3_clearestOfAllLevers_31 ⟨Nat.zero_le _, Nat.zero_le _⟩) (fun H locs hP hS => ?_)
      refine lv_istore (lv' := [(7, .int (r6)), (6, .int (r3)), (0, .int (x0)), (1, .int (x1)), (2, .int (x2)), (3, .int (x3)), (4, .int (x4)), (5, .int (x5))]) hx hb dX3_clearestOfAllLevers_34 hl (by decide) rfl (fun ls hl => ?_)
      refine lv_iload hx hb dX3_clearestOfAllLevers_36 (lv_at hl 6 rfl) ?_
      refine lv_iload_n hx hb dX3_clearestOfAllLevers_38 rfl (lv_at hl 2 rfl) ?_
      refine lv_iconst (v := 1) hx hb dX3_clearestOfAllLevers_39 (by decide) ?_
      refine lv_isub hx hb dX3_clearestOfAllLevers_40 ?_
      refine lv_iload hx hb dX3_clearestOfAllLevers_41 (lv_at hl 1 rfl) ?_
      refine lv_iload hx hb dX3_clearestOfAllLevers_43 (lv_at hl 0 rfl) ?_
      refine lv_iload_n hx hb dX3_clearestOfAllLevers_45 rfl (lv_at hl 5 rfl) ?_
      refine lv_iload hx hb dX3_clearestOfAllLevers_46 (lv_at hl 1 rfl) ?_
      obtain ⟨r9, m10, e11, h⟩ := zb_some h
      refine z_calli hS (va_runS (As := [.int (x3), .int (r3)]) (rest := [.int (r6), .int (r3), .int ((x0 - 1)), .int (x4)]) C (c_X3_sharpnessAfter l G e11 _) (va_cwS 2 hts gX3_clearestOfAllLevers_X3_sharpnessAfter rfl rfl rfl hd_X3_sharpnessAfter ⟨Nat.le_of_ble_eq_true rfl, Nat.le_of_ble_eq_true rfl⟩) (z_preS Z hS hP) rfl rfl hl.1 rfl (lv_room (Nat.le_of_ble_eq_true rfl)) dX3_clearestOfAllLevers_48 ⟨Nat.zero_le _, Nat.zero_le _⟩) (fun H locs hP hS => ?_)
      obtain ⟨r12, m13, e14, h⟩ := zb_some h
      refine z_calli hS (va_runS (As := [.int ((x0 - 1)), .int (r3), .int (r6), .int (r9)]) (rest := [.int (x4)]) C (c_X3_clearestOfAllLevers_v3 l G e14 _) (va_cwS 4 hts gX3_clearestOfAllLevers_X3_clearestOfAllLevers rfl rfl rfl hd_X3_clearestOfAllLevers_v3 ⟨Nat.le_of_ble_eq_true rfl, Nat.le_of_ble_eq_true rfl⟩) (z_preS Z hS hP) rfl rfl hl.1 rfl (lv_room (Nat.le_of_ble_eq_true rfl)) dX3_clearestOfAllLevers_51 ⟨Nat.zero_le _, Nat.zero_le _⟩) (fun H locs hP hS => ?_)
      refine va_mmax hx hb (C.2.2.1.trans hl.1.symm) C.2.2.2.1 (C.2.2.2.2 _ wX3_clearestOfAllLevers_v4_0) (C.2.2.2.2 _ wX3_clearestOfAllLevers_v4_1) (C.2.2.2.2 _ wX3_clearestOfAllLevers_v4_2) (C.2.2.2.2 _ wX3_clearestOfAllLevers_v4_3) (Nat.le_of_ble_eq_true rfl) (Nat.le_of_ble_eq_true rfl) (Nat.zero_le _) (Nat.zero_le _) dX3_clearestOfAllLevers_54 ?_
      refine lv_istore (lv' := [(4, .int ((if x4 < r12 then r12 else x4))), (7, .int (r6)), (6, .int (r3)), (0, .int (x0)), (1, .int (x1)), (2, .int (x2)), (3, .int (x3)), (5, .int (x5))]) hx hb dX3_clearestOfAllLevers_57 hl (by decide) rfl (fun ls hl => ?_)
      refine lv_iinc (v := (x5 + 1)) (lv' := [(5, .int ((x5 + 1))), (4, .int ((if x4 < r12 then r12 else x4))), (7, .int (r6)), (6, .int (r3)), (0, .int (x0)), (1, .int (x1)), (2, .int (x2)), (3, .int (x3))]) hx hb dX3_clearestOfAllLevers_59 hl (k := 7) rfl rfl (by decide) rfl (fun ls hl => ?_)
      refine lv_goto (tgt := 12) hx hb dX3_clearestOfAllLevers_62 (by decide) ?_
      exact ih _ _ _ _ _ _ _ h _ _ hP hS ls (lv_sub hl [4, 5, 6, 7, 1, 0] rfl)
set_option maxHeartbeats 4000000 in
set_option maxRecDepth 100000 in
theorem c_X3_clearestOfAllLevers_v4 (l : Launch) (G : zG) {x0 : Int32} {x1 : Int32} {x2 : Int32} {x3 : Int32} {μ mu1 : Mm} {r : Int32} (h : f_X3_clearestOfAllLevers_v4 x0 x1 x2 x3 μ = some (r, mu1)) (sz : Nat) : Met l yX3_clearestOfAllLevers wsX3_clearestOfAllLevers rm_X3_clearestOfAllLevers_v4 (z_Pre G μ [.int (x0), .int (x1), .int (x2), .int (x3)] sz) (z_Qi G r mu1 sz) 0 0 (z_A G sz) := by
  refine z_start (cc := cX3_clearestOfAllLevers) (maxL := 8) (ret := (some .int)) (own := RX3) (by decide) rfl rfl (Nat.le_of_ble_eq_true rfl) (fun p e s m args below meth c C hr hlk Z hP ls hl => ?_) sz
  have hx := C.1
  have hb := C.2.1
  have hts := C.2.2.2.2
  have hS : va_S (z_A G s.heap.size) s.heap s.heap [] := va_S.rf
  have hl : lv_has ls 8 [(0, .int (x0)), (1, .int (x1)), (2, .int (x2)), (3, .int (x3))] := hl
  unfold f_X3_clearestOfAllLevers_v4 at h
  refine lv_iload_n hx hb dX3_clearestOfAllLevers_0 rfl (lv_at hl 0 rfl) ?_
  refine lv_if_gt (tgt := 6) hx hb dX3_clearestOfAllLevers_1 (by decide) (fun hc1 => ?_) (fun hc1 => ?_)
  · have h := z_ip hc1 h
    refine lv_iconst (v := (-1)) hx hb dX3_clearestOfAllLevers_6 (by decide) ?_
    refine lv_istore (lv' := [(4, .int ((-1))), (0, .int (x0)), (1, .int (x1)), (2, .int (x2)), (3, .int (x3))]) hx hb dX3_clearestOfAllLevers_7 hl (by decide) rfl (fun ls hl => ?_)
    refine lv_iconst (v := 1) hx hb dX3_clearestOfAllLevers_9 (by decide) ?_
    refine lv_istore (lv' := [(5, .int (1)), (4, .int ((-1))), (0, .int (x0)), (1, .int (x1)), (2, .int (x2)), (3, .int (x3))]) hx hb dX3_clearestOfAllLevers_10 hl (by decide) rfl (fun ls hl => ?_)
    exact L_X3_clearestOfAllLevers_v4_b12 C hr hlk Z z_F _ _ _ _ _ _ _ h _ _ hP hS ls (lv_sub hl [2, 3, 4, 5, 1, 0] rfl)
  · have h := z_in hc1 h
    refine lv_iload_n hx hb dX3_clearestOfAllLevers_4 rfl (lv_at hl 2 rfl) ?_
    cases h
    exact z_reti C hr hlk hP hS dX3_clearestOfAllLevers_5
abbrev rm_X3_clearestOfAllLevers_v5 : Room := { frames := 7, cells := 0, slots := 0, locals := 178 }
theorem hd_X3_clearestOfAllLevers_v5 : yX3_clearestOfAllLevers.cls ≠ "java/lang/invoke/MethodHandle" ∧ yX3_clearestOfAllLevers.cls ≠ "java/lang/invoke/VarHandle" ∧ (parseMethodDescriptor yX3_clearestOfAllLevers.desc).map (fun d => d.parameters.length) = some 4 := by decide +kernel
theorem hv_X3_clearestOfAllLevers_v5 : yX3_clearestOfAllLevers.cls = RX3 ∧ yX3_clearestOfAllLevers.cls ≠ "java/lang/invoke/MethodHandle" ∧ yX3_clearestOfAllLevers.cls ≠ "java/lang/invoke/VarHandle" ∧ (parseMethodDescriptor yX3_clearestOfAllLevers.desc).map (fun d => d.parameters.length) = some 4 := ⟨rfl, hd_X3_clearestOfAllLevers_v5⟩
theorem wX3_clearestOfAllLevers_v5_0 : Cond.methodLink RX3 290 Lib.Math.max.name ∈ wsX3_clearestOfAllLevers := by decide +kernel
theorem wX3_clearestOfAllLevers_v5_1 : Cond.static Lib.Math.max.name ∈ wsX3_clearestOfAllLevers := by decide +kernel
theorem wX3_clearestOfAllLevers_v5_2 : Cond.initialized "java/lang/Math" ∈ wsX3_clearestOfAllLevers := by decide +kernel
theorem wX3_clearestOfAllLevers_v5_3 : Cond.code Lib.Math.max.name Lib.Math.max.code 2 (some .int) ∈ wsX3_clearestOfAllLevers := by decide +kernel
set_option maxHeartbeats 8000000 in
set_option maxRecDepth 100000 in
theorem L_X3_clearestOfAllLevers_v5_b12 {p : Program} {l : Launch} {e : Env} {s : State} {m : MethodId} {args : Array Value} {below : List Frame} {meth : Method} {c : Code} {G : zG} {r : Int32} {mu1 : Mm}  (C : CallFix p m c cX3_clearestOfAllLevers 8 s args wsX3_clearestOfAllLevers RX3) (hr : meth.sig.returnType = (some .int)) (hlk : meth.locks = false) (Z : z_Z G (z_A G s.heap.size) s)  :
    ∀ (n : Nat) (x0 : Int32) (x1 : Int32) (x2 : Int32) (x3 : Int32) (x4 : Int32) (x5 : Int32) (μ : Mm), f_X3_clearestOfAllLevers_v5_b12  n x0 x1 x2 x3 x4 x5 μ = some (r, mu1) → ∀ (H : Heap) (locs : List Loc), z_P G μ H → va_S (z_A G s.heap.size) s.heap H locs → ∀ ls : Array Slot, lv_has ls 8 [(0, .int (x0)), (1, .int (x1)), (2, .int (x2)), (3, .int (x3)), (4, .int (x4)), (5, .int (x5))] → W p l e rm_X3_clearestOfAllLevers_v5 s m args below meth c H locs 0 0 (MQ below (z_Qi G r mu1 s.heap.size) args s 0 0 (z_A G s.heap.size)) (F0 m 12 ls []) := by
  have hx := C.1
  have hb := C.2.1
  have hts := C.2.2.2.2
  intro n
  induction n with
  | zero =>
    intro x0 x1 x2 x3 x4 x5 μ h
    rw [f_X3_clearestOfAllLevers_v5_b12] at h
    cases h
  | succ n ih =>
    intro x0 x1 x2 x3 x4 x5 μ h H locs hP hS ls hl
    rw [f_X3_clearestOfAllLevers_v5_b12] at h
    refine lv_iload hx hb dX3_clearestOfAllLevers_12 (lv_at hl 5 rfl) ?_
    refine lv_iconst (v := 3) hx hb dX3_clearestOfAllLevers_14 (by decide) ?_
    refine lv_icmp_gt (tgt := 65) hx hb dX3_clearestOfAllLevers_15 (by decide) (fun hc2 => ?_) (fun hc2 => ?_)
    · have h := z_ip hc2 h
      refine lv_iload hx hb dX3_clearestOfAllLevers_65 (lv_at hl 4 rfl) ?_
      cases h
      exact z_reti C hr hlk hP hS dX3_clearestOfAllLevers_67
    · have h := z_in hc2 h
      refine lv_iload_n hx hb dX3_clearestOfAllLevers_18 rfl (lv_at hl 1 rfl) ?_
      refine lv_iload hx hb dX3_clearestOfAllLevers_19 (lv_at hl 5 rfl) ?_
      obtain ⟨r3, m4, e5, h⟩ := zb_some h
      refine z_calli hS (va_runS (As := [.int (x1), .int (x5)]) (rest := []) C (c_X3_copiedDepth l G e5 _) (va_cwS 2 hts gX3_clearestOfAllLevers_X3_copiedDepth rfl rfl rfl hd_X3_copiedDepth ⟨Nat.le_of_ble_eq_true rfl, Nat.le_of_ble_eq_true rfl⟩) (z_preS Z hS hP) rfl rfl hl.1 rfl (lv_room (Nat.le_of_ble_eq_true rfl)) dX3_clearestOfAllLevers_21 ⟨Nat.zero_le _, Nat.zero_le _⟩) (fun H locs hP hS => ?_)
      refine lv_istore (lv' := [(6, .int (r3)), (0, .int (x0)), (1, .int (x1)), (2, .int (x2)), (3, .int (x3)), (4, .int (x4)), (5, .int (x5))]) hx hb dX3_clearestOfAllLevers_24 hl (by decide) rfl (fun ls hl => ?_)
      refine lv_iload_n hx hb dX3_clearestOfAllLevers_26 rfl (lv_at hl 3 rfl) ?_
      refine lv_iload hx hb dX3_clearestOfAllLevers_27 (lv_at hl 6 rfl) ?_
      refine lv_iload_n hx hb dX3_clearestOfAllLevers_29 rfl (lv_at hl 4 rfl) ?_
      refine lv_iconst (v := 0) hx hb dX3_clearestOfAllLevers_30 (by decide) ?_
      obtain ⟨r6, m7, e8, h⟩ := zb_some h
      refine z_calli hS (va_runS (As := [.int (x2), .int (x5), .int (x3), .int (0)]) (rest := []) C (c_X3_copiedClearness l G e8 _) (va_cwS 4 hts gX3_clearestOfAllLevers_X3_copiedClearness rfl rfl rfl hd_X3_copiedClearness ⟨Nat.le_of_ble_eq_true rfl, Nat.le_of_ble_eq_true rfl⟩) (z_preS Z hS hP) rfl rfl hl.1 rfl (lv_room (Nat.le_of_ble_eq_true rfl)) dX3_clearestOfAllLevers_31 ⟨Nat.zero_le _, Nat.zero_le _⟩) (fun H locs hP hS => ?_)
      refine lv_istore (lv' := [(7, .int (r6)), (6, .int (r3)), (0, .int (x0)), (1, .int (x1)), (2, .int (x2)), (3, .int (x3)), (4, .int (x4)), (5, .int (x5))]) hx hb dX3_clearestOfAllLevers_34 hl (by decide) rfl (fun ls hl => ?_)
      refine lv_iload hx hb dX3_clearestOfAllLevers_36 (lv_at hl 6 rfl) ?_
      refine lv_iload_n hx hb dX3_clearestOfAllLevers_38 rfl (lv_at hl 2 rfl) ?_
      refine lv_iconst (v := 1) hx hb dX3_clearestOfAllLevers_39 (by decide) ?_
      refine lv_isub hx hb dX3_clearestOfAllLevers_40 ?_
      refine lv_iload hx hb dX3_clearestOfAllLevers_41 (lv_at hl 1 rfl) ?_
      refine lv_iload hx hb dX3_clearestOfAllLevers_43 (lv_at hl 0 rfl) ?_
      refine lv_iload_n hx hb dX3_clearestOfAllLevers_45 rfl (lv_at hl 5 rfl) ?_
      refine lv_iload hx hb dX3_clearestOfAllLevers_46 (lv_at hl 1 rfl) ?_
      obtain ⟨r9, m10, e11, h⟩ := zb_some h
      refine z_calli hS (va_runS (As := [.int (x3), .int (r3)]) (rest := [.int (r6), .int (r3), .int ((x0 - 1)), .int (x4)]) C (c_X3_sharpnessAfter l G e11 _) (va_cwS 2 hts gX3_clearestOfAllLevers_X3_sharpnessAfter rfl rfl rfl hd_X3_sharpnessAfter ⟨Nat.le_of_ble_eq_true rfl, Nat.le_of_ble_eq_true rfl⟩) (z_preS Z hS hP) rfl rfl hl.1 rfl (lv_room (Nat.le_of_ble_eq_true rfl)) dX3_clearestOfAllLevers_48 ⟨Nat.zero_le _, Nat.zero_le _⟩) (fun H locs hP hS => ?_)
      obtain ⟨r12, m13, e14, h⟩ := zb_some h
      refine z_calli hS (va_runS (As := [.int ((x0 - 1)), .int (r3), .int (r6), .int (r9)]) (rest := [.int (x4)]) C (c_X3_clearestOfAllLevers_v4 l G e14 _) (va_cwS 4 hts gX3_clearestOfAllLevers_X3_clearestOfAllLevers rfl rfl rfl hd_X3_clearestOfAllLevers_v4 ⟨Nat.le_of_ble_eq_true rfl, Nat.le_of_ble_eq_true rfl⟩) (z_preS Z hS hP) rfl rfl hl.1 rfl (lv_room (Nat.le_of_ble_eq_true rfl)) dX3_clearestOfAllLevers_51 ⟨Nat.zero_le _, Nat.zero_le _⟩) (fun H locs hP hS => ?_)
      refine va_mmax hx hb (C.2.2.1.trans hl.1.symm) C.2.2.2.1 (C.2.2.2.2 _ wX3_clearestOfAllLevers_v5_0) (C.2.2.2.2 _ wX3_clearestOfAllLevers_v5_1) (C.2.2.2.2 _ wX3_clearestOfAllLevers_v5_2) (C.2.2.2.2 _ wX3_clearestOfAllLevers_v5_3) (Nat.le_of_ble_eq_true rfl) (Nat.le_of_ble_eq_true rfl) (Nat.zero_le _) (Nat.zero_le _) dX3_clearestOfAllLevers_54 ?_
      refine lv_istore (lv' := [(4, .int ((if x4 < r12 then r12 else x4))), (7, .int (r6)), (6, .int (r3)), (0, .int (x0)), (1, .int (x1)), (2, .int (x2)), (3, .int (x3)), (5, .int (x5))]) hx hb dX3_clearestOfAllLevers_57 hl (by decide) rfl (fun ls hl => ?_)
      refine lv_iinc (v := (x5 + 1)) (lv' := [(5, .int ((x5 + 1))), (4, .int ((if x4 < r12 then r12 else x4))), (7, .int (r6)), (6, .int (r3)), (0, .int (x0)), (1, .int (x1)), (2, .int (x2)), (3, .int (x3))]) hx hb dX3_clearestOfAllLevers_59 hl (k := 7) rfl rfl (by decide) rfl (fun ls hl => ?_)
      refine lv_goto (tgt := 12) hx hb dX3_clearestOfAllLevers_62 (by decide) ?_
      exact ih _ _ _ _ _ _ _ h _ _ hP hS ls (lv_sub hl [4, 5, 6, 7, 1, 0] rfl)
set_option maxHeartbeats 4000000 in
set_option maxRecDepth 100000 in
theorem c_X3_clearestOfAllLevers_v5 (l : Launch) (G : zG) {x0 : Int32} {x1 : Int32} {x2 : Int32} {x3 : Int32} {μ mu1 : Mm} {r : Int32} (h : f_X3_clearestOfAllLevers_v5 x0 x1 x2 x3 μ = some (r, mu1)) (sz : Nat) : Met l yX3_clearestOfAllLevers wsX3_clearestOfAllLevers rm_X3_clearestOfAllLevers_v5 (z_Pre G μ [.int (x0), .int (x1), .int (x2), .int (x3)] sz) (z_Qi G r mu1 sz) 0 0 (z_A G sz) := by
  refine z_start (cc := cX3_clearestOfAllLevers) (maxL := 8) (ret := (some .int)) (own := RX3) (by decide) rfl rfl (Nat.le_of_ble_eq_true rfl) (fun p e s m args below meth c C hr hlk Z hP ls hl => ?_) sz
  have hx := C.1
  have hb := C.2.1
  have hts := C.2.2.2.2
  have hS : va_S (z_A G s.heap.size) s.heap s.heap [] := va_S.rf
  have hl : lv_has ls 8 [(0, .int (x0)), (1, .int (x1)), (2, .int (x2)), (3, .int (x3))] := hl
  unfold f_X3_clearestOfAllLevers_v5 at h
  refine lv_iload_n hx hb dX3_clearestOfAllLevers_0 rfl (lv_at hl 0 rfl) ?_
  refine lv_if_gt (tgt := 6) hx hb dX3_clearestOfAllLevers_1 (by decide) (fun hc1 => ?_) (fun hc1 => ?_)
  · have h := z_ip hc1 h
    refine lv_iconst (v := (-1)) hx hb dX3_clearestOfAllLevers_6 (by decide) ?_
    refine lv_istore (lv' := [(4, .int ((-1))), (0, .int (x0)), (1, .int (x1)), (2, .int (x2)), (3, .int (x3))]) hx hb dX3_clearestOfAllLevers_7 hl (by decide) rfl (fun ls hl => ?_)
    refine lv_iconst (v := 1) hx hb dX3_clearestOfAllLevers_9 (by decide) ?_
    refine lv_istore (lv' := [(5, .int (1)), (4, .int ((-1))), (0, .int (x0)), (1, .int (x1)), (2, .int (x2)), (3, .int (x3))]) hx hb dX3_clearestOfAllLevers_10 hl (by decide) rfl (fun ls hl => ?_)
    exact L_X3_clearestOfAllLevers_v5_b12 C hr hlk Z z_F _ _ _ _ _ _ _ h _ _ hP hS ls (lv_sub hl [2, 3, 4, 5, 1, 0] rfl)
  · have h := z_in hc1 h
    refine lv_iload_n hx hb dX3_clearestOfAllLevers_4 rfl (lv_at hl 2 rfl) ?_
    cases h
    exact z_reti C hr hlk hP hS dX3_clearestOfAllLevers_5
abbrev rm_X3_chain : Room := { frames := 8, cells := 0, slots := 0, locals := 205 }
theorem hd_X3_chain : yX3_chain.cls ≠ "java/lang/invoke/MethodHandle" ∧ yX3_chain.cls ≠ "java/lang/invoke/VarHandle" ∧ (parseMethodDescriptor yX3_chain.desc).map (fun d => d.parameters.length) = some 3 := by decide +kernel
theorem hv_X3_chain : yX3_chain.cls = RX3 ∧ yX3_chain.cls ≠ "java/lang/invoke/MethodHandle" ∧ yX3_chain.cls ≠ "java/lang/invoke/VarHandle" ∧ (parseMethodDescriptor yX3_chain.desc).map (fun d => d.parameters.length) = some 3 := ⟨rfl, hd_X3_chain⟩
theorem wX3_chain_0 : Cond.fieldLink RX3 12 "WaxCopies" "now" "LWaxCopies$Wax;" ∈ wsX3_chain := by decide +kernel
theorem inX3_chain_X3 : ∀ w ∈ wsX30, w ∈ wsX3_chain := by decide +kernel
theorem wX3_chain_2 : Cond.fieldLink RX3 169 "WaxCopies$Wax" "depth" "[I" ∈ wsX3_chain := by decide +kernel
theorem inX3_chain_X2 : ∀ w ∈ wsX20, w ∈ wsX3_chain := by decide +kernel
theorem wX3_chain_4 : Cond.fieldLink RX3 173 "WaxCopies$Wax" "clearness" "[I" ∈ wsX3_chain := by decide +kernel
theorem wX3_chain_5 : Cond.fieldLink RX3 176 "WaxCopies$Wax" "sharpness" "I" ∈ wsX3_chain := by decide +kernel
theorem wX3_chain_6 : Cond.fieldLink RX3 41 "WaxCopies" "steps" "LWaxCopies$Steps;" ∈ wsX3_chain := by decide +kernel
set_option maxHeartbeats 4000000 in
set_option maxRecDepth 100000 in
theorem c_X3_chain (l : Launch) (G : zG) {x1 : Int32} {x2 : Int32} {x3 : Int32} {μ mu1 : Mm} {r : Int32} (h : f_X3_chain x1 x2 x3 μ = some (.inr r, mu1)) (sz : Nat) : Met l yX3_chain wsX3_chain rm_X3_chain (z_Pre G μ [.ref (G.2.1 (90)), .int (x1), .int (x2), .int (x3)] sz) (z_Qi G r mu1 sz) 0 0 (z_A G sz) := by
  refine z_start (cc := cX3_chain) (maxL := 6) (ret := (some .int)) (own := RX3) (by decide) rfl rfl (Nat.le_of_ble_eq_true rfl) (fun p e s m args below meth c C hr hlk Z hP ls hl => ?_) sz
  have hx := C.1
  have hb := C.2.1
  have hts := C.2.2.2.2
  have hS : va_S (z_A G s.heap.size) s.heap s.heap [] := va_S.rf
  have hl : lv_has ls 6 [(0, .ref (G.2.1 (90))), (1, .int (x1)), (2, .int (x2)), (3, .int (x3))] := hl
  unfold f_X3_chain at h
  refine lv_aload_n hx hb dX3_chain_0 rfl (lv_at hl 0 rfl) ?_
  refine lv_iload_n hx hb dX3_chain_1 rfl (lv_at hl 1 rfl) ?_
  obtain ⟨r1, m2, e3, h⟩ := zbx_r h
  refine z_callv hS (va_runV (As := [.int (x1)]) (rest := []) C (c_X3_checkTrack l G e3 _) (cwV 1 hts gX3_chain_X3_checkTrack rfl rfl rfl hv_X3_checkTrack ⟨Nat.le_of_ble_eq_true rfl, Nat.le_of_ble_eq_true rfl⟩) (z_preV Z hS hP (by decide) (z_E_90 _) rfl rfl) rfl rfl hl.1 rfl (lv_room (Nat.le_of_ble_eq_true rfl)) dX3_chain_2 ⟨Nat.zero_le _, Nat.zero_le _⟩) (fun H locs hP hS => ?_)
  refine lv_iload_n hx hb dX3_chain_5 rfl (lv_at hl 2 rfl) ?_
  refine lv_iconst (v := 1) hx hb dX3_chain_6 (by decide) ?_
  refine lv_icmp_lt (tgt := 15) hx hb dX3_chain_7 (by decide) (fun hc4 => ?_) (fun hc4 => ?_)
  · have h := z_ip hc4 h
    cases h
  · have h := z_in hc4 h
    refine lv_iload_n hx hb dX3_chain_10 rfl (lv_at hl 2 rfl) ?_
    refine lv_iconst (v := 5) hx hb dX3_chain_11 (by decide) ?_
    refine lv_icmp_le (tgt := 25) hx hb dX3_chain_12 (by decide) (fun hc5 => ?_) (fun hc5 => ?_)
    · have h := z_ip hc5 h
      refine lv_aload_n hx hb dX3_chain_25 rfl (lv_at hl 0 rfl) ?_
      refine lv_iload_n hx hb dX3_chain_26 rfl (lv_at hl 3 rfl) ?_
      refine lv_iconst (v := 2) hx hb dX3_chain_27 (by decide) ?_
      obtain ⟨r6, m7, e8, h⟩ := zbx_r h
      refine z_callv hS (va_runV (As := [.int (x3), .int (2)]) (rest := []) C (c_X3_checkWhat l G e8 _) (cwV 2 hts gX3_chain_X3_checkWhat rfl rfl rfl hv_X3_checkWhat ⟨Nat.le_of_ble_eq_true rfl, Nat.le_of_ble_eq_true rfl⟩) (z_preV Z hS hP (by decide) (z_E_90 _) rfl rfl) rfl rfl hl.1 rfl (lv_room (Nat.le_of_ble_eq_true rfl)) dX3_chain_28 ⟨Nat.zero_le _, Nat.zero_le _⟩) (fun H locs hP hS => ?_)
      refine lv_aload_n hx hb dX3_chain_31 rfl (lv_at hl 0 rfl) ?_
      refine z_get C Z hP (k := 90) (ci := 3) (j := 0) (N := 7) (v := .ref (G.2.1 (0))) (by decide) (z_E_90 _) rfl inX3_chain_X3 (by decide) wX3_chain_0 rfl dX3_chain_32 ?_
      refine lv_iload_n hx hb dX3_chain_35 rfl (lv_at hl 1 rfl) ?_
      obtain ⟨r9, m10, e11, h⟩ := zb_some h
      refine z_calli hS (va_runV (As := [.int (x1)]) (rest := []) C (c_X2_isCut l G e11 _) (cwV 1 hts gX3_chain_X2_isCut rfl rfl rfl hv_X2_isCut ⟨Nat.le_of_ble_eq_true rfl, Nat.le_of_ble_eq_true rfl⟩) (z_preV Z hS hP (by decide) (z_E_0 _) rfl rfl) rfl rfl hl.1 rfl (lv_room (Nat.le_of_ble_eq_true rfl)) dX3_chain_36 ⟨Nat.zero_le _, Nat.zero_le _⟩) (fun H locs hP hS => ?_)
      refine lv_if_ne (tgt := 44) hx hb dX3_chain_39 (by decide) (fun hc12 => ?_) (fun hc12 => ?_)
      · have h := z_in hc12 h
        refine lv_aload_n hx hb dX3_chain_44 rfl (lv_at hl 0 rfl) ?_
        refine z_get C Z hP (k := 90) (ci := 3) (j := 0) (N := 7) (v := .ref (G.2.1 (0))) (by decide) (z_E_90 _) rfl inX3_chain_X3 (by decide) wX3_chain_0 rfl dX3_chain_45 ?_
        refine z_get C Z hP (k := 0) (ci := 2) (j := 0) (N := 19) (v := .ref (G.2.1 (1))) (by decide) (z_E_0 _) rfl inX3_chain_X2 (by decide) wX3_chain_2 rfl dX3_chain_48 ?_
        refine lv_iload_n hx hb dX3_chain_51 rfl (lv_at hl 1 rfl) ?_
        obtain ⟨hg13, h⟩ := z_g h
        refine z_iald C Z hP (k := 1) (n := 24) (j := (x1).toNatClampNeg) (by decide) (z_E_1 _) hg13 rfl dX3_chain_52 ?_
        refine lv_istore (lv' := [(4, .int ((m10 (1) ((x1).toNatClampNeg)))), (0, .ref (G.2.1 (90))), (1, .int (x1)), (2, .int (x2)), (3, .int (x3))]) hx hb dX3_chain_53 hl (by decide) rfl (fun ls hl => ?_)
        refine lv_aload_n hx hb dX3_chain_55 rfl (lv_at hl 1 rfl) ?_
        refine z_get C Z hP (k := 90) (ci := 3) (j := 0) (N := 7) (v := .ref (G.2.1 (0))) (by decide) (z_E_90 _) rfl inX3_chain_X3 (by decide) wX3_chain_0 rfl dX3_chain_56 ?_
        refine z_get C Z hP (k := 0) (ci := 2) (j := 1) (N := 19) (v := .ref (G.2.1 (2))) (by decide) (z_E_0 _) rfl inX3_chain_X2 (by decide) wX3_chain_4 rfl dX3_chain_59 ?_
        refine lv_iload_n hx hb dX3_chain_62 rfl (lv_at hl 2 rfl) ?_
        refine z_iald C Z hP (k := 2) (n := 24) (j := (x1).toNatClampNeg) (by decide) (z_E_2 _) hg13 rfl dX3_chain_63 ?_
        refine lv_istore (lv' := [(5, .int ((m10 (2) ((x1).toNatClampNeg)))), (4, .int ((m10 (1) ((x1).toNatClampNeg)))), (0, .ref (G.2.1 (90))), (1, .int (x1)), (2, .int (x2)), (3, .int (x3))]) hx hb dX3_chain_64 hl (by decide) rfl (fun ls hl => ?_)
        refine lv_iload_n hx hb dX3_chain_66 rfl (lv_at hl 5 rfl) ?_
        refine lv_if_ne (tgt := 90) hx hb dX3_chain_67 (by decide) (fun hc14 => ?_) (fun hc14 => ?_)
        · have h := z_in hc14 h
          refine lv_iload_n hx hb dX3_chain_90 rfl (lv_at hl 4 rfl) ?_
          refine lv_iload hx hb dX3_chain_91 (lv_at hl 1 rfl) ?_
          refine lv_iload hx hb dX3_chain_93 (lv_at hl 0 rfl) ?_
          refine lv_aload_n hx hb dX3_chain_95 rfl (lv_at hl 2 rfl) ?_
          refine z_get C Z hP (k := 90) (ci := 3) (j := 0) (N := 7) (v := .ref (G.2.1 (0))) (by decide) (z_E_90 _) rfl inX3_chain_X3 (by decide) wX3_chain_0 rfl dX3_chain_96 ?_
          refine z_get C Z hP (k := 0) (ci := 2) (j := 9) (N := 19) (v := .int ((m10 0 9))) (by decide) (z_E_0 _) rfl inX3_chain_X2 (by decide) wX3_chain_5 rfl dX3_chain_99 ?_
          obtain ⟨r15, m16, e17, h⟩ := zb_some h
          refine z_calli hS (va_runS (As := [.int (x2), .int ((m10 (1) ((x1).toNatClampNeg))), .int ((m10 (2) ((x1).toNatClampNeg))), .int ((m10 0 9))]) (rest := []) C (c_X3_clearestOfAllLevers_v5 l G e17 _) (va_cwS 4 hts gX3_chain_X3_clearestOfAllLevers rfl rfl rfl hd_X3_clearestOfAllLevers_v5 ⟨Nat.le_of_ble_eq_true rfl, Nat.le_of_ble_eq_true rfl⟩) (z_preS Z hS hP) rfl rfl hl.1 rfl (lv_room (Nat.le_of_ble_eq_true rfl)) dX3_chain_102 ⟨Nat.zero_le _, Nat.zero_le _⟩) (fun H locs hP hS => ?_)
          cases h
          exact z_reti C hr hlk hP hS dX3_chain_105
        · have h := z_ip hc14 h
          refine lv_aload_n hx hb dX3_chain_70 rfl (lv_at hl 2 rfl) ?_
          refine z_get C Z hP (k := 90) (ci := 3) (j := 6) (N := 7) (v := .ref (G.2.1 (96))) (by decide) (z_E_90 _) rfl inX3_chain_X3 (by decide) wX3_chain_6 rfl dX3_chain_71 ?_
          refine lv_iload_n hx hb dX3_chain_74 rfl (lv_at hl 4 rfl) ?_
          refine lv_iload hx hb dX3_chain_75 (lv_at hl 1 rfl) ?_
          refine lv_iload hx hb dX3_chain_77 (lv_at hl 0 rfl) ?_
          refine lv_aload_n hx hb dX3_chain_79 rfl (lv_at hl 2 rfl) ?_
          refine z_get C Z hP (k := 90) (ci := 3) (j := 0) (N := 7) (v := .ref (G.2.1 (0))) (by decide) (z_E_90 _) rfl inX3_chain_X3 (by decide) wX3_chain_0 rfl dX3_chain_80 ?_
          refine z_get C Z hP (k := 0) (ci := 2) (j := 9) (N := 19) (v := .int ((m10 0 9))) (by decide) (z_E_0 _) rfl inX3_chain_X2 (by decide) wX3_chain_5 rfl dX3_chain_83 ?_
          obtain ⟨r18, m19, e20, h⟩ := zb_some h
          refine z_calli hS (va_runV (As := [.int (x2), .int ((m10 (1) ((x1).toNatClampNeg))), .int ((m10 (2) ((x1).toNatClampNeg))), .int ((m10 0 9))]) (rest := []) C (c_X1_clearestAfter l G e20 _) (cwV 4 hts gX3_chain_X1_clearestAfter rfl rfl rfl hv_X1_clearestAfter ⟨Nat.le_of_ble_eq_true rfl, Nat.le_of_ble_eq_true rfl⟩) (z_preV Z hS hP (by decide) (z_E_96 _) rfl rfl) rfl rfl hl.1 rfl (lv_room (Nat.le_of_ble_eq_true rfl)) dX3_chain_86 ⟨Nat.zero_le _, Nat.zero_le _⟩) (fun H locs hP hS => ?_)
          cases h
          exact z_reti C hr hlk hP hS dX3_chain_89
      · have h := z_ip hc12 h
        refine lv_iconst (v := (-1)) hx hb dX3_chain_42 (by decide) ?_
        cases h
        exact z_reti C hr hlk hP hS dX3_chain_43
    · have h := z_in hc5 h
      cases h
abbrev rm_X3_clearest : Room := { frames := 2, cells := 0, slots := 0, locals := 44 }
theorem hd_X3_clearest : yX3_clearest.cls ≠ "java/lang/invoke/MethodHandle" ∧ yX3_clearest.cls ≠ "java/lang/invoke/VarHandle" ∧ (parseMethodDescriptor yX3_clearest.desc).map (fun d => d.parameters.length) = some 0 := by decide +kernel
theorem hv_X3_clearest : yX3_clearest.cls = RX3 ∧ yX3_clearest.cls ≠ "java/lang/invoke/MethodHandle" ∧ yX3_clearest.cls ≠ "java/lang/invoke/VarHandle" ∧ (parseMethodDescriptor yX3_clearest.desc).map (fun d => d.parameters.length) = some 0 := ⟨rfl, hd_X3_clearest⟩
theorem wX3_clearest_0 : Cond.fieldLink RX3 12 "WaxCopies" "now" "LWaxCopies$Wax;" ∈ wsX3_clearest := by decide +kernel
theorem inX3_clearest_X3 : ∀ w ∈ wsX30, w ∈ wsX3_clearest := by decide +kernel
set_option maxHeartbeats 4000000 in
set_option maxRecDepth 100000 in
theorem c_X3_clearest (l : Launch) (G : zG) {μ mu1 : Mm} {r : Int32} (h : f_X3_clearest μ = some (r, mu1)) (sz : Nat) : Met l yX3_clearest wsX3_clearest rm_X3_clearest (z_Pre G μ [.ref (G.2.1 (90))] sz) (z_Qi G r mu1 sz) 0 0 (z_A G sz) := by
  refine z_start (cc := cX3_clearest) (maxL := 1) (ret := (some .int)) (own := RX3) (by decide) rfl rfl (Nat.le_of_ble_eq_true rfl) (fun p e s m args below meth c C hr hlk Z hP ls hl => ?_) sz
  have hx := C.1
  have hb := C.2.1
  have hts := C.2.2.2.2
  have hS : va_S (z_A G s.heap.size) s.heap s.heap [] := va_S.rf
  have hl : lv_has ls 1 [(0, .ref (G.2.1 (90)))] := hl
  unfold f_X3_clearest at h
  refine lv_aload_n hx hb dX3_clearest_0 rfl (lv_at hl 0 rfl) ?_
  refine z_get C Z hP (k := 90) (ci := 3) (j := 0) (N := 7) (v := .ref (G.2.1 (0))) (by decide) (z_E_90 _) rfl inX3_clearest_X3 (by decide) wX3_clearest_0 rfl dX3_clearest_1 ?_
  obtain ⟨r1, m2, e3, h⟩ := zb_some h
  refine z_calli hS (va_runV (As := []) (rest := []) C (c_X2_clearestTrack l G e3 _) (cwV 0 hts gX3_clearest_X2_clearestTrack rfl rfl rfl hv_X2_clearestTrack ⟨Nat.le_of_ble_eq_true rfl, Nat.le_of_ble_eq_true rfl⟩) (z_preV Z hS hP (by decide) (z_E_0 _) rfl rfl) rfl rfl hl.1 rfl (lv_room (Nat.le_of_ble_eq_true rfl)) dX3_clearest_4 ⟨Nat.zero_le _, Nat.zero_le _⟩) (fun H locs hP hS => ?_)
  cases h
  exact z_reti C hr hlk hP hS dX3_clearest_7
abbrev rm_X3_daughters : Room := { frames := 2, cells := 0, slots := 0, locals := 47 }
theorem hd_X3_daughters : yX3_daughters.cls ≠ "java/lang/invoke/MethodHandle" ∧ yX3_daughters.cls ≠ "java/lang/invoke/VarHandle" ∧ (parseMethodDescriptor yX3_daughters.desc).map (fun d => d.parameters.length) = some 1 := by decide +kernel
theorem hv_X3_daughters : yX3_daughters.cls = RX3 ∧ yX3_daughters.cls ≠ "java/lang/invoke/MethodHandle" ∧ yX3_daughters.cls ≠ "java/lang/invoke/VarHandle" ∧ (parseMethodDescriptor yX3_daughters.desc).map (fun d => d.parameters.length) = some 1 := ⟨rfl, hd_X3_daughters⟩
theorem wX3_daughters_0 : Cond.fieldLink RX3 12 "WaxCopies" "now" "LWaxCopies$Wax;" ∈ wsX3_daughters := by decide +kernel
theorem inX3_daughters_X3 : ∀ w ∈ wsX30, w ∈ wsX3_daughters := by decide +kernel
set_option maxHeartbeats 4000000 in
set_option maxRecDepth 100000 in
theorem c_X3_daughters (l : Launch) (G : zG) {x1 : Int32} {μ mu1 : Mm} {r : Int32} (h : f_X3_daughters x1 μ = some (.inr r, mu1)) (sz : Nat) : Met l yX3_daughters wsX3_daughters rm_X3_daughters (z_Pre G μ [.ref (G.2.1 (90)), .int (x1)] sz) (z_Qi G r mu1 sz) 0 0 (z_A G sz) := by
  refine z_start (cc := cX3_daughters) (maxL := 2) (ret := (some .int)) (own := RX3) (by decide) rfl rfl (Nat.le_of_ble_eq_true rfl) (fun p e s m args below meth c C hr hlk Z hP ls hl => ?_) sz
  have hx := C.1
  have hb := C.2.1
  have hts := C.2.2.2.2
  have hS : va_S (z_A G s.heap.size) s.heap s.heap [] := va_S.rf
  have hl : lv_has ls 2 [(0, .ref (G.2.1 (90))), (1, .int (x1))] := hl
  unfold f_X3_daughters at h
  refine lv_aload_n hx hb dX3_daughters_0 rfl (lv_at hl 0 rfl) ?_
  refine lv_iload_n hx hb dX3_daughters_1 rfl (lv_at hl 1 rfl) ?_
  obtain ⟨r1, m2, e3, h⟩ := zbx_r h
  refine z_callv hS (va_runV (As := [.int (x1)]) (rest := []) C (c_X3_checkTrack l G e3 _) (cwV 1 hts gX3_daughters_X3_checkTrack rfl rfl rfl hv_X3_checkTrack ⟨Nat.le_of_ble_eq_true rfl, Nat.le_of_ble_eq_true rfl⟩) (z_preV Z hS hP (by decide) (z_E_90 _) rfl rfl) rfl rfl hl.1 rfl (lv_room (Nat.le_of_ble_eq_true rfl)) dX3_daughters_2 ⟨Nat.zero_le _, Nat.zero_le _⟩) (fun H locs hP hS => ?_)
  refine lv_aload_n hx hb dX3_daughters_5 rfl (lv_at hl 0 rfl) ?_
  refine z_get C Z hP (k := 90) (ci := 3) (j := 0) (N := 7) (v := .ref (G.2.1 (0))) (by decide) (z_E_90 _) rfl inX3_daughters_X3 (by decide) wX3_daughters_0 rfl dX3_daughters_6 ?_
  refine lv_iload_n hx hb dX3_daughters_9 rfl (lv_at hl 1 rfl) ?_
  obtain ⟨r4, m5, e6, h⟩ := zb_some h
  refine z_calli hS (va_runV (As := [.int (x1)]) (rest := []) C (c_X2_descendants l G e6 _) (cwV 1 hts gX3_daughters_X2_descendants rfl rfl rfl hv_X2_descendants ⟨Nat.le_of_ble_eq_true rfl, Nat.le_of_ble_eq_true rfl⟩) (z_preV Z hS hP (by decide) (z_E_0 _) rfl rfl) rfl rfl hl.1 rfl (lv_room (Nat.le_of_ble_eq_true rfl)) dX3_daughters_10 ⟨Nat.zero_le _, Nat.zero_le _⟩) (fun H locs hP hS => ?_)
  cases h
  exact z_reti C hr hlk hP hS dX3_daughters_13
abbrev rm_X3_meanDepth : Room := { frames := 3, cells := 0, slots := 0, locals := 67 }
theorem hd_X3_meanDepth : yX3_meanDepth.cls ≠ "java/lang/invoke/MethodHandle" ∧ yX3_meanDepth.cls ≠ "java/lang/invoke/VarHandle" ∧ (parseMethodDescriptor yX3_meanDepth.desc).map (fun d => d.parameters.length) = some 0 := by decide +kernel
theorem hv_X3_meanDepth : yX3_meanDepth.cls = RX3 ∧ yX3_meanDepth.cls ≠ "java/lang/invoke/MethodHandle" ∧ yX3_meanDepth.cls ≠ "java/lang/invoke/VarHandle" ∧ (parseMethodDescriptor yX3_meanDepth.desc).map (fun d => d.parameters.length) = some 0 := ⟨rfl, hd_X3_meanDepth⟩
theorem wX3_meanDepth_0 : Cond.fieldLink RX3 12 "WaxCopies" "now" "LWaxCopies$Wax;" ∈ wsX3_meanDepth := by decide +kernel
theorem inX3_meanDepth_X3 : ∀ w ∈ wsX30, w ∈ wsX3_meanDepth := by decide +kernel
set_option maxHeartbeats 4000000 in
set_option maxRecDepth 100000 in
theorem c_X3_meanDepth (l : Launch) (G : zG) {μ mu1 : Mm} {r : UInt32} (h : f_X3_meanDepth μ = some (r, mu1)) (sz : Nat) : Met l yX3_meanDepth wsX3_meanDepth rm_X3_meanDepth (z_Pre G μ [.ref (G.2.1 (90))] sz) (z_Qf G r mu1 sz) 0 0 (z_A G sz) := by
  refine z_start (cc := cX3_meanDepth) (maxL := 2) (ret := (some .float)) (own := RX3) (by decide) rfl rfl (Nat.le_of_ble_eq_true rfl) (fun p e s m args below meth c C hr hlk Z hP ls hl => ?_) sz
  have hx := C.1
  have hb := C.2.1
  have hts := C.2.2.2.2
  have hS : va_S (z_A G s.heap.size) s.heap s.heap [] := va_S.rf
  have hl : lv_has ls 2 [(0, .ref (G.2.1 (90)))] := hl
  unfold f_X3_meanDepth at h
  refine lv_aload_n hx hb dX3_meanDepth_0 rfl (lv_at hl 0 rfl) ?_
  refine z_get C Z hP (k := 90) (ci := 3) (j := 0) (N := 7) (v := .ref (G.2.1 (0))) (by decide) (z_E_90 _) rfl inX3_meanDepth_X3 (by decide) wX3_meanDepth_0 rfl dX3_meanDepth_1 ?_
  obtain ⟨r1, m2, e3, h⟩ := zb_some h
  refine z_calli hS (va_runV (As := []) (rest := []) C (c_X2_cutTracks l G e3 _) (cwV 0 hts gX3_meanDepth_X2_cutTracks rfl rfl rfl hv_X2_cutTracks ⟨Nat.le_of_ble_eq_true rfl, Nat.le_of_ble_eq_true rfl⟩) (z_preV Z hS hP (by decide) (z_E_0 _) rfl rfl) rfl rfl hl.1 rfl (lv_room (Nat.le_of_ble_eq_true rfl)) dX3_meanDepth_4 ⟨Nat.zero_le _, Nat.zero_le _⟩) (fun H locs hP hS => ?_)
  refine lv_istore_n (lv' := [(1, .int (r1)), (0, .ref (G.2.1 (90)))]) hx hb dX3_meanDepth_7 rfl hl (by decide) rfl (fun ls hl => ?_)
  refine lv_iload_n hx hb dX3_meanDepth_8 rfl (lv_at hl 0 rfl) ?_
  refine lv_if_gt (tgt := 16) hx hb dX3_meanDepth_9 (by decide) (fun hc4 => ?_) (fun hc4 => ?_)
  · have h := z_ip hc4 h
    refine lv_aload_n hx hb dX3_meanDepth_16 rfl (lv_at hl 1 rfl) ?_
    refine z_get C Z hP (k := 90) (ci := 3) (j := 0) (N := 7) (v := .ref (G.2.1 (0))) (by decide) (z_E_90 _) rfl inX3_meanDepth_X3 (by decide) wX3_meanDepth_0 rfl dX3_meanDepth_17 ?_
    obtain ⟨r5, m6, e7, h⟩ := zb_some h
    refine z_calli hS (va_runV (As := []) (rest := []) C (c_X2_depthTogether l G e7 _) (cwV 0 hts gX3_meanDepth_X2_depthTogether rfl rfl rfl hv_X2_depthTogether ⟨Nat.le_of_ble_eq_true rfl, Nat.le_of_ble_eq_true rfl⟩) (z_preV Z hS hP (by decide) (z_E_0 _) rfl rfl) rfl rfl hl.1 rfl (lv_room (Nat.le_of_ble_eq_true rfl)) dX3_meanDepth_20 ⟨Nat.zero_le _, Nat.zero_le _⟩) (fun H locs hP hS => ?_)
    refine lv_i2f hx hb dX3_meanDepth_23 ?_
    refine lv_iload_n hx hb dX3_meanDepth_24 rfl (lv_at hl 0 rfl) ?_
    refine lv_i2f hx hb dX3_meanDepth_25 ?_
    obtain ⟨hg8, h⟩ := z_g h
    refine lv_fdiv hx hb dX3_meanDepth_26 hg8 ?_
    cases h
    exact z_retf C hr hlk hP hS dX3_meanDepth_27
  · have h := z_in hc4 h
    refine lv_fconst0 hx hb dX3_meanDepth_12 ?_
    refine lv_goto (tgt := 27) hx hb dX3_meanDepth_13 (by decide) ?_
    cases h
    exact z_retf C hr hlk hP hS dX3_meanDepth_27
abbrev rm_X3_clearShare : Room := { frames := 3, cells := 0, slots := 0, locals := 67 }
theorem hd_X3_clearShare : yX3_clearShare.cls ≠ "java/lang/invoke/MethodHandle" ∧ yX3_clearShare.cls ≠ "java/lang/invoke/VarHandle" ∧ (parseMethodDescriptor yX3_clearShare.desc).map (fun d => d.parameters.length) = some 0 := by decide +kernel
theorem hv_X3_clearShare : yX3_clearShare.cls = RX3 ∧ yX3_clearShare.cls ≠ "java/lang/invoke/MethodHandle" ∧ yX3_clearShare.cls ≠ "java/lang/invoke/VarHandle" ∧ (parseMethodDescriptor yX3_clearShare.desc).map (fun d => d.parameters.length) = some 0 := ⟨rfl, hd_X3_clearShare⟩
theorem wX3_clearShare_0 : Cond.fieldLink RX3 12 "WaxCopies" "now" "LWaxCopies$Wax;" ∈ wsX3_clearShare := by decide +kernel
theorem inX3_clearShare_X3 : ∀ w ∈ wsX30, w ∈ wsX3_clearShare := by decide +kernel
set_option maxHeartbeats 4000000 in
set_option maxRecDepth 100000 in
theorem c_X3_clearShare (l : Launch) (G : zG) {μ mu1 : Mm} {r : UInt64} (h : f_X3_clearShare μ = some (r, mu1)) (sz : Nat) : Met l yX3_clearShare wsX3_clearShare rm_X3_clearShare (z_Pre G μ [.ref (G.2.1 (90))] sz) (z_Qd G r mu1 sz) 0 0 (z_A G sz) := by
  refine z_start (cc := cX3_clearShare) (maxL := 2) (ret := (some .double)) (own := RX3) (by decide) rfl rfl (Nat.le_of_ble_eq_true rfl) (fun p e s m args below meth c C hr hlk Z hP ls hl => ?_) sz
  have hx := C.1
  have hb := C.2.1
  have hts := C.2.2.2.2
  have hS : va_S (z_A G s.heap.size) s.heap s.heap [] := va_S.rf
  have hl : lv_has ls 2 [(0, .ref (G.2.1 (90)))] := hl
  unfold f_X3_clearShare at h
  refine lv_aload_n hx hb dX3_clearShare_0 rfl (lv_at hl 0 rfl) ?_
  refine z_get C Z hP (k := 90) (ci := 3) (j := 0) (N := 7) (v := .ref (G.2.1 (0))) (by decide) (z_E_90 _) rfl inX3_clearShare_X3 (by decide) wX3_clearShare_0 rfl dX3_clearShare_1 ?_
  obtain ⟨r1, m2, e3, h⟩ := zb_some h
  refine z_calli hS (va_runV (As := []) (rest := []) C (c_X2_cutTracks l G e3 _) (cwV 0 hts gX3_clearShare_X2_cutTracks rfl rfl rfl hv_X2_cutTracks ⟨Nat.le_of_ble_eq_true rfl, Nat.le_of_ble_eq_true rfl⟩) (z_preV Z hS hP (by decide) (z_E_0 _) rfl rfl) rfl rfl hl.1 rfl (lv_room (Nat.le_of_ble_eq_true rfl)) dX3_clearShare_4 ⟨Nat.zero_le _, Nat.zero_le _⟩) (fun H locs hP hS => ?_)
  refine lv_istore_n (lv' := [(1, .int (r1)), (0, .ref (G.2.1 (90)))]) hx hb dX3_clearShare_7 rfl hl (by decide) rfl (fun ls hl => ?_)
  refine lv_iload_n hx hb dX3_clearShare_8 rfl (lv_at hl 0 rfl) ?_
  refine lv_if_gt (tgt := 16) hx hb dX3_clearShare_9 (by decide) (fun hc4 => ?_) (fun hc4 => ?_)
  · have h := z_ip hc4 h
    refine lv_aload_n hx hb dX3_clearShare_16 rfl (lv_at hl 1 rfl) ?_
    refine z_get C Z hP (k := 90) (ci := 3) (j := 0) (N := 7) (v := .ref (G.2.1 (0))) (by decide) (z_E_90 _) rfl inX3_clearShare_X3 (by decide) wX3_clearShare_0 rfl dX3_clearShare_17 ?_
    obtain ⟨r5, m6, e7, h⟩ := zb_some h
    refine z_calli hS (va_runV (As := []) (rest := []) C (c_X2_clearnessTogether l G e7 _) (cwV 0 hts gX3_clearShare_X2_clearnessTogether rfl rfl rfl hv_X2_clearnessTogether ⟨Nat.le_of_ble_eq_true rfl, Nat.le_of_ble_eq_true rfl⟩) (z_preV Z hS hP (by decide) (z_E_0 _) rfl rfl) rfl rfl hl.1 rfl (lv_room (Nat.le_of_ble_eq_true rfl)) dX3_clearShare_20 ⟨Nat.zero_le _, Nat.zero_le _⟩) (fun H locs hP hS => ?_)
    refine lv_i2d hx hb dX3_clearShare_23 ?_
    refine lv_bipush (v := 100) hx hb dX3_clearShare_24 (by decide) ?_
    refine lv_iload_n hx hb dX3_clearShare_26 rfl (lv_at hl 0 rfl) ?_
    refine lv_imul hx hb dX3_clearShare_27 ?_
    refine lv_i2d hx hb dX3_clearShare_28 ?_
    obtain ⟨hg8, h⟩ := z_g h
    refine lv_ddiv hx hb dX3_clearShare_29 hg8 ?_
    cases h
    exact z_retd C hr hlk hP hS dX3_clearShare_30
  · have h := z_in hc4 h
    refine lv_dconst0 hx hb dX3_clearShare_12 ?_
    refine lv_goto (tgt := 30) hx hb dX3_clearShare_13 (by decide) ?_
    cases h
    exact z_retd C hr hlk hP hS dX3_clearShare_30
