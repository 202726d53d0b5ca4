abbrev rm_X3_checkTrack : Room := { frames := 0, cells := 0, slots := 0, locals := 0 }
theorem hd_X3_checkTrack : yX3_checkTrack.cls ≠ "java/lang/invoke/MethodHandle" ∧ yX3_checkTrack.cls ≠ "java/lang/invoke/VarHandle" ∧ (parseMethodDescriptor yX3_checkTrack.desc).map (fun d => d.parameters.length) = some 1 := by decide +kernel
theorem hv_X3_checkTrack : yX3_checkTrack.cls = RX3 ∧ yX3_checkTrack.cls ≠ "java/lang/invoke/MethodHandle" ∧ yX3_checkTrack.cls ≠ "java/lang/invoke/VarHandle" ∧ (parseMethodDescriptor yX3_checkTrack.desc).map (fun d => d.parameters.length) = some 1 := ⟨rfl, hd_X3_checkTrack⟩
set_option maxHeartbeats 4000000 in
set_option maxRecDepth 100000 in
theorem c_X3_checkTrack (l : Launch) (G : zG) {x1 : Int32} {μ mu1 : Mm} {r : Unit} (h : f_X3_checkTrack x1 μ = some (.inr r, mu1)) (sz : Nat) : Met l yX3_checkTrack wsX3_checkTrack rm_X3_checkTrack (z_Pre G μ [.ref (G.2.1 (90)), .int (x1)] sz) (z_Qv G r mu1 sz) 0 0 (z_A G sz) := by
  refine z_start (cc := cX3_checkTrack) (maxL := 2) (ret := none) (own := RX3) (by decide) rfl rfl (Nat.le_of_ble_eq_true rfl) (fun p e s m args below meth c C hr hlk Z hP ls hl => ?_) sz
  have hx := C.1
  have hb := C.2.1
  have hts := C.2.2.2.2
  have hS : va_S (z_A G s.heap.size) s.heap s.heap [] := va_S.rf
  have hl : lv_has ls 2 [(0, .ref (G.2.1 (90))), (1, .int (x1))] := hl
  unfold f_X3_checkTrack at h
  refine lv_iload_n hx hb dX3_checkTrack_0 rfl (lv_at hl 1 rfl) ?_
  refine lv_if_lt (tgt := 10) hx hb dX3_checkTrack_1 (by decide) (fun hc1 => ?_) (fun hc1 => ?_)
  · have h := z_ip hc1 h
    cases h
  · have h := z_in hc1 h
    refine lv_iload_n hx hb dX3_checkTrack_4 rfl (lv_at hl 1 rfl) ?_
    refine lv_bipush (v := 24) hx hb dX3_checkTrack_5 (by decide) ?_
    refine lv_icmp_lt (tgt := 21) hx hb dX3_checkTrack_7 (by decide) (fun hc2 => ?_) (fun hc2 => ?_)
    · have h := z_ip hc2 h
      cases h
      exact z_retv C hr hlk hP hS dX3_checkTrack_21
    · have h := z_in hc2 h
      cases h
abbrev rm_X3_checkLoudness : Room := { frames := 0, cells := 0, slots := 0, locals := 0 }
theorem hd_X3_checkLoudness : yX3_checkLoudness.cls ≠ "java/lang/invoke/MethodHandle" ∧ yX3_checkLoudness.cls ≠ "java/lang/invoke/VarHandle" ∧ (parseMethodDescriptor yX3_checkLoudness.desc).map (fun d => d.parameters.length) = some 1 := by decide +kernel
theorem hv_X3_checkLoudness : yX3_checkLoudness.cls = RX3 ∧ yX3_checkLoudness.cls ≠ "java/lang/invoke/MethodHandle" ∧ yX3_checkLoudness.cls ≠ "java/lang/invoke/VarHandle" ∧ (parseMethodDescriptor yX3_checkLoudness.desc).map (fun d => d.parameters.length) = some 1 := ⟨rfl, hd_X3_checkLoudness⟩
set_option maxHeartbeats 4000000 in
set_option maxRecDepth 100000 in
theorem c_X3_checkLoudness (l : Launch) (G : zG) {x1 : Int32} {μ mu1 : Mm} {r : Unit} (h : f_X3_checkLoudness x1 μ = some (.inr r, mu1)) (sz : Nat) : Met l yX3_checkLoudness wsX3_checkLoudness rm_X3_checkLoudness (z_Pre G μ [.ref (G.2.1 (90)), .int (x1)] sz) (z_Qv G r mu1 sz) 0 0 (z_A G sz) := by
  refine z_start (cc := cX3_checkLoudness) (maxL := 2) (ret := none) (own := RX3) (by decide) rfl rfl (Nat.le_of_ble_eq_true rfl) (fun p e s m args below meth c C hr hlk Z hP ls hl => ?_) sz
  have hx := C.1
  have hb := C.2.1
  have hts := C.2.2.2.2
  have hS : va_S (z_A G s.heap.size) s.heap s.heap [] := va_S.rf
  have hl : lv_has ls 2 [(0, .ref (G.2.1 (90))), (1, .int (x1))] := hl
  unfold f_X3_checkLoudness at h
  refine lv_iload_n hx hb dX3_checkLoudness_0 rfl (lv_at hl 1 rfl) ?_
  refine lv_iconst (v := 1) hx hb dX3_checkLoudness_1 (by decide) ?_
  refine lv_icmp_lt (tgt := 11) hx hb dX3_checkLoudness_2 (by decide) (fun hc1 => ?_) (fun hc1 => ?_)
  · have h := z_ip hc1 h
    cases h
  · have h := z_in hc1 h
    refine lv_iload_n hx hb dX3_checkLoudness_5 rfl (lv_at hl 1 rfl) ?_
    refine lv_bipush (v := 9) hx hb dX3_checkLoudness_6 (by decide) ?_
    refine lv_icmp_le (tgt := 22) hx hb dX3_checkLoudness_8 (by decide) (fun hc2 => ?_) (fun hc2 => ?_)
    · have h := z_ip hc2 h
      cases h
      exact z_retv C hr hlk hP hS dX3_checkLoudness_22
    · have h := z_in hc2 h
      cases h
abbrev rm_X3_dropOldestState : Room := { frames := 0, cells := 0, slots := 0, locals := 0 }
theorem hd_X3_dropOldestState : yX3_dropOldestState.cls ≠ "java/lang/invoke/MethodHandle" ∧ yX3_dropOldestState.cls ≠ "java/lang/invoke/VarHandle" ∧ (parseMethodDescriptor yX3_dropOldestState.desc).map (fun d => d.parameters.length) = some 0 := by decide +kernel
theorem hv_X3_dropOldestState : yX3_dropOldestState.cls = RX3 ∧ yX3_dropOldestState.cls ≠ "java/lang/invoke/MethodHandle" ∧ yX3_dropOldestState.cls ≠ "java/lang/invoke/VarHandle" ∧ (parseMethodDescriptor yX3_dropOldestState.desc).map (fun d => d.parameters.length) = some 0 := ⟨rfl, hd_X3_dropOldestState⟩
theorem wX3_dropOldestState_0 : Cond.fieldLink RX3 24 "WaxCopies" "saved" "[LWaxCopies$Wax;" ∈ wsX3_dropOldestState := by decide +kernel
theorem inX3_dropOldestState_X3 : ∀ w ∈ wsX30, w ∈ wsX3_dropOldestState := by decide +kernel
theorem wX3_dropOldestState_2 : Cond.fieldLink RX3 27 "WaxCopies" "savedStates" "I" ∈ wsX3_dropOldestState := by decide +kernel
set_option maxHeartbeats 4000000 in
set_option maxRecDepth 100000 in
theorem L_X3_dropOldestState_b9 {p : Program} {l : Launch} {e : Env} {s : State} {m : MethodId} {args : Array Value} {below : List Frame} {meth : Method} {c : Code} {G : zG} {r : Unit} {mu1 : Mm}  (C : CallFix p m c cX3_dropOldestState 3 s args wsX3_dropOldestState RX3) (hr : meth.sig.returnType = none) (hlk : meth.locks = false) (Z : z_Z G (z_A G s.heap.size) s)  :
    ∀ (n : Nat) (x1 : Nat) (x2 : Int32) (μ : Mm), f_X3_dropOldestState_b9  n x1 x2 μ = some (r, mu1) → ∀ (H : Heap) (locs : List Loc), z_P G μ H → va_S (z_A G s.heap.size) s.heap H locs → ∀ ls : Array Slot, lv_has ls 3 [(0, .ref (G.2.1 (90))), (1, .ref (G.2.1 (x1))), (2, .int (x2))] → W p l e rm_X3_dropOldestState s m args below meth c H locs 0 0 (MQ below (z_Qv G r mu1 s.heap.size) args s 0 0 (z_A G s.heap.size)) (F0 m 9 ls []) := by
  have hx := C.1
  have hb := C.2.1
  have hts := C.2.2.2.2
  intro n
  induction n with
  | zero =>
    intro x1 x2 μ h
    rw [f_X3_dropOldestState_b9] at h
    cases h
  | succ n ih =>
    intro x1 x2 μ h H locs hP hS ls hl
    rw [f_X3_dropOldestState_b9] at h
    refine lv_iload_n hx hb dX3_dropOldestState_9 rfl (lv_at hl 2 rfl) ?_
    refine lv_bipush (v := 6) hx hb dX3_dropOldestState_10 (by decide) ?_
    refine lv_icmp_ge (tgt := 35) hx hb dX3_dropOldestState_12 (by decide) (fun hc2 => ?_) (fun hc2 => ?_)
    · have h := z_ip hc2 h
      refine lv_aload_n hx hb dX3_dropOldestState_35 rfl (lv_at hl 0 rfl) ?_
      refine z_get C Z hP (k := 90) (ci := 3) (j := 3) (N := 7) (v := .ref (G.2.1 (93))) (by decide) (z_E_90 _) rfl inX3_dropOldestState_X3 (by decide) wX3_dropOldestState_0 rfl dX3_dropOldestState_36 ?_
      refine lv_iconst (v := 5) hx hb dX3_dropOldestState_39 (by decide) ?_
      refine lv_aload_n hx hb dX3_dropOldestState_40 rfl (lv_at hl 1 rfl) ?_
      obtain ⟨hg3, h⟩ := z_g h
      refine z_astq C Z hP hS (v := x1) (j := 5) (Nat.lt_trans hg3.2 (by decide)) (z_E_wax hg3 _) (show z_ix 5 6 by decide) rfl dX3_dropOldestState_41 (fun H locs hP hS => ?_)
      refine lv_aload_n hx hb dX3_dropOldestState_42 rfl (lv_at hl 0 rfl) ?_
      refine lv_iconst (v := 5) hx hb dX3_dropOldestState_43 (by decide) ?_
      refine z_put C Z hP hS (k := 90) (ci := 3) (j := 4) (N := 7) (x := 5) (v := .int (5)) (ty := .int) (by decide) (z_E_90 _) rfl inX3_dropOldestState_X3 tyX3_ok nmX3 (by decide) wX3_dropOldestState_2 rfl (by decide +kernel) rfl rfl (Nat.le_of_ble_eq_true rfl) (z_S_90_4 _ _) dX3_dropOldestState_44 (fun H locs hP hS => ?_)
      cases h
      exact z_retv C hr hlk hP hS dX3_dropOldestState_47
    · have h := z_in hc2 h
      refine lv_aload_n hx hb dX3_dropOldestState_15 rfl (lv_at hl 0 rfl) ?_
      refine z_get C Z hP (k := 90) (ci := 3) (j := 3) (N := 7) (v := .ref (G.2.1 (93))) (by decide) (z_E_90 _) rfl inX3_dropOldestState_X3 (by decide) wX3_dropOldestState_0 rfl dX3_dropOldestState_16 ?_
      refine lv_iload_n hx hb dX3_dropOldestState_19 rfl (lv_at hl 2 rfl) ?_
      refine lv_iconst (v := 1) hx hb dX3_dropOldestState_20 (by decide) ?_
      refine lv_isub hx hb dX3_dropOldestState_21 ?_
      refine lv_aload_n hx hb dX3_dropOldestState_22 rfl (lv_at hl 0 rfl) ?_
      refine z_get C Z hP (k := 90) (ci := 3) (j := 3) (N := 7) (v := .ref (G.2.1 (93))) (by decide) (z_E_90 _) rfl inX3_dropOldestState_X3 (by decide) wX3_dropOldestState_0 rfl dX3_dropOldestState_23 ?_
      refine lv_iload_n hx hb dX3_dropOldestState_26 rfl (lv_at hl 2 rfl) ?_
      obtain ⟨hg4, h⟩ := z_g h
      refine z_aldq C Z hP (k := 93) (n := 6) (b := G.2.1 (z_rf (μ 93 ((x2).toNatClampNeg)))) (by decide) (z_E_93 _) hg4 rfl dX3_dropOldestState_27 ?_
      obtain ⟨hg5, h⟩ := z_g h
      obtain ⟨hg6, h⟩ := z_g h
      refine z_astq C Z hP hS (v := (z_rf (μ 93 ((x2).toNatClampNeg)))) (j := ((x2 - 1)).toNatClampNeg) (Nat.lt_trans hg5.2 (by decide)) (z_E_wax hg5 _) hg6 rfl dX3_dropOldestState_28 (fun H locs hP hS => ?_)
      refine lv_iinc (v := (x2 + 1)) (lv' := [(2, .int ((x2 + 1))), (0, .ref (G.2.1 (90))), (1, .ref (G.2.1 (x1)))]) hx hb dX3_dropOldestState_29 hl (k := 2) rfl rfl (by decide) rfl (fun ls hl => ?_)
      refine lv_goto (tgt := 9) hx hb dX3_dropOldestState_32 (by decide) ?_
      exact ih _ _ _ h _ _ hP hS ls (lv_sub hl [1, 2, 0] rfl)
set_option maxHeartbeats 4000000 in
set_option maxRecDepth 100000 in
theorem c_X3_dropOldestState (l : Launch) (G : zG) {μ mu1 : Mm} {r : Unit} (h : f_X3_dropOldestState μ = some (r, mu1)) (sz : Nat) : Met l yX3_dropOldestState wsX3_dropOldestState rm_X3_dropOldestState (z_Pre G μ [.ref (G.2.1 (90))] sz) (z_Qv G r mu1 sz) 0 0 (z_A G sz) := by
  refine z_start (cc := cX3_dropOldestState) (maxL := 3) (ret := none) (own := RX3) (by decide) rfl rfl (Nat.le_of_ble_eq_true rfl) (fun p e s m args below meth c C hr hlk Z hP ls hl => ?_) sz
  have hx := C.1
  have hb := C.2.1
  have hts := C.2.2.2.2
  have hS : va_S (z_A G s.heap.size) s.heap s.heap [] := va_S.rf
  have hl : lv_has ls 3 [(0, .ref (G.2.1 (90)))] := hl
  unfold f_X3_dropOldestState at h
  refine lv_aload_n hx hb dX3_dropOldestState_0 rfl (lv_at hl 0 rfl) ?_
  refine z_get C Z hP (k := 90) (ci := 3) (j := 3) (N := 7) (v := .ref (G.2.1 (93))) (by decide) (z_E_90 _) rfl inX3_dropOldestState_X3 (by decide) wX3_dropOldestState_0 rfl dX3_dropOldestState_1 ?_
  refine lv_iconst (v := 0) hx hb dX3_dropOldestState_4 (by decide) ?_
  refine z_aldq C Z hP (k := 93) (n := 6) (b := G.2.1 (z_rf (μ 93 0))) (by decide) (z_E_93 _) (show z_ix 0 6 by decide) rfl dX3_dropOldestState_5 ?_
  obtain ⟨hg1, h⟩ := z_g h
  refine lv_astore_n (lv' := [(1, .ref (G.2.1 ((z_rf (μ 93 0))))), (0, .ref (G.2.1 (90)))]) hx hb dX3_dropOldestState_6 rfl hl (by decide) rfl (fun ls hl => ?_)
  refine lv_iconst (v := 1) hx hb dX3_dropOldestState_7 (by decide) ?_
  refine lv_istore_n (lv' := [(2, .int (1)), (1, .ref (G.2.1 ((z_rf (μ 93 0))))), (0, .ref (G.2.1 (90)))]) hx hb dX3_dropOldestState_8 rfl hl (by decide) rfl (fun ls hl => ?_)
  exact L_X3_dropOldestState_b9 C hr hlk Z z_F _ _ _ h _ _ hP hS ls (lv_sub hl [2, 1, 0] rfl)
abbrev rm_X3_saveState : Room := { frames := 2, cells := 0, slots := 0, locals := 61 }
theorem hd_X3_saveState : yX3_saveState.cls ≠ "java/lang/invoke/MethodHandle" ∧ yX3_saveState.cls ≠ "java/lang/invoke/VarHandle" ∧ (parseMethodDescriptor yX3_saveState.desc).map (fun d => d.parameters.length) = some 0 := by decide +kernel
theorem hv_X3_saveState : yX3_saveState.cls = RX3 ∧ yX3_saveState.cls ≠ "java/lang/invoke/MethodHandle" ∧ yX3_saveState.cls ≠ "java/lang/invoke/VarHandle" ∧ (parseMethodDescriptor yX3_saveState.desc).map (fun d => d.parameters.length) = some 0 := ⟨rfl, hd_X3_saveState⟩
theorem wX3_saveState_0 : Cond.fieldLink RX3 27 "WaxCopies" "savedStates" "I" ∈ wsX3_saveState := by decide +kernel
theorem inX3_saveState_X3 : ∀ w ∈ wsX30, w ∈ wsX3_saveState := by decide +kernel
theorem wX3_saveState_2 : Cond.fieldLink RX3 24 "WaxCopies" "saved" "[LWaxCopies$Wax;" ∈ wsX3_saveState := by decide +kernel
theorem wX3_saveState_3 : Cond.fieldLink RX3 12 "WaxCopies" "now" "LWaxCopies$Wax;" ∈ wsX3_saveState := by decide +kernel
set_option maxHeartbeats 4000000 in
set_option maxRecDepth 100000 in
theorem L_X3_saveState_b13 {p : Program} {l : Launch} {e : Env} {s : State} {m : MethodId} {args : Array Value} {below : List Frame} {meth : Method} {c : Code} {G : zG} {r : Unit} {mu1 : Mm}  (C : CallFix p m c cX3_saveState 1 s args wsX3_saveState RX3) (hr : meth.sig.returnType = none) (hlk : meth.locks = false) (Z : z_Z G (z_A G s.heap.size) s)  :
    ∀  (μ : Mm), f_X3_saveState_b13   μ = some (r, mu1) → ∀ (H : Heap) (locs : List Loc), z_P G μ H → va_S (z_A G s.heap.size) s.heap H locs → ∀ ls : Array Slot, lv_has ls 1 [(0, .ref (G.2.1 (90)))] → W p l e rm_X3_saveState s m args below meth c H locs 0 0 (MQ below (z_Qv G r mu1 s.heap.size) args s 0 0 (z_A G s.heap.size)) (F0 m 13 ls []) := by
  have hx := C.1
  have hb := C.2.1
  have hts := C.2.2.2.2
  intro  μ h H locs hP hS ls hl
  unfold f_X3_saveState_b13 at h
  refine lv_aload_n hx hb dX3_saveState_13 rfl (lv_at hl 0 rfl) ?_
  refine z_get C Z hP (k := 90) (ci := 3) (j := 3) (N := 7) (v := .ref (G.2.1 (93))) (by decide) (z_E_90 _) rfl inX3_saveState_X3 (by decide) wX3_saveState_2 rfl dX3_saveState_14 ?_
  refine lv_aload_n hx hb dX3_saveState_17 rfl (lv_at hl 0 rfl) ?_
  refine z_get C Z hP (k := 90) (ci := 3) (j := 4) (N := 7) (v := .int ((μ 90 4))) (by decide) (z_E_90 _) rfl inX3_saveState_X3 (by decide) wX3_saveState_0 rfl dX3_saveState_18 ?_
  obtain ⟨hg2, h⟩ := z_g h
  refine z_aldq C Z hP (k := 93) (n := 6) (b := G.2.1 (z_rf (μ 93 (((μ 90 4)).toNatClampNeg)))) (by decide) (z_E_93 _) hg2 rfl dX3_saveState_21 ?_
  obtain ⟨hg3, h⟩ := z_g h
  refine lv_aload_n hx hb dX3_saveState_22 rfl (lv_at hl 0 rfl) ?_
  refine z_get C Z hP (k := 90) (ci := 3) (j := 0) (N := 7) (v := .ref (G.2.1 (0))) (by decide) (z_E_90 _) rfl inX3_saveState_X3 (by decide) wX3_saveState_3 rfl dX3_saveState_23 ?_
  obtain ⟨r4, m5, e6, h⟩ := zb_some h
  refine z_callv hS (va_runV (As := [.ref (G.2.1 (0))]) (rest := []) C (c_X2_takeOver l G e6 _) (cwV 1 hts gX3_saveState_X2_takeOver rfl rfl rfl hv_X2_takeOver ⟨Nat.le_of_ble_eq_true rfl, Nat.le_of_ble_eq_true rfl⟩) (z_preV Z hS hP (Nat.lt_trans hg3.2 (by decide)) (z_E_wax hg3 _) rfl rfl) rfl rfl hl.1 rfl (lv_room (Nat.le_of_ble_eq_true rfl)) dX3_saveState_26 ⟨Nat.zero_le _, Nat.zero_le _⟩) (fun H locs hP hS => ?_)
  refine lv_aload_n hx hb dX3_saveState_29 rfl (lv_at hl 0 rfl) ?_
  refine lv_dup hx hb dX3_saveState_30 rfl ?_
  refine z_get C Z hP (k := 90) (ci := 3) (j := 4) (N := 7) (v := .int ((m5 90 4))) (by decide) (z_E_90 _) rfl inX3_saveState_X3 (by decide) wX3_saveState_0 rfl dX3_saveState_31 ?_
  refine lv_iconst (v := 1) hx hb dX3_saveState_34 (by decide) ?_
  refine lv_iadd hx hb dX3_saveState_35 ?_
  refine z_put C Z hP hS (k := 90) (ci := 3) (j := 4) (N := 7) (x := ((m5 90 4) + 1)) (v := .int (((m5 90 4) + 1))) (ty := .int) (by decide) (z_E_90 _) rfl inX3_saveState_X3 tyX3_ok nmX3 (by decide) wX3_saveState_0 rfl (by decide +kernel) rfl rfl (Nat.le_of_ble_eq_true rfl) (z_S_90_4 _ _) dX3_saveState_36 (fun H locs hP hS => ?_)
  cases h
  exact z_retv C hr hlk hP hS dX3_saveState_39
set_option maxHeartbeats 4000000 in
set_option maxRecDepth 100000 in
theorem c_X3_saveState (l : Launch) (G : zG) {μ mu1 : Mm} {r : Unit} (h : f_X3_saveState μ = some (r, mu1)) (sz : Nat) : Met l yX3_saveState wsX3_saveState rm_X3_saveState (z_Pre G μ [.ref (G.2.1 (90))] sz) (z_Qv G r mu1 sz) 0 0 (z_A G sz) := by
  refine z_start (cc := cX3_saveState) (maxL := 1) (ret := none) (own := RX3) (by decide) rfl rfl (Nat.le_of_ble_eq_true rfl) (fun p e s m args below meth c C hr hlk Z hP ls hl => ?_) sz
  have hx := C.1
  have hb := C.2.1
  have hts := C.2.2.2.2
  have hS : va_S (z_A G s.heap.size) s.heap s.heap [] := va_S.rf
  have hl : lv_has ls 1 [(0, .ref (G.2.1 (90)))] := hl
  unfold f_X3_saveState at h
  refine lv_aload_n hx hb dX3_saveState_0 rfl (lv_at hl 0 rfl) ?_
  refine z_get C Z hP (k := 90) (ci := 3) (j := 4) (N := 7) (v := .int ((μ 90 4))) (by decide) (z_E_90 _) rfl inX3_saveState_X3 (by decide) wX3_saveState_0 rfl dX3_saveState_1 ?_
  refine lv_bipush (v := 6) hx hb dX3_saveState_4 (by decide) ?_
  refine lv_icmp_lt (tgt := 13) hx hb dX3_saveState_6 (by decide) (fun hc1 => ?_) (fun hc1 => ?_)
  · have h := z_ip hc1 h
    exact L_X3_saveState_b13 C hr hlk Z _ h _ _ hP hS ls (lv_sub hl [0] rfl)
  · have h := z_in hc1 h
    refine lv_aload_n hx hb dX3_saveState_9 rfl (lv_at hl 0 rfl) ?_
    obtain ⟨r7, m8, e9, h⟩ := zb_some h
    refine z_callv hS (va_runV (As := []) (rest := []) C (c_X3_dropOldestState l G e9 _) (cwV 0 hts gX3_saveState_X3_dropOldestState rfl rfl rfl hv_X3_dropOldestState ⟨Nat.le_of_ble_eq_true rfl, Nat.le_of_ble_eq_true rfl⟩) (z_preV Z hS hP (by decide) (z_E_90 _) rfl rfl) rfl rfl hl.1 rfl (lv_room (Nat.le_of_ble_eq_true rfl)) dX3_saveState_10 ⟨Nat.zero_le _, Nat.zero_le _⟩) (fun H locs hP hS => ?_)
    exact L_X3_saveState_b13 C hr hlk Z _ h _ _ hP hS ls (lv_sub hl [0] rfl)
abbrev rm_X3_speak : Room := { frames := 4, cells := 0, slots := 0, locals := 81 }
theorem hd_X3_speak : yX3_speak.cls ≠ "java/lang/invoke/MethodHandle" ∧ yX3_speak.cls ≠ "java/lang/invoke/VarHandle" ∧ (parseMethodDescriptor yX3_speak.desc).map (fun d => d.parameters.length) = some 2 := by decide +kernel
theorem hv_X3_speak : yX3_speak.cls = RX3 ∧ yX3_speak.cls ≠ "java/lang/invoke/MethodHandle" ∧ yX3_speak.cls ≠ "java/lang/invoke/VarHandle" ∧ (parseMethodDescriptor yX3_speak.desc).map (fun d => d.parameters.length) = some 2 := ⟨rfl, hd_X3_speak⟩
theorem wX3_speak_0 : Cond.fieldLink RX3 12 "WaxCopies" "now" "LWaxCopies$Wax;" ∈ wsX3_speak := by decide +kernel
theorem inX3_speak_X3 : ∀ w ∈ wsX30, w ∈ wsX3_speak := by decide +kernel
set_option maxHeartbeats 4000000 in
set_option maxRecDepth 100000 in
theorem c_X3_speak (l : Launch) (G : zG) {x1 : Int32} {x2 : Int32} {μ mu1 : Mm} {r : Int32} (h : f_X3_speak x1 x2 μ = some (.inr r, mu1)) (sz : Nat) : Met l yX3_speak wsX3_speak rm_X3_speak (z_Pre G μ [.ref (G.2.1 (90)), .int (x1), .int (x2)] sz) (z_Qi G r mu1 sz) 0 0 (z_A G sz) := by
  refine z_start (cc := cX3_speak) (maxL := 3) (ret := (some .int)) (own := RX3) (by decide) rfl rfl (Nat.le_of_ble_eq_true rfl) (fun p e s m args below meth c C hr hlk Z hP ls hl => ?_) sz
  have hx := C.1
  have hb := C.2.1
  have hts := C.2.2.2.2
  have hS : va_S (z_A G s.heap.size) s.heap s.heap [] := va_S.rf
  have hl : lv_has ls 3 [(0, .ref (G.2.1 (90))), (1, .int (x1)), (2, .int (x2))] := hl
  unfold f_X3_speak at h
  refine lv_aload_n hx hb dX3_speak_0 rfl (lv_at hl 0 rfl) ?_
  refine lv_iload_n hx hb dX3_speak_1 rfl (lv_at hl 1 rfl) ?_
  obtain ⟨r1, m2, e3, h⟩ := zbx_r h
  refine z_callv hS (va_runV (As := [.int (x1)]) (rest := []) C (c_X3_checkTrack l G e3 _) (cwV 1 hts gX3_speak_X3_checkTrack rfl rfl rfl hv_X3_checkTrack ⟨Nat.le_of_ble_eq_true rfl, Nat.le_of_ble_eq_true rfl⟩) (z_preV Z hS hP (by decide) (z_E_90 _) rfl rfl) rfl rfl hl.1 rfl (lv_room (Nat.le_of_ble_eq_true rfl)) dX3_speak_2 ⟨Nat.zero_le _, Nat.zero_le _⟩) (fun H locs hP hS => ?_)
  refine lv_aload_n hx hb dX3_speak_5 rfl (lv_at hl 0 rfl) ?_
  refine lv_iload_n hx hb dX3_speak_6 rfl (lv_at hl 2 rfl) ?_
  obtain ⟨r4, m5, e6, h⟩ := zbx_r h
  refine z_callv hS (va_runV (As := [.int (x2)]) (rest := []) C (c_X3_checkLoudness l G e6 _) (cwV 1 hts gX3_speak_X3_checkLoudness rfl rfl rfl hv_X3_checkLoudness ⟨Nat.le_of_ble_eq_true rfl, Nat.le_of_ble_eq_true rfl⟩) (z_preV Z hS hP (by decide) (z_E_90 _) rfl rfl) rfl rfl hl.1 rfl (lv_room (Nat.le_of_ble_eq_true rfl)) dX3_speak_7 ⟨Nat.zero_le _, Nat.zero_le _⟩) (fun H locs hP hS => ?_)
  refine lv_aload_n hx hb dX3_speak_10 rfl (lv_at hl 0 rfl) ?_
  obtain ⟨r7, m8, e9, h⟩ := zb_some h
  refine z_callv hS (va_runV (As := []) (rest := []) C (c_X3_saveState l G e9 _) (cwV 0 hts gX3_speak_X3_saveState rfl rfl rfl hv_X3_saveState ⟨Nat.le_of_ble_eq_true rfl, Nat.le_of_ble_eq_true rfl⟩) (z_preV Z hS hP (by decide) (z_E_90 _) rfl rfl) rfl rfl hl.1 rfl (lv_room (Nat.le_of_ble_eq_true rfl)) dX3_speak_11 ⟨Nat.zero_le _, Nat.zero_le _⟩) (fun H locs hP hS => ?_)
  refine lv_aload_n hx hb dX3_speak_14 rfl (lv_at hl 0 rfl) ?_
  refine z_get C Z hP (k := 90) (ci := 3) (j := 0) (N := 7) (v := .ref (G.2.1 (0))) (by decide) (z_E_90 _) rfl inX3_speak_X3 (by decide) wX3_speak_0 rfl dX3_speak_15 ?_
  refine lv_iload_n hx hb dX3_speak_18 rfl (lv_at hl 1 rfl) ?_
  refine lv_iload_n hx hb dX3_speak_19 rfl (lv_at hl 2 rfl) ?_
  obtain ⟨r10, m11, e12, h⟩ := zb_some h
  refine z_calli hS (va_runV (As := [.int (x1), .int (x2)]) (rest := []) C (c_X2_speakOnto l G e12 _) (cwV 2 hts gX3_speak_X2_speakOnto rfl rfl rfl hv_X2_speakOnto ⟨Nat.le_of_ble_eq_true rfl, Nat.le_of_ble_eq_true rfl⟩) (z_preV Z hS hP (by decide) (z_E_0 _) rfl rfl) rfl rfl hl.1 rfl (lv_room (Nat.le_of_ble_eq_true rfl)) dX3_speak_20 ⟨Nat.zero_le _, Nat.zero_le _⟩) (fun H locs hP hS => ?_)
  cases h
  exact z_reti C hr hlk hP hS dX3_speak_23
abbrev rm_X3_checkLever : Room := { frames := 0, cells := 0, slots := 0, locals := 0 }
theorem hd_X3_checkLever : yX3_checkLever.cls ≠ "java/lang/invoke/MethodHandle" ∧ yX3_checkLever.cls ≠ "java/lang/invoke/VarHandle" ∧ (parseMethodDescriptor yX3_checkLever.desc).map (fun d => d.parameters.length) = some 1 := by decide +kernel
theorem hv_X3_checkLever : yX3_checkLever.cls = RX3 ∧ yX3_checkLever.cls ≠ "java/lang/invoke/MethodHandle" ∧ yX3_checkLever.cls ≠ "java/lang/invoke/VarHandle" ∧ (parseMethodDescriptor yX3_checkLever.desc).map (fun d => d.parameters.length) = some 1 := ⟨rfl, hd_X3_checkLever⟩
set_option maxHeartbeats 4000000 in
set_option maxRecDepth 100000 in
theorem c_X3_checkLever (l : Launch) (G : zG) {x1 : Int32} {μ mu1 : Mm} {r : Unit} (h : f_X3_checkLever x1 μ = some (.inr r, mu1)) (sz : Nat) : Met l yX3_checkLever wsX3_checkLever rm_X3_checkLever (z_Pre G μ [.ref (G.2.1 (90)), .int (x1)] sz) (z_Qv G r mu1 sz) 0 0 (z_A G sz) := by
  refine z_start (cc := cX3_checkLever) (maxL := 2) (ret := none) (own := RX3) (by decide) rfl rfl (Nat.le_of_ble_eq_true rfl) (fun p e s m args below meth c C hr hlk Z hP ls hl => ?_) sz
  have hx := C.1
  have hb := C.2.1
  have hts := C.2.2.2.2
  have hS : va_S (z_A G s.heap.size) s.heap s.heap [] := va_S.rf
  have hl : lv_has ls 2 [(0, .ref (G.2.1 (90))), (1, .int (x1))] := hl
  unfold f_X3_checkLever at h
  refine lv_iload_n hx hb dX3_checkLever_0 rfl (lv_at hl 1 rfl) ?_
  refine lv_iconst (v := 1) hx hb dX3_checkLever_1 (by decide) ?_
  refine lv_icmp_lt (tgt := 10) hx hb dX3_checkLever_2 (by decide) (fun hc1 => ?_) (fun hc1 => ?_)
  · have h := z_ip hc1 h
    cases h
  · have h := z_in hc1 h
    refine lv_iload_n hx hb dX3_checkLever_5 rfl (lv_at hl 1 rfl) ?_
    refine lv_iconst (v := 3) hx hb dX3_checkLever_6 (by decide) ?_
    refine lv_icmp_le (tgt := 21) hx hb dX3_checkLever_7 (by decide) (fun hc2 => ?_) (fun hc2 => ?_)
    · have h := z_ip hc2 h
      cases h
      exact z_retv C hr hlk hP hS dX3_checkLever_21
    · have h := z_in hc2 h
      cases h
abbrev rm_X3_copy : Room := { frames := 4, cells := 0, slots := 0, locals := 90 }
theorem hd_X3_copy : yX3_copy.cls ≠ "java/lang/invoke/MethodHandle" ∧ yX3_copy.cls ≠ "java/lang/invoke/VarHandle" ∧ (parseMethodDescriptor yX3_copy.desc).map (fun d => d.parameters.length) = some 3 := by decide +kernel
theorem hv_X3_copy : yX3_copy.cls = RX3 ∧ yX3_copy.cls ≠ "java/lang/invoke/MethodHandle" ∧ yX3_copy.cls ≠ "java/lang/invoke/VarHandle" ∧ (parseMethodDescriptor yX3_copy.desc).map (fun d => d.parameters.length) = some 3 := ⟨rfl, hd_X3_copy⟩
theorem wX3_copy_0 : Cond.fieldLink RX3 12 "WaxCopies" "now" "LWaxCopies$Wax;" ∈ wsX3_copy := by decide +kernel
theorem inX3_copy_X3 : ∀ w ∈ wsX30, w ∈ wsX3_copy := by decide +kernel
set_option maxHeartbeats 4000000 in
set_option maxRecDepth 100000 in
theorem c_X3_copy (l : Launch) (G : zG) {x1 : Int32} {x2 : Int32} {x3 : Int32} {μ mu1 : Mm} {r : Int32} (h : f_X3_copy x1 x2 x3 μ = some (.inr r, mu1)) (sz : Nat) : Met l yX3_copy wsX3_copy rm_X3_copy (z_Pre G μ [.ref (G.2.1 (90)), .int (x1), .int (x2), .int (x3)] sz) (z_Qi G r mu1 sz) 0 0 (z_A G sz) := by
  refine z_start (cc := cX3_copy) (maxL := 4) (ret := (some .int)) (own := RX3) (by decide) rfl rfl (Nat.le_of_ble_eq_true rfl) (fun p e s m args below meth c C hr hlk Z hP ls hl => ?_) sz
  have hx := C.1
  have hb := C.2.1
  have hts := C.2.2.2.2
  have hS : va_S (z_A G s.heap.size) s.heap s.heap [] := va_S.rf
  have hl : lv_has ls 4 [(0, .ref (G.2.1 (90))), (1, .int (x1)), (2, .int (x2)), (3, .int (x3))] := hl
  unfold f_X3_copy at h
  refine lv_aload_n hx hb dX3_copy_0 rfl (lv_at hl 0 rfl) ?_
  refine lv_iload_n hx hb dX3_copy_1 rfl (lv_at hl 1 rfl) ?_
  obtain ⟨r1, m2, e3, h⟩ := zbx_r h
  refine z_callv hS (va_runV (As := [.int (x1)]) (rest := []) C (c_X3_checkTrack l G e3 _) (cwV 1 hts gX3_copy_X3_checkTrack rfl rfl rfl hv_X3_checkTrack ⟨Nat.le_of_ble_eq_true rfl, Nat.le_of_ble_eq_true rfl⟩) (z_preV Z hS hP (by decide) (z_E_90 _) rfl rfl) rfl rfl hl.1 rfl (lv_room (Nat.le_of_ble_eq_true rfl)) dX3_copy_2 ⟨Nat.zero_le _, Nat.zero_le _⟩) (fun H locs hP hS => ?_)
  refine lv_aload_n hx hb dX3_copy_5 rfl (lv_at hl 0 rfl) ?_
  refine lv_iload_n hx hb dX3_copy_6 rfl (lv_at hl 2 rfl) ?_
  obtain ⟨r4, m5, e6, h⟩ := zbx_r h
  refine z_callv hS (va_runV (As := [.int (x2)]) (rest := []) C (c_X3_checkTrack l G e6 _) (cwV 1 hts gX3_copy_X3_checkTrack rfl rfl rfl hv_X3_checkTrack ⟨Nat.le_of_ble_eq_true rfl, Nat.le_of_ble_eq_true rfl⟩) (z_preV Z hS hP (by decide) (z_E_90 _) rfl rfl) rfl rfl hl.1 rfl (lv_room (Nat.le_of_ble_eq_true rfl)) dX3_copy_7 ⟨Nat.zero_le _, Nat.zero_le _⟩) (fun H locs hP hS => ?_)
  refine lv_aload_n hx hb dX3_copy_10 rfl (lv_at hl 0 rfl) ?_
  refine lv_iload_n hx hb dX3_copy_11 rfl (lv_at hl 3 rfl) ?_
  obtain ⟨r7, m8, e9, h⟩ := zbx_r h
  refine z_callv hS (va_runV (As := [.int (x3)]) (rest := []) C (c_X3_checkLever l G e9 _) (cwV 1 hts gX3_copy_X3_checkLever rfl rfl rfl hv_X3_checkLever ⟨Nat.le_of_ble_eq_true rfl, Nat.le_of_ble_eq_true rfl⟩) (z_preV Z hS hP (by decide) (z_E_90 _) rfl rfl) rfl rfl hl.1 rfl (lv_room (Nat.le_of_ble_eq_true rfl)) dX3_copy_12 ⟨Nat.zero_le _, Nat.zero_le _⟩) (fun H locs hP hS => ?_)
  refine lv_aload_n hx hb dX3_copy_15 rfl (lv_at hl 0 rfl) ?_
  obtain ⟨r10, m11, e12, h⟩ := zb_some h
  refine z_callv hS (va_runV (As := []) (rest := []) C (c_X3_saveState l G e12 _) (cwV 0 hts gX3_copy_X3_saveState rfl rfl rfl hv_X3_saveState ⟨Nat.le_of_ble_eq_true rfl, Nat.le_of_ble_eq_true rfl⟩) (z_preV Z hS hP (by decide) (z_E_90 _) rfl rfl) rfl rfl hl.1 rfl (lv_room (Nat.le_of_ble_eq_true rfl)) dX3_copy_16 ⟨Nat.zero_le _, Nat.zero_le _⟩) (fun H locs hP hS => ?_)
  refine lv_aload_n hx hb dX3_copy_19 rfl (lv_at hl 0 rfl) ?_
  refine z_get C Z hP (k := 90) (ci := 3) (j := 0) (N := 7) (v := .ref (G.2.1 (0))) (by decide) (z_E_90 _) rfl inX3_copy_X3 (by decide) wX3_copy_0 rfl dX3_copy_20 ?_
  refine lv_iload_n hx hb dX3_copy_23 rfl (lv_at hl 1 rfl) ?_
  refine lv_iload_n hx hb dX3_copy_24 rfl (lv_at hl 2 rfl) ?_
  refine lv_iload_n hx hb dX3_copy_25 rfl (lv_at hl 3 rfl) ?_
  obtain ⟨r13, m14, e15, h⟩ := zb_some h
  refine z_calli hS (va_runV (As := [.int (x1), .int (x2), .int (x3)]) (rest := []) C (c_X2_copyOnto l G e15 _) (cwV 3 hts gX3_copy_X2_copyOnto rfl rfl rfl hv_X2_copyOnto ⟨Nat.le_of_ble_eq_true rfl, Nat.le_of_ble_eq_true rfl⟩) (z_preV Z hS hP (by decide) (z_E_0 _) rfl rfl) rfl rfl hl.1 rfl (lv_room (Nat.le_of_ble_eq_true rfl)) dX3_copy_26 ⟨Nat.zero_le _, Nat.zero_le _⟩) (fun H locs hP hS => ?_)
  cases h
  exact z_reti C hr hlk hP hS dX3_copy_29
abbrev rm_X3_play : Room := { frames := 3, cells := 0, slots := 0, locals := 81 }
theorem hd_X3_play : yX3_play.cls ≠ "java/lang/invoke/MethodHandle" ∧ yX3_play.cls ≠ "java/lang/invoke/VarHandle" ∧ (parseMethodDescriptor yX3_play.desc).map (fun d => d.parameters.length) = some 1 := by decide +kernel
theorem hv_X3_play : yX3_play.cls = RX3 ∧ yX3_play.cls ≠ "java/lang/invoke/MethodHandle" ∧ yX3_play.cls ≠ "java/lang/invoke/VarHandle" ∧ (parseMethodDescriptor yX3_play.desc).map (fun d => d.parameters.length) = some 1 := ⟨rfl, hd_X3_play⟩
theorem wX3_play_0 : Cond.fieldLink RX3 12 "WaxCopies" "now" "LWaxCopies$Wax;" ∈ wsX3_play := by decide +kernel
theorem inX3_play_X3 : ∀ w ∈ wsX30, w ∈ wsX3_play := by decide +kernel
set_option maxHeartbeats 4000000 in
set_option maxRecDepth 100000 in
theorem c_X3_play (l : Launch) (G : zG) {x1 : Int32} {μ mu1 : Mm} {r : Int32} (h : f_X3_play x1 μ = some (.inr r, mu1)) (sz : Nat) : Met l yX3_play wsX3_play rm_X3_play (z_Pre G μ [.ref (G.2.1 (90)), .int (x1)] sz) (z_Qi G r mu1 sz) 0 0 (z_A G sz) := by
  refine z_start (cc := cX3_play) (maxL := 2) (ret := (some .int)) (own := RX3) (by decide) rfl rfl (Nat.le_of_ble_eq_true rfl) (fun p e s m args below meth c C hr hlk Z hP ls hl => ?_) sz
  have hx := C.1
  have hb := C.2.1
  have hts := C.2.2.2.2
  have hS : va_S (z_A G s.heap.size) s.heap s.heap [] := va_S.rf
  have hl : lv_has ls 2 [(0, .ref (G.2.1 (90))), (1, .int (x1))] := hl
  unfold f_X3_play at h
  refine lv_aload_n hx hb dX3_play_0 rfl (lv_at hl 0 rfl) ?_
  refine lv_iload_n hx hb dX3_play_1 rfl (lv_at hl 1 rfl) ?_
  obtain ⟨r1, m2, e3, h⟩ := zbx_r h
  refine z_callv hS (va_runV (As := [.int (x1)]) (rest := []) C (c_X3_checkTrack l G e3 _) (cwV 1 hts gX3_play_X3_checkTrack rfl rfl rfl hv_X3_checkTrack ⟨Nat.le_of_ble_eq_true rfl, Nat.le_of_ble_eq_true rfl⟩) (z_preV Z hS hP (by decide) (z_E_90 _) rfl rfl) rfl rfl hl.1 rfl (lv_room (Nat.le_of_ble_eq_true rfl)) dX3_play_2 ⟨Nat.zero_le _, Nat.zero_le _⟩) (fun H locs hP hS => ?_)
  refine lv_aload_n hx hb dX3_play_5 rfl (lv_at hl 0 rfl) ?_
  obtain ⟨r4, m5, e6, h⟩ := zb_some h
  refine z_callv hS (va_runV (As := []) (rest := []) C (c_X3_saveState l G e6 _) (cwV 0 hts gX3_play_X3_saveState rfl rfl rfl hv_X3_saveState ⟨Nat.le_of_ble_eq_true rfl, Nat.le_of_ble_eq_true rfl⟩) (z_preV Z hS hP (by decide) (z_E_90 _) rfl rfl) rfl rfl hl.1 rfl (lv_room (Nat.le_of_ble_eq_true rfl)) dX3_play_6 ⟨Nat.zero_le _, Nat.zero_le _⟩) (fun H locs hP hS => ?_)
  refine lv_aload_n hx hb dX3_play_9 rfl (lv_at hl 0 rfl) ?_
  refine z_get C Z hP (k := 90) (ci := 3) (j := 0) (N := 7) (v := .ref (G.2.1 (0))) (by decide) (z_E_90 _) rfl inX3_play_X3 (by decide) wX3_play_0 rfl dX3_play_10 ?_
  refine lv_iload_n hx hb dX3_play_13 rfl (lv_at hl 1 rfl) ?_
  obtain ⟨r7, m8, e9, h⟩ := zb_some h
  refine z_calli hS (va_runV (As := [.int (x1)]) (rest := []) C (c_X2_playTrack l G e9 _) (cwV 1 hts gX3_play_X2_playTrack rfl rfl rfl hv_X2_playTrack ⟨Nat.le_of_ble_eq_true rfl, Nat.le_of_ble_eq_true rfl⟩) (z_preV Z hS hP (by decide) (z_E_0 _) rfl rfl) rfl rfl hl.1 rfl (lv_room (Nat.le_of_ble_eq_true rfl)) dX3_play_14 ⟨Nat.zero_le _, Nat.zero_le _⟩) (fun H locs hP hS => ?_)
  cases h
  exact z_reti C hr hlk hP hS dX3_play_17
abbrev rm_X3_checkCylinder : Room := { frames := 0, cells := 0, slots := 0, locals := 0 }
theorem hd_X3_checkCylinder : yX3_checkCylinder.cls ≠ "java/lang/invoke/MethodHandle" ∧ yX3_checkCylinder.cls ≠ "java/lang/invoke/VarHandle" ∧ (parseMethodDescriptor yX3_checkCylinder.desc).map (fun d => d.parameters.length) = some 1 := by decide +kernel
theorem hv_X3_checkCylinder : yX3_checkCylinder.cls = RX3 ∧ yX3_checkCylinder.cls ≠ "java/lang/invoke/MethodHandle" ∧ yX3_checkCylinder.cls ≠ "java/lang/invoke/VarHandle" ∧ (parseMethodDescriptor yX3_checkCylinder.desc).map (fun d => d.parameters.length) = some 1 := ⟨rfl, hd_X3_checkCylinder⟩
set_option maxHeartbeats 4000000 in
set_option maxRecDepth 100000 in
theorem c_X3_checkCylinder (l : Launch) (G : zG) {x1 : Int32} {μ mu1 : Mm} {r : Unit} (h : f_X3_checkCylinder x1 μ = some (.inr r, mu1)) (sz : Nat) : Met l yX3_checkCylinder wsX3_checkCylinder rm_X3_checkCylinder (z_Pre G μ [.ref (G.2.1 (90)), .int (x1)] sz) (z_Qv G r mu1 sz) 0 0 (z_A G sz) := by
  refine z_start (cc := cX3_checkCylinder) (maxL := 2) (ret := none) (own := RX3) (by decide) rfl rfl (Nat.le_of_ble_eq_true rfl) (fun p e s m args below meth c C hr hlk Z hP ls hl => ?_) sz
  have hx := C.1
  have hb := C.2.1
  have hts := C.2.2.2.2
  have hS : va_S (z_A G s.heap.size) s.heap s.heap [] := va_S.rf
  have hl : lv_has ls 2 [(0, .ref (G.2.1 (90))), (1, .int (x1))] := hl
  unfold f_X3_checkCylinder at h
  refine lv_iload_n hx hb dX3_checkCylinder_0 rfl (lv_at hl 1 rfl) ?_
  refine lv_if_lt (tgt := 10) hx hb dX3_checkCylinder_1 (by decide) (fun hc1 => ?_) (fun hc1 => ?_)
  · have h := z_ip hc1 h
    cases h
  · have h := z_in hc1 h
    refine lv_iload_n hx hb dX3_checkCylinder_4 rfl (lv_at hl 1 rfl) ?_
    refine lv_bipush (v := 6) hx hb dX3_checkCylinder_5 (by decide) ?_
    refine lv_icmp_lt (tgt := 21) hx hb dX3_checkCylinder_7 (by decide) (fun hc2 => ?_) (fun hc2 => ?_)
    · have h := z_ip hc2 h
      cases h
      exact z_retv C hr hlk hP hS dX3_checkCylinder_21
    · have h := z_in hc2 h
      cases h
abbrev rm_X3_shave : Room := { frames := 3, cells := 0, slots := 0, locals := 81 }
theorem hd_X3_shave : yX3_shave.cls ≠ "java/lang/invoke/MethodHandle" ∧ yX3_shave.cls ≠ "java/lang/invoke/VarHandle" ∧ (parseMethodDescriptor yX3_shave.desc).map (fun d => d.parameters.length) = some 1 := by decide +kernel
theorem hv_X3_shave : yX3_shave.cls = RX3 ∧ yX3_shave.cls ≠ "java/lang/invoke/MethodHandle" ∧ yX3_shave.cls ≠ "java/lang/invoke/VarHandle" ∧ (parseMethodDescriptor yX3_shave.desc).map (fun d => d.parameters.length) = some 1 := ⟨rfl, hd_X3_shave⟩
theorem wX3_shave_0 : Cond.fieldLink RX3 12 "WaxCopies" "now" "LWaxCopies$Wax;" ∈ wsX3_shave := by decide +kernel
theorem inX3_shave_X3 : ∀ w ∈ wsX30, w ∈ wsX3_shave := by decide +kernel
set_option maxHeartbeats 4000000 in
set_option maxRecDepth 100000 in
theorem c_X3_shave (l : Launch) (G : zG) {x1 : Int32} {μ mu1 : Mm} {r : Int32} (h : f_X3_shave x1 μ = some (.inr r, mu1)) (sz : Nat) : Met l yX3_shave wsX3_shave rm_X3_shave (z_Pre G μ [.ref (G.2.1 (90)), .int (x1)] sz) (z_Qi G r mu1 sz) 0 0 (z_A G sz) := by
  refine z_start (cc := cX3_shave) (maxL := 2) (ret := (some .int)) (own := RX3) (by decide) rfl rfl (Nat.le_of_ble_eq_true rfl) (fun p e s m args below meth c C hr hlk Z hP ls hl => ?_) sz
  have hx := C.1
  have hb := C.2.1
  have hts := C.2.2.2.2
  have hS : va_S (z_A G s.heap.size) s.heap s.heap [] := va_S.rf
  have hl : lv_has ls 2 [(0, .ref (G.2.1 (90))), (1, .int (x1))] := hl
  unfold f_X3_shave at h
  refine lv_aload_n hx hb dX3_shave_0 rfl (lv_at hl 0 rfl) ?_
  refine lv_iload_n hx hb dX3_shave_1 rfl (lv_at hl 1 rfl) ?_
  obtain ⟨r1, m2, e3, h⟩ := zbx_r h
  refine z_callv hS (va_runV (As := [.int (x1)]) (rest := []) C (c_X3_checkCylinder l G e3 _) (cwV 1 hts gX3_shave_X3_checkCylinder rfl rfl rfl hv_X3_checkCylinder ⟨Nat.le_of_ble_eq_true rfl, Nat.le_of_ble_eq_true rfl⟩) (z_preV Z hS hP (by decide) (z_E_90 _) rfl rfl) rfl rfl hl.1 rfl (lv_room (Nat.le_of_ble_eq_true rfl)) dX3_shave_2 ⟨Nat.zero_le _, Nat.zero_le _⟩) (fun H locs hP hS => ?_)
  refine lv_aload_n hx hb dX3_shave_5 rfl (lv_at hl 0 rfl) ?_
  obtain ⟨r4, m5, e6, h⟩ := zb_some h
  refine z_callv hS (va_runV (As := []) (rest := []) C (c_X3_saveState l G e6 _) (cwV 0 hts gX3_shave_X3_saveState rfl rfl rfl hv_X3_saveState ⟨Nat.le_of_ble_eq_true rfl, Nat.le_of_ble_eq_true rfl⟩) (z_preV Z hS hP (by decide) (z_E_90 _) rfl rfl) rfl rfl hl.1 rfl (lv_room (Nat.le_of_ble_eq_true rfl)) dX3_shave_6 ⟨Nat.zero_le _, Nat.zero_le _⟩) (fun H locs hP hS => ?_)
  refine lv_aload_n hx hb dX3_shave_9 rfl (lv_at hl 0 rfl) ?_
  refine z_get C Z hP (k := 90) (ci := 3) (j := 0) (N := 7) (v := .ref (G.2.1 (0))) (by decide) (z_E_90 _) rfl inX3_shave_X3 (by decide) wX3_shave_0 rfl dX3_shave_10 ?_
  refine lv_iload_n hx hb dX3_shave_13 rfl (lv_at hl 1 rfl) ?_
  obtain ⟨r7, m8, e9, h⟩ := zb_some h
  refine z_calli hS (va_runV (As := [.int (x1)]) (rest := []) C (c_X2_shaveCylinder l G e9 _) (cwV 1 hts gX3_shave_X2_shaveCylinder rfl rfl rfl hv_X2_shaveCylinder ⟨Nat.le_of_ble_eq_true rfl, Nat.le_of_ble_eq_true rfl⟩) (z_preV Z hS hP (by decide) (z_E_0 _) rfl rfl) rfl rfl hl.1 rfl (lv_room (Nat.le_of_ble_eq_true rfl)) dX3_shave_14 ⟨Nat.zero_le _, Nat.zero_le _⟩) (fun H locs hP hS => ?_)
  cases h
  exact z_reti C hr hlk hP hS dX3_shave_17
abbrev rm_X3_wind : Room := { frames := 3, cells := 0, slots := 0, locals := 81 }
theorem hd_X3_wind : yX3_wind.cls ≠ "java/lang/invoke/MethodHandle" ∧ yX3_wind.cls ≠ "java/lang/invoke/VarHandle" ∧ (parseMethodDescriptor yX3_wind.desc).map (fun d => d.parameters.length) = some 0 := by decide +kernel
theorem hv_X3_wind : yX3_wind.cls = RX3 ∧ yX3_wind.cls ≠ "java/lang/invoke/MethodHandle" ∧ yX3_wind.cls ≠ "java/lang/invoke/VarHandle" ∧ (parseMethodDescriptor yX3_wind.desc).map (fun d => d.parameters.length) = some 0 := ⟨rfl, hd_X3_wind⟩
theorem wX3_wind_0 : Cond.fieldLink RX3 12 "WaxCopies" "now" "LWaxCopies$Wax;" ∈ wsX3_wind := by decide +kernel
theorem inX3_wind_X3 : ∀ w ∈ wsX30, w ∈ wsX3_wind := by decide +kernel
set_option maxHeartbeats 4000000 in
set_option maxRecDepth 100000 in
theorem c_X3_wind (l : Launch) (G : zG) {μ mu1 : Mm} {r : Int32} (h : f_X3_wind μ = some (r, mu1)) (sz : Nat) : Met l yX3_wind wsX3_wind rm_X3_wind (z_Pre G μ [.ref (G.2.1 (90))] sz) (z_Qi G r mu1 sz) 0 0 (z_A G sz) := by
  refine z_start (cc := cX3_wind) (maxL := 1) (ret := (some .int)) (own := RX3) (by decide) rfl rfl (Nat.le_of_ble_eq_true rfl) (fun p e s m args below meth c C hr hlk Z hP ls hl => ?_) sz
  have hx := C.1
  have hb := C.2.1
  have hts := C.2.2.2.2
  have hS : va_S (z_A G s.heap.size) s.heap s.heap [] := va_S.rf
  have hl : lv_has ls 1 [(0, .ref (G.2.1 (90)))] := hl
  unfold f_X3_wind at h
  refine lv_aload_n hx hb dX3_wind_0 rfl (lv_at hl 0 rfl) ?_
  obtain ⟨r1, m2, e3, h⟩ := zb_some h
  refine z_callv hS (va_runV (As := []) (rest := []) C (c_X3_saveState l G e3 _) (cwV 0 hts gX3_wind_X3_saveState rfl rfl rfl hv_X3_saveState ⟨Nat.le_of_ble_eq_true rfl, Nat.le_of_ble_eq_true rfl⟩) (z_preV Z hS hP (by decide) (z_E_90 _) rfl rfl) rfl rfl hl.1 rfl (lv_room (Nat.le_of_ble_eq_true rfl)) dX3_wind_1 ⟨Nat.zero_le _, Nat.zero_le _⟩) (fun H locs hP hS => ?_)
  refine lv_aload_n hx hb dX3_wind_4 rfl (lv_at hl 0 rfl) ?_
  refine z_get C Z hP (k := 90) (ci := 3) (j := 0) (N := 7) (v := .ref (G.2.1 (0))) (by decide) (z_E_90 _) rfl inX3_wind_X3 (by decide) wX3_wind_0 rfl dX3_wind_5 ?_
  obtain ⟨r4, m5, e6, h⟩ := zb_some h
  refine z_calli hS (va_runV (As := []) (rest := []) C (c_X2_windUp l G e6 _) (cwV 0 hts gX3_wind_X2_windUp rfl rfl rfl hv_X2_windUp ⟨Nat.le_of_ble_eq_true rfl, Nat.le_of_ble_eq_true rfl⟩) (z_preV Z hS hP (by decide) (z_E_0 _) rfl rfl) rfl rfl hl.1 rfl (lv_room (Nat.le_of_ble_eq_true rfl)) dX3_wind_8 ⟨Nat.zero_le _, Nat.zero_le _⟩) (fun H locs hP hS => ?_)
  cases h
  exact z_reti C hr hlk hP hS dX3_wind_11
abbrev rm_X3_sharpen : Room := { frames := 3, cells := 0, slots := 0, locals := 81 }
theorem hd_X3_sharpen : yX3_sharpen.cls ≠ "java/lang/invoke/MethodHandle" ∧ yX3_sharpen.cls ≠ "java/lang/invoke/VarHandle" ∧ (parseMethodDescriptor yX3_sharpen.desc).map (fun d => d.parameters.length) = some 0 := by decide +kernel
theorem hv_X3_sharpen : yX3_sharpen.cls = RX3 ∧ yX3_sharpen.cls ≠ "java/lang/invoke/MethodHandle" ∧ yX3_sharpen.cls ≠ "java/lang/invoke/VarHandle" ∧ (parseMethodDescriptor yX3_sharpen.desc).map (fun d => d.parameters.length) = some 0 := ⟨rfl, hd_X3_sharpen⟩
theorem wX3_sharpen_0 : Cond.fieldLink RX3 12 "WaxCopies" "now" "LWaxCopies$Wax;" ∈ wsX3_sharpen := by decide +kernel
theorem inX3_sharpen_X3 : ∀ w ∈ wsX30, w ∈ wsX3_sharpen := by decide +kernel
set_option maxHeartbeats 4000000 in
set_option maxRecDepth 100000 in
theorem c_X3_sharpen (l : Launch) (G : zG) {μ mu1 : Mm} {r : Int32} (h : f_X3_sharpen μ = some (r, mu1)) (sz : Nat) : Met l yX3_sharpen wsX3_sharpen rm_X3_sharpen (z_Pre G μ [.ref (G.2.1 (90))] sz) (z_Qi G r mu1 sz) 0 0 (z_A G sz) := by
  refine z_start (cc := cX3_sharpen) (maxL := 1) (ret := (some .int)) (own := RX3) (by decide) rfl rfl (Nat.le_of_ble_eq_true rfl) (fun p e s m args below meth c C hr hlk Z hP ls hl => ?_) sz
  have hx := C.1
  have hb := C.2.1
  have hts := C.2.2.2.2
  have hS : va_S (z_A G s.heap.size) s.heap s.heap [] := va_S.rf
  have hl : lv_has ls 1 [(0, .ref (G.2.1 (90)))] := hl
  unfold f_X3_sharpen at h
  refine lv_aload_n hx hb dX3_sharpen_0 rfl (lv_at hl 0 rfl) ?_
  obtain ⟨r1, m2, e3, h⟩ := zb_some h
  refine z_callv hS (va_runV (As := []) (rest := []) C (c_X3_saveState l G e3 _) (cwV 0 hts gX3_sharpen_X3_saveState rfl rfl rfl hv_X3_saveState ⟨Nat.le_of_ble_eq_true rfl, Nat.le_of_ble_eq_true rfl⟩) (z_preV Z hS hP (by decide) (z_E_90 _) rfl rfl) rfl rfl hl.1 rfl (lv_room (Nat.le_of_ble_eq_true rfl)) dX3_sharpen_1 ⟨Nat.zero_le _, Nat.zero_le _⟩) (fun H locs hP hS => ?_)
  refine lv_aload_n hx hb dX3_sharpen_4 rfl (lv_at hl 0 rfl) ?_
  refine z_get C Z hP (k := 90) (ci := 3) (j := 0) (N := 7) (v := .ref (G.2.1 (0))) (by decide) (z_E_90 _) rfl inX3_sharpen_X3 (by decide) wX3_sharpen_0 rfl dX3_sharpen_5 ?_
  obtain ⟨r4, m5, e6, h⟩ := zb_some h
  refine z_calli hS (va_runV (As := []) (rest := []) C (c_X2_sharpenPoint l G e6 _) (cwV 0 hts gX3_sharpen_X2_sharpenPoint rfl rfl rfl hv_X2_sharpenPoint ⟨Nat.le_of_ble_eq_true rfl, Nat.le_of_ble_eq_true rfl⟩) (z_preV Z hS hP (by decide) (z_E_0 _) rfl rfl) rfl rfl hl.1 rfl (lv_room (Nat.le_of_ble_eq_true rfl)) dX3_sharpen_8 ⟨Nat.zero_le _, Nat.zero_le _⟩) (fun H locs hP hS => ?_)
  cases h
  exact z_reti C hr hlk hP hS dX3_sharpen_11
abbrev rm_X3_renew : Room := { frames := 3, cells := 0, slots := 0, locals := 81 }
theorem hd_X3_renew : yX3_renew.cls ≠ "java/lang/invoke/MethodHandle" ∧ yX3_renew.cls ≠ "java/lang/invoke/VarHandle" ∧ (parseMethodDescriptor yX3_renew.desc).map (fun d => d.parameters.length) = some 2 := by decide +kernel
theorem hv_X3_renew : yX3_renew.cls = RX3 ∧ yX3_renew.cls ≠ "java/lang/invoke/MethodHandle" ∧ yX3_renew.cls ≠ "java/lang/invoke/VarHandle" ∧ (parseMethodDescriptor yX3_renew.desc).map (fun d => d.parameters.length) = some 2 := ⟨rfl, hd_X3_renew⟩
theorem wX3_renew_0 : Cond.fieldLink RX3 12 "WaxCopies" "now" "LWaxCopies$Wax;" ∈ wsX3_renew := by decide +kernel
theorem inX3_renew_X3 : ∀ w ∈ wsX30, w ∈ wsX3_renew := by decide +kernel
set_option maxHeartbeats 4000000 in
set_option maxRecDepth 100000 in
theorem c_X3_renew (l : Launch) (G : zG) {x1 : Int32} {x2 : Int32} {μ mu1 : Mm} {r : Int32} (h : f_X3_renew x1 x2 μ = some (.inr r, mu1)) (sz : Nat) : Met l yX3_renew wsX3_renew rm_X3_renew (z_Pre G μ [.ref (G.2.1 (90)), .int (x1), .int (x2)] sz) (z_Qi G r mu1 sz) 0 0 (z_A G sz) := by
  refine z_start (cc := cX3_renew) (maxL := 3) (ret := (some .int)) (own := RX3) (by decide) rfl rfl (Nat.le_of_ble_eq_true rfl) (fun p e s m args below meth c C hr hlk Z hP ls hl => ?_) sz
  have hx := C.1
  have hb := C.2.1
  have hts := C.2.2.2.2
  have hS : va_S (z_A G s.heap.size) s.heap s.heap [] := va_S.rf
  have hl : lv_has ls 3 [(0, .ref (G.2.1 (90))), (1, .int (x1)), (2, .int (x2))] := hl
  unfold f_X3_renew at h
  refine lv_aload_n hx hb dX3_renew_0 rfl (lv_at hl 0 rfl) ?_
  refine lv_iload_n hx hb dX3_renew_1 rfl (lv_at hl 1 rfl) ?_
  obtain ⟨r1, m2, e3, h⟩ := zbx_r h
  refine z_callv hS (va_runV (As := [.int (x1)]) (rest := []) C (c_X3_checkCylinder l G e3 _) (cwV 1 hts gX3_renew_X3_checkCylinder rfl rfl rfl hv_X3_checkCylinder ⟨Nat.le_of_ble_eq_true rfl, Nat.le_of_ble_eq_true rfl⟩) (z_preV Z hS hP (by decide) (z_E_90 _) rfl rfl) rfl rfl hl.1 rfl (lv_room (Nat.le_of_ble_eq_true rfl)) dX3_renew_2 ⟨Nat.zero_le _, Nat.zero_le _⟩) (fun H locs hP hS => ?_)
  refine lv_iload_n hx hb dX3_renew_5 rfl (lv_at hl 2 rfl) ?_
  refine lv_if_lt (tgt := 15) hx hb dX3_renew_6 (by decide) (fun hc4 => ?_) (fun hc4 => ?_)
  · have h := z_ip hc4 h
    cases h
  · have h := z_in hc4 h
    refine lv_iload_n hx hb dX3_renew_9 rfl (lv_at hl 2 rfl) ?_
    refine lv_bipush (v := 100) hx hb dX3_renew_10 (by decide) ?_
    refine lv_icmp_le (tgt := 25) hx hb dX3_renew_12 (by decide) (fun hc5 => ?_) (fun hc5 => ?_)
    · have h := z_ip hc5 h
      refine lv_aload_n hx hb dX3_renew_25 rfl (lv_at hl 0 rfl) ?_
      obtain ⟨r6, m7, e8, h⟩ := zb_some h
      refine z_callv hS (va_runV (As := []) (rest := []) C (c_X3_saveState l G e8 _) (cwV 0 hts gX3_renew_X3_saveState rfl rfl rfl hv_X3_saveState ⟨Nat.le_of_ble_eq_true rfl, Nat.le_of_ble_eq_true rfl⟩) (z_preV Z hS hP (by decide) (z_E_90 _) rfl rfl) rfl rfl hl.1 rfl (lv_room (Nat.le_of_ble_eq_true rfl)) dX3_renew_26 ⟨Nat.zero_le _, Nat.zero_le _⟩) (fun H locs hP hS => ?_)
      refine lv_aload_n hx hb dX3_renew_29 rfl (lv_at hl 0 rfl) ?_
      refine z_get C Z hP (k := 90) (ci := 3) (j := 0) (N := 7) (v := .ref (G.2.1 (0))) (by decide) (z_E_90 _) rfl inX3_renew_X3 (by decide) wX3_renew_0 rfl dX3_renew_30 ?_
      refine lv_iload_n hx hb dX3_renew_33 rfl (lv_at hl 1 rfl) ?_
      refine lv_iload_n hx hb dX3_renew_34 rfl (lv_at hl 2 rfl) ?_
      obtain ⟨r9, m10, e11, h⟩ := zb_some h
      refine z_calli hS (va_runV (As := [.int (x1), .int (x2)]) (rest := []) C (c_X2_renewCylinder l G e11 _) (cwV 2 hts gX3_renew_X2_renewCylinder rfl rfl rfl hv_X2_renewCylinder ⟨Nat.le_of_ble_eq_true rfl, Nat.le_of_ble_eq_true rfl⟩) (z_preV Z hS hP (by decide) (z_E_0 _) rfl rfl) rfl rfl hl.1 rfl (lv_room (Nat.le_of_ble_eq_true rfl)) dX3_renew_35 ⟨Nat.zero_le _, Nat.zero_le _⟩) (fun H locs hP hS => ?_)
      cases h
      exact z_reti C hr hlk hP hS dX3_renew_38
    · have h := z_in hc5 h
      cases h
abbrev rm_X3_set : Room := { frames := 3, cells := 0, slots := 0, locals := 81 }
theorem hd_X3_set : yX3_set.cls ≠ "java/lang/invoke/MethodHandle" ∧ yX3_set.cls ≠ "java/lang/invoke/VarHandle" ∧ (parseMethodDescriptor yX3_set.desc).map (fun d => d.parameters.length) = some 1 := by decide +kernel
theorem hv_X3_set : yX3_set.cls = RX3 ∧ yX3_set.cls ≠ "java/lang/invoke/MethodHandle" ∧ yX3_set.cls ≠ "java/lang/invoke/VarHandle" ∧ (parseMethodDescriptor yX3_set.desc).map (fun d => d.parameters.length) = some 1 := ⟨rfl, hd_X3_set⟩
theorem wX3_set_0 : Cond.fieldLink RX3 12 "WaxCopies" "now" "LWaxCopies$Wax;" ∈ wsX3_set := by decide +kernel
theorem inX3_set_X3 : ∀ w ∈ wsX30, w ∈ wsX3_set := by decide +kernel
theorem wX3_set_2 : Cond.fieldLink RX3 95 "WaxCopies$Wax" "wear" "I" ∈ wsX3_set := by decide +kernel
theorem inX3_set_X2 : ∀ w ∈ wsX20, w ∈ wsX3_set := by decide +kernel
set_option maxHeartbeats 4000000 in
set_option maxRecDepth 100000 in
theorem c_X3_set (l : Launch) (G : zG) {x1 : Int32} {μ mu1 : Mm} {r : Int32} (h : f_X3_set x1 μ = some (.inr r, mu1)) (sz : Nat) : Met l yX3_set wsX3_set rm_X3_set (z_Pre G μ [.ref (G.2.1 (90)), .int (x1)] sz) (z_Qi G r mu1 sz) 0 0 (z_A G sz) := by
  refine z_start (cc := cX3_set) (maxL := 3) (ret := (some .int)) (own := RX3) (by decide) rfl rfl (Nat.le_of_ble_eq_true rfl) (fun p e s m args below meth c C hr hlk Z hP ls hl => ?_) sz
  have hx := C.1
  have hb := C.2.1
  have hts := C.2.2.2.2
  have hS : va_S (z_A G s.heap.size) s.heap s.heap [] := va_S.rf
  have hl : lv_has ls 3 [(0, .ref (G.2.1 (90))), (1, .int (x1))] := hl
  unfold f_X3_set at h
  refine lv_iload_n hx hb dX3_set_0 rfl (lv_at hl 1 rfl) ?_
  refine lv_if_lt (tgt := 10) hx hb dX3_set_1 (by decide) (fun hc1 => ?_) (fun hc1 => ?_)
  · have h := z_ip hc1 h
    cases h
  · have h := z_in hc1 h
    refine lv_iload_n hx hb dX3_set_4 rfl (lv_at hl 1 rfl) ?_
    refine lv_bipush (v := 20) hx hb dX3_set_5 (by decide) ?_
    refine lv_icmp_le (tgt := 20) hx hb dX3_set_7 (by decide) (fun hc2 => ?_) (fun hc2 => ?_)
    · have h := z_ip hc2 h
      refine lv_aload_n hx hb dX3_set_20 rfl (lv_at hl 0 rfl) ?_
      obtain ⟨r3, m4, e5, h⟩ := zb_some h
      refine z_callv hS (va_runV (As := []) (rest := []) C (c_X3_saveState l G e5 _) (cwV 0 hts gX3_set_X3_saveState rfl rfl rfl hv_X3_saveState ⟨Nat.le_of_ble_eq_true rfl, Nat.le_of_ble_eq_true rfl⟩) (z_preV Z hS hP (by decide) (z_E_90 _) rfl rfl) rfl rfl hl.1 rfl (lv_room (Nat.le_of_ble_eq_true rfl)) dX3_set_21 ⟨Nat.zero_le _, Nat.zero_le _⟩) (fun H locs hP hS => ?_)
      refine lv_aload_n hx hb dX3_set_24 rfl (lv_at hl 0 rfl) ?_
      refine z_get C Z hP (k := 90) (ci := 3) (j := 0) (N := 7) (v := .ref (G.2.1 (0))) (by decide) (z_E_90 _) rfl inX3_set_X3 (by decide) wX3_set_0 rfl dX3_set_25 ?_
      refine z_get C Z hP (k := 0) (ci := 2) (j := 11) (N := 19) (v := .int ((m4 0 11))) (by decide) (z_E_0 _) rfl inX3_set_X2 (by decide) wX3_set_2 rfl dX3_set_28 ?_
      refine lv_istore_n (lv' := [(2, .int ((m4 0 11))), (0, .ref (G.2.1 (90))), (1, .int (x1))]) hx hb dX3_set_31 rfl hl (by decide) rfl (fun ls hl => ?_)
      refine lv_aload_n hx hb dX3_set_32 rfl (lv_at hl 1 rfl) ?_
      refine z_get C Z hP (k := 90) (ci := 3) (j := 0) (N := 7) (v := .ref (G.2.1 (0))) (by decide) (z_E_90 _) rfl inX3_set_X3 (by decide) wX3_set_0 rfl dX3_set_33 ?_
      refine lv_iload_n hx hb dX3_set_36 rfl (lv_at hl 2 rfl) ?_
      refine z_put C Z hP hS (k := 0) (ci := 2) (j := 11) (N := 19) (x := x1) (v := .int (x1)) (ty := .int) (by decide) (z_E_0 _) rfl inX3_set_X2 tyX2_ok nmX2 (by decide) wX3_set_2 rfl (by decide +kernel) rfl rfl (Nat.le_of_ble_eq_true rfl) (z_S_0_11 _ _) dX3_set_37 (fun H locs hP hS => ?_)
      refine lv_iload_n hx hb dX3_set_40 rfl (lv_at hl 0 rfl) ?_
      cases h
      exact z_reti C hr hlk hP hS dX3_set_41
    · have h := z_in hc2 h
      cases h
abbrev rm_X3_append : Room := { frames := 2, cells := 0, slots := 0, locals := 41 }
theorem hd_X3_append : yX3_append.cls ≠ "java/lang/invoke/MethodHandle" ∧ yX3_append.cls ≠ "java/lang/invoke/VarHandle" ∧ (parseMethodDescriptor yX3_append.desc).map (fun d => d.parameters.length) = some 1 := by decide +kernel
theorem hv_X3_append : yX3_append.cls = RX3 ∧ yX3_append.cls ≠ "java/lang/invoke/MethodHandle" ∧ yX3_append.cls ≠ "java/lang/invoke/VarHandle" ∧ (parseMethodDescriptor yX3_append.desc).map (fun d => d.parameters.length) = some 1 := ⟨rfl, hd_X3_append⟩
theorem wX3_append_0 : Cond.fieldLink RX3 34 "WaxCopies" "orders" "LWaxCopies$Orders;" ∈ wsX3_append := by decide +kernel
theorem inX3_append_X3 : ∀ w ∈ wsX30, w ∈ wsX3_append := by decide +kernel
set_option maxHeartbeats 4000000 in
set_option maxRecDepth 100000 in
theorem c_X3_append (l : Launch) (G : zG) {x1 : Int32} {μ mu1 : Mm} {r : Int32} (h : f_X3_append x1 μ = some (.inr r, mu1)) (sz : Nat) : Met l yX3_append wsX3_append rm_X3_append (z_Pre G μ [.ref (G.2.1 (90)), .int (x1)] sz) (z_Qi G r mu1 sz) 0 0 (z_A G sz) := by
  refine z_start (cc := cX3_append) (maxL := 2) (ret := (some .int)) (own := RX3) (by decide) rfl rfl (Nat.le_of_ble_eq_true rfl) (fun p e s m args below meth c C hr hlk Z hP ls hl => ?_) sz
  have hx := C.1
  have hb := C.2.1
  have hts := C.2.2.2.2
  have hS : va_S (z_A G s.heap.size) s.heap s.heap [] := va_S.rf
  have hl : lv_has ls 2 [(0, .ref (G.2.1 (90))), (1, .int (x1))] := hl
  unfold f_X3_append at h
  refine lv_iload_n hx hb dX3_append_0 rfl (lv_at hl 1 rfl) ?_
  refine lv_bipush (v := 33) hx hb dX3_append_1 (by decide) ?_
  refine lv_icmp_lt (tgt := 12) hx hb dX3_append_3 (by decide) (fun hc1 => ?_) (fun hc1 => ?_)
  · have h := z_ip hc1 h
    cases h
  · have h := z_in hc1 h
    refine lv_iload_n hx hb dX3_append_6 rfl (lv_at hl 1 rfl) ?_
    refine lv_bipush (v := 126) hx hb dX3_append_7 (by decide) ?_
    refine lv_icmp_le (tgt := 22) hx hb dX3_append_9 (by decide) (fun hc2 => ?_) (fun hc2 => ?_)
    · have h := z_ip hc2 h
      refine lv_aload_n hx hb dX3_append_22 rfl (lv_at hl 0 rfl) ?_
      refine z_get C Z hP (k := 90) (ci := 3) (j := 5) (N := 7) (v := .ref (G.2.1 (94))) (by decide) (z_E_90 _) rfl inX3_append_X3 (by decide) wX3_append_0 rfl dX3_append_23 ?_
      obtain ⟨r3, m4, e5, h⟩ := zb_some h
      refine z_calli hS (va_runV (As := []) (rest := []) C (c_X0_isFull l G e5 _) (cwV 0 hts gX3_append_X0_isFull rfl rfl rfl hv_X0_isFull ⟨Nat.le_of_ble_eq_true rfl, Nat.le_of_ble_eq_true rfl⟩) (z_preV Z hS hP (by decide) (z_E_94 _) rfl rfl) rfl rfl hl.1 rfl (lv_room (Nat.le_of_ble_eq_true rfl)) dX3_append_26 ⟨Nat.zero_le _, Nat.zero_le _⟩) (fun H locs hP hS => ?_)
      refine lv_if_eq (tgt := 42) hx hb dX3_append_29 (by decide) (fun hc6 => ?_) (fun hc6 => ?_)
      · have h := z_ip hc6 h
        refine lv_aload_n hx hb dX3_append_42 rfl (lv_at hl 0 rfl) ?_
        refine z_get C Z hP (k := 90) (ci := 3) (j := 5) (N := 7) (v := .ref (G.2.1 (94))) (by decide) (z_E_90 _) rfl inX3_append_X3 (by decide) wX3_append_0 rfl dX3_append_43 ?_
        refine lv_iload_n hx hb dX3_append_46 rfl (lv_at hl 1 rfl) ?_
        refine lv_i2c (v := (((x1).toUInt32 % 65536).toInt32)) hx hb dX3_append_47 rfl ?_
        obtain ⟨r7, m8, e9, h⟩ := zb_some h
        refine z_calli hS (va_runV (As := [.int ((((x1).toUInt32 % 65536).toInt32))]) (rest := []) C (c_X0_take l G e9 _) (cwV 1 hts gX3_append_X0_take rfl rfl rfl hv_X0_take ⟨Nat.le_of_ble_eq_true rfl, Nat.le_of_ble_eq_true rfl⟩) (z_preV Z hS hP (by decide) (z_E_94 _) rfl rfl) rfl rfl hl.1 rfl (lv_room (Nat.le_of_ble_eq_true rfl)) dX3_append_48 ⟨Nat.zero_le _, Nat.zero_le _⟩) (fun H locs hP hS => ?_)
        cases h
        exact z_reti C hr hlk hP hS dX3_append_51
      · have h := z_in hc6 h
        cases h
    · have h := z_in hc2 h
      cases h
abbrev rm_X3_clearBuffer : Room := { frames := 1, cells := 0, slots := 0, locals := 21 }
theorem hd_X3_clearBuffer : yX3_clearBuffer.cls ≠ "java/lang/invoke/MethodHandle" ∧ yX3_clearBuffer.cls ≠ "java/lang/invoke/VarHandle" ∧ (parseMethodDescriptor yX3_clearBuffer.desc).map (fun d => d.parameters.length) = some 0 := by decide +kernel
theorem hv_X3_clearBuffer : yX3_clearBuffer.cls = RX3 ∧ yX3_clearBuffer.cls ≠ "java/lang/invoke/MethodHandle" ∧ yX3_clearBuffer.cls ≠ "java/lang/invoke/VarHandle" ∧ (parseMethodDescriptor yX3_clearBuffer.desc).map (fun d => d.parameters.length) = some 0 := ⟨rfl, hd_X3_clearBuffer⟩
theorem wX3_clearBuffer_0 : Cond.fieldLink RX3 34 "WaxCopies" "orders" "LWaxCopies$Orders;" ∈ wsX3_clearBuffer := by decide +kernel
theorem inX3_clearBuffer_X3 : ∀ w ∈ wsX30, w ∈ wsX3_clearBuffer := by decide +kernel
set_option maxHeartbeats 4000000 in
set_option maxRecDepth 100000 in
theorem c_X3_clearBuffer (l : Launch) (G : zG) {μ mu1 : Mm} {r : Int32} (h : f_X3_clearBuffer μ = some (r, mu1)) (sz : Nat) : Met l yX3_clearBuffer wsX3_clearBuffer rm_X3_clearBuffer (z_Pre G μ [.ref (G.2.1 (90))] sz) (z_Qi G r mu1 sz) 0 0 (z_A G sz) := by
  refine z_start (cc := cX3_clearBuffer) (maxL := 1) (ret := (some .int)) (own := RX3) (by decide) rfl rfl (Nat.le_of_ble_eq_true rfl) (fun p e s m args below meth c C hr hlk Z hP ls hl => ?_) sz
  have hx := C.1
  have hb := C.2.1
  have hts := C.2.2.2.2
  have hS : va_S (z_A G s.heap.size) s.heap s.heap [] := va_S.rf
  have hl : lv_has ls 1 [(0, .ref (G.2.1 (90)))] := hl
  unfold f_X3_clearBuffer at h
  refine lv_aload_n hx hb dX3_clearBuffer_0 rfl (lv_at hl 0 rfl) ?_
  refine z_get C Z hP (k := 90) (ci := 3) (j := 5) (N := 7) (v := .ref (G.2.1 (94))) (by decide) (z_E_90 _) rfl inX3_clearBuffer_X3 (by decide) wX3_clearBuffer_0 rfl dX3_clearBuffer_1 ?_
  obtain ⟨r1, m2, e3, h⟩ := zb_some h
  refine z_calli hS (va_runV (As := []) (rest := []) C (c_X0_drop l G e3 _) (cwV 0 hts gX3_clearBuffer_X0_drop rfl rfl rfl hv_X0_drop ⟨Nat.le_of_ble_eq_true rfl, Nat.le_of_ble_eq_true rfl⟩) (z_preV Z hS hP (by decide) (z_E_94 _) rfl rfl) rfl rfl hl.1 rfl (lv_room (Nat.le_of_ble_eq_true rfl)) dX3_clearBuffer_4 ⟨Nat.zero_le _, Nat.zero_le _⟩) (fun H locs hP hS => ?_)
  cases h
  exact z_reti C hr hlk hP hS dX3_clearBuffer_7
abbrev rm_X3_firstError : Room := { frames := 7, cells := 0, slots := 0, locals := 152 }
theorem hd_X3_firstError : yX3_firstError.cls ≠ "java/lang/invoke/MethodHandle" ∧ yX3_firstError.cls ≠ "java/lang/invoke/VarHandle" ∧ (parseMethodDescriptor yX3_firstError.desc).map (fun d => d.parameters.length) = some 0 := by decide +kernel
theorem hv_X3_firstError : yX3_firstError.cls = RX3 ∧ yX3_firstError.cls ≠ "java/lang/invoke/MethodHandle" ∧ yX3_firstError.cls ≠ "java/lang/invoke/VarHandle" ∧ (parseMethodDescriptor yX3_firstError.desc).map (fun d => d.parameters.length) = some 0 := ⟨rfl, hd_X3_firstError⟩
theorem wX3_firstError_0 : Cond.fieldLink RX3 34 "WaxCopies" "orders" "LWaxCopies$Orders;" ∈ wsX3_firstError := by decide +kernel
theorem inX3_firstError_X3 : ∀ w ∈ wsX30, w ∈ wsX3_firstError := by decide +kernel
set_option maxHeartbeats 4000000 in
set_option maxRecDepth 100000 in
theorem c_X3_firstError (l : Launch) (G : zG) {μ mu1 : Mm} {r : Int32} (h : f_X3_firstError μ = some (r, mu1)) (sz : Nat) : Met l yX3_firstError wsX3_firstError rm_X3_firstError (z_Pre G μ [.ref (G.2.1 (90))] sz) (z_Qi G r mu1 sz) 0 0 (z_A G sz) := by
  refine z_start (cc := cX3_firstError) (maxL := 1) (ret := (some .int)) (own := RX3) (by decide) rfl rfl (Nat.le_of_ble_eq_true rfl) (fun p e s m args below meth c C hr hlk Z hP ls hl => ?_) sz
  have hx := C.1
  have hb := C.2.1
  have hts := C.2.2.2.2
  have hS : va_S (z_A G s.heap.size) s.heap s.heap [] := va_S.rf
  have hl : lv_has ls 1 [(0, .ref (G.2.1 (90)))] := hl
  unfold f_X3_firstError at h
  refine lv_aload_n hx hb dX3_firstError_0 rfl (lv_at hl 0 rfl) ?_
  refine z_get C Z hP (k := 90) (ci := 3) (j := 5) (N := 7) (v := .ref (G.2.1 (94))) (by decide) (z_E_90 _) rfl inX3_firstError_X3 (by decide) wX3_firstError_0 rfl dX3_firstError_1 ?_
  obtain ⟨r1, m2, e3, h⟩ := zb_some h
  refine z_calli hS (va_runV (As := []) (rest := []) C (c_X0_firstWrong l G e3 _) (cwV 0 hts gX3_firstError_X0_firstWrong rfl rfl rfl hv_X0_firstWrong ⟨Nat.le_of_ble_eq_true rfl, Nat.le_of_ble_eq_true rfl⟩) (z_preV Z hS hP (by decide) (z_E_94 _) rfl rfl) rfl rfl hl.1 rfl (lv_room (Nat.le_of_ble_eq_true rfl)) dX3_firstError_4 ⟨Nat.zero_le _, Nat.zero_le _⟩) (fun H locs hP hS => ?_)
  cases h
  exact z_reti C hr hlk hP hS dX3_firstError_7
abbrev rm_X3_doOrder : Room := { frames := 4, cells := 0, slots := 0, locals := 90 }
theorem hd_X3_doOrder : yX3_doOrder.cls ≠ "java/lang/invoke/MethodHandle" ∧ yX3_doOrder.cls ≠ "java/lang/invoke/VarHandle" ∧ (parseMethodDescriptor yX3_doOrder.desc).map (fun d => d.parameters.length) = some 1 := by decide +kernel
theorem hv_X3_doOrder : yX3_doOrder.cls = RX3 ∧ yX3_doOrder.cls ≠ "java/lang/invoke/MethodHandle" ∧ yX3_doOrder.cls ≠ "java/lang/invoke/VarHandle" ∧ (parseMethodDescriptor yX3_doOrder.desc).map (fun d => d.parameters.length) = some 1 := ⟨rfl, hd_X3_doOrder⟩
theorem wX3_doOrder_0 : Cond.fieldLink RX3 34 "WaxCopies" "orders" "LWaxCopies$Orders;" ∈ wsX3_doOrder := by decide +kernel
theorem inX3_doOrder_X3 : ∀ w ∈ wsX30, w ∈ wsX3_doOrder := by decide +kernel
theorem wX3_doOrder_2 : Cond.fieldLink RX3 12 "WaxCopies" "now" "LWaxCopies$Wax;" ∈ wsX3_doOrder := by decide +kernel
set_option maxHeartbeats 4000000 in
set_option maxRecDepth 100000 in
theorem c_X3_doOrder (l : Launch) (G : zG) {x1 : Int32} {μ mu1 : Mm} {r : Int32} (h : f_X3_doOrder x1 μ = some (r, mu1)) (sz : Nat) : Met l yX3_doOrder wsX3_doOrder rm_X3_doOrder (z_Pre G μ [.ref (G.2.1 (90)), .int (x1)] sz) (z_Qi G r mu1 sz) 0 0 (z_A G sz) := by
  refine z_start (cc := cX3_doOrder) (maxL := 2) (ret := (some .boolean)) (own := RX3) (by decide) rfl rfl (Nat.le_of_ble_eq_true rfl) (fun p e s m args below meth c C hr hlk Z hP ls hl => ?_) sz
  have hx := C.1
  have hb := C.2.1
  have hts := C.2.2.2.2
  have hS : va_S (z_A G s.heap.size) s.heap s.heap [] := va_S.rf
  have hl : lv_has ls 2 [(0, .ref (G.2.1 (90))), (1, .int (x1))] := hl
  unfold f_X3_doOrder at h
  refine lv_aload_n hx hb dX3_doOrder_0 rfl (lv_at hl 0 rfl) ?_
  refine z_get C Z hP (k := 90) (ci := 3) (j := 5) (N := 7) (v := .ref (G.2.1 (94))) (by decide) (z_E_90 _) rfl inX3_doOrder_X3 (by decide) wX3_doOrder_0 rfl dX3_doOrder_1 ?_
  refine lv_iload_n hx hb dX3_doOrder_4 rfl (lv_at hl 1 rfl) ?_
  obtain ⟨r1, m2, e3, h⟩ := zb_some h
  refine z_calli hS (va_runV (As := [.int (x1)]) (rest := []) C (c_X0_codeAt l G e3 _) (cwV 1 hts gX3_doOrder_X0_codeAt rfl rfl rfl hv_X0_codeAt ⟨Nat.le_of_ble_eq_true rfl, Nat.le_of_ble_eq_true rfl⟩) (z_preV Z hS hP (by decide) (z_E_94 _) rfl rfl) rfl rfl hl.1 rfl (lv_room (Nat.le_of_ble_eq_true rfl)) dX3_doOrder_5 ⟨Nat.zero_le _, Nat.zero_le _⟩) (fun H locs hP hS => ?_)
  by_cases hc4 : r1 = 99
  · have h := z_ip hc4 h
    refine lv_lookup (tgt := 88) (off := 80) hx hb dX3_doOrder_8 (by decide +kernel) (by rw [hc4]; rfl) (by decide) ?_
    refine lv_aload_n hx hb dX3_doOrder_88 rfl (lv_at hl 0 rfl) ?_
    refine z_get C Z hP (k := 90) (ci := 3) (j := 0) (N := 7) (v := .ref (G.2.1 (0))) (by decide) (z_E_90 _) rfl inX3_doOrder_X3 (by decide) wX3_doOrder_2 rfl dX3_doOrder_89 ?_
    refine lv_aload_n hx hb dX3_doOrder_92 rfl (lv_at hl 0 rfl) ?_
    refine z_get C Z hP (k := 90) (ci := 3) (j := 5) (N := 7) (v := .ref (G.2.1 (94))) (by decide) (z_E_90 _) rfl inX3_doOrder_X3 (by decide) wX3_doOrder_0 rfl dX3_doOrder_93 ?_
    refine lv_iload_n hx hb dX3_doOrder_96 rfl (lv_at hl 1 rfl) ?_
    refine lv_iconst (v := 1) hx hb dX3_doOrder_97 (by decide) ?_
    refine lv_iadd hx hb dX3_doOrder_98 ?_
    obtain ⟨r5, m6, e7, h⟩ := zb_some h
    refine z_calli hS (va_runV (As := [.int ((x1 + 1))]) (rest := [.ref (G.2.1 (0))]) C (c_X0_trackAt l G e7 _) (cwV 1 hts gX3_doOrder_X0_trackAt rfl rfl rfl hv_X0_trackAt ⟨Nat.le_of_ble_eq_true rfl, Nat.le_of_ble_eq_true rfl⟩) (z_preV Z hS hP (by decide) (z_E_94 _) rfl rfl) rfl rfl hl.1 rfl (lv_room (Nat.le_of_ble_eq_true rfl)) dX3_doOrder_99 ⟨Nat.zero_le _, Nat.zero_le _⟩) (fun H locs hP hS => ?_)
    refine lv_aload_n hx hb dX3_doOrder_102 rfl (lv_at hl 0 rfl) ?_
    refine z_get C Z hP (k := 90) (ci := 3) (j := 5) (N := 7) (v := .ref (G.2.1 (94))) (by decide) (z_E_90 _) rfl inX3_doOrder_X3 (by decide) wX3_doOrder_0 rfl dX3_doOrder_103 ?_
    refine lv_iload_n hx hb dX3_doOrder_106 rfl (lv_at hl 1 rfl) ?_
    refine lv_iconst (v := 4) hx hb dX3_doOrder_107 (by decide) ?_
    refine lv_iadd hx hb dX3_doOrder_108 ?_
    obtain ⟨r8, m9, e10, h⟩ := zb_some h
    refine z_calli hS (va_runV (As := [.int ((x1 + 4))]) (rest := [.int (r5), .ref (G.2.1 (0))]) C (c_X0_trackAt l G e10 _) (cwV 1 hts gX3_doOrder_X0_trackAt rfl rfl rfl hv_X0_trackAt ⟨Nat.le_of_ble_eq_true rfl, Nat.le_of_ble_eq_true rfl⟩) (z_preV Z hS hP (by decide) (z_E_94 _) rfl rfl) rfl rfl hl.1 rfl (lv_room (Nat.le_of_ble_eq_true rfl)) dX3_doOrder_109 ⟨Nat.zero_le _, Nat.zero_le _⟩) (fun H locs hP hS => ?_)
    refine lv_aload_n hx hb dX3_doOrder_112 rfl (lv_at hl 0 rfl) ?_
    refine z_get C Z hP (k := 90) (ci := 3) (j := 5) (N := 7) (v := .ref (G.2.1 (94))) (by decide) (z_E_90 _) rfl inX3_doOrder_X3 (by decide) wX3_doOrder_0 rfl dX3_doOrder_113 ?_
    refine lv_iload_n hx hb dX3_doOrder_116 rfl (lv_at hl 1 rfl) ?_
    refine lv_bipush (v := 7) hx hb dX3_doOrder_117 (by decide) ?_
    refine lv_iadd hx hb dX3_doOrder_119 ?_
    obtain ⟨r11, m12, e13, h⟩ := zb_some h
    refine z_calli hS (va_runV (As := [.int ((x1 + 7))]) (rest := [.int (r8), .int (r5), .ref (G.2.1 (0))]) C (c_X0_digitAt l G e13 _) (cwV 1 hts gX3_doOrder_X0_digitAt rfl rfl rfl hv_X0_digitAt ⟨Nat.le_of_ble_eq_true rfl, Nat.le_of_ble_eq_true rfl⟩) (z_preV Z hS hP (by decide) (z_E_94 _) rfl rfl) rfl rfl hl.1 rfl (lv_room (Nat.le_of_ble_eq_true rfl)) dX3_doOrder_120 ⟨Nat.zero_le _, Nat.zero_le _⟩) (fun H locs hP hS => ?_)
    obtain ⟨r14, m15, e16, h⟩ := zb_some h
    refine z_calli hS (va_runV (As := [.int (r5), .int (r8), .int (r11)]) (rest := []) C (c_X2_copyOnto l G e16 _) (cwV 3 hts gX3_doOrder_X2_copyOnto rfl rfl rfl hv_X2_copyOnto ⟨Nat.le_of_ble_eq_true rfl, Nat.le_of_ble_eq_true rfl⟩) (z_preV Z hS hP (by decide) (z_E_0 _) rfl rfl) rfl rfl hl.1 rfl (lv_room (Nat.le_of_ble_eq_true rfl)) dX3_doOrder_123 ⟨Nat.zero_le _, Nat.zero_le _⟩) (fun H locs hP hS => ?_)
    refine lv_if_ne (tgt := 133) hx hb dX3_doOrder_126 (by decide) (fun hc17 => ?_) (fun hc17 => ?_)
    · have h := z_in hc17 h
      refine lv_iconst (v := 0) hx hb dX3_doOrder_133 (by decide) ?_
      cases h
      exact z_retz C hr hlk rfl hP hS dX3_doOrder_134
    · have h := z_ip hc17 h
      refine lv_iconst (v := 1) hx hb dX3_doOrder_129 (by decide) ?_
      refine lv_goto (tgt := 134) hx hb dX3_doOrder_130 (by decide) ?_
      cases h
      exact z_retz C hr hlk rfl hP hS dX3_doOrder_134
  · have h := z_in hc4 h
    by_cases hc18 : r1 = 112
    · have h := z_ip hc18 h
      refine lv_lookup (tgt := 135) (off := 127) hx hb dX3_doOrder_8 (by decide +kernel) (by rw [hc18]; rfl) (by decide) ?_
      refine lv_aload_n hx hb dX3_doOrder_135 rfl (lv_at hl 0 rfl) ?_
      refine z_get C Z hP (k := 90) (ci := 3) (j := 0) (N := 7) (v := .ref (G.2.1 (0))) (by decide) (z_E_90 _) rfl inX3_doOrder_X3 (by decide) wX3_doOrder_2 rfl dX3_doOrder_136 ?_
      refine lv_aload_n hx hb dX3_doOrder_139 rfl (lv_at hl 0 rfl) ?_
      refine z_get C Z hP (k := 90) (ci := 3) (j := 5) (N := 7) (v := .ref (G.2.1 (94))) (by decide) (z_E_90 _) rfl inX3_doOrder_X3 (by decide) wX3_doOrder_0 rfl dX3_doOrder_140 ?_
      refine lv_iload_n hx hb dX3_doOrder_143 rfl (lv_at hl 1 rfl) ?_
      refine lv_iconst (v := 1) hx hb dX3_doOrder_144 (by decide) ?_
      refine lv_iadd hx hb dX3_doOrder_145 ?_
      obtain ⟨r19, m20, e21, h⟩ := zb_some h
      refine z_calli hS (va_runV (As := [.int ((x1 + 1))]) (rest := [.ref (G.2.1 (0))]) C (c_X0_trackAt l G e21 _) (cwV 1 hts gX3_doOrder_X0_trackAt rfl rfl rfl hv_X0_trackAt ⟨Nat.le_of_ble_eq_true rfl, Nat.le_of_ble_eq_true rfl⟩) (z_preV Z hS hP (by decide) (z_E_94 _) rfl rfl) rfl rfl hl.1 rfl (lv_room (Nat.le_of_ble_eq_true rfl)) dX3_doOrder_146 ⟨Nat.zero_le _, Nat.zero_le _⟩) (fun H locs hP hS => ?_)
      obtain ⟨r22, m23, e24, h⟩ := zb_some h
      refine z_calli hS (va_runV (As := [.int (r19)]) (rest := []) C (c_X2_playTrack l G e24 _) (cwV 1 hts gX3_doOrder_X2_playTrack rfl rfl rfl hv_X2_playTrack ⟨Nat.le_of_ble_eq_true rfl, Nat.le_of_ble_eq_true rfl⟩) (z_preV Z hS hP (by decide) (z_E_0 _) rfl rfl) rfl rfl hl.1 rfl (lv_room (Nat.le_of_ble_eq_true rfl)) dX3_doOrder_149 ⟨Nat.zero_le _, Nat.zero_le _⟩) (fun H locs hP hS => ?_)
      refine lv_bipush (v := 10) hx hb dX3_doOrder_152 (by decide) ?_
      refine lv_icmp_lt (tgt := 161) hx hb dX3_doOrder_154 (by decide) (fun hc25 => ?_) (fun hc25 => ?_)
      · have h := z_ip hc25 h
        refine lv_iconst (v := 0) hx hb dX3_doOrder_161 (by decide) ?_
        cases h
        exact z_retz C hr hlk rfl hP hS dX3_doOrder_162
      · have h := z_in hc25 h
        refine lv_iconst (v := 1) hx hb dX3_doOrder_157 (by decide) ?_
        refine lv_goto (tgt := 162) hx hb dX3_doOrder_158 (by decide) ?_
        cases h
        exact z_retz C hr hlk rfl hP hS dX3_doOrder_162
    · have h := z_in hc18 h
      by_cases hc26 : r1 = 115
      · have h := z_ip hc26 h
        refine lv_lookup (tgt := 52) (off := 44) hx hb dX3_doOrder_8 (by decide +kernel) (by rw [hc26]; rfl) (by decide) ?_
        refine lv_aload_n hx hb dX3_doOrder_52 rfl (lv_at hl 0 rfl) ?_
        refine z_get C Z hP (k := 90) (ci := 3) (j := 0) (N := 7) (v := .ref (G.2.1 (0))) (by decide) (z_E_90 _) rfl inX3_doOrder_X3 (by decide) wX3_doOrder_2 rfl dX3_doOrder_53 ?_
        refine lv_aload_n hx hb dX3_doOrder_56 rfl (lv_at hl 0 rfl) ?_
        refine z_get C Z hP (k := 90) (ci := 3) (j := 5) (N := 7) (v := .ref (G.2.1 (94))) (by decide) (z_E_90 _) rfl inX3_doOrder_X3 (by decide) wX3_doOrder_0 rfl dX3_doOrder_57 ?_
        refine lv_iload_n hx hb dX3_doOrder_60 rfl (lv_at hl 1 rfl) ?_
        refine lv_iconst (v := 1) hx hb dX3_doOrder_61 (by decide) ?_
        refine lv_iadd hx hb dX3_doOrder_62 ?_
        obtain ⟨r27, m28, e29, h⟩ := zb_some h
        refine z_calli hS (va_runV (As := [.int ((x1 + 1))]) (rest := [.ref (G.2.1 (0))]) C (c_X0_trackAt l G e29 _) (cwV 1 hts gX3_doOrder_X0_trackAt rfl rfl rfl hv_X0_trackAt ⟨Nat.le_of_ble_eq_true rfl, Nat.le_of_ble_eq_true rfl⟩) (z_preV Z hS hP (by decide) (z_E_94 _) rfl rfl) rfl rfl hl.1 rfl (lv_room (Nat.le_of_ble_eq_true rfl)) dX3_doOrder_63 ⟨Nat.zero_le _, Nat.zero_le _⟩) (fun H locs hP hS => ?_)
        refine lv_aload_n hx hb dX3_doOrder_66 rfl (lv_at hl 0 rfl) ?_
        refine z_get C Z hP (k := 90) (ci := 3) (j := 5) (N := 7) (v := .ref (G.2.1 (94))) (by decide) (z_E_90 _) rfl inX3_doOrder_X3 (by decide) wX3_doOrder_0 rfl dX3_doOrder_67 ?_
        refine lv_iload_n hx hb dX3_doOrder_70 rfl (lv_at hl 1 rfl) ?_
        refine lv_iconst (v := 4) hx hb dX3_doOrder_71 (by decide) ?_
        refine lv_iadd hx hb dX3_doOrder_72 ?_
        obtain ⟨r30, m31, e32, h⟩ := zb_some h
        refine z_calli hS (va_runV (As := [.int ((x1 + 4))]) (rest := [.int (r27), .ref (G.2.1 (0))]) C (c_X0_digitAt l G e32 _) (cwV 1 hts gX3_doOrder_X0_digitAt rfl rfl rfl hv_X0_digitAt ⟨Nat.le_of_ble_eq_true rfl, Nat.le_of_ble_eq_true rfl⟩) (z_preV Z hS hP (by decide) (z_E_94 _) rfl rfl) rfl rfl hl.1 rfl (lv_room (Nat.le_of_ble_eq_true rfl)) dX3_doOrder_73 ⟨Nat.zero_le _, Nat.zero_le _⟩) (fun H locs hP hS => ?_)
        obtain ⟨r33, m34, e35, h⟩ := zb_some h
        refine z_calli hS (va_runV (As := [.int (r27), .int (r30)]) (rest := []) C (c_X2_speakOnto l G e35 _) (cwV 2 hts gX3_doOrder_X2_speakOnto rfl rfl rfl hv_X2_speakOnto ⟨Nat.le_of_ble_eq_true rfl, Nat.le_of_ble_eq_true rfl⟩) (z_preV Z hS hP (by decide) (z_E_0 _) rfl rfl) rfl rfl hl.1 rfl (lv_room (Nat.le_of_ble_eq_true rfl)) dX3_doOrder_76 ⟨Nat.zero_le _, Nat.zero_le _⟩) (fun H locs hP hS => ?_)
        refine lv_if_ne (tgt := 86) hx hb dX3_doOrder_79 (by decide) (fun hc36 => ?_) (fun hc36 => ?_)
        · have h := z_in hc36 h
          refine lv_iconst (v := 0) hx hb dX3_doOrder_86 (by decide) ?_
          cases h
          exact z_retz C hr hlk rfl hP hS dX3_doOrder_87
        · have h := z_ip hc36 h
          refine lv_iconst (v := 1) hx hb dX3_doOrder_82 (by decide) ?_
          refine lv_goto (tgt := 87) hx hb dX3_doOrder_83 (by decide) ?_
          cases h
          exact z_retz C hr hlk rfl hP hS dX3_doOrder_87
      · have h := z_in hc26 h
        by_cases hc37 : r1 = 120
        · have h := z_ip hc37 h
          refine lv_lookup (tgt := 163) (off := 155) hx hb dX3_doOrder_8 (by decide +kernel) (by rw [hc37]; rfl) (by decide) ?_
          refine lv_aload_n hx hb dX3_doOrder_163 rfl (lv_at hl 0 rfl) ?_
          refine z_get C Z hP (k := 90) (ci := 3) (j := 0) (N := 7) (v := .ref (G.2.1 (0))) (by decide) (z_E_90 _) rfl inX3_doOrder_X3 (by decide) wX3_doOrder_2 rfl dX3_doOrder_164 ?_
          refine lv_aload_n hx hb dX3_doOrder_167 rfl (lv_at hl 0 rfl) ?_
          refine z_get C Z hP (k := 90) (ci := 3) (j := 5) (N := 7) (v := .ref (G.2.1 (94))) (by decide) (z_E_90 _) rfl inX3_doOrder_X3 (by decide) wX3_doOrder_0 rfl dX3_doOrder_168 ?_
          refine lv_iload_n hx hb dX3_doOrder_171 rfl (lv_at hl 1 rfl) ?_
          refine lv_iconst (v := 1) hx hb dX3_doOrder_172 (by decide) ?_
          refine lv_iadd hx hb dX3_doOrder_173 ?_
          obtain ⟨r38, m39, e40, h⟩ := zb_some h
          refine z_calli hS (va_runV (As := [.int ((x1 + 1))]) (rest := [.ref (G.2.1 (0))]) C (c_X0_cylinderAt l G e40 _) (cwV 1 hts gX3_doOrder_X0_cylinderAt rfl rfl rfl hv_X0_cylinderAt ⟨Nat.le_of_ble_eq_true rfl, Nat.le_of_ble_eq_true rfl⟩) (z_preV Z hS hP (by decide) (z_E_94 _) rfl rfl) rfl rfl hl.1 rfl (lv_room (Nat.le_of_ble_eq_true rfl)) dX3_doOrder_174 ⟨Nat.zero_le _, Nat.zero_le _⟩) (fun H locs hP hS => ?_)
          obtain ⟨r41, m42, e43, h⟩ := zb_some h
          refine z_calli hS (va_runV (As := [.int (r38)]) (rest := []) C (c_X2_shaveCylinder l G e43 _) (cwV 1 hts gX3_doOrder_X2_shaveCylinder rfl rfl rfl hv_X2_shaveCylinder ⟨Nat.le_of_ble_eq_true rfl, Nat.le_of_ble_eq_true rfl⟩) (z_preV Z hS hP (by decide) (z_E_0 _) rfl rfl) rfl rfl hl.1 rfl (lv_room (Nat.le_of_ble_eq_true rfl)) dX3_doOrder_177 ⟨Nat.zero_le _, Nat.zero_le _⟩) (fun H locs hP hS => ?_)
          refine lv_iconst (v := (-1)) hx hb dX3_doOrder_180 (by decide) ?_
          refine lv_icmp_eq (tgt := 188) hx hb dX3_doOrder_181 (by decide) (fun hc44 => ?_) (fun hc44 => ?_)
          · have h := z_ip hc44 h
            refine lv_iconst (v := 0) hx hb dX3_doOrder_188 (by decide) ?_
            cases h
            exact z_retz C hr hlk rfl hP hS dX3_doOrder_189
          · have h := z_in hc44 h
            refine lv_iconst (v := 1) hx hb dX3_doOrder_184 (by decide) ?_
            refine lv_goto (tgt := 189) hx hb dX3_doOrder_185 (by decide) ?_
            cases h
            exact z_retz C hr hlk rfl hP hS dX3_doOrder_189
        · have h := z_in hc37 h
          refine lv_lookup (tgt := 190) (off := 182) hx hb dX3_doOrder_8 (by decide +kernel) ((lv_osw hc4 (by decide)).trans ((lv_osw hc18 (by decide)).trans ((lv_osw hc26 (by decide)).trans ((lv_osw hc37 (by decide)).trans rfl)))) (by decide) ?_
          refine lv_aload_n hx hb dX3_doOrder_190 rfl (lv_at hl 0 rfl) ?_
          refine z_get C Z hP (k := 90) (ci := 3) (j := 0) (N := 7) (v := .ref (G.2.1 (0))) (by decide) (z_E_90 _) rfl inX3_doOrder_X3 (by decide) wX3_doOrder_2 rfl dX3_doOrder_191 ?_
          obtain ⟨r45, m46, e47, h⟩ := zb_some h
          refine z_calli hS (va_runV (As := []) (rest := []) C (c_X2_windUp l G e47 _) (cwV 0 hts gX3_doOrder_X2_windUp rfl rfl rfl hv_X2_windUp ⟨Nat.le_of_ble_eq_true rfl, Nat.le_of_ble_eq_true rfl⟩) (z_preV Z hS hP (by decide) (z_E_0 _) rfl rfl) rfl rfl hl.1 rfl (lv_room (Nat.le_of_ble_eq_true rfl)) dX3_doOrder_194 ⟨Nat.zero_le _, Nat.zero_le _⟩) (fun H locs hP hS => ?_)
          refine lv_pop hx hb dX3_doOrder_197 rfl ?_
          refine lv_iconst (v := 1) hx hb dX3_doOrder_198 (by decide) ?_
          cases h
          exact z_retz C hr hlk rfl hP hS dX3_doOrder_199
abbrev rm_X3_doOrders : Room := { frames := 5, cells := 0, slots := 0, locals := 111 }
theorem hd_X3_doOrders : yX3_doOrders.cls ≠ "java/lang/invoke/MethodHandle" ∧ yX3_doOrders.cls ≠ "java/lang/invoke/VarHandle" ∧ (parseMethodDescriptor yX3_doOrders.desc).map (fun d => d.parameters.length) = some 0 := by decide +kernel
theorem hv_X3_doOrders : yX3_doOrders.cls = RX3 ∧ yX3_doOrders.cls ≠ "java/lang/invoke/MethodHandle" ∧ yX3_doOrders.cls ≠ "java/lang/invoke/VarHandle" ∧ (parseMethodDescriptor yX3_doOrders.desc).map (fun d => d.parameters.length) = some 0 := ⟨rfl, hd_X3_doOrders⟩
theorem wX3_doOrders_0 : Cond.fieldLink RX3 34 "WaxCopies" "orders" "LWaxCopies$Orders;" ∈ wsX3_doOrders := by decide +kernel
theorem inX3_doOrders_X3 : ∀ w ∈ wsX30, w ∈ wsX3_doOrders := by decide +kernel
set_option maxHeartbeats 4000000 in
set_option maxRecDepth 100000 in
theorem L_X3_doOrders_b4 {p : Program} {l : Launch} {e : Env} {s : State} {m : MethodId} {args : Array Value} {below : List Frame} {meth : Method} {c : Code} {G : zG} {r : Int32} {mu1 : Mm}  (C : CallFix p m c cX3_doOrders 3 s args wsX3_doOrders RX3) (hr : meth.sig.returnType = (some .int)) (hlk : meth.locks = false) (Z : z_Z G (z_A G s.heap.size) s)  :
    ∀ (n : Nat) (x1 : Int32) (x2 : Int32) (μ : Mm), f_X3_doOrders_b4  n x1 x2 μ = some (r, mu1) → ∀ (H : Heap) (locs : List Loc), z_P G μ H → va_S (z_A G s.heap.size) s.heap H locs → ∀ ls : Array Slot, lv_has ls 3 [(0, .ref (G.2.1 (90))), (1, .int (x1)), (2, .int (x2))] → W p l e rm_X3_doOrders s m args below meth c H locs 0 0 (MQ below (z_Qi G r mu1 s.heap.size) args s 0 0 (z_A G s.heap.size)) (F0 m 4 ls []) := by
  have hx := C.1
  have hb := C.2.1
  have hts := C.2.2.2.2
  intro n
  induction n with
  | zero =>
    intro x1 x2 μ h
    rw [f_X3_doOrders_b4] at h
    cases h
  | succ n ih =>
    intro x1 x2 μ h H locs hP hS ls hl
    rw [f_X3_doOrders_b4] at h
    refine lv_iload_n hx hb dX3_doOrders_4 rfl (lv_at hl 2 rfl) ?_
    refine lv_aload_n hx hb dX3_doOrders_5 rfl (lv_at hl 0 rfl) ?_
    refine z_get C Z hP (k := 90) (ci := 3) (j := 5) (N := 7) (v := .ref (G.2.1 (94))) (by decide) (z_E_90 _) rfl inX3_doOrders_X3 (by decide) wX3_doOrders_0 rfl dX3_doOrders_6 ?_
    obtain ⟨r1, m2, e3, h⟩ := zb_some h
    refine z_calli hS (va_runV (As := []) (rest := [.int (x2)]) C (c_X0_length l G e3 _) (cwV 0 hts gX3_doOrders_X0_length rfl rfl rfl hv_X0_length ⟨Nat.le_of_ble_eq_true rfl, Nat.le_of_ble_eq_true rfl⟩) (z_preV Z hS hP (by decide) (z_E_94 _) rfl rfl) rfl rfl hl.1 rfl (lv_room (Nat.le_of_ble_eq_true rfl)) dX3_doOrders_9 ⟨Nat.zero_le _, Nat.zero_le _⟩) (fun H locs hP hS => ?_)
    refine lv_icmp_ge (tgt := 44) hx hb dX3_doOrders_12 (by decide) (fun hc4 => ?_) (fun hc4 => ?_)
    · have h := z_ip hc4 h
      refine lv_iload_n hx hb dX3_doOrders_44 rfl (lv_at hl 1 rfl) ?_
      cases h
      exact z_reti C hr hlk hP hS dX3_doOrders_45
    · have h := z_in hc4 h
      refine lv_aload_n hx hb dX3_doOrders_15 rfl (lv_at hl 0 rfl) ?_
      refine lv_iload_n hx hb dX3_doOrders_16 rfl (lv_at hl 2 rfl) ?_
      obtain ⟨r5, m6, e7, h⟩ := zb_some h
      refine z_calli hS (va_runV (As := [.int (x2)]) (rest := []) C (c_X3_doOrder l G e7 _) (cwV 1 hts gX3_doOrders_X3_doOrder rfl rfl rfl hv_X3_doOrder ⟨Nat.le_of_ble_eq_true rfl, Nat.le_of_ble_eq_true rfl⟩) (z_preV Z hS hP (by decide) (z_E_90 _) rfl rfl) rfl rfl hl.1 rfl (lv_room (Nat.le_of_ble_eq_true rfl)) dX3_doOrders_17 ⟨Nat.zero_le _, Nat.zero_le _⟩) (fun H locs hP hS => ?_)
      refine lv_if_ne (tgt := 25) hx hb dX3_doOrders_20 (by decide) (fun hc8 => ?_) (fun hc8 => ?_)
      · have h := z_in hc8 h
        refine lv_iinc (v := (x1 + 1)) (lv' := [(1, .int ((x1 + 1))), (0, .ref (G.2.1 (90))), (2, .int (x2))]) hx hb dX3_doOrders_25 hl (k := 1) rfl rfl (by decide) rfl (fun ls hl => ?_)
        refine lv_iload_n hx hb dX3_doOrders_28 rfl (lv_at hl 2 rfl) ?_
        refine lv_aload_n hx hb dX3_doOrders_29 rfl (lv_at hl 1 rfl) ?_
        refine z_get C Z hP (k := 90) (ci := 3) (j := 5) (N := 7) (v := .ref (G.2.1 (94))) (by decide) (z_E_90 _) rfl inX3_doOrders_X3 (by decide) wX3_doOrders_0 rfl dX3_doOrders_30 ?_
        refine lv_iload_n hx hb dX3_doOrders_33 rfl (lv_at hl 2 rfl) ?_
        obtain ⟨r9, m10, e11, h⟩ := zb_some h
        refine z_calli hS (va_runV (As := [.int (x2)]) (rest := [.int (x2)]) C (c_X0_formLengthAt l G e11 _) (cwV 1 hts gX3_doOrders_X0_formLengthAt rfl rfl rfl hv_X0_formLengthAt ⟨Nat.le_of_ble_eq_true rfl, Nat.le_of_ble_eq_true rfl⟩) (z_preV Z hS hP (by decide) (z_E_94 _) rfl rfl) rfl rfl hl.1 rfl (lv_room (Nat.le_of_ble_eq_true rfl)) dX3_doOrders_34 ⟨Nat.zero_le _, Nat.zero_le _⟩) (fun H locs hP hS => ?_)
        refine lv_iconst (v := 1) hx hb dX3_doOrders_37 (by decide) ?_
        refine lv_iadd hx hb dX3_doOrders_38 ?_
        refine lv_iadd hx hb dX3_doOrders_39 ?_
        refine lv_istore_n (lv' := [(2, .int ((x2 + (r9 + 1)))), (1, .int ((x1 + 1))), (0, .ref (G.2.1 (90)))]) hx hb dX3_doOrders_40 rfl hl (by decide) rfl (fun ls hl => ?_)
        refine lv_goto (tgt := 4) hx hb dX3_doOrders_41 (by decide) ?_
        exact ih _ _ _ h _ _ hP hS ls (lv_sub hl [2, 1, 0] rfl)
      · have h := z_ip hc8 h
        refine lv_iload_n hx hb dX3_doOrders_23 rfl (lv_at hl 1 rfl) ?_
        cases h
        exact z_reti C hr hlk hP hS dX3_doOrders_24
set_option maxHeartbeats 4000000 in
set_option maxRecDepth 100000 in
theorem c_X3_doOrders (l : Launch) (G : zG) {μ mu1 : Mm} {r : Int32} (h : f_X3_doOrders μ = some (r, mu1)) (sz : Nat) : Met l yX3_doOrders wsX3_doOrders rm_X3_doOrders (z_Pre G μ [.ref (G.2.1 (90))] sz) (z_Qi G r mu1 sz) 0 0 (z_A G sz) := by
  refine z_start (cc := cX3_doOrders) (maxL := 3) (ret := (some .int)) (own := RX3) (by decide) rfl rfl (Nat.le_of_ble_eq_true rfl) (fun p e s m args below meth c C hr hlk Z hP ls hl => ?_) sz
  have hx := C.1
  have hb := C.2.1
  have hts := C.2.2.2.2
  have hS : va_S (z_A G s.heap.size) s.heap s.heap [] := va_S.rf
  have hl : lv_has ls 3 [(0, .ref (G.2.1 (90)))] := hl
  unfold f_X3_doOrders at h
  refine lv_iconst (v := 0) hx hb dX3_doOrders_0 (by decide) ?_
  refine lv_istore_n (lv' := [(1, .int (0)), (0, .ref (G.2.1 (90)))]) hx hb dX3_doOrders_1 rfl hl (by decide) rfl (fun ls hl => ?_)
  refine lv_iconst (v := 0) hx hb dX3_doOrders_2 (by decide) ?_
  refine lv_istore_n (lv' := [(2, .int (0)), (1, .int (0)), (0, .ref (G.2.1 (90)))]) hx hb dX3_doOrders_3 rfl hl (by decide) rfl (fun ls hl => ?_)
  exact L_X3_doOrders_b4 C hr hlk Z z_F _ _ _ h _ _ hP hS ls (lv_sub hl [2, 1, 0] rfl)
abbrev rm_X3_run : Room := { frames := 7, cells := 0, slots := 0, locals := 152 }
theorem hd_X3_run : yX3_run.cls ≠ "java/lang/invoke/MethodHandle" ∧ yX3_run.cls ≠ "java/lang/invoke/VarHandle" ∧ (parseMethodDescriptor yX3_run.desc).map (fun d => d.parameters.length) = some 0 := by decide +kernel
theorem hv_X3_run : yX3_run.cls = RX3 ∧ yX3_run.cls ≠ "java/lang/invoke/MethodHandle" ∧ yX3_run.cls ≠ "java/lang/invoke/VarHandle" ∧ (parseMethodDescriptor yX3_run.desc).map (fun d => d.parameters.length) = some 0 := ⟨rfl, hd_X3_run⟩
theorem wX3_run_0 : Cond.fieldLink RX3 34 "WaxCopies" "orders" "LWaxCopies$Orders;" ∈ wsX3_run := by decide +kernel
theorem inX3_run_X3 : ∀ w ∈ wsX30, w ∈ wsX3_run := by decide +kernel
set_option maxHeartbeats 4000000 in
set_option maxRecDepth 100000 in
theorem c_X3_run (l : Launch) (G : zG) {μ mu1 : Mm} {r : Int32} (h : f_X3_run μ = some (.inr r, mu1)) (sz : Nat) : Met l yX3_run wsX3_run rm_X3_run (z_Pre G μ [.ref (G.2.1 (90))] sz) (z_Qi G r mu1 sz) 0 0 (z_A G sz) := by
  refine z_start (cc := cX3_run) (maxL := 2) (ret := (some .int)) (own := RX3) (by decide) rfl rfl (Nat.le_of_ble_eq_true rfl) (fun p e s m args below meth c C hr hlk Z hP ls hl => ?_) sz
  have hx := C.1
  have hb := C.2.1
  have hts := C.2.2.2.2
  have hS : va_S (z_A G s.heap.size) s.heap s.heap [] := va_S.rf
  have hl : lv_has ls 2 [(0, .ref (G.2.1 (90)))] := hl
  unfold f_X3_run at h
  refine lv_aload_n hx hb dX3_run_0 rfl (lv_at hl 0 rfl) ?_
  refine z_get C Z hP (k := 90) (ci := 3) (j := 5) (N := 7) (v := .ref (G.2.1 (94))) (by decide) (z_E_90 _) rfl inX3_run_X3 (by decide) wX3_run_0 rfl dX3_run_1 ?_
  obtain ⟨r1, m2, e3, h⟩ := zb_some h
  refine z_calli hS (va_runV (As := []) (rest := []) C (c_X0_areWhole l G e3 _) (cwV 0 hts gX3_run_X0_areWhole rfl rfl rfl hv_X0_areWhole ⟨Nat.le_of_ble_eq_true rfl, Nat.le_of_ble_eq_true rfl⟩) (z_preV Z hS hP (by decide) (z_E_94 _) rfl rfl) rfl rfl hl.1 rfl (lv_room (Nat.le_of_ble_eq_true rfl)) dX3_run_4 ⟨Nat.zero_le _, Nat.zero_le _⟩) (fun H locs hP hS => ?_)
  refine lv_if_ne (tgt := 20) hx hb dX3_run_7 (by decide) (fun hc4 => ?_) (fun hc4 => ?_)
  · have h := z_in hc4 h
    refine lv_aload_n hx hb dX3_run_20 rfl (lv_at hl 0 rfl) ?_
    obtain ⟨r5, m6, e7, h⟩ := zb_some h
    refine z_callv hS (va_runV (As := []) (rest := []) C (c_X3_saveState l G e7 _) (cwV 0 hts gX3_run_X3_saveState rfl rfl rfl hv_X3_saveState ⟨Nat.le_of_ble_eq_true rfl, Nat.le_of_ble_eq_true rfl⟩) (z_preV Z hS hP (by decide) (z_E_90 _) rfl rfl) rfl rfl hl.1 rfl (lv_room (Nat.le_of_ble_eq_true rfl)) dX3_run_21 ⟨Nat.zero_le _, Nat.zero_le _⟩) (fun H locs hP hS => ?_)
    refine lv_aload_n hx hb dX3_run_24 rfl (lv_at hl 0 rfl) ?_
    obtain ⟨r8, m9, e10, h⟩ := zb_some h
    refine z_calli hS (va_runV (As := []) (rest := []) C (c_X3_doOrders l G e10 _) (cwV 0 hts gX3_run_X3_doOrders rfl rfl rfl hv_X3_doOrders ⟨Nat.le_of_ble_eq_true rfl, Nat.le_of_ble_eq_true rfl⟩) (z_preV Z hS hP (by decide) (z_E_90 _) rfl rfl) rfl rfl hl.1 rfl (lv_room (Nat.le_of_ble_eq_true rfl)) dX3_run_25 ⟨Nat.zero_le _, Nat.zero_le _⟩) (fun H locs hP hS => ?_)
    refine lv_istore_n (lv' := [(1, .int (r8)), (0, .ref (G.2.1 (90)))]) hx hb dX3_run_28 rfl hl (by decide) rfl (fun ls hl => ?_)
    refine lv_aload_n hx hb dX3_run_29 rfl (lv_at hl 1 rfl) ?_
    refine z_get C Z hP (k := 90) (ci := 3) (j := 5) (N := 7) (v := .ref (G.2.1 (94))) (by decide) (z_E_90 _) rfl inX3_run_X3 (by decide) wX3_run_0 rfl dX3_run_30 ?_
    obtain ⟨r11, m12, e13, h⟩ := zb_some h
    refine z_calli hS (va_runV (As := []) (rest := []) C (c_X0_drop l G e13 _) (cwV 0 hts gX3_run_X0_drop rfl rfl rfl hv_X0_drop ⟨Nat.le_of_ble_eq_true rfl, Nat.le_of_ble_eq_true rfl⟩) (z_preV Z hS hP (by decide) (z_E_94 _) rfl rfl) rfl rfl hl.1 rfl (lv_room (Nat.le_of_ble_eq_true rfl)) dX3_run_33 ⟨Nat.zero_le _, Nat.zero_le _⟩) (fun H locs hP hS => ?_)
    refine lv_pop hx hb dX3_run_36 rfl ?_
    refine lv_iload_n hx hb dX3_run_37 rfl (lv_at hl 0 rfl) ?_
    cases h
    exact z_reti C hr hlk hP hS dX3_run_38
  · have h := z_ip hc4 h
    cases h
abbrev rm_X3_checkSlot : Room := { frames := 0, cells := 0, slots := 0, locals := 0 }
theorem hd_X3_checkSlot : yX3_checkSlot.cls ≠ "java/lang/invoke/MethodHandle" ∧ yX3_checkSlot.cls ≠ "java/lang/invoke/VarHandle" ∧ (parseMethodDescriptor yX3_checkSlot.desc).map (fun d => d.parameters.length) = some 1 := by decide +kernel
theorem hv_X3_checkSlot : yX3_checkSlot.cls = RX3 ∧ yX3_checkSlot.cls ≠ "java/lang/invoke/MethodHandle" ∧ yX3_checkSlot.cls ≠ "java/lang/invoke/VarHandle" ∧ (parseMethodDescriptor yX3_checkSlot.desc).map (fun d => d.parameters.length) = some 1 := ⟨rfl, hd_X3_checkSlot⟩
set_option maxHeartbeats 4000000 in
set_option maxRecDepth 100000 in
theorem c_X3_checkSlot (l : Launch) (G : zG) {x1 : Int32} {μ mu1 : Mm} {r : Unit} (h : f_X3_checkSlot x1 μ = some (.inr r, mu1)) (sz : Nat) : Met l yX3_checkSlot wsX3_checkSlot rm_X3_checkSlot (z_Pre G μ [.ref (G.2.1 (90)), .int (x1)] sz) (z_Qv G r mu1 sz) 0 0 (z_A G sz) := by
  refine z_start (cc := cX3_checkSlot) (maxL := 2) (ret := none) (own := RX3) (by decide) rfl rfl (Nat.le_of_ble_eq_true rfl) (fun p e s m args below meth c C hr hlk Z hP ls hl => ?_) sz
  have hx := C.1
  have hb := C.2.1
  have hts := C.2.2.2.2
  have hS : va_S (z_A G s.heap.size) s.heap s.heap [] := va_S.rf
  have hl : lv_has ls 2 [(0, .ref (G.2.1 (90))), (1, .int (x1))] := hl
  unfold f_X3_checkSlot at h
  refine lv_iload_n hx hb dX3_checkSlot_0 rfl (lv_at hl 1 rfl) ?_
  refine lv_if_lt (tgt := 9) hx hb dX3_checkSlot_1 (by decide) (fun hc1 => ?_) (fun hc1 => ?_)
  · have h := z_ip hc1 h
    cases h
  · have h := z_in hc1 h
    refine lv_iload_n hx hb dX3_checkSlot_4 rfl (lv_at hl 1 rfl) ?_
    refine lv_iconst (v := 2) hx hb dX3_checkSlot_5 (by decide) ?_
    refine lv_icmp_lt (tgt := 20) hx hb dX3_checkSlot_6 (by decide) (fun hc2 => ?_) (fun hc2 => ?_)
    · have h := z_ip hc2 h
      cases h
      exact z_retv C hr hlk hP hS dX3_checkSlot_20
    · have h := z_in hc2 h
      cases h
abbrev rm_X3_keep : Room := { frames := 3, cells := 0, slots := 0, locals := 67 }
theorem hd_X3_keep : yX3_keep.cls ≠ "java/lang/invoke/MethodHandle" ∧ yX3_keep.cls ≠ "java/lang/invoke/VarHandle" ∧ (parseMethodDescriptor yX3_keep.desc).map (fun d => d.parameters.length) = some 1 := by decide +kernel
theorem hv_X3_keep : yX3_keep.cls = RX3 ∧ yX3_keep.cls ≠ "java/lang/invoke/MethodHandle" ∧ yX3_keep.cls ≠ "java/lang/invoke/VarHandle" ∧ (parseMethodDescriptor yX3_keep.desc).map (fun d => d.parameters.length) = some 1 := ⟨rfl, hd_X3_keep⟩
theorem wX3_keep_0 : Cond.fieldLink RX3 16 "WaxCopies" "slots" "[LWaxCopies$Wax;" ∈ wsX3_keep := by decide +kernel
theorem inX3_keep_X3 : ∀ w ∈ wsX30, w ∈ wsX3_keep := by decide +kernel
theorem wX3_keep_2 : Cond.fieldLink RX3 12 "WaxCopies" "now" "LWaxCopies$Wax;" ∈ wsX3_keep := by decide +kernel
theorem wX3_keep_3 : Cond.fieldLink RX3 20 "WaxCopies" "slotTaken" "[Z" ∈ wsX3_keep := by decide +kernel
set_option maxHeartbeats 4000000 in
set_option maxRecDepth 100000 in
theorem c_X3_keep (l : Launch) (G : zG) {x1 : Int32} {μ mu1 : Mm} {r : Int32} (h : f_X3_keep x1 μ = some (.inr r, mu1)) (sz : Nat) : Met l yX3_keep wsX3_keep rm_X3_keep (z_Pre G μ [.ref (G.2.1 (90)), .int (x1)] sz) (z_Qi G r mu1 sz) 0 0 (z_A G sz) := by
  refine z_start (cc := cX3_keep) (maxL := 2) (ret := (some .int)) (own := RX3) (by decide) rfl rfl (Nat.le_of_ble_eq_true rfl) (fun p e s m args below meth c C hr hlk Z hP ls hl => ?_) sz
  have hx := C.1
  have hb := C.2.1
  have hts := C.2.2.2.2
  have hS : va_S (z_A G s.heap.size) s.heap s.heap [] := va_S.rf
  have hl : lv_has ls 2 [(0, .ref (G.2.1 (90))), (1, .int (x1))] := hl
  unfold f_X3_keep at h
  refine lv_aload_n hx hb dX3_keep_0 rfl (lv_at hl 0 rfl) ?_
  refine lv_iload_n hx hb dX3_keep_1 rfl (lv_at hl 1 rfl) ?_
  obtain ⟨r1, m2, e3, h⟩ := zbx_r h
  refine z_callv hS (va_runV (As := [.int (x1)]) (rest := []) C (c_X3_checkSlot l G e3 _) (cwV 1 hts gX3_keep_X3_checkSlot rfl rfl rfl hv_X3_checkSlot ⟨Nat.le_of_ble_eq_true rfl, Nat.le_of_ble_eq_true rfl⟩) (z_preV Z hS hP (by decide) (z_E_90 _) rfl rfl) rfl rfl hl.1 rfl (lv_room (Nat.le_of_ble_eq_true rfl)) dX3_keep_2 ⟨Nat.zero_le _, Nat.zero_le _⟩) (fun H locs hP hS => ?_)
  refine lv_aload_n hx hb dX3_keep_5 rfl (lv_at hl 0 rfl) ?_
  refine z_get C Z hP (k := 90) (ci := 3) (j := 1) (N := 7) (v := .ref (G.2.1 (91))) (by decide) (z_E_90 _) rfl inX3_keep_X3 (by decide) wX3_keep_0 rfl dX3_keep_6 ?_
  refine lv_iload_n hx hb dX3_keep_9 rfl (lv_at hl 1 rfl) ?_
  obtain ⟨hg4, h⟩ := z_g h
  refine z_aldq C Z hP (k := 91) (n := 2) (b := G.2.1 (10 * (1 + (x1).toNatClampNeg))) (by decide) (z_E_91 _) hg4 rfl dX3_keep_10 ?_
  have hw5 : (10 * (1 + (x1).toNatClampNeg)) % 10 = 0 ∧ (10 * (1 + (x1).toNatClampNeg)) < 90 := z_slotin hg4 rfl
  refine lv_aload_n hx hb dX3_keep_11 rfl (lv_at hl 0 rfl) ?_
  refine z_get C Z hP (k := 90) (ci := 3) (j := 0) (N := 7) (v := .ref (G.2.1 (0))) (by decide) (z_E_90 _) rfl inX3_keep_X3 (by decide) wX3_keep_2 rfl dX3_keep_12 ?_
  obtain ⟨r6, m7, e8, h⟩ := zb_some h
  refine z_callv hS (va_runV (As := [.ref (G.2.1 (0))]) (rest := []) C (c_X2_takeOver l G e8 _) (cwV 1 hts gX3_keep_X2_takeOver rfl rfl rfl hv_X2_takeOver ⟨Nat.le_of_ble_eq_true rfl, Nat.le_of_ble_eq_true rfl⟩) (z_preV Z hS hP (Nat.lt_trans hw5.2 (by decide)) (z_E_wax hw5 _) rfl rfl) rfl rfl hl.1 rfl (lv_room (Nat.le_of_ble_eq_true rfl)) dX3_keep_15 ⟨Nat.zero_le _, Nat.zero_le _⟩) (fun H locs hP hS => ?_)
  refine lv_aload_n hx hb dX3_keep_18 rfl (lv_at hl 0 rfl) ?_
  refine z_get C Z hP (k := 90) (ci := 3) (j := 2) (N := 7) (v := .ref (G.2.1 (92))) (by decide) (z_E_90 _) rfl inX3_keep_X3 (by decide) wX3_keep_3 rfl dX3_keep_19 ?_
  refine lv_iload_n hx hb dX3_keep_22 rfl (lv_at hl 1 rfl) ?_
  refine lv_iconst (v := 1) hx hb dX3_keep_23 (by decide) ?_
  refine z_zast C Z hP hS (k := 92) (n := 2) (j := (x1).toNatClampNeg) (by decide) (fun r => z_E_92 r) hg4 rfl dX3_keep_24 (fun H locs hP hS => ?_)
  refine lv_aload_n hx hb dX3_keep_25 rfl (lv_at hl 0 rfl) ?_
  refine z_get C Z hP (k := 90) (ci := 3) (j := 0) (N := 7) (v := .ref (G.2.1 (0))) (by decide) (z_E_90 _) rfl inX3_keep_X3 (by decide) wX3_keep_2 rfl dX3_keep_26 ?_
  obtain ⟨r9, m10, e11, h⟩ := zb_some h
  refine z_calli hS (va_runV (As := []) (rest := []) C (c_X2_cutTracks l G e11 _) (cwV 0 hts gX3_keep_X2_cutTracks rfl rfl rfl hv_X2_cutTracks ⟨Nat.le_of_ble_eq_true rfl, Nat.le_of_ble_eq_true rfl⟩) (z_preV Z hS hP (by decide) (z_E_0 _) rfl rfl) rfl rfl hl.1 rfl (lv_room (Nat.le_of_ble_eq_true rfl)) dX3_keep_29 ⟨Nat.zero_le _, Nat.zero_le _⟩) (fun H locs hP hS => ?_)
  cases h
  exact z_reti C hr hlk hP hS dX3_keep_32
abbrev rm_X3_goBack : Room := { frames := 3, cells := 0, slots := 0, locals := 81 }
theorem hd_X3_goBack : yX3_goBack.cls ≠ "java/lang/invoke/MethodHandle" ∧ yX3_goBack.cls ≠ "java/lang/invoke/VarHandle" ∧ (parseMethodDescriptor yX3_goBack.desc).map (fun d => d.parameters.length) = some 1 := by decide +kernel
theorem hv_X3_goBack : yX3_goBack.cls = RX3 ∧ yX3_goBack.cls ≠ "java/lang/invoke/MethodHandle" ∧ yX3_goBack.cls ≠ "java/lang/invoke/VarHandle" ∧ (parseMethodDescriptor yX3_goBack.desc).map (fun d => d.parameters.length) = some 1 := ⟨rfl, hd_X3_goBack⟩
theorem wX3_goBack_0 : Cond.fieldLink RX3 20 "WaxCopies" "slotTaken" "[Z" ∈ wsX3_goBack := by decide +kernel
theorem inX3_goBack_X3 : ∀ w ∈ wsX30, w ∈ wsX3_goBack := by decide +kernel
theorem wX3_goBack_2 : Cond.fieldLink RX3 12 "WaxCopies" "now" "LWaxCopies$Wax;" ∈ wsX3_goBack := by decide +kernel
theorem wX3_goBack_3 : Cond.fieldLink RX3 16 "WaxCopies" "slots" "[LWaxCopies$Wax;" ∈ wsX3_goBack := by decide +kernel
set_option maxHeartbeats 4000000 in
set_option maxRecDepth 100000 in
theorem c_X3_goBack (l : Launch) (G : zG) {x1 : Int32} {μ mu1 : Mm} {r : Int32} (h : f_X3_goBack x1 μ = some (.inr r, mu1)) (sz : Nat) : Met l yX3_goBack wsX3_goBack rm_X3_goBack (z_Pre G μ [.ref (G.2.1 (90)), .int (x1)] sz) (z_Qi G r mu1 sz) 0 0 (z_A G sz) := by
  refine z_start (cc := cX3_goBack) (maxL := 2) (ret := (some .int)) (own := RX3) (by decide) rfl rfl (Nat.le_of_ble_eq_true rfl) (fun p e s m args below meth c C hr hlk Z hP ls hl => ?_) sz
  have hx := C.1
  have hb := C.2.1
  have hts := C.2.2.2.2
  have hS : va_S (z_A G s.heap.size) s.heap s.heap [] := va_S.rf
  have hl : lv_has ls 2 [(0, .ref (G.2.1 (90))), (1, .int (x1))] := hl
  unfold f_X3_goBack at h
  refine lv_aload_n hx hb dX3_goBack_0 rfl (lv_at hl 0 rfl) ?_
  refine lv_iload_n hx hb dX3_goBack_1 rfl (lv_at hl 1 rfl) ?_
  obtain ⟨r1, m2, e3, h⟩ := zbx_r h
  refine z_callv hS (va_runV (As := [.int (x1)]) (rest := []) C (c_X3_checkSlot l G e3 _) (cwV 1 hts gX3_goBack_X3_checkSlot rfl rfl rfl hv_X3_checkSlot ⟨Nat.le_of_ble_eq_true rfl, Nat.le_of_ble_eq_true rfl⟩) (z_preV Z hS hP (by decide) (z_E_90 _) rfl rfl) rfl rfl hl.1 rfl (lv_room (Nat.le_of_ble_eq_true rfl)) dX3_goBack_2 ⟨Nat.zero_le _, Nat.zero_le _⟩) (fun H locs hP hS => ?_)
  refine lv_aload_n hx hb dX3_goBack_5 rfl (lv_at hl 0 rfl) ?_
  refine z_get C Z hP (k := 90) (ci := 3) (j := 2) (N := 7) (v := .ref (G.2.1 (92))) (by decide) (z_E_90 _) rfl inX3_goBack_X3 (by decide) wX3_goBack_0 rfl dX3_goBack_6 ?_
  refine lv_iload_n hx hb dX3_goBack_9 rfl (lv_at hl 1 rfl) ?_
  obtain ⟨hg4, h⟩ := z_g h
  refine z_zald C Z hP (k := 92) (n := 2) (j := (x1).toNatClampNeg) (by decide) (z_E_92 _) hg4 rfl dX3_goBack_10 ?_
  refine lv_if_ne (tgt := 24) hx hb dX3_goBack_11 (by decide) (fun hc5 => ?_) (fun hc5 => ?_)
  · have h := z_in hc5 h
    refine lv_aload_n hx hb dX3_goBack_24 rfl (lv_at hl 0 rfl) ?_
    obtain ⟨r6, m7, e8, h⟩ := zb_some h
    refine z_callv hS (va_runV (As := []) (rest := []) C (c_X3_saveState l G e8 _) (cwV 0 hts gX3_goBack_X3_saveState rfl rfl rfl hv_X3_saveState ⟨Nat.le_of_ble_eq_true rfl, Nat.le_of_ble_eq_true rfl⟩) (z_preV Z hS hP (by decide) (z_E_90 _) rfl rfl) rfl rfl hl.1 rfl (lv_room (Nat.le_of_ble_eq_true rfl)) dX3_goBack_25 ⟨Nat.zero_le _, Nat.zero_le _⟩) (fun H locs hP hS => ?_)
    refine lv_aload_n hx hb dX3_goBack_28 rfl (lv_at hl 0 rfl) ?_
    refine z_get C Z hP (k := 90) (ci := 3) (j := 0) (N := 7) (v := .ref (G.2.1 (0))) (by decide) (z_E_90 _) rfl inX3_goBack_X3 (by decide) wX3_goBack_2 rfl dX3_goBack_29 ?_
    refine lv_aload_n hx hb dX3_goBack_32 rfl (lv_at hl 0 rfl) ?_
    refine z_get C Z hP (k := 90) (ci := 3) (j := 1) (N := 7) (v := .ref (G.2.1 (91))) (by decide) (z_E_90 _) rfl inX3_goBack_X3 (by decide) wX3_goBack_3 rfl dX3_goBack_33 ?_
    refine lv_iload_n hx hb dX3_goBack_36 rfl (lv_at hl 1 rfl) ?_
    refine z_aldq C Z hP (k := 91) (n := 2) (b := G.2.1 (10 * (1 + (x1).toNatClampNeg))) (by decide) (z_E_91 _) hg4 rfl dX3_goBack_37 ?_
    have hw9 : (10 * (1 + (x1).toNatClampNeg)) % 10 = 0 ∧ (10 * (1 + (x1).toNatClampNeg)) < 90 := z_slotin hg4 rfl
    obtain ⟨r10, m11, e12, h⟩ := zb_some h
    refine z_callv hS (va_runV (As := [.ref (G.2.1 ((10 * (1 + (x1).toNatClampNeg))))]) (rest := []) C (c_X2_takeOver l G e12 _) (cwV 1 hts gX3_goBack_X2_takeOver rfl rfl rfl hv_X2_takeOver ⟨Nat.le_of_ble_eq_true rfl, Nat.le_of_ble_eq_true rfl⟩) (z_preV Z hS hP (by decide) (z_E_0 _) rfl rfl) rfl rfl hl.1 rfl (lv_room (Nat.le_of_ble_eq_true rfl)) dX3_goBack_38 ⟨Nat.zero_le _, Nat.zero_le _⟩) (fun H locs hP hS => ?_)
    refine lv_aload_n hx hb dX3_goBack_41 rfl (lv_at hl 0 rfl) ?_
    refine z_get C Z hP (k := 90) (ci := 3) (j := 0) (N := 7) (v := .ref (G.2.1 (0))) (by decide) (z_E_90 _) rfl inX3_goBack_X3 (by decide) wX3_goBack_2 rfl dX3_goBack_42 ?_
    obtain ⟨r13, m14, e15, h⟩ := zb_some h
    refine z_calli hS (va_runV (As := []) (rest := []) C (c_X2_cutTracks l G e15 _) (cwV 0 hts gX3_goBack_X2_cutTracks rfl rfl rfl hv_X2_cutTracks ⟨Nat.le_of_ble_eq_true rfl, Nat.le_of_ble_eq_true rfl⟩) (z_preV Z hS hP (by decide) (z_E_0 _) rfl rfl) rfl rfl hl.1 rfl (lv_room (Nat.le_of_ble_eq_true rfl)) dX3_goBack_45 ⟨Nat.zero_le _, Nat.zero_le _⟩) (fun H locs hP hS => ?_)
    cases h
    exact z_reti C hr hlk hP hS dX3_goBack_48
  · have h := z_ip hc5 h
    cases h
abbrev rm_X3_undo : Room := { frames := 2, cells := 0, slots := 0, locals := 61 }
theorem hd_X3_undo : yX3_undo.cls ≠ "java/lang/invoke/MethodHandle" ∧ yX3_undo.cls ≠ "java/lang/invoke/VarHandle" ∧ (parseMethodDescriptor yX3_undo.desc).map (fun d => d.parameters.length) = some 0 := by decide +kernel
theorem hv_X3_undo : yX3_undo.cls = RX3 ∧ yX3_undo.cls ≠ "java/lang/invoke/MethodHandle" ∧ yX3_undo.cls ≠ "java/lang/invoke/VarHandle" ∧ (parseMethodDescriptor yX3_undo.desc).map (fun d => d.parameters.length) = some 0 := ⟨rfl, hd_X3_undo⟩
theorem wX3_undo_0 : Cond.fieldLink RX3 27 "WaxCopies" "savedStates" "I" ∈ wsX3_undo := by decide +kernel
theorem inX3_undo_X3 : ∀ w ∈ wsX30, w ∈ wsX3_undo := by decide +kernel
theorem wX3_undo_2 : Cond.fieldLink RX3 12 "WaxCopies" "now" "LWaxCopies$Wax;" ∈ wsX3_undo := by decide +kernel
theorem wX3_undo_3 : Cond.fieldLink RX3 24 "WaxCopies" "saved" "[LWaxCopies$Wax;" ∈ wsX3_undo := by decide +kernel
set_option maxHeartbeats 4000000 in
set_option maxRecDepth 100000 in
theorem c_X3_undo (l : Launch) (G : zG) {μ mu1 : Mm} {r : Int32} (h : f_X3_undo μ = some (.inr r, mu1)) (sz : Nat) : Met l yX3_undo wsX3_undo rm_X3_undo (z_Pre G μ [.ref (G.2.1 (90))] sz) (z_Qi G r mu1 sz) 0 0 (z_A G sz) := by
  refine z_start (cc := cX3_undo) (maxL := 1) (ret := (some .int)) (own := RX3) (by decide) rfl rfl (Nat.le_of_ble_eq_true rfl) (fun p e s m args below meth c C hr hlk Z hP ls hl => ?_) sz
  have hx := C.1
  have hb := C.2.1
  have hts := C.2.2.2.2
  have hS : va_S (z_A G s.heap.size) s.heap s.heap [] := va_S.rf
  have hl : lv_has ls 1 [(0, .ref (G.2.1 (90)))] := hl
  unfold f_X3_undo at h
  refine lv_aload_n hx hb dX3_undo_0 rfl (lv_at hl 0 rfl) ?_
  refine z_get C Z hP (k := 90) (ci := 3) (j := 4) (N := 7) (v := .int ((μ 90 4))) (by decide) (z_E_90 _) rfl inX3_undo_X3 (by decide) wX3_undo_0 rfl dX3_undo_1 ?_
  refine lv_if_gt (tgt := 17) hx hb dX3_undo_4 (by decide) (fun hc1 => ?_) (fun hc1 => ?_)
  · have h := z_ip hc1 h
    refine lv_aload_n hx hb dX3_undo_17 rfl (lv_at hl 0 rfl) ?_
    refine lv_dup hx hb dX3_undo_18 rfl ?_
    refine z_get C Z hP (k := 90) (ci := 3) (j := 4) (N := 7) (v := .int ((μ 90 4))) (by decide) (z_E_90 _) rfl inX3_undo_X3 (by decide) wX3_undo_0 rfl dX3_undo_19 ?_
    refine lv_iconst (v := 1) hx hb dX3_undo_22 (by decide) ?_
    refine lv_isub hx hb dX3_undo_23 ?_
    refine z_put C Z hP hS (k := 90) (ci := 3) (j := 4) (N := 7) (x := ((μ 90 4) - 1)) (v := .int (((μ 90 4) - 1))) (ty := .int) (by decide) (z_E_90 _) rfl inX3_undo_X3 tyX3_ok nmX3 (by decide) wX3_undo_0 rfl (by decide +kernel) rfl rfl (Nat.le_of_ble_eq_true rfl) (z_S_90_4 _ _) dX3_undo_24 (fun H locs hP hS => ?_)
    refine lv_aload_n hx hb dX3_undo_27 rfl (lv_at hl 0 rfl) ?_
    refine z_get C Z hP (k := 90) (ci := 3) (j := 0) (N := 7) (v := .ref (G.2.1 (0))) (by decide) (z_E_90 _) rfl inX3_undo_X3 (by decide) wX3_undo_2 rfl dX3_undo_28 ?_
    refine lv_aload_n hx hb dX3_undo_31 rfl (lv_at hl 0 rfl) ?_
    refine z_get C Z hP (k := 90) (ci := 3) (j := 3) (N := 7) (v := .ref (G.2.1 (93))) (by decide) (z_E_90 _) rfl inX3_undo_X3 (by decide) wX3_undo_3 rfl dX3_undo_32 ?_
    refine lv_aload_n hx hb dX3_undo_35 rfl (lv_at hl 0 rfl) ?_
    refine z_get C Z hP (k := 90) (ci := 3) (j := 4) (N := 7) (v := .int (((z_up μ (90) 4 ((μ 90 4) - 1)) 90 4))) (by decide) (z_E_90 _) rfl inX3_undo_X3 (by decide) wX3_undo_0 rfl dX3_undo_36 ?_
    obtain ⟨hg2, h⟩ := z_g h
    refine z_aldq C Z hP (k := 93) (n := 6) (b := G.2.1 (z_rf ((z_up μ (90) 4 ((μ 90 4) - 1)) 93 ((((z_up μ (90) 4 ((μ 90 4) - 1)) 90 4)).toNatClampNeg)))) (by decide) (z_E_93 _) hg2 rfl dX3_undo_39 ?_
    obtain ⟨hg3, h⟩ := z_g h
    obtain ⟨r4, m5, e6, h⟩ := zb_some h
    refine z_callv hS (va_runV (As := [.ref (G.2.1 ((z_rf ((z_up μ (90) 4 ((μ 90 4) - 1)) 93 ((((z_up μ (90) 4 ((μ 90 4) - 1)) 90 4)).toNatClampNeg)))))]) (rest := []) C (c_X2_takeOver l G e6 _) (cwV 1 hts gX3_undo_X2_takeOver rfl rfl rfl hv_X2_takeOver ⟨Nat.le_of_ble_eq_true rfl, Nat.le_of_ble_eq_true rfl⟩) (z_preV Z hS hP (by decide) (z_E_0 _) rfl rfl) rfl rfl hl.1 rfl (lv_room (Nat.le_of_ble_eq_true rfl)) dX3_undo_40 ⟨Nat.zero_le _, Nat.zero_le _⟩) (fun H locs hP hS => ?_)
    refine lv_aload_n hx hb dX3_undo_43 rfl (lv_at hl 0 rfl) ?_
    refine z_get C Z hP (k := 90) (ci := 3) (j := 4) (N := 7) (v := .int ((m5 90 4))) (by decide) (z_E_90 _) rfl inX3_undo_X3 (by decide) wX3_undo_0 rfl dX3_undo_44 ?_
    cases h
    exact z_reti C hr hlk hP hS dX3_undo_47
  · have h := z_in hc1 h
    cases h
abbrev rm_X3_checkWhat : Room := { frames := 0, cells := 0, slots := 0, locals := 0 }
theorem hd_X3_checkWhat : yX3_checkWhat.cls ≠ "java/lang/invoke/MethodHandle" ∧ yX3_checkWhat.cls ≠ "java/lang/invoke/VarHandle" ∧ (parseMethodDescriptor yX3_checkWhat.desc).map (fun d => d.parameters.length) = some 2 := by decide +kernel
theorem hv_X3_checkWhat : yX3_checkWhat.cls = RX3 ∧ yX3_checkWhat.cls ≠ "java/lang/invoke/MethodHandle" ∧ yX3_checkWhat.cls ≠ "java/lang/invoke/VarHandle" ∧ (parseMethodDescriptor yX3_checkWhat.desc).map (fun d => d.parameters.length) = some 2 := ⟨rfl, hd_X3_checkWhat⟩
set_option maxHeartbeats 4000000 in
set_option maxRecDepth 100000 in
theorem c_X3_checkWhat (l : Launch) (G : zG) {x1 : Int32} {x2 : Int32} {μ mu1 : Mm} {r : Unit} (h : f_X3_checkWhat x1 x2 μ = some (.inr r, mu1)) (sz : Nat) : Met l yX3_checkWhat wsX3_checkWhat rm_X3_checkWhat (z_Pre G μ [.ref (G.2.1 (90)), .int (x1), .int (x2)] sz) (z_Qv G r mu1 sz) 0 0 (z_A G sz) := by
  refine z_start (cc := cX3_checkWhat) (maxL := 3) (ret := none) (own := RX3) (by decide) rfl rfl (Nat.le_of_ble_eq_true rfl) (fun p e s m args below meth c C hr hlk Z hP ls hl => ?_) sz
  have hx := C.1
  have hb := C.2.1
  have hts := C.2.2.2.2
  have hS : va_S (z_A G s.heap.size) s.heap s.heap [] := va_S.rf
  have hl : lv_has ls 3 [(0, .ref (G.2.1 (90))), (1, .int (x1)), (2, .int (x2))] := hl
  unfold f_X3_checkWhat at h
  refine lv_iload_n hx hb dX3_checkWhat_0 rfl (lv_at hl 1 rfl) ?_
  refine lv_if_lt (tgt := 9) hx hb dX3_checkWhat_1 (by decide) (fun hc1 => ?_) (fun hc1 => ?_)
  · have h := z_ip hc1 h
    cases h
  · have h := z_in hc1 h
    refine lv_iload_n hx hb dX3_checkWhat_4 rfl (lv_at hl 1 rfl) ?_
    refine lv_iload_n hx hb dX3_checkWhat_5 rfl (lv_at hl 2 rfl) ?_
    refine lv_icmp_lt (tgt := 20) hx hb dX3_checkWhat_6 (by decide) (fun hc2 => ?_) (fun hc2 => ?_)
    · have h := z_ip hc2 h
      cases h
      exact z_retv C hr hlk hP hS dX3_checkWhat_20
    · have h := z_in hc2 h
      cases h
abbrev rm_X3_trackOf : Room := { frames := 2, cells := 0, slots := 0, locals := 43 }
theorem hd_X3_trackOf : yX3_trackOf.cls ≠ "java/lang/invoke/MethodHandle" ∧ yX3_trackOf.cls ≠ "java/lang/invoke/VarHandle" ∧ (parseMethodDescriptor yX3_trackOf.desc).map (fun d => d.parameters.length) = some 2 := by decide +kernel
theorem hv_X3_trackOf : yX3_trackOf.cls = RX3 ∧ yX3_trackOf.cls ≠ "java/lang/invoke/MethodHandle" ∧ yX3_trackOf.cls ≠ "java/lang/invoke/VarHandle" ∧ (parseMethodDescriptor yX3_trackOf.desc).map (fun d => d.parameters.length) = some 2 := ⟨rfl, hd_X3_trackOf⟩
theorem wX3_trackOf_0 : Cond.fieldLink RX3 12 "WaxCopies" "now" "LWaxCopies$Wax;" ∈ wsX3_trackOf := by decide +kernel
theorem inX3_trackOf_X3 : ∀ w ∈ wsX30, w ∈ wsX3_trackOf := by decide +kernel
set_option maxHeartbeats 4000000 in
set_option maxRecDepth 100000 in
theorem c_X3_trackOf (l : Launch) (G : zG) {x1 : Int32} {x2 : Int32} {μ mu1 : Mm} {r : Int32} (h : f_X3_trackOf x1 x2 μ = some (.inr r, mu1)) (sz : Nat) : Met l yX3_trackOf wsX3_trackOf rm_X3_trackOf (z_Pre G μ [.ref (G.2.1 (90)), .int (x1), .int (x2)] sz) (z_Qi G r mu1 sz) 0 0 (z_A G sz) := by
  refine z_start (cc := cX3_trackOf) (maxL := 3) (ret := (some .int)) (own := RX3) (by decide) rfl rfl (Nat.le_of_ble_eq_true rfl) (fun p e s m args below meth c C hr hlk Z hP ls hl => ?_) sz
  have hx := C.1
  have hb := C.2.1
  have hts := C.2.2.2.2
  have hS : va_S (z_A G s.heap.size) s.heap s.heap [] := va_S.rf
  have hl : lv_has ls 3 [(0, .ref (G.2.1 (90))), (1, .int (x1)), (2, .int (x2))] := hl
  unfold f_X3_trackOf at h
  refine lv_aload_n hx hb dX3_trackOf_0 rfl (lv_at hl 0 rfl) ?_
  refine lv_iload_n hx hb dX3_trackOf_1 rfl (lv_at hl 1 rfl) ?_
  obtain ⟨r1, m2, e3, h⟩ := zbx_r h
  refine z_callv hS (va_runV (As := [.int (x1)]) (rest := []) C (c_X3_checkTrack l G e3 _) (cwV 1 hts gX3_trackOf_X3_checkTrack rfl rfl rfl hv_X3_checkTrack ⟨Nat.le_of_ble_eq_true rfl, Nat.le_of_ble_eq_true rfl⟩) (z_preV Z hS hP (by decide) (z_E_90 _) rfl rfl) rfl rfl hl.1 rfl (lv_room (Nat.le_of_ble_eq_true rfl)) dX3_trackOf_2 ⟨Nat.zero_le _, Nat.zero_le _⟩) (fun H locs hP hS => ?_)
  refine lv_aload_n hx hb dX3_trackOf_5 rfl (lv_at hl 0 rfl) ?_
  refine lv_iload_n hx hb dX3_trackOf_6 rfl (lv_at hl 2 rfl) ?_
  refine lv_bipush (v := 7) hx hb dX3_trackOf_7 (by decide) ?_
  obtain ⟨r4, m5, e6, h⟩ := zbx_r h
  refine z_callv hS (va_runV (As := [.int (x2), .int (7)]) (rest := []) C (c_X3_checkWhat l G e6 _) (cwV 2 hts gX3_trackOf_X3_checkWhat rfl rfl rfl hv_X3_checkWhat ⟨Nat.le_of_ble_eq_true rfl, Nat.le_of_ble_eq_true rfl⟩) (z_preV Z hS hP (by decide) (z_E_90 _) rfl rfl) rfl rfl hl.1 rfl (lv_room (Nat.le_of_ble_eq_true rfl)) dX3_trackOf_9 ⟨Nat.zero_le _, Nat.zero_le _⟩) (fun H locs hP hS => ?_)
  refine lv_aload_n hx hb dX3_trackOf_12 rfl (lv_at hl 0 rfl) ?_
  refine z_get C Z hP (k := 90) (ci := 3) (j := 0) (N := 7) (v := .ref (G.2.1 (0))) (by decide) (z_E_90 _) rfl inX3_trackOf_X3 (by decide) wX3_trackOf_0 rfl dX3_trackOf_13 ?_
  refine lv_iload_n hx hb dX3_trackOf_16 rfl (lv_at hl 1 rfl) ?_
  refine lv_iload_n hx hb dX3_trackOf_17 rfl (lv_at hl 2 rfl) ?_
  obtain ⟨r7, m8, e9, h⟩ := zb_some h
  refine z_calli hS (va_runV (As := [.int (x1), .int (x2)]) (rest := []) C (c_X2_trackProperty l G e9 _) (cwV 2 hts gX3_trackOf_X2_trackProperty rfl rfl rfl hv_X2_trackProperty ⟨Nat.le_of_ble_eq_true rfl, Nat.le_of_ble_eq_true rfl⟩) (z_preV Z hS hP (by decide) (z_E_0 _) rfl rfl) rfl rfl hl.1 rfl (lv_room (Nat.le_of_ble_eq_true rfl)) dX3_trackOf_18 ⟨Nat.zero_le _, Nat.zero_le _⟩) (fun H locs hP hS => ?_)
  cases h
  exact z_reti C hr hlk hP hS dX3_trackOf_21
abbrev rm_X3_cylinderOf : Room := { frames := 3, cells := 0, slots := 0, locals := 67 }
theorem hd_X3_cylinderOf : yX3_cylinderOf.cls ≠ "java/lang/invoke/MethodHandle" ∧ yX3_cylinderOf.cls ≠ "java/lang/invoke/VarHandle" ∧ (parseMethodDescriptor yX3_cylinderOf.desc).map (fun d => d.parameters.length) = some 2 := by decide +kernel
theorem hv_X3_cylinderOf : yX3_cylinderOf.cls = RX3 ∧ yX3_cylinderOf.cls ≠ "java/lang/invoke/MethodHandle" ∧ yX3_cylinderOf.cls ≠ "java/lang/invoke/VarHandle" ∧ (parseMethodDescriptor yX3_cylinderOf.desc).map (fun d => d.parameters.length) = some 2 := ⟨rfl, hd_X3_cylinderOf⟩
theorem wX3_cylinderOf_0 : Cond.fieldLink RX3 12 "WaxCopies" "now" "LWaxCopies$Wax;" ∈ wsX3_cylinderOf := by decide +kernel
theorem inX3_cylinderOf_X3 : ∀ w ∈ wsX30, w ∈ wsX3_cylinderOf := by decide +kernel
set_option maxHeartbeats 4000000 in
set_option maxRecDepth 100000 in
theorem c_X3_cylinderOf (l : Launch) (G : zG) {x1 : Int32} {x2 : Int32} {μ mu1 : Mm} {r : Int32} (h : f_X3_cylinderOf x1 x2 μ = some (.inr r, mu1)) (sz : Nat) : Met l yX3_cylinderOf wsX3_cylinderOf rm_X3_cylinderOf (z_Pre G μ [.ref (G.2.1 (90)), .int (x1), .int (x2)] sz) (z_Qi G r mu1 sz) 0 0 (z_A G sz) := by
  refine z_start (cc := cX3_cylinderOf) (maxL := 3) (ret := (some .int)) (own := RX3) (by decide) rfl rfl (Nat.le_of_ble_eq_true rfl) (fun p e s m args below meth c C hr hlk Z hP ls hl => ?_) sz
  have hx := C.1
  have hb := C.2.1
  have hts := C.2.2.2.2
  have hS : va_S (z_A G s.heap.size) s.heap s.heap [] := va_S.rf
  have hl : lv_has ls 3 [(0, .ref (G.2.1 (90))), (1, .int (x1)), (2, .int (x2))] := hl
  unfold f_X3_cylinderOf at h
  refine lv_aload_n hx hb dX3_cylinderOf_0 rfl (lv_at hl 0 rfl) ?_
  refine lv_iload_n hx hb dX3_cylinderOf_1 rfl (lv_at hl 1 rfl) ?_
  obtain ⟨r1, m2, e3, h⟩ := zbx_r h
  refine z_callv hS (va_runV (As := [.int (x1)]) (rest := []) C (c_X3_checkCylinder l G e3 _) (cwV 1 hts gX3_cylinderOf_X3_checkCylinder rfl rfl rfl hv_X3_checkCylinder ⟨Nat.le_of_ble_eq_true rfl, Nat.le_of_ble_eq_true rfl⟩) (z_preV Z hS hP (by decide) (z_E_90 _) rfl rfl) rfl rfl hl.1 rfl (lv_room (Nat.le_of_ble_eq_true rfl)) dX3_cylinderOf_2 ⟨Nat.zero_le _, Nat.zero_le _⟩) (fun H locs hP hS => ?_)
  refine lv_aload_n hx hb dX3_cylinderOf_5 rfl (lv_at hl 0 rfl) ?_
  refine lv_iload_n hx hb dX3_cylinderOf_6 rfl (lv_at hl 2 rfl) ?_
  refine lv_iconst (v := 5) hx hb dX3_cylinderOf_7 (by decide) ?_
  obtain ⟨r4, m5, e6, h⟩ := zbx_r h
  refine z_callv hS (va_runV (As := [.int (x2), .int (5)]) (rest := []) C (c_X3_checkWhat l G e6 _) (cwV 2 hts gX3_cylinderOf_X3_checkWhat rfl rfl rfl hv_X3_checkWhat ⟨Nat.le_of_ble_eq_true rfl, Nat.le_of_ble_eq_true rfl⟩) (z_preV Z hS hP (by decide) (z_E_90 _) rfl rfl) rfl rfl hl.1 rfl (lv_room (Nat.le_of_ble_eq_true rfl)) dX3_cylinderOf_8 ⟨Nat.zero_le _, Nat.zero_le _⟩) (fun H locs hP hS => ?_)
  refine lv_aload_n hx hb dX3_cylinderOf_11 rfl (lv_at hl 0 rfl) ?_
  refine z_get C Z hP (k := 90) (ci := 3) (j := 0) (N := 7) (v := .ref (G.2.1 (0))) (by decide) (z_E_90 _) rfl inX3_cylinderOf_X3 (by decide) wX3_cylinderOf_0 rfl dX3_cylinderOf_12 ?_
  refine lv_iload_n hx hb dX3_cylinderOf_15 rfl (lv_at hl 1 rfl) ?_
  refine lv_iload_n hx hb dX3_cylinderOf_16 rfl (lv_at hl 2 rfl) ?_
  obtain ⟨r7, m8, e9, h⟩ := zb_some h
  refine z_calli hS (va_runV (As := [.int (x1), .int (x2)]) (rest := []) C (c_X2_cylinderProperty l G e9 _) (cwV 2 hts gX3_cylinderOf_X2_cylinderProperty rfl rfl rfl hv_X2_cylinderProperty ⟨Nat.le_of_ble_eq_true rfl, Nat.le_of_ble_eq_true rfl⟩) (z_preV Z hS hP (by decide) (z_E_0 _) rfl rfl) rfl rfl hl.1 rfl (lv_room (Nat.le_of_ble_eq_true rfl)) dX3_cylinderOf_17 ⟨Nat.zero_le _, Nat.zero_le _⟩) (fun H locs hP hS => ?_)
  cases h
  exact z_reti C hr hlk hP hS dX3_cylinderOf_20
abbrev rm_X3_count : Room := { frames := 4, cells := 0, slots := 0, locals := 88 }
theorem hd_X3_count : yX3_count.cls ≠ "java/lang/invoke/MethodHandle" ∧ yX3_count.cls ≠ "java/lang/invoke/VarHandle" ∧ (parseMethodDescriptor yX3_count.desc).map (fun d => d.parameters.length) = some 1 := by decide +kernel
theorem hv_X3_count : yX3_count.cls = RX3 ∧ yX3_count.cls ≠ "java/lang/invoke/MethodHandle" ∧ yX3_count.cls ≠ "java/lang/invoke/VarHandle" ∧ (parseMethodDescriptor yX3_count.desc).map (fun d => d.parameters.length) = some 1 := ⟨rfl, hd_X3_count⟩
theorem wX3_count_0 : Cond.fieldLink RX3 12 "WaxCopies" "now" "LWaxCopies$Wax;" ∈ wsX3_count := by decide +kernel
theorem inX3_count_X3 : ∀ w ∈ wsX30, w ∈ wsX3_count := by decide +kernel
theorem wX3_count_2 : Cond.fieldLink RX3 27 "WaxCopies" "savedStates" "I" ∈ wsX3_count := by decide +kernel
set_option maxHeartbeats 4000000 in
set_option maxRecDepth 100000 in
theorem c_X3_count (l : Launch) (G : zG) {x1 : Int32} {μ mu1 : Mm} {r : Int32} (h : f_X3_count x1 μ = some (.inr r, mu1)) (sz : Nat) : Met l yX3_count wsX3_count rm_X3_count (z_Pre G μ [.ref (G.2.1 (90)), .int (x1)] sz) (z_Qi G r mu1 sz) 0 0 (z_A G sz) := by
  refine z_start (cc := cX3_count) (maxL := 2) (ret := (some .int)) (own := RX3) (by decide) rfl rfl (Nat.le_of_ble_eq_true rfl) (fun p e s m args below meth c C hr hlk Z hP ls hl => ?_) sz
  have hx := C.1
  have hb := C.2.1
  have hts := C.2.2.2.2
  have hS : va_S (z_A G s.heap.size) s.heap s.heap [] := va_S.rf
  have hl : lv_has ls 2 [(0, .ref (G.2.1 (90))), (1, .int (x1))] := hl
  unfold f_X3_count at h
  refine lv_aload_n hx hb dX3_count_0 rfl (lv_at hl 0 rfl) ?_
  refine lv_iload_n hx hb dX3_count_1 rfl (lv_at hl 1 rfl) ?_
  refine lv_bipush (v := 13) hx hb dX3_count_2 (by decide) ?_
  obtain ⟨r1, m2, e3, h⟩ := zbx_r h
  refine z_callv hS (va_runV (As := [.int (x1), .int (13)]) (rest := []) C (c_X3_checkWhat l G e3 _) (cwV 2 hts gX3_count_X3_checkWhat rfl rfl rfl hv_X3_checkWhat ⟨Nat.le_of_ble_eq_true rfl, Nat.le_of_ble_eq_true rfl⟩) (z_preV Z hS hP (by decide) (z_E_90 _) rfl rfl) rfl rfl hl.1 rfl (lv_room (Nat.le_of_ble_eq_true rfl)) dX3_count_4 ⟨Nat.zero_le _, Nat.zero_le _⟩) (fun H locs hP hS => ?_)
  refine lv_iload_n hx hb dX3_count_7 rfl (lv_at hl 1 rfl) ?_
  refine lv_bipush (v := 12) hx hb dX3_count_8 (by decide) ?_
  refine lv_icmp_ne (tgt := 20) hx hb dX3_count_10 (by decide) (fun hc4 => ?_) (fun hc4 => ?_)
  · have h := z_in hc4 h
    refine lv_aload_n hx hb dX3_count_20 rfl (lv_at hl 0 rfl) ?_
    refine z_get C Z hP (k := 90) (ci := 3) (j := 0) (N := 7) (v := .ref (G.2.1 (0))) (by decide) (z_E_90 _) rfl inX3_count_X3 (by decide) wX3_count_0 rfl dX3_count_21 ?_
    refine lv_iload_n hx hb dX3_count_24 rfl (lv_at hl 1 rfl) ?_
    obtain ⟨r5, m6, e7, h⟩ := zb_some h
    refine z_calli hS (va_runV (As := [.int (x1)]) (rest := []) C (c_X2_number l G e7 _) (cwV 1 hts gX3_count_X2_number rfl rfl rfl hv_X2_number ⟨Nat.le_of_ble_eq_true rfl, Nat.le_of_ble_eq_true rfl⟩) (z_preV Z hS hP (by decide) (z_E_0 _) rfl rfl) rfl rfl hl.1 rfl (lv_room (Nat.le_of_ble_eq_true rfl)) dX3_count_25 ⟨Nat.zero_le _, Nat.zero_le _⟩) (fun H locs hP hS => ?_)
    cases h
    exact z_reti C hr hlk hP hS dX3_count_28
  · have h := z_ip hc4 h
    refine lv_aload_n hx hb dX3_count_13 rfl (lv_at hl 0 rfl) ?_
    refine z_get C Z hP (k := 90) (ci := 3) (j := 4) (N := 7) (v := .int ((m2 90 4))) (by decide) (z_E_90 _) rfl inX3_count_X3 (by decide) wX3_count_2 rfl dX3_count_14 ?_
    refine lv_goto (tgt := 28) hx hb dX3_count_17 (by decide) ?_
    cases h
    exact z_reti C hr hlk hP hS dX3_count_28
abbrev rm_X3_setting : Room := { frames := 0, cells := 0, slots := 0, locals := 0 }
theorem hd_X3_setting : yX3_setting.cls ≠ "java/lang/invoke/MethodHandle" ∧ yX3_setting.cls ≠ "java/lang/invoke/VarHandle" ∧ (parseMethodDescriptor yX3_setting.desc).map (fun d => d.parameters.length) = some 0 := by decide +kernel
theorem hv_X3_setting : yX3_setting.cls = RX3 ∧ yX3_setting.cls ≠ "java/lang/invoke/MethodHandle" ∧ yX3_setting.cls ≠ "java/lang/invoke/VarHandle" ∧ (parseMethodDescriptor yX3_setting.desc).map (fun d => d.parameters.length) = some 0 := ⟨rfl, hd_X3_setting⟩
theorem wX3_setting_0 : Cond.fieldLink RX3 12 "WaxCopies" "now" "LWaxCopies$Wax;" ∈ wsX3_setting := by decide +kernel
theorem inX3_setting_X3 : ∀ w ∈ wsX30, w ∈ wsX3_setting := by decide +kernel
theorem wX3_setting_2 : Cond.fieldLink RX3 95 "WaxCopies$Wax" "wear" "I" ∈ wsX3_setting := by decide +kernel
theorem inX3_setting_X2 : ∀ w ∈ wsX20, w ∈ wsX3_setting := by decide +kernel
set_option maxHeartbeats 4000000 in
set_option maxRecDepth 100000 in
theorem c_X3_setting (l : Launch) (G : zG) {μ mu1 : Mm} {r : Int32} (h : f_X3_setting μ = some (r, mu1)) (sz : Nat) : Met l yX3_setting wsX3_setting rm_X3_setting (z_Pre G μ [.ref (G.2.1 (90))] sz) (z_Qi G r mu1 sz) 0 0 (z_A G sz) := by
  refine z_start (cc := cX3_setting) (maxL := 1) (ret := (some .int)) (own := RX3) (by decide) rfl rfl (Nat.le_of_ble_eq_true rfl) (fun p e s m args below meth c C hr hlk Z hP ls hl => ?_) sz
  have hx := C.1
  have hb := C.2.1
  have hts := C.2.2.2.2
  have hS : va_S (z_A G s.heap.size) s.heap s.heap [] := va_S.rf
  have hl : lv_has ls 1 [(0, .ref (G.2.1 (90)))] := hl
  unfold f_X3_setting at h
  refine lv_aload_n hx hb dX3_setting_0 rfl (lv_at hl 0 rfl) ?_
  refine z_get C Z hP (k := 90) (ci := 3) (j := 0) (N := 7) (v := .ref (G.2.1 (0))) (by decide) (z_E_90 _) rfl inX3_setting_X3 (by decide) wX3_setting_0 rfl dX3_setting_1 ?_
  refine z_get C Z hP (k := 0) (ci := 2) (j := 11) (N := 19) (v := .int ((μ 0 11))) (by decide) (z_E_0 _) rfl inX3_setting_X2 (by decide) wX3_setting_2 rfl dX3_setting_4 ?_
  cases h
  exact z_reti C hr hlk hP hS dX3_setting_7
abbrev rm_X3_whyNot : Room := { frames := 2, cells := 0, slots := 0, locals := 43 }
theorem hd_X3_whyNot : yX3_whyNot.cls ≠ "java/lang/invoke/MethodHandle" ∧ yX3_whyNot.cls ≠ "java/lang/invoke/VarHandle" ∧ (parseMethodDescriptor yX3_whyNot.desc).map (fun d => d.parameters.length) = some 2 := by decide +kernel
theorem hv_X3_whyNot : yX3_whyNot.cls = RX3 ∧ yX3_whyNot.cls ≠ "java/lang/invoke/MethodHandle" ∧ yX3_whyNot.cls ≠ "java/lang/invoke/VarHandle" ∧ (parseMethodDescriptor yX3_whyNot.desc).map (fun d => d.parameters.length) = some 2 := ⟨rfl, hd_X3_whyNot⟩
theorem wX3_whyNot_0 : Cond.fieldLink RX3 12 "WaxCopies" "now" "LWaxCopies$Wax;" ∈ wsX3_whyNot := by decide +kernel
theorem inX3_whyNot_X3 : ∀ w ∈ wsX30, w ∈ wsX3_whyNot := by decide +kernel
set_option maxHeartbeats 4000000 in
set_option maxRecDepth 100000 in
theorem c_X3_whyNot (l : Launch) (G : zG) {x1 : Int32} {x2 : Int32} {μ mu1 : Mm} {r : Int32} (h : f_X3_whyNot x1 x2 μ = some (.inr r, mu1)) (sz : Nat) : Met l yX3_whyNot wsX3_whyNot rm_X3_whyNot (z_Pre G μ [.ref (G.2.1 (90)), .int (x1), .int (x2)] sz) (z_Qi G r mu1 sz) 0 0 (z_A G sz) := by
  refine z_start (cc := cX3_whyNot) (maxL := 3) (ret := (some .int)) (own := RX3) (by decide) rfl rfl (Nat.le_of_ble_eq_true rfl) (fun p e s m args below meth c C hr hlk Z hP ls hl => ?_) sz
  have hx := C.1
  have hb := C.2.1
  have hts := C.2.2.2.2
  have hS : va_S (z_A G s.heap.size) s.heap s.heap [] := va_S.rf
  have hl : lv_has ls 3 [(0, .ref (G.2.1 (90))), (1, .int (x1)), (2, .int (x2))] := hl
  unfold f_X3_whyNot at h
  refine lv_aload_n hx hb dX3_whyNot_0 rfl (lv_at hl 0 rfl) ?_
  refine lv_iload_n hx hb dX3_whyNot_1 rfl (lv_at hl 1 rfl) ?_
  obtain ⟨r1, m2, e3, h⟩ := zbx_r h
  refine z_callv hS (va_runV (As := [.int (x1)]) (rest := []) C (c_X3_checkTrack l G e3 _) (cwV 1 hts gX3_whyNot_X3_checkTrack rfl rfl rfl hv_X3_checkTrack ⟨Nat.le_of_ble_eq_true rfl, Nat.le_of_ble_eq_true rfl⟩) (z_preV Z hS hP (by decide) (z_E_90 _) rfl rfl) rfl rfl hl.1 rfl (lv_room (Nat.le_of_ble_eq_true rfl)) dX3_whyNot_2 ⟨Nat.zero_le _, Nat.zero_le _⟩) (fun H locs hP hS => ?_)
  refine lv_aload_n hx hb dX3_whyNot_5 rfl (lv_at hl 0 rfl) ?_
  refine lv_iload_n hx hb dX3_whyNot_6 rfl (lv_at hl 2 rfl) ?_
  obtain ⟨r4, m5, e6, h⟩ := zbx_r h
  refine z_callv hS (va_runV (As := [.int (x2)]) (rest := []) C (c_X3_checkLoudness l G e6 _) (cwV 1 hts gX3_whyNot_X3_checkLoudness rfl rfl rfl hv_X3_checkLoudness ⟨Nat.le_of_ble_eq_true rfl, Nat.le_of_ble_eq_true rfl⟩) (z_preV Z hS hP (by decide) (z_E_90 _) rfl rfl) rfl rfl hl.1 rfl (lv_room (Nat.le_of_ble_eq_true rfl)) dX3_whyNot_7 ⟨Nat.zero_le _, Nat.zero_le _⟩) (fun H locs hP hS => ?_)
  refine lv_aload_n hx hb dX3_whyNot_10 rfl (lv_at hl 0 rfl) ?_
  refine z_get C Z hP (k := 90) (ci := 3) (j := 0) (N := 7) (v := .ref (G.2.1 (0))) (by decide) (z_E_90 _) rfl inX3_whyNot_X3 (by decide) wX3_whyNot_0 rfl dX3_whyNot_11 ?_
  refine lv_iload_n hx hb dX3_whyNot_14 rfl (lv_at hl 1 rfl) ?_
  refine lv_iload_n hx hb dX3_whyNot_15 rfl (lv_at hl 2 rfl) ?_
  obtain ⟨r7, m8, e9, h⟩ := zb_some h
  refine z_calli hS (va_runV (As := [.int (x1), .int (x2)]) (rest := []) C (c_X2_reasonNotToSpeak l G e9 _) (cwV 2 hts gX3_whyNot_X2_reasonNotToSpeak rfl rfl rfl hv_X2_reasonNotToSpeak ⟨Nat.le_of_ble_eq_true rfl, Nat.le_of_ble_eq_true rfl⟩) (z_preV Z hS hP (by decide) (z_E_0 _) rfl rfl) rfl rfl hl.1 rfl (lv_room (Nat.le_of_ble_eq_true rfl)) dX3_whyNot_16 ⟨Nat.zero_le _, Nat.zero_le _⟩) (fun H locs hP hS => ?_)
  cases h
  exact z_reti C hr hlk hP hS dX3_whyNot_19
abbrev rm_X3_ifCopied : Room := { frames := 3, cells := 0, slots := 0, locals := 65 }
theorem hd_X3_ifCopied : yX3_ifCopied.cls ≠ "java/lang/invoke/MethodHandle" ∧ yX3_ifCopied.cls ≠ "java/lang/invoke/VarHandle" ∧ (parseMethodDescriptor yX3_ifCopied.desc).map (fun d => d.parameters.length) = some 3 := by decide +kernel
theorem hv_X3_ifCopied : yX3_ifCopied.cls = RX3 ∧ yX3_ifCopied.cls ≠ "java/lang/invoke/MethodHandle" ∧ yX3_ifCopied.cls ≠ "java/lang/invoke/VarHandle" ∧ (parseMethodDescriptor yX3_ifCopied.desc).map (fun d => d.parameters.length) = some 3 := ⟨rfl, hd_X3_ifCopied⟩
theorem wX3_ifCopied_0 : Cond.fieldLink RX3 12 "WaxCopies" "now" "LWaxCopies$Wax;" ∈ wsX3_ifCopied := by decide +kernel
theorem inX3_ifCopied_X3 : ∀ w ∈ wsX30, w ∈ wsX3_ifCopied := by decide +kernel
set_option maxHeartbeats 4000000 in
set_option maxRecDepth 100000 in
theorem c_X3_ifCopied (l : Launch) (G : zG) {x1 : Int32} {x2 : Int32} {x3 : Int32} {μ mu1 : Mm} {r : Int32} (h : f_X3_ifCopied x1 x2 x3 μ = some (.inr r, mu1)) (sz : Nat) : Met l yX3_ifCopied wsX3_ifCopied rm_X3_ifCopied (z_Pre G μ [.ref (G.2.1 (90)), .int (x1), .int (x2), .int (x3)] sz) (z_Qi G r mu1 sz) 0 0 (z_A G sz) := by
  refine z_start (cc := cX3_ifCopied) (maxL := 5) (ret := (some .int)) (own := RX3) (by decide) rfl rfl (Nat.le_of_ble_eq_true rfl) (fun p e s m args below meth c C hr hlk Z hP ls hl => ?_) sz
  have hx := C.1
  have hb := C.2.1
  have hts := C.2.2.2.2
  have hS : va_S (z_A G s.heap.size) s.heap s.heap [] := va_S.rf
  have hl : lv_has ls 5 [(0, .ref (G.2.1 (90))), (1, .int (x1)), (2, .int (x2)), (3, .int (x3))] := hl
  unfold f_X3_ifCopied at h
  refine lv_aload_n hx hb dX3_ifCopied_0 rfl (lv_at hl 0 rfl) ?_
  refine lv_iload_n hx hb dX3_ifCopied_1 rfl (lv_at hl 1 rfl) ?_
  obtain ⟨r1, m2, e3, h⟩ := zbx_r h
  refine z_callv hS (va_runV (As := [.int (x1)]) (rest := []) C (c_X3_checkTrack l G e3 _) (cwV 1 hts gX3_ifCopied_X3_checkTrack rfl rfl rfl hv_X3_checkTrack ⟨Nat.le_of_ble_eq_true rfl, Nat.le_of_ble_eq_true rfl⟩) (z_preV Z hS hP (by decide) (z_E_90 _) rfl rfl) rfl rfl hl.1 rfl (lv_room (Nat.le_of_ble_eq_true rfl)) dX3_ifCopied_2 ⟨Nat.zero_le _, Nat.zero_le _⟩) (fun H locs hP hS => ?_)
  refine lv_aload_n hx hb dX3_ifCopied_5 rfl (lv_at hl 0 rfl) ?_
  refine lv_iload_n hx hb dX3_ifCopied_6 rfl (lv_at hl 2 rfl) ?_
  obtain ⟨r4, m5, e6, h⟩ := zbx_r h
  refine z_callv hS (va_runV (As := [.int (x2)]) (rest := []) C (c_X3_checkTrack l G e6 _) (cwV 1 hts gX3_ifCopied_X3_checkTrack rfl rfl rfl hv_X3_checkTrack ⟨Nat.le_of_ble_eq_true rfl, Nat.le_of_ble_eq_true rfl⟩) (z_preV Z hS hP (by decide) (z_E_90 _) rfl rfl) rfl rfl hl.1 rfl (lv_room (Nat.le_of_ble_eq_true rfl)) dX3_ifCopied_7 ⟨Nat.zero_le _, Nat.zero_le _⟩) (fun H locs hP hS => ?_)
  refine lv_aload_n hx hb dX3_ifCopied_10 rfl (lv_at hl 0 rfl) ?_
  refine lv_iload_n hx hb dX3_ifCopied_11 rfl (lv_at hl 3 rfl) ?_
  obtain ⟨r7, m8, e9, h⟩ := zbx_r h
  refine z_callv hS (va_runV (As := [.int (x3)]) (rest := []) C (c_X3_checkLever l G e9 _) (cwV 1 hts gX3_ifCopied_X3_checkLever rfl rfl rfl hv_X3_checkLever ⟨Nat.le_of_ble_eq_true rfl, Nat.le_of_ble_eq_true rfl⟩) (z_preV Z hS hP (by decide) (z_E_90 _) rfl rfl) rfl rfl hl.1 rfl (lv_room (Nat.le_of_ble_eq_true rfl)) dX3_ifCopied_12 ⟨Nat.zero_le _, Nat.zero_le _⟩) (fun H locs hP hS => ?_)
  refine lv_aload_n hx hb dX3_ifCopied_15 rfl (lv_at hl 0 rfl) ?_
  refine z_get C Z hP (k := 90) (ci := 3) (j := 0) (N := 7) (v := .ref (G.2.1 (0))) (by decide) (z_E_90 _) rfl inX3_ifCopied_X3 (by decide) wX3_ifCopied_0 rfl dX3_ifCopied_16 ?_
  refine lv_iload_n hx hb dX3_ifCopied_19 rfl (lv_at hl 1 rfl) ?_
  refine lv_iload_n hx hb dX3_ifCopied_20 rfl (lv_at hl 2 rfl) ?_
  refine lv_iload_n hx hb dX3_ifCopied_21 rfl (lv_at hl 3 rfl) ?_
  obtain ⟨r10, m11, e12, h⟩ := zb_some h
  refine z_calli hS (va_runV (As := [.int (x1), .int (x2), .int (x3)]) (rest := []) C (c_X2_reasonNotToCopy l G e12 _) (cwV 3 hts gX3_ifCopied_X2_reasonNotToCopy rfl rfl rfl hv_X2_reasonNotToCopy ⟨Nat.le_of_ble_eq_true rfl, Nat.le_of_ble_eq_true rfl⟩) (z_preV Z hS hP (by decide) (z_E_0 _) rfl rfl) rfl rfl hl.1 rfl (lv_room (Nat.le_of_ble_eq_true rfl)) dX3_ifCopied_22 ⟨Nat.zero_le _, Nat.zero_le _⟩) (fun H locs hP hS => ?_)
  refine lv_istore (lv' := [(4, .int (r10)), (0, .ref (G.2.1 (90))), (1, .int (x1)), (2, .int (x2)), (3, .int (x3))]) hx hb dX3_ifCopied_25 hl (by decide) rfl (fun ls hl => ?_)
  refine lv_iload hx hb dX3_ifCopied_27 (lv_at hl 0 rfl) ?_
  refine lv_if_ne (tgt := 44) hx hb dX3_ifCopied_29 (by decide) (fun hc13 => ?_) (fun hc13 => ?_)
  · have h := z_in hc13 h
    refine lv_iload hx hb dX3_ifCopied_44 (lv_at hl 0 rfl) ?_
    refine lv_ineg hx hb dX3_ifCopied_46 ?_
    cases h
    exact z_reti C hr hlk hP hS dX3_ifCopied_47
  · have h := z_ip hc13 h
    refine lv_aload_n hx hb dX3_ifCopied_32 rfl (lv_at hl 1 rfl) ?_
    refine z_get C Z hP (k := 90) (ci := 3) (j := 0) (N := 7) (v := .ref (G.2.1 (0))) (by decide) (z_E_90 _) rfl inX3_ifCopied_X3 (by decide) wX3_ifCopied_0 rfl dX3_ifCopied_33 ?_
    refine lv_iload_n hx hb dX3_ifCopied_36 rfl (lv_at hl 2 rfl) ?_
    refine lv_iload_n hx hb dX3_ifCopied_37 rfl (lv_at hl 4 rfl) ?_
    obtain ⟨r14, m15, e16, h⟩ := zb_some h
    refine z_calli hS (va_runV (As := [.int (x1), .int (x3)]) (rest := []) C (c_X2_clearnessIfCopied l G e16 _) (cwV 2 hts gX3_ifCopied_X2_clearnessIfCopied rfl rfl rfl hv_X2_clearnessIfCopied ⟨Nat.le_of_ble_eq_true rfl, Nat.le_of_ble_eq_true rfl⟩) (z_preV Z hS hP (by decide) (z_E_0 _) rfl rfl) rfl rfl hl.1 rfl (lv_room (Nat.le_of_ble_eq_true rfl)) dX3_ifCopied_38 ⟨Nat.zero_le _, Nat.zero_le _⟩) (fun H locs hP hS => ?_)
    refine lv_goto (tgt := 47) hx hb dX3_ifCopied_41 (by decide) ?_
    cases h
    exact z_reti C hr hlk hP hS dX3_ifCopied_47
abbrev rm_X3_clearestOfAllLevers_v0 : Room := { frames := 2, cells := 0, slots := 0, locals := 43 }
theorem hd_X3_clearestOfAllLevers_v0 : yX3_clearestOfAllLevers.cls ≠ "java/lang/invoke/MethodHandle" ∧ yX3_clearestOfAllLevers.cls ≠ "java/lang/invoke/VarHandle" ∧ (parseMethodDescriptor yX3_clearestOfAllLevers.desc).map (fun d => d.parameters.length) = some 4 := by decide +kernel
theorem hv_X3_clearestOfAllLevers_v0 : yX3_clearestOfAllLevers.cls = RX3 ∧ yX3_clearestOfAllLevers.cls ≠ "java/lang/invoke/MethodHandle" ∧ yX3_clearestOfAllLevers.cls ≠ "java/lang/invoke/VarHandle" ∧ (parseMethodDescriptor yX3_clearestOfAllLevers.desc).map (fun d => d.parameters.length) = some 4 := ⟨rfl, hd_X3_clearestOfAllLevers_v0⟩
set_option maxHeartbeats 4000000 in
set_option maxRecDepth 100000 in
theorem L_X3_clearestOfAllLevers_v0_b12 {p : Program} {l : Launch} {e : Env} {s : State} {m : MethodId} {args : Array Value} {below : List Frame} {meth : Method} {c : Code} {G : zG} {r : Int32} {mu1 : Mm}  (C : CallFix p m c cX3_clearestOfAllLevers 8 s args wsX3_clearestOfAllLevers RX3) (hr : meth.sig.returnType = (some .int)) (hlk : meth.locks = false) (Z : z_Z G (z_A G s.heap.size) s)  :
    ∀ (n : Nat) (x0 : Int32) (x1 : Int32) (x2 : Int32) (x3 : Int32) (x4 : Int32) (x5 : Int32) (μ : Mm), f_X3_clearestOfAllLevers_v0_b12  n x0 x1 x2 x3 x4 x5 μ = some (r, mu1) → ∀ (H : Heap) (locs : List Loc), z_P G μ H → va_S (z_A G s.heap.size) s.heap H locs → ∀ ls : Array Slot, lv_has ls 8 [(0, .int (x0)), (1, .int (x1)), (2, .int (x2)), (3, .int (x3)), (4, .int (x4)), (5, .int (x5))] → W p l e rm_X3_clearestOfAllLevers_v0 s m args below meth c H locs 0 0 (MQ below (z_Qi G r mu1 s.heap.size) args s 0 0 (z_A G s.heap.size)) (F0 m 12 ls []) := by
  have hx := C.1
  have hb := C.2.1
  have hts := C.2.2.2.2
  intro n
  induction n with
  | zero =>
    intro x0 x1 x2 x3 x4 x5 μ h
    rw [f_X3_clearestOfAllLevers_v0_b12] at h
    cases h
  | succ n ih =>
    intro x0 x1 x2 x3 x4 x5 μ h H locs hP hS ls hl
    rw [f_X3_clearestOfAllLevers_v0_b12] at h
    refine lv_iload hx hb dX3_clearestOfAllLevers_12 (lv_at hl 5 rfl) ?_
    refine lv_iconst (v := 3) hx hb dX3_clearestOfAllLevers_14 (by decide) ?_
    refine lv_icmp_gt (tgt := 65) hx hb dX3_clearestOfAllLevers_15 (by decide) (fun hc2 => ?_) (fun hc2 => ?_)
    · have h := z_ip hc2 h
      refine lv_iload hx hb dX3_clearestOfAllLevers_65 (lv_at hl 4 rfl) ?_
      cases h
      exact z_reti C hr hlk hP hS dX3_clearestOfAllLevers_67
    · have h := z_in hc2 h
      refine lv_iload_n hx hb dX3_clearestOfAllLevers_18 rfl (lv_at hl 1 rfl) ?_
      refine lv_iload hx hb dX3_clearestOfAllLevers_19 (lv_at hl 5 rfl) ?_
      obtain ⟨r3, m4, e5, h⟩ := zb_some h
      refine z_calli hS (va_runS (As := [.int (x1), .int (x5)]) (rest := []) C (c_X3_copiedDepth l G e5 _) (va_cwS 2 hts gX3_clearestOfAllLevers_X3_copiedDepth rfl rfl rfl hd_X3_copiedDepth ⟨Nat.le_of_ble_eq_true rfl, Nat.le_of_ble_eq_true rfl⟩) (z_preS Z hS hP) rfl rfl hl.1 rfl (lv_room (Nat.le_of_ble_eq_true rfl)) dX3_clearestOfAllLevers_21 ⟨Nat.zero_le _, Nat.zero_le _⟩) (fun H locs hP hS => ?_)
      refine lv_istore (lv' := [(6, .int (r3)), (0, .int (x0)), (1, .int (x1)), (2, .int (x2)), (3, .int (x3)), (4, .int (x4)), (5, .int (x5))]) hx hb dX3_clearestOfAllLevers_24 hl (by decide) rfl (fun ls hl => ?_)
      refine lv_iload_n hx hb dX3_clearestOfAllLevers_26 rfl (lv_at hl 3 rfl) ?_
      refine lv_iload hx hb dX3_clearestOfAllLevers_27 (lv_at hl 6 rfl) ?_
      refine lv_iload_n hx hb dX3_clearestOfAllLevers_29 rfl (lv_at hl 4 rfl) ?_
      refine lv_iconst (v := 0) hx hb dX3_clearestOfAllLevers_30 (by decide) ?_
      obtain ⟨r6, m7, e8, h⟩ := zb_some h
      refine z_calli hS (va_runS (As := [.int (x2), .int (x5), .int (x3), .int (0)]) (rest := []) C (c_X3_copiedClearness l G e8 _) (va_cwS 4 hts gX3_clearestOfAllLevers_X3_copiedClearness rfl rfl rfl hd_X3_copiedClearness ⟨Nat.le_of_ble_eq_true rfl, Nat.le_of_ble_eq_true rfl⟩) (z_preS Z hS hP) rfl rfl hl.1 rfl (lv_room (Nat.le_of_ble_eq_true rfl)) dX3_clearestOfAllLevers_31 ⟨Nat.zero_le _, Nat.zero_le _⟩) (fun H locs hP hS => ?_)
      refine lv_istore (lv' := [(7, .int (r6)), (6, .int (r3)), (0, .int (x0)), (1, .int (x1)), (2, .int (x2)), (3, .int (x3)), (4, .int (x4)), (5, .int (x5))]) hx hb dX3_clearestOfAllLevers_34 hl (by decide) rfl (fun ls hl => ?_)
      refine lv_iload hx hb dX3_clearestOfAllLevers_36 (lv_at hl 6 rfl) ?_
      refine lv_iload_n hx hb dX3_clearestOfAllLevers_38 rfl (lv_at hl 2 rfl) ?_
      refine lv_iconst (v := 1) hx hb dX3_clearestOfAllLevers_39 (by decide) ?_
      refine lv_isub hx hb dX3_clearestOfAllLevers_40 ?_
      refine lv_iload hx hb dX3_clearestOfAllLevers_41 (lv_at hl 1 rfl) ?_
      refine lv_iload hx hb dX3_clearestOfAllLevers_43 (lv_at hl 0 rfl) ?_
      refine lv_iload_n hx hb dX3_clearestOfAllLevers_45 rfl (lv_at hl 5 rfl) ?_
      refine lv_iload hx hb dX3_clearestOfAllLevers_46 (lv_at hl 1 rfl) ?_
      obtain ⟨r9, m10, e11, h⟩ := zb_some h
      refine z_calli hS (va_runS (As := [.int (x3), .int (r3)]) (rest := [.int (r6), .int (r3), .int ((x0 - 1)), .int (x4)]) C (c_X3_sharpnessAfter l G e11 _) (va_cwS 2 hts gX3_clearestOfAllLevers_X3_sharpnessAfter rfl rfl rfl hd_X3_sharpnessAfter ⟨Nat.le_of_ble_eq_true rfl, Nat.le_of_ble_eq_true rfl⟩) (z_preS Z hS hP) rfl rfl hl.1 rfl (lv_room (Nat.le_of_ble_eq_true rfl)) dX3_clearestOfAllLevers_48 ⟨Nat.zero_le _, Nat.zero_le _⟩) (fun H locs hP hS => ?_)
      cases h
set_option maxHeartbeats 4000000 in
set_option maxRecDepth 100000 in
theorem c_X3_clearestOfAllLevers_v0 (l : Launch) (G : zG) {x0 : Int32} {x1 : Int32} {x2 : Int32} {x3 : Int32} {μ mu1 : Mm} {r : Int32} (h : f_X3_clearestOfAllLevers_v0 x0 x1 x2 x3 μ = some (r, mu1)) (sz : Nat) : Met l yX3_clearestOfAllLevers wsX3_clearestOfAllLevers rm_X3_clearestOfAllLevers_v0 (z_Pre G μ [.int (x0), .int (x1), .int (x2), .int (x3)] sz) (z_Qi G r mu1 sz) 0 0 (z_A G sz) := by
  refine z_start (cc := cX3_clearestOfAllLevers) (maxL := 8) (ret := (some .int)) (own := RX3) (by decide) rfl rfl (Nat.le_of_ble_eq_true rfl) (fun p e s m args below meth c C hr hlk Z hP ls hl => ?_) sz
  have hx := C.1
  have hb := C.2.1
  have hts := C.2.2.2.2
  have hS : va_S (z_A G s.heap.size) s.heap s.heap [] := va_S.rf
  have hl : lv_has ls 8 [(0, .int (x0)), (1, .int (x1)), (2, .int (x2)), (3, .int (x3))] := hl
  unfold f_X3_clearestOfAllLevers_v0 at h
  refine lv_iload_n hx hb dX3_clearestOfAllLevers_0 rfl (lv_at hl 0 rfl) ?_
  refine lv_if_gt (tgt := 6) hx hb dX3_clearestOfAllLevers_1 (by decide) (fun hc1 => ?_) (fun hc1 => ?_)
  · have h := z_ip hc1 h
    refine lv_iconst (v := (-1)) hx hb dX3_clearestOfAllLevers_6 (by decide) ?_
    refine lv_istore (lv' := [(4, .int ((-1))), (0, .int (x0)), (1, .int (x1)), (2, .int (x2)), (3, .int (x3))]) hx hb dX3_clearestOfAllLevers_7 hl (by decide) rfl (fun ls hl => ?_)
    refine lv_iconst (v := 1) hx hb dX3_clearestOfAllLevers_9 (by decide) ?_
    refine lv_istore (lv' := [(5, .int (1)), (4, .int ((-1))), (0, .int (x0)), (1, .int (x1)), (2, .int (x2)), (3, .int (x3))]) hx hb dX3_clearestOfAllLevers_10 hl (by decide) rfl (fun ls hl => ?_)
    exact L_X3_clearestOfAllLevers_v0_b12 C hr hlk Z z_F _ _ _ _ _ _ _ h _ _ hP hS ls (lv_sub hl [2, 3, 4, 5, 1, 0] rfl)
  · have h := z_in hc1 h
    refine lv_iload_n hx hb dX3_clearestOfAllLevers_4 rfl (lv_at hl 2 rfl) ?_
    cases h
    exact z_reti C hr hlk hP hS dX3_clearestOfAllLevers_5
abbrev rm_X3_clearestOfAllLevers_v1 : Room := { frames := 3, cells := 0, slots := 0, locals := 70 }
theorem hd_X3_clearestOfAllLevers_v1 : yX3_clearestOfAllLevers.cls ≠ "java/lang/invoke/MethodHandle" ∧ yX3_clearestOfAllLevers.cls ≠ "java/lang/invoke/VarHandle" ∧ (parseMethodDescriptor yX3_clearestOfAllLevers.desc).map (fun d => d.parameters.length) = some 4 := by decide +kernel
theorem hv_X3_clearestOfAllLevers_v1 : yX3_clearestOfAllLevers.cls = RX3 ∧ yX3_clearestOfAllLevers.cls ≠ "java/lang/invoke/MethodHandle" ∧ yX3_clearestOfAllLevers.cls ≠ "java/lang/invoke/VarHandle" ∧ (parseMethodDescriptor yX3_clearestOfAllLevers.desc).map (fun d => d.parameters.length) = some 4 := ⟨rfl, hd_X3_clearestOfAllLevers_v1⟩
theorem wX3_clearestOfAllLevers_v1_0 : Cond.methodLink RX3 290 Lib.Math.max.name ∈ wsX3_clearestOfAllLevers := by decide +kernel
theorem wX3_clearestOfAllLevers_v1_1 : Cond.static Lib.Math.max.name ∈ wsX3_clearestOfAllLevers := by decide +kernel
theorem wX3_clearestOfAllLevers_v1_2 : Cond.initialized "java/lang/Math" ∈ wsX3_clearestOfAllLevers := by decide +kernel
theorem wX3_clearestOfAllLevers_v1_3 : Cond.code Lib.Math.max.name Lib.Math.max.code 2 (some .int) ∈ wsX3_clearestOfAllLevers := by decide +kernel
set_option maxHeartbeats 4000000 in
set_option maxRecDepth 100000 in
theorem L_X3_clearestOfAllLevers_v1_b12 {p : Program} {l : Launch} {e : Env} {s : State} {m : MethodId} {args : Array Value} {below : List Frame} {meth : Method} {c : Code} {G : zG} {r : Int32} {mu1 : Mm}  (C : CallFix p m c cX3_clearestOfAllLevers 8 s args wsX3_clearestOfAllLevers RX3) (hr : meth.sig.returnType = (some .int)) (hlk : meth.locks = false) (Z : z_Z G (z_A G s.heap.size) s)  :
    ∀ (n : Nat) (x0 : Int32) (x1 : Int32) (x2 : Int32) (x3 : Int32) (x4 : Int32) (x5 : Int32) (μ : Mm), f_X3_clearestOfAllLevers_v1_b12  n x0 x1 x2 x3 x4 x5 μ = some (r, mu1) → ∀ (H : Heap) (locs : List Loc), z_P G μ H → va_S (z_A G s.heap.size) s.heap H locs → ∀ ls : Array Slot, lv_has ls 8 [(0, .int (x0)), (1, .int (x1)), (2, .int (x2)), (3, .int (x3)), (4, .int (x4)), (5, .int (x5))] → W p l e rm_X3_clearestOfAllLevers_v1 s m args below meth c H locs 0 0 (MQ below (z_Qi G r mu1 s.heap.size) args s 0 0 (z_A G s.heap.size)) (F0 m 12 ls []) := by
  have hx := C.1
  have hb := C.2.1
  have hts := C.2.2.2.2
  intro n
  induction n with
  | zero =>
    intro x0 x1 x2 x3 x4 x5 μ h
    rw [f_X3_clearestOfAllLevers_v1_b12] at h
    cases h
  | succ n ih =>
    intro x0 x1 x2 x3 x4 x5 μ h H locs hP hS ls hl
    rw [f_X3_clearestOfAllLevers_v1_b12] at h
    refine lv_iload hx hb dX3_clearestOfAllLevers_12 (lv_at hl 5 rfl) ?_
    refine lv_iconst (v := 3) hx hb dX3_clearestOfAllLevers_14 (by decide) ?_
    refine lv_icmp_gt (tgt := 65) hx hb dX3_clearestOfAllLevers_15 (by decide) (fun hc2 => ?_) (fun hc2 => ?_)
    · have h := z_ip hc2 h
      refine lv_iload hx hb dX3_clearestOfAllLevers_65 (lv_at hl 4 rfl) ?_
      cases h
      exact z_reti C hr hlk hP hS dX3_clearestOfAllLevers_67
    · have h := z_in hc2 h
      refine lv_iload_n hx hb dX3_clearestOfAllLevers_18 rfl (lv_at hl 1 rfl) ?_
      refine lv_iload hx hb dX3_clearestOfAllLevers_19 (lv_at hl 5 rfl) ?_
      obtain ⟨r3, m4, e5, h⟩ := zb_some h
      refine z_calli hS (va_runS (As := [.int (x1), .int (x5)]) (rest := []) C (c_X3_copiedDepth l G e5 _) (va_cwS 2 hts gX3_clearestOfAllLevers_X3_copiedDepth rfl rfl rfl hd_X3_copiedDepth ⟨Nat.le_of_ble_eq_true rfl, Nat.le_of_ble_eq_true rfl⟩) (z_preS Z hS hP) rfl rfl hl.1 rfl (lv_room (Nat.le_of_ble_eq_true rfl)) dX3_clearestOfAllLevers_21 ⟨Nat.zero_le _, Nat.zero_le _⟩) (fun H locs hP hS => ?_)
      refine lv_istore (lv' := [(6, .int (r3)), (0, .int (x0)), (1, .int (x1)), (2, .int (x2)), (3, .int (x3)), (4, .int (x4)), (5, .int (x5))]) hx hb dX3_clearestOfAllLevers_24 hl (by decide) rfl (fun ls hl => ?_)
      refine lv_iload_n hx hb dX3_clearestOfAllLevers_26 rfl (lv_at hl 3 rfl) ?_
      refine lv_iload hx hb dX3_clearestOfAllLevers_27 (lv_at hl 6 rfl) ?_
      refine lv_iload_n hx hb dX3_clearestOfAllLevers_29 rfl (lv_at hl 4 rfl) ?_
      refine lv_iconst (v := 0) hx hb dX3_clearestOfAllLevers_30 (by decide) ?_
      obtain ⟨r6, m7, e8, h⟩ := zb_some h
      refine z_calli hS (va_runS (As := [.int (x2), .int (x5), .int (x3), .int (0)]) (rest := []) C (c_X3_copiedClearness l G e8 _) (va_cwS 4 hts gX3_clearestOfAllLevers_X3_copiedClearness rfl rfl rfl hd_X3_copiedClearness ⟨Nat.le_of_ble_eq_true rfl, Nat.le_of_ble_eq_true rfl⟩) (z_preS Z hS hP) rfl rfl hl.1 rfl (lv_room (Nat.le_of_ble_eq_true rfl)) dX3_clearestOfAllLevers_31 ⟨Nat.zero_le _, Nat.zero_le _⟩) (fun H locs hP hS => ?_)
      refine lv_istore (lv' := [(7, .int (r6)), (6, .int (r3)), (0, .int (x0)), (1, .int (x1)), (2, .int (x2)), (3, .int (x3)), (4, .int (x4)), (5, .int (x5))]) hx hb dX3_clearestOfAllLevers_34 hl (by decide) rfl (fun ls hl => ?_)
      refine lv_iload hx hb dX3_clearestOfAllLevers_36 (lv_at hl 6 rfl) ?_
      refine lv_iload_n hx hb dX3_clearestOfAllLevers_38 rfl (lv_at hl 2 rfl) ?_
      refine lv_iconst (v := 1) hx hb dX3_clearestOfAllLevers_39 (by decide) ?_
      refine lv_isub hx hb dX3_clearestOfAllLevers_40 ?_
      refine lv_iload hx hb dX3_clearestOfAllLevers_41 (lv_at hl 1 rfl) ?_
      refine lv_iload hx hb dX3_clearestOfAllLevers_43 (lv_at hl 0 rfl) ?_
      refine lv_iload_n hx hb dX3_clearestOfAllLevers_45 rfl (lv_at hl 5 rfl) ?_
      refine lv_iload hx hb dX3_clearestOfAllLevers_46 (lv_at hl 1 rfl) ?_
      obtain ⟨r9, m10, e11, h⟩ := zb_some h
      refine z_calli hS (va_runS (As := [.int (x3), .int (r3)]) (rest := [.int (r6), .int (r3), .int ((x0 - 1)), .int (x4)]) C (c_X3_sharpnessAfter l G e11 _) (va_cwS 2 hts gX3_clearestOfAllLevers_X3_sharpnessAfter rfl rfl rfl hd_X3_sharpnessAfter ⟨Nat.le_of_ble_eq_true rfl, Nat.le_of_ble_eq_true rfl⟩) (z_preS Z hS hP) rfl rfl hl.1 rfl (lv_room (Nat.le_of_ble_eq_true rfl)) dX3_clearestOfAllLevers_48 ⟨Nat.zero_le _, Nat.zero_le _⟩) (fun H locs hP hS => ?_)
      obtain ⟨r12, m13, e14, h⟩ := zb_some h
      refine z_calli hS (va_runS (As := [.int ((x0 - 1)), .int (r3), .int (r6), .int (r9)]) (rest := [.int (x4)]) C (c_X3_clearestOfAllLevers_v0 l G e14 _) (va_cwS 4 hts gX3_clearestOfAllLevers_X3_clearestOfAllLevers rfl rfl rfl hd_X3_clearestOfAllLevers_v0 ⟨Nat.le_of_ble_eq_true rfl, Nat.le_of_ble_eq_true rfl⟩) (z_preS Z hS hP) rfl rfl hl.1 rfl (lv_room (Nat.le_of_ble_eq_true rfl)) dX3_clearestOfAllLevers_51 ⟨Nat.zero_le _, Nat.zero_le _⟩) (fun H locs hP hS => ?_)
      refine va_mmax hx hb (C.2.2.1.trans hl.1.symm) C.2.2.2.1 (C.2.2.2.2 _ wX3_clearestOfAllLevers_v1_0) (C.2.2.2.2 _ wX3_clearestOfAllLevers_v1_1) (C.2.2.2.2 _ wX3_clearestOfAllLevers_v1_2) (C.2.2.2.2 _ wX3_clearestOfAllLevers_v1_3) (Nat.le_of_ble_eq_true rfl) (Nat.le_of_ble_eq_true rfl) (Nat.zero_le _) (Nat.zero_le _) dX3_clearestOfAllLevers_54 ?_
      refine lv_istore (lv' := [(4, .int ((if x4 < r12 then r12 else x4))), (7, .int (r6)), (6, .int (r3)), (0, .int (x0)), (1, .int (x1)), (2, .int (x2)), (3, .int (x3)), (5, .int (x5))]) hx hb dX3_clearestOfAllLevers_57 hl (by decide) rfl (fun ls hl => ?_)
      refine lv_iinc (v := (x5 + 1)) (lv' := [(5, .int ((x5 + 1))), (4, .int ((if x4 < r12 then r12 else x4))), (7, .int (r6)), (6, .int (r3)), (0, .int (x0)), (1, .int (x1)), (2, .int (x2)), (3, .int (x3))]) hx hb dX3_clearestOfAllLevers_59 hl (k := 7) rfl rfl (by decide) rfl (fun ls hl => ?_)
      refine lv_goto (tgt := 12) hx hb dX3_clearestOfAllLevers_62 (by decide) ?_
      exact ih _ _ _ _ _ _ _ h _ _ hP hS ls (lv_sub hl [4, 5, 6, 7, 1, 0] rfl)
set_option maxHeartbeats 4000000 in
set_option maxRecDepth 100000 in
theorem c_X3_clearestOfAllLevers_v1 (l : Launch) (G : zG) {x0 : Int32} {x1 : Int32} {x2 : Int32} {x3 : Int32} {μ mu1 : Mm} {r : Int32} (h : f_X3_clearestOfAllLevers_v1 x0 x1 x2 x3 μ = some (r, mu1)) (sz : Nat) : Met l yX3_clearestOfAllLevers wsX3_clearestOfAllLevers rm_X3_clearestOfAllLevers_v1 (z_Pre G μ [.int (x0), .int (x1), .int (x2), .int (x3)] sz) (z_Qi G r mu1 sz) 0 0 (z_A G sz) := by
  refine z_start (cc := cX3_clearestOfAllLevers) (maxL := 8) (ret := (some .int)) (own := RX3) (by decide) rfl rfl (Nat.le_of_ble_eq_true rfl) (fun p e s m args below meth c C hr hlk Z hP ls hl => ?_) sz
  have hx := C.1
  have hb := C.2.1
  have hts := C.2.2.2.2
  have hS : va_S (z_A G s.heap.size) s.heap s.heap [] := va_S.rf
  have hl : lv_has ls 8 [(0, .int (x0)), (1, .int (x1)), (2, .int (x2)), (3, .int (x3))] := hl
  unfold f_X3_clearestOfAllLevers_v1 at h
  refine lv_iload_n hx hb dX3_clearestOfAllLevers_0 rfl (lv_at hl 0 rfl) ?_
  refine lv_if_gt (tgt := 6) hx hb dX3_clearestOfAllLevers_1 (by decide) (fun hc1 => ?_) (fun hc1 => ?_)
  · have h := z_ip hc1 h
    refine lv_iconst (v := (-1)) hx hb dX3_clearestOfAllLevers_6 (by decide) ?_
    refine lv_istore (lv' := [(4, .int ((-1))), (0, .int (x0)), (1, .int (x1)), (2, .int (x2)), (3, .int (x3))]) hx hb dX3_clearestOfAllLevers_7 hl (by decide) rfl (fun ls hl => ?_)
    refine lv_iconst (v := 1) hx hb dX3_clearestOfAllLevers_9 (by decide) ?_
    refine lv_istore (lv' := [(5, .int (1)), (4, .int ((-1))), (0, .int (x0)), (1, .int (x1)), (2, .int (x2)), (3, .int (x3))]) hx hb dX3_clearestOfAllLevers_10 hl (by decide) rfl (fun ls hl => ?_)
    exact L_X3_clearestOfAllLevers_v1_b12 C hr hlk Z z_F _ _ _ _ _ _ _ h _ _ hP hS ls (lv_sub hl [2, 3, 4, 5, 1, 0] rfl)
  · have h := z_in hc1 h
    refine lv_iload_n hx hb dX3_clearestOfAllLevers_4 rfl (lv_at hl 2 rfl) ?_
    cases h
    exact z_reti C hr hlk hP hS dX3_clearestOfAllLevers_5
abbrev rm_X3_clearestOfAllLevers_v2 : Room := { frames := 4, cells := 0, slots := 0, locals := 97 }
theorem hd_X3_clearestOfAllLevers_v2 : yX3_clearestOfAllLevers.cls ≠ "java/lang/invoke/MethodHandle" ∧ yX3_clearestOfAllLevers.cls ≠ "java/lang/invoke/VarHandle" ∧ (parseMethodDescriptor yX3_clearestOfAllLevers.desc).map (fun d => d.parameters.length) = some 4 := by decide +kernel
theorem hv_X3_clearestOfAllLevers_v2 : yX3_clearestOfAllLevers.cls = RX3 ∧ yX3_clearestOfAllLevers.cls ≠ "java/lang/invoke/MethodHandle" ∧ yX3_clearestOfAllLevers.cls ≠ "java/lang/invoke/VarHandle" ∧ (parseMethodDescriptor yX3_clearestOfAllLevers.desc).map (fun d => d.parameters.length) = some 4 := ⟨rfl, hd_X3_clearestOfAllLevers_v2⟩
theorem wX3_clearestOfAllLevers_v2_0 : Cond.methodLink RX3 290 Lib.Math.max.name ∈ wsX3_clearestOfAllLevers := by decide +kernel
theorem wX3_clearestOfAllLevers_v2_1 : Cond.static Lib.Math.max.name ∈ wsX3_clearestOfAllLevers := by decide +kernel
theorem wX3_clearestOfAllLevers_v2_2 : Cond.initialized "java/lang/Math" ∈ wsX3_clearestOfAllLevers := by decide +kernel
theorem wX3_clearestOfAllLevers_v2_3 : Cond.code Lib.Math.max.name Lib.Math.max.code 2 (some .int) ∈ wsX3_clearestOfAllLevers := by decide +kernel
set_option maxHeartbeats 4000000 in
set_option maxRecDepth 100000 in
theorem L_X3_clearestOfAllLevers_v2_b12 {p : Program} {l : Launch} {e : Env} {s : State} {m : MethodId} {args : Array Value} {below : List Frame} {meth : Method} {c : Code} {G : zG} {r : Int32} {mu1 : Mm}  (C : CallFix p m c cX3_clearestOfAllLevers 8 s args wsX3_clearestOfAllLevers RX3) (hr : meth.sig.returnType = (some .int)) (hlk : meth.locks = false) (Z : z_Z G (z_A G s.heap.size) s)  :
    ∀ (n : Nat) (x0 : Int32) (x1 : Int32) (x2 : Int32) (x3 : Int32) (x4 : Int32) (x5 : Int32) (μ : Mm), f_X3_clearestOfAllLevers_v2_b12  n x0 x1 x2 x3 x4 x5 μ = some (r, mu1) → ∀ (H : Heap) (locs : List Loc), z_P G μ H → va_S (z_A G s.heap.size) s.heap H locs → ∀ ls : Array Slot, lv_has ls 8 [(0, .int (x0)), (1, .int (x1)), (2, .int (x2)), (3, .int (x3)), (4, .int (x4)), (5, .int (x5))] → W p l e rm_X3_clearestOfAllLevers_v2 s m args below meth c H locs 0 0 (MQ below (z_Qi G r mu1 s.heap.size) args s 0 0 (z_A G s.heap.size)) (F0 m 12 ls []) := by
  have hx := C.1
  have hb := C.2.1
  have hts := C.2.2.2.2
  intro n
  induction n with
  | zero =>
    intro x0 x1 x2 x3 x4 x5 μ h
    rw [f_X3_clearestOfAllLevers_v2_b12] at h
    cases h
  | succ n ih =>
    intro x0 x1 x2 x3 x4 x5 μ h H locs hP hS ls hl
    rw [f_X3_clearestOfAllLevers_v2_b12] at h
    refine lv_iload hx hb dX3_clearestOfAllLevers_12 (lv_at hl 5 rfl) ?_
    refine lv_iconst (v := 3) hx hb dX3_clearestOfAllLevers_14 (by decide) ?_
    refine lv_icmp_gt (tgt := 65) hx hb dX3_clearestOfAllLevers_15 (by decide) (fun hc2 => ?_) (fun hc2 => ?_)
    · have h := z_ip hc2 h
      refine lv_iload hx hb dX3_clearestOfAllLevers_65 (lv_at hl 4 rfl) ?_
      cases h
      exact z_reti C hr hlk hP hS dX3_clearestOfAllLevers_67
    · have h := z_in hc2 h
      refine lv_iload_n hx hb dX3_clearestOfAllLevers_18 rfl (lv_at hl 1 rfl) ?_
      refine lv_iload hx hb dX3_clearestOfAllLevers_19 (lv_at hl 5 rfl) ?_
      obtain ⟨r3, m4, e5, h⟩ := zb_some h
      refine z_calli hS (va_runS (As := [.int (x1), .int (x5)]) (rest := []) C (c_X3_copiedDepth l G e5 _) (va_cwS 2 hts gX3_clearestOfAllLevers_X3_copiedDepth rfl rfl rfl hd_X3_copiedDepth ⟨Nat.le_of_ble_eq_true rfl, Nat.le_of_ble_eq_true rfl⟩) (z_preS Z hS hP) rfl rfl hl.1 rfl (lv_room (Nat.le_of_ble_eq_true rfl)) dX3_clearestOfAllLevers_21 ⟨Nat.zero_le _, Nat.zero_le _⟩) (fun H locs hP hS => ?_)
      refine lv_istore (lv' := [(6, .int (r3)), (0, .int (x0)), (1, .int (x1)), (2, .int (x2)), (3, .int (x3)), (4, .int (x4)), (5, .int (x5))]) hx hb dX3_clearestOfAllLevers_24 hl (by decide) rfl (fun ls hl => ?_)
      refine lv_iload_n hx hb dX3_clearestOfAllLevers_26 rfl (lv_at hl 3 rfl) ?_
      refine lv_iload hx hb dX3_clearestOfAllLevers_27 (lv_at hl 6 rfl) ?_
      refine lv_iload_n hx hb dX3_clearestOfAllLevers_29 rfl (lv_at hl 4 rfl) ?_
      refine lv_iconst (v := 0) hx hb dX3_clearestOfAllLevers_30 (by decide) ?_
      obtain ⟨r6, m7, e8, h⟩ := zb_some h
      refine z_calli hS (va_runS (As := [.int (x2), .int (x5), .int (x3), .int (0)]) (rest := []) C (c_X3_copiedClearness l G e8 _) (va_cwS 4 hts gX3_clearestOfAllLevers_X3_copiedClearness rfl rfl rfl hd_X3_copiedClearness ⟨Nat.le_of_ble_eq_true rfl, Nat.le_of_ble_eq_true rfl⟩) (z_preS Z hS hP) rfl rfl hl.1 rfl (lv_room (Nat.le_of_ble_eq_true rfl)) dX3_clearestOfAllLevers_31 ⟨Nat.zero_le _, Nat.zero_le _⟩) (fun H locs hP hS => ?_)
      refine lv_istore (lv' := [(7, .int (r6)), (6, .int (r3)), (0, .int (x0)), (1, .int (x1)), (2, .int (x2)), (3, .int (x3)), (4, .int (x4)), (5, .int (x5))]) hx hb dX3_clearestOfAllLevers_34 hl (by decide) rfl (fun ls hl => ?_)
      refine lv_iload hx hb dX3_clearestOfAllLevers_36 (lv_at hl 6 rfl) ?_
      refine lv_iload_n hx hb dX3_clearestOfAllLevers_38 rfl (lv_at hl 2 rfl) ?_
      refine lv_iconst (v := 1) hx hb dX3_clearestOfAllLevers_39 (by decide) ?_
      refine lv_isub hx hb dX3_clearestOfAllLevers_40 ?_
      refine lv_iload hx hb dX3_clearestOfAllLevers_41 (lv_at hl 1 rfl) ?_
      refine lv_iload hx hb dX3_clearestOfAllLevers_43 (lv_at hl 0 rfl) ?_
      refine lv_iload_n hx hb dX3_clearestOfAllLevers_45 rfl (lv_at hl 5 rfl) ?_
      refine lv_iload hx hb dX3_clearestOfAllLevers_46 (lv_at hl 1 rfl) ?_
      obtain ⟨r9, m10, e11, h⟩ := zb_some h
      refine z_calli hS (va_runS (As := [.int (x3), .int (r3)]) (rest := [.int (r6), .int (r3), .int ((x0 - 1)), .int (x4)]) C (c_X3_sharpnessAfter l G e11 _) (va_cwS 2 hts gX3_clearestOfAllLevers_X3_sharpnessAfter rfl rfl rfl hd_X3_sharpnessAfter ⟨Nat.le_of_ble_eq_true rfl, Nat.le_of_ble_eq_true rfl⟩) (z_preS Z hS hP) rfl rfl hl.1 rfl (lv_room (Nat.le_of_ble_eq_true rfl)) dX3_clearestOfAllLevers_48 ⟨Nat.zero_le _, Nat.zero_le _⟩) (fun H locs hP hS => ?_)
      obtain ⟨r12, m13, e14, h⟩ := zb_some h
      refine z_calli hS (va_runS (As := [.int ((x0 - 1)), .int (r3), .int (r6), .int (r9)]) (rest := [.int (x4)]) C (c_X3_clearestOfAllLevers_v1 l G e14 _) (va_cwS 4 hts gX3_clearestOfAllLevers_X3_clearestOfAllLevers rfl rfl rfl hd_X3_clearestOfAllLevers_v1 ⟨Nat.le_of_ble_eq_true rfl, Nat.le_of_ble_eq_true rfl⟩) (z_preS Z hS hP) rfl rfl hl.1 rfl (lv_room (Nat.le_of_ble_eq_true rfl)) dX3_clearestOfAllLevers_51 ⟨Nat.zero_le _, Nat.zero_le _⟩) (fun H locs hP hS => ?_)
      refine va_mmax hx hb (C.2.2.1.trans hl.1.symm) C.2.2.2.1 (C.2.2.2.2 _ wX3_clearestOfAllLevers_v2_0) (C.2.2.2.2 _ wX3_clearestOfAllLevers_v2_1) (C.2.2.2.2 _ wX3_clearestOfAllLevers_v2_2) (C.2.2.2.2 _ wX3_clearestOfAllLevers_v2_3) (Nat.le_of_ble_eq_true rfl) (Nat.le_of_ble_eq_true rfl) (Nat.zero_le _) (Nat.zero_le _) dX3_clearestOfAllLevers_54 ?_
      refine lv_istore (lv' := [(4, .int ((if x4 < r12 then r12 else x4))), (7, .int (r6)), (6, .int (r3)), (0, .int (x0)), (1, .int (x1)), (2, .int (x2)), (3, .int (x3)), (5, .int (x5))]) hx hb dX3_clearestOfAllLevers_57 hl (by decide) rfl (fun ls hl => ?_)
      refine lv_iinc (v := (x5 + 1)) (lv' := [(5, .int ((x5 + 1))), (4, .int ((if x4 < r12 then r12 else x4))), (7, .int (r6)), (6, .int (r3)), (0, .int (x0)), (1, .int (x1)), (2, .int (x2)), (3, .int (x3))]) hx hb dX3_clearestOfAllLevers_59 hl (k := 7) rfl rfl (by decide) rfl (fun ls hl => ?_)
      refine lv_goto (tgt := 12) hx hb dX3_clearestOfAllLevers_62 (by decide) ?_
      exact ih _ _ _ _ _ _ _ h _ _ hP hS ls (lv_sub hl [4, 5, 6, 7, 1, 0] rfl)
set_option maxHeartbeats 4000000 in
set_option maxRecDepth 100000 in
theorem c_X3_clearestOfAllLevers_v2 (l : Launch) (G : zG) {x0 : Int32} {x1 : Int32} {x2 : Int32} {x3 : Int32} {μ mu1 : Mm} {r : Int32} (h : f_X3_clearestOfAllLevers_v2 x0 x1 x2 x3 μ = some (r, mu1)) (sz : Nat) : Met l yX3_clearestOfAllLevers wsX3_clearestOfAllLevers rm_X3_clearestOfAllLevers_v2 (z_Pre G μ [.int (x0), .int (x1), .int (x2), .int (x3)] sz) (z_Qi G r mu1 sz) 0 0 (z_A G sz) := by
  refine z_start (cc := cX3_clearestOfAllLevers) (maxL := 8) (ret := (some .int)) (own := RX3) (by decide) rfl rfl (Nat.le_of_ble_eq_true rfl) (fun p e s m args below meth c C hr hlk Z hP ls hl => ?_) sz
  have hx := C.1
  have hb := C.2.1
  have hts := C.2.2.2.2
  have hS : va_S (z_A G s.heap.size) s.heap s.heap [] := va_S.rf
  have hl : lv_has ls 8 [(0, .int (x0)), (1, .int (x1)), (2, .int (x2)), (3, .int (x3))] := hl
  unfold f_X3_clearestOfAllLevers_v2 at h
  refine lv_iload_n hx hb dX3_clearestOfAllLevers_0 rfl (lv_at hl 0 rfl) ?_
  refine lv_if_gt (tgt := 6) hx hb dX3_clearestOfAllLevers_1 (by decide) (fun hc1 => ?_) (fun hc1 => ?_)
  · have h := z_ip hc1 h
    refine lv_iconst (v := (-1)) hx hb dX3_clearestOfAllLevers_6 (by decide) ?_
    refine lv_istore (lv' := [(4, .int ((-1))), (0, .int (x0)), (1, .int (x1)), (2, .int (x2)), (3, .int (x3))]) hx hb dX3_clearestOfAllLevers_7 hl (by decide) rfl (fun ls hl => ?_)
    refine lv_iconst (v := 1) hx hb dX3_clearestOfAllLevers_9 (by decide) ?_
    refine lv_istore (lv' := [(5, .int (1)), (4, .int ((-1))), (0, .int (x0)), (1, .int (x1)), (2, .int (x2)), (3, .int (x3))]) hx hb dX3_clearestOfAllLevers_10 hl (by decide) rfl (fun ls hl => ?_)
    exact L_X3_clearestOfAllLevers_v2_b12 C hr hlk Z z_F _ _ _ _ _ _ _ h _ _ hP hS ls (lv_sub hl [2, 3, 4, 5, 1, 0] rfl)
  · have h := z_in hc1 h
    refine lv_iload_n hx hb dX3_clearestOfAllLevers_4 rfl (lv_at hl 2 rfl) ?_
    cases h
    exact z_reti C hr hlk hP hS dX3_clearestOfAllLevers_5
abbrev rm_X3_clearestOfAllLevers_v3 : Room := { frames := 5, cells := 0, slots := 0, locals := 124 }
theorem hd_X3_clearestOfAllLevers_v3 : yX3_clearestOfAllLevers.cls ≠ "java/lang/invoke/MethodHandle" ∧ yX3_clearestOfAllLevers.cls ≠ "java/lang/invoke/VarHandle" ∧ (parseMethodDescriptor yX3_clearestOfAllLevers.desc).map (fun d => d.parameters.length) = some 4 := by decide +kernel
theorem hv_X3_clearestOfAllLevers_v3 : yX3_clearestOfAllLevers.cls = RX3 ∧ yX3_clearestOfAllLevers.cls ≠ "java/lang/invoke/MethodHandle" ∧ yX3_clearestOfAllLevers.cls ≠ "java/lang/invoke/VarHandle" ∧ (parseMethodDescriptor yX3_clearestOfAllLevers.desc).map (fun d => d.parameters.length) = some 4 := ⟨rfl, hd_X3_clearestOfAllLevers_v3⟩
theorem wX3_clearestOfAllLevers_v3_0 : Cond.methodLink RX3 290 Lib.Math.max.name ∈ wsX3_clearestOfAllLevers := by decide +kernel
theorem wX3_clearestOfAllLevers_v3_1 : Cond.static Lib.Math.max.name ∈ wsX3_clearestOfAllLevers := by decide +kernel
theorem wX3_clearestOfAllLevers_v3_2 : Cond.initialized "java/lang/Math" ∈ wsX3_clearestOfAllLevers := by decide +kernel
theorem wX3_clearestOfAllLevers_v3_3 : Cond.code Lib.Math.max.name Lib.Math.max.code 2 (some .int) ∈ wsX3_clearestOfAllLevers := by decide +kernel
set_option maxHeartbeats 4000000 in
set_option maxRecDepth 100000 in
theorem L_X3_clearestOfAllLevers_v3_b12 {p : Program} {l : Launch} {e : Env} {s : State} {m : MethodId} {args : Array Value} {below : List Frame} {meth : Method} {c : Code} {G : zG} {r : Int32} {mu1 : Mm}  (C : CallFix p m c cX3_clearestOfAllLevers 8 s args wsX3_clearestOfAllLevers RX3) (hr : meth.sig.returnType = (some .int)) (hlk : meth.locks = false) (Z : z_Z G (z_A G s.heap.size) s)  :
    ∀ (n : Nat) (x0 : Int32) (x1 : Int32) (x2 : Int32) (x3 : Int32) (x4 : Int32) (x5 : Int32) (μ : Mm), f_X3_clearestOfAllLevers_v3_b12  n x0 x1 x2 x3 x4 x5 μ = some (r, mu1) → ∀ (H : Heap) (locs : List Loc), z_P G μ H → va_S (z_A G s.heap.size) s.heap H locs → ∀ ls : Array Slot, lv_has ls 8 [(0, .int (x0)), (1, .int (x1)), (2, .int (x2)), (3, .int (x3)), (4, .int (x4)), (5, .int (x5))] → W p l e rm_X3_clearestOfAllLevers_v3 s m args below meth c H locs 0 0 (MQ below (z_Qi G r mu1 s.heap.size) args s 0 0 (z_A G s.heap.size)) (F0 m 12 ls []) := by
  have hx := C.1
  have hb := C.2.1
  have hts := C.2.2.2.2
  intro n
  induction n with
  | zero =>
    intro x0 x1 x2 x3 x4 x5 μ h
    rw [f_X3_clearestOfAllLevers_v3_b12] at h
    cases h
  | succ n ih =>
    intro x0 x1 x2 x3 x4 x5 μ h H locs hP hS ls hl
    rw [f_X3_clearestOfAllLevers_v3_b12] at h
    refine lv_iload hx hb dX3_clearestOfAllLevers_12 (lv_at hl 5 rfl) ?_
    refine lv_iconst (v := 3) hx hb dX3_clearestOfAllLevers_14 (by decide) ?_
    refine lv_icmp_gt (tgt := 65) hx hb dX3_clearestOfAllLevers_15 (by decide) (fun hc2 => ?_) (fun hc2 => ?_)
    · have h := z_ip hc2 h
      refine lv_iload hx hb dX3_clearestOfAllLevers_65 (lv_at hl 4 rfl) ?_
      cases h
      exact z_reti C hr hlk hP hS dX3_clearestOfAllLevers_67
    · have h := z_in hc2 h
      refine lv_iload_n hx hb dX3_clearestOfAllLevers_18 rfl (lv_at hl 1 rfl) ?_
      refine lv_iload hx hb dX3_clearestOfAllLevers_19 (lv_at hl 5 rfl) ?_
      obtain ⟨r3, m4, e5, h⟩ := zb_some h
      refine z_calli hS (va_runS (As := [.int (x1), .int (x5)]) (rest := []) C (c_X3_copiedDepth l G e5 _) (va_cwS 2 hts gX3_clearestOfAllLevers_X3_copiedDepth rfl rfl rfl hd_X3_copiedDepth ⟨Nat.le_of_ble_eq_true rfl, Nat.le_of_ble_eq_true rfl⟩) (z_preS Z hS hP) rfl rfl hl.1 rfl (lv_room (Nat.le_of_ble_eq_true rfl)) dX3_clearestOfAllLevers_21 ⟨Nat.zero_le _, Nat.zero_le _⟩) (fun H locs hP hS => ?_)
      refine lv_istore (lv' := [(6, .int (r3)), (0, .int (x0)), (1, .int (x1)), (2, .int (x2)), (3, .int (x3)), (4, .int (x4)), (5, .int (x5))]) hx hb dX3_clearestOfAllLevers_24 hl (by decide) rfl (fun ls hl => ?_)
      refine lv_iload_n hx hb dX3_clearestOfAllLevers_26 rfl (lv_at hl 3 rfl) ?_
      refine lv_iload hx hb dX3_clearestOfAllLevers_27 (lv_at hl 6 rfl) ?_
      refine lv_iload_n hx hb dX3_clearestOfAllLevers_29 rfl (lv_at hl 4 rfl) ?_
      refine lv_iconst (v := 0) hx hb dX3_clearestOfAllLevers_30 (by decide) ?_
      obtain ⟨r6, m7, e8, h⟩ := zb_some h
      refine z_calli hS (va_runS (As := [.int (x2), .int (x5), .int (x3), .int (0)]) (rest := []) C (c_X3_copiedClearness l G e8 _) (va_cwS 4 hts gX3_clearestOfAllLevers_X3_copiedClearness rfl rfl rfl hd_X3_copiedClearness ⟨Nat.le_of_ble_eq_true rfl, Nat.le_of_ble_eq_true rfl⟩) (z_preS Z hS hP) rfl rfl hl.1 rfl (lv_room (Nat.le_of_ble_eq_true rfl)) dX3_clearestOfAllLevers_31 ⟨Nat.zero_le _, Nat.zero_le _⟩) (fun H locs hP hS => ?_)
      refine lv_istore (lv' := [(7, .int (r6)), (6, .int (r3)), (0, .int (x0)), (1, .int (x1)), (2, .int (x2)), (3, .int (x3)), (4, .int (x4)), (5, .int (x5))]) hx hb dX3_clearestOfAllLevers_34 hl (by decide) rfl (fun ls hl => ?_)
      refine lv_iload hx hb dX3_clearestOfAllLevers_36 (lv_at hl 6 rfl) ?_
      refine lv_iload_n hx hb dX3_clearestOfAllLevers_38 rfl (lv_at hl 2 rfl) ?_
      refine lv_iconst (v := 1) hx hb dX3_clearestOfAllLevers_39 (by decide) ?_
      refine lv_isub hx hb dX3_clearestOfAllLevers_40 ?_
      refine lv_iload hx hb dX3_clearestOfAllLevers_41 (lv_at hl 1 rfl) ?_
      refine lv_iload hx hb dX3_clearestOfAllLevers_43 (lv_at hl 0 rfl) ?_
      refine lv_iload_n hx hb dX3_clearestOfAllLevers_45 rfl (lv_at hl 5 rfl) ?_
      refine lv_iload hx hb dX3_clearestOfAllLevers_46 (lv_at hl 1 rfl) ?_
      obtain ⟨r9, m10, e11, h⟩ := zb_some h
      refine z_calli hS (va_runS (As := [.int (x3), .int (r3)]) (rest := [.int (r6), .int (r3), .int ((x0 - 1)), .int (x4)]) C (c_X3_sharpnessAfter l G e11 _) (va_cwS 2 hts gX3_clearestOfAllLevers_X3_sharpnessAfter rfl rfl rfl hd_X3_sharpnessAfter ⟨Nat.le_of_ble_eq_true rfl, Nat.le_of_ble_eq_true rfl⟩) (z_preS Z hS hP) rfl rfl hl.1 rfl (lv_room (Nat.le_of_ble_eq_true rfl)) dX3_clearestOfAllLevers_48 ⟨Nat.zero_le _, Nat.zero_le _⟩) (fun H locs hP hS => ?_)
      obtain ⟨r12, m13, e14, h⟩ := zb_some h
      refine z_calli hS (va_runS (As := [.int ((x0 - 1)), .int (r3), .int (r6), .int (r9)]) (rest := [.int (x4)]) C (c_X3_clearestOfAllLevers_v2 l G e14 _) (va_cwS 4 hts gX3_clearestOfAllLevers_X3_clearestOfAllLevers rfl rfl rfl hd_X3_clearestOfAllLevers_v2 ⟨Nat.le_of_ble_eq_true rfl, Nat.le_of_ble_eq_true rfl⟩) (z_preS Z hS hP) rfl rfl hl.1 rfl (lv_room (Nat.le_of_ble_eq_true rfl)) dX3_clearestOfAllLevers_51 ⟨Nat.zero_le _, Nat.zero_le _⟩) (fun H locs hP hS => ?_)
      refine va_mmax hx hb (C.2.2.1.trans hl.1.symm) C.2.2.2.1 (C.2.2.2.2 _ wX3_clearestOfAllLevers_v3_0) (C.2.2.2.2 _ wX3_clearestOfAllLevers_v3_1) (C.2.2.2.2 _ wX3_clearestOfAllLevers_v3_2) (C.2.2.2.2 _ wX3_clearestOfAllLevers_v3_3) (Nat.le_of_ble_eq_true rfl) (Nat.le_of_ble_eq_true rfl) (Nat.zero_le _) (Nat.zero_le _) dX3_clearestOfAllLevers_54 ?_
      refine lv_istore (lv' := [(4, .int ((if x4 < r12 then r12 else x4))), (7, .int (r6)), (6, .int (r3)), (0, .int (x0)), (1, .int (x1)), (2, .int (x2)), (3, .int (x3)), (5, .int (x5))]) hx hb dX3_clearestOfAllLevers_57 hl (by decide) rfl (fun ls hl => ?_)
      refine lv_iinc (v := (x5 + 1)) (lv' := [(5, .int ((x5 + 1))), (4, .int ((if x4 < r12 then r12 else x4))), (7, .int (r6)), (6, .int (r3)), (0, .int (x0)), (1, .int (x1)), (2, .int (x2)), (3, .int (x3))]) hx hb dX3_clearestOfAllLevers_59 hl (k := 7) rfl rfl (by decide) rfl (fun ls hl => ?_)
      refine lv_goto (tgt := 12) hx hb dX3_clearestOfAllLevers_62 (by decide) ?_
      exact ih _ _ _ _ _ _ _ h _ _ hP hS ls (lv_sub hl [4, 5, 6, 7, 1, 0] rfl)
set_option maxHeartbeats 4000000 in
set_option maxRecDepth 100000 in
theorem c_X3_clearestOfAllLevers_v3 (l : Launch) (G : zG) {x0 : Int32} {x1 : Int32} {x2 : Int32} {x3 : Int32} {μ mu1 : Mm} {r : Int32} (h : f_X3_clearestOfAllLevers_v3 x0 x1 x2 x3 μ = some (r, mu1)) (sz : Nat) : Met l yX3_clearestOfAllLevers wsX3_clearestOfAllLevers rm_X3_clearestOfAllLevers_v3 (z_Pre G μ [.int (x0), .int (x1), .int (x2), .int (x3)] sz) (z_Qi G r mu1 sz) 0 0 (z_A G sz) := by
  refine z_start (cc := cX3_clearestOfAllLevers) (maxL := 8) (ret := (some .int)) (own := RX3) (by decide) rfl rfl (Nat.le_of_ble_eq_true rfl) (fun p e s m args below meth c C hr hlk Z hP ls hl => ?_) sz
  have hx := C.1
  have hb := C.2.1
  have hts := C.2.2.2.2
  have hS : va_S (z_A G s.heap.size) s.heap s.heap [] := va_S.rf
  have hl : lv_has ls 8 [(0, .int (x0)), (1, .int (x1)), (2, .int (x2)), (3, .int (x3))] := hl
  unfold f_X3_clearestOfAllLevers_v3 at h
  refine lv_iload_n hx hb dX3_clearestOfAllLevers_0 rfl (lv_at hl 0 rfl) ?_
  refine lv_if_gt (tgt := 6) hx hb dX3_clearestOfAllLevers_1 (by decide) (fun hc1 => ?_) (fun hc1 => ?_)
  · have h := z_ip hc1 h
    refine lv_iconst (v := (-1)) hx hb dX3_clearestOfAllLevers_6 (by decide) ?_
    refine lv_istore (lv' := [(4, .int ((-1))), (0, .int (x0)), (1, .int (x1)), (2, .int (x2)), (3, .int (x3))]) hx hb dX3_clearestOfAllLevers_7 hl (by decide) rfl (fun ls hl => ?_)
    refine lv_iconst (v := 1) hx hb dX3_clearestOfAllLevers_9 (by decide) ?_
    refine lv_istore (lv' := [(5, .int (1)), (4, .int ((-1))), (0, .int (x0)), (1, .int (x1)), (2, .int (x2)), (3, .int (x3))]) hx hb dX3_clearestOfAllLevers_10 hl (by decide) rfl (fun ls hl => ?_)
    exact L_X3_clearestOfAllLevers_v3_b12 C hr hlk Z z_F _ _ _ _ _ _ _ h _ _ hP hS ls (lv_sub hl [2, 3, 4, 5, 1, 0] rfl)
  · have h := z_in hc1 h
    refine lv_iload_n hx hb dX3_clearestOfAllLevers_4 rfl (lv_at hl 2 rfl) ?_
    cases h
    exact z_reti C hr hlk hP hS dX3_clearestOfAllLevers_5
abbrev rm_X3_clearestOfAllLevers_v4 : Room := { frames := 6, cells := 0, slots := 0, locals := 151 }
theorem hd_X3_clearestOfAllLevers_v4 : yX3_clearestOfAllLevers.cls ≠ "java/lang/invoke/MethodHandle" ∧ yX3_clearestOfAllLevers.cls ≠ "java/lang/invoke/VarHandle" ∧ (parseMethodDescriptor yX3_clearestOfAllLevers.desc).map (fun d => d.parameters.length) = some 4 := by decide +kernel
theorem hv_X3_clearestOfAllLevers_v4 : yX3_clearestOfAllLevers.cls = RX3 ∧ yX3_clearestOfAllLevers.cls ≠ "java/lang/invoke/MethodHandle" ∧ yX3_clearestOfAllLevers.cls ≠ "java/lang/invoke/VarHandle" ∧ (parseMethodDescriptor yX3_clearestOfAllLevers.desc).map (fun d => d.parameters.length) = some 4 := ⟨rfl, hd_X3_clearestOfAllLevers_v4⟩
theorem wX3_clearestOfAllLevers_v4_0 : Cond.methodLink RX3 290 Lib.Math.max.name ∈ wsX3_clearestOfAllLevers := by decide +kernel
theorem wX3_clearestOfAllLevers_v4_1 : Cond.static Lib.Math.max.name ∈ wsX3_clearestOfAllLevers := by decide +kernel
theorem wX3_clearestOfAllLevers_v4_2 : Cond.initialized "java/lang/Math" ∈ wsX3_clearestOfAllLevers := by decide +kernel
theorem wX3_clearestOfAllLevers_v4_3 : Cond.code Lib.Math.max.name Lib.Math.max.code 2 (some .int) ∈ wsX3_clearestOfAllLevers := by decide +kernel
set_option maxHeartbeats 4000000 in
set_option maxRecDepth 100000 in
theorem L_X3_clearestOfAllLevers_v4_b12 {p : Program} {l : Launch} {e : Env} {s : State} {m : MethodId} {args : Array Value} {below : List Frame} {meth : Method} {c : Code} {G : zG} {r : Int32} {mu1 : Mm}  (C : CallFix p m c cX3_clearestOfAllLevers 8 s args wsX3_clearestOfAllLevers RX3) (hr : meth.sig.returnType = (some .int)) (hlk : meth.locks = false) (Z : z_Z G (z_A G s.heap.size) s)  :
    ∀ (n : Nat) (x0 : Int32) (x1 : Int32) (x2 : Int32) (x3 : Int32) (x4 : Int32) (x5 : Int32) (μ : Mm), f_X3_clearestOfAllLevers_v4_b12  n x0 x1 x2 x3 x4 x5 μ = some (r, mu1) → ∀ (H : Heap) (locs : List Loc), z_P G μ H → va_S (z_A G s.heap.size) s.heap H locs → ∀ ls : Array Slot, lv_has ls 8 [(0, .int (x0)), (1, .int (x1)), (2, .int (x2)), (3, .int (x3)), (4, .int (x4)), (5, .int (x5))] → W p l e rm_X3_clearestOfAllLevers_v4 s m args below meth c H locs 0 0 (MQ below (z_Qi G r mu1 s.heap.size) args s 0 0 (z_A G s.heap.size)) (F0 m 12 ls []) := by
  have hx := C.1
  have hb := C.2.1
  have hts := C.2.2.2.2
  intro n
  induction n with
  | zero =>
    intro x0 x1 x2 x3 x4 x5 μ h
    rw [f_X3_clearestOfAllLevers_v4_b12] at h
    cases h
  | succ n ih =>
    intro x0 x1 x2 x3 x4 x5 μ h H locs hP hS ls hl
    rw [f_X3_clearestOfAllLevers_v4_b12] at h
    refine lv_iload hx hb dX3_clearestOfAllLevers_12 (lv_at hl 5 rfl) ?_
    refine lv_iconst (v := 3) hx hb dX3_clearestOfAllLevers_14 (by decide) ?_
    refine lv_icmp_gt (tgt := 65) hx hb dX3_clearestOfAllLevers_15 (by decide) (fun hc2 => ?_) (fun hc2 => ?_)
    · have h := z_ip hc2 h
      refine lv_iload hx hb dX3_clearestOfAllLevers_65 (lv_at hl 4 rfl) ?_
      cases h
      exact z_reti C hr hlk hP hS dX3_clearestOfAllLevers_67
    · have h := z_in hc2 h
      refine lv_iload_n hx hb dX3_clearestOfAllLevers_18 rfl (lv_at hl 1 rfl) ?_
      refine lv_iload hx hb dX3_clearestOfAllLevers_19 (lv_at hl 5 rfl) ?_
      obtain ⟨r3, m4, e5, h⟩ := zb_some h
      refine z_calli hS (va_runS (As := [.int (x1), .int (x5)]) (rest := []) C (c_X3_copiedDepth l G e5 _) (va_cwS 2 hts gX3_clearestOfAllLevers_X3_copiedDepth rfl rfl rfl hd_X3_copiedDepth ⟨Nat.le_of_ble_eq_true rfl, Nat.le_of_ble_eq_true rfl⟩) (z_preS Z hS hP) rfl rfl hl.1 rfl (lv_room (Nat.le_of_ble_eq_true rfl)) dX3_clearestOfAllLevers_21 ⟨Nat.zero_le _, Nat.zero_le _⟩) (fun H locs hP hS => ?_)
      refine lv_istore (lv' := [(6, .int (r3)), (0, .int (x0)), (1, .int (x1)), (2, .int (x2)), (3, .int (x3)), (4, .int (x4)), (5, .int (x5))]) hx hb dX3_clearestOfAllLevers_24 hl (by decide) rfl (fun ls hl => ?_)
      refine lv_iload_n hx hb dX3_clearestOfAllLevers_26 rfl (lv_at hl 3 rfl) ?_
      refine lv_iload hx hb dX3_clearestOfAllLevers_27 (lv_at hl 6 rfl) ?_
      refine lv_iload_n hx hb dX3_clearestOfAllLevers_29 rfl (lv_at hl 4 rfl) ?_
      refine lv_iconst (v := 0) hx hb dX3_clearestOfAllLevers_30 (by decide) ?_
      obtain ⟨r6, m7, e8, h⟩ := zb_some h
      refine z_calli hS (va_runS (As := [.int (x2), .int (x5), .int (x3), .int (0)]) (rest := []) C (c_X3_copiedClearness l G e8 _) (va_cwS 4 hts gX3_clearestOfAllLevers_X3_copiedClearness rfl rfl rfl hd_X3_copiedClearness ⟨Nat.le_of_ble_eq_true rfl, Nat.le_of_ble_eq_true rfl⟩) (z_preS Z hS hP) rfl rfl hl.1 rfl (lv_room (Nat.le_of_ble_eq_true rfl)) dX3_clearestOfAllLevers_31 ⟨Nat.zero_le _, Nat.zero_le _⟩) (fun H locs hP hS => ?_)
      refine lv_istore (lv' := [(7, .int (r6)), (6, .int (r3)), (0, .int (x0)), (1, .int (x1)), (2, .int (x2)), (3, .int (x3)), (4, .int (x4)), (5, .int (x5))]) hx hb dX3_clearestOfAllLevers_34 hl (by decide) rfl (fun ls hl => ?_)
      refine lv_iload hx hb dX3_clearestOfAllLevers_36 (lv_at hl 6 rfl) ?_
      refine lv_iload_n hx hb dX3_clearestOfAllLevers_38 rfl (lv_at hl 2 rfl) ?_
      refine lv_iconst (v := 1) hx hb dX3_clearestOfAllLevers_39 (by decide) ?_
      refine lv_isub hx hb dX3_clearestOfAllLevers_40 ?_
      refine lv_iload hx hb dX3_clearestOfAllLevers_41 (lv_at hl 1 rfl) ?_
      refine lv_iload hx hb dX3_clearestOfAllLevers_43 (lv_at hl 0 rfl) ?_
      refine lv_iload_n hx hb dX3_clearestOfAllLevers_45 rfl (lv_at hl 5 rfl) ?_
      refine lv_iload hx hb dX3_clearestOfAllLevers_46 (lv_at hl 1 rfl) ?_
      obtain ⟨r9, m10, e11, h⟩ := zb_some h
      refine z_calli hS (va_runS (As := [.int (x3), .int (r3)]) (rest := [.int (r6), .int (r3), .int ((x0 - 1)), .int (x4)]) C (c_X3_sharpnessAfter l G e11 _) (va_cwS 2 hts gX3_clearestOfAllLevers_X3_sharpnessAfter rfl rfl rfl hd_X3_sharpnessAfter ⟨Nat.le_of_ble_eq_true rfl, Nat.le_of_ble_eq_true rfl⟩) (z_preS Z hS hP) rfl rfl hl.1 rfl (lv_room (Nat.le_of_ble_eq_true rfl)) dX3_clearestOfAllLevers_48 ⟨Nat.zero_le _, Nat.zero_le _⟩) (fun H locs hP hS => ?_)
      obtain ⟨r12, m13, e14, h⟩ := zb_some h
      refine z_calli hS (va_runS (As := [.int ((x0 - 1)), .int (r3), .int (r6), .int (r9)]) (rest := [.int (x4)]) C (c_X3_clearestOfAllLevers_v3 l G e14 _) (va_cwS 4 hts gX3_clearestOfAllLevers_X3_clearestOfAllLevers rfl rfl rfl hd_X3_clearestOfAllLevers_v3 ⟨Nat.le_of_ble_eq_true rfl, Nat.le_of_ble_eq_true rfl⟩) (z_preS Z hS hP) rfl rfl hl.1 rfl (lv_room (Nat.le_of_ble_eq_true rfl)) dX3_clearestOfAllLevers_51 ⟨Nat.zero_le _, Nat.zero_le _⟩) (fun H locs hP hS => ?_)
      refine va_mmax hx hb (C.2.2.1.trans hl.1.symm) C.2.2.2.1 (C.2.2.2.2 _ wX3_clearestOfAllLevers_v4_0) (C.2.2.2.2 _ wX3_clearestOfAllLevers_v4_1) (C.2.2.2.2 _ wX3_clearestOfAllLevers_v4_2) (C.2.2.2.2 _ wX3_clearestOfAllLevers_v4_3) (Nat.le_of_ble_eq_true rfl) (Nat.le_of_ble_eq_true rfl) (Nat.zero_le _) (Nat.zero_le _) dX3_clearestOfAllLevers_54 ?_
      refine lv_istore (lv' := [(4, .int ((if x4 < r12 then r12 else x4))), (7, .int (r6)), (6, .int (r3)), (0, .int (x0)), (1, .int (x1)), (2, .int (x2)), (3, .int (x3)), (5, .int (x5))]) hx hb dX3_clearestOfAllLevers_57 hl (by decide) rfl (fun ls hl => ?_)
      refine lv_iinc (v := (x5 + 1)) (lv' := [(5, .int ((x5 + 1))), (4, .int ((if x4 < r12 then r12 else x4))), (7, .int (r6)), (6, .int (r3)), (0, .int (x0)), (1, .int (x1)), (2, .int (x2)), (3, .int (x3))]) hx hb dX3_clearestOfAllLevers_59 hl (k := 7) rfl rfl (by decide) rfl (fun ls hl => ?_)
      refine lv_goto (tgt := 12) hx hb dX3_clearestOfAllLevers_62 (by decide) ?_
      exact ih _ _ _ _ _ _ _ h _ _ hP hS ls (lv_sub hl [4, 5, 6, 7, 1, 0] rfl)
set_option maxHeartbeats 4000000 in
set_option maxRecDepth 100000 in
theorem c_X3_clearestOfAllLevers_v4 (l : Launch) (G : zG) {x0 : Int32} {x1 : Int32} {x2 : Int32} {x3 : Int32} {μ mu1 : Mm} {r : Int32} (h : f_X3_clearestOfAllLevers_v4 x0 x1 x2 x3 μ = some (r, mu1)) (sz : Nat) : Met l yX3_clearestOfAllLevers wsX3_clearestOfAllLevers rm_X3_clearestOfAllLevers_v4 (z_Pre G μ [.int (x0), .int (x1), .int (x2), .int (x3)] sz) (z_Qi G r mu1 sz) 0 0 (z_A G sz) := by
  refine z_start (cc := cX3_clearestOfAllLevers) (maxL := 8) (ret := (some .int)) (own := RX3) (by decide) rfl rfl (Nat.le_of_ble_eq_true rfl) (fun p e s m args below meth c C hr hlk Z hP ls hl => ?_) sz
  have hx := C.1
  have hb := C.2.1
  have hts := C.2.2.2.2
  have hS : va_S (z_A G s.heap.size) s.heap s.heap [] := va_S.rf
  have hl : lv_has ls 8 [(0, .int (x0)), (1, .int (x1)), (2, .int (x2)), (3, .int (x3))] := hl
  unfold f_X3_clearestOfAllLevers_v4 at h
  refine lv_iload_n hx hb dX3_clearestOfAllLevers_0 rfl (lv_at hl 0 rfl) ?_
  refine lv_if_gt (tgt := 6) hx hb dX3_clearestOfAllLevers_1 (by decide) (fun hc1 => ?_) (fun hc1 => ?_)
  · have h := z_ip hc1 h
    refine lv_iconst (v := (-1)) hx hb dX3_clearestOfAllLevers_6 (by decide) ?_
    refine lv_istore (lv' := [(4, .int ((-1))), (0, .int (x0)), (1, .int (x1)), (2, .int (x2)), (3, .int (x3))]) hx hb dX3_clearestOfAllLevers_7 hl (by decide) rfl (fun ls hl => ?_)
    refine lv_iconst (v := 1) hx hb dX3_clearestOfAllLevers_9 (by decide) ?_
    refine lv_istore (lv' := [(5, .int (1)), (4, .int ((-1))), (0, .int (x0)), (1, .int (x1)), (2, .int (x2)), (3, .int (x3))]) hx hb dX3_clearestOfAllLevers_10 hl (by decide) rfl (fun ls hl => ?_)
    exact L_X3_clearestOfAllLevers_v4_b12 C hr hlk Z z_F _ _ _ _ _ _ _ h _ _ hP hS ls (lv_sub hl [2, 3, 4, 5, 1, 0] rfl)
  · have h := z_in hc1 h
    refine lv_iload_n hx hb dX3_clearestOfAllLevers_4 rfl (lv_at hl 2 rfl) ?_
    cases h
    exact z_reti C hr hlk hP hS dX3_clearestOfAllLevers_5
abbrev rm_X3_clearestOfAllLevers_v5 : Room := { frames := 7, cells := 0, slots := 0, locals := 178 }
theorem hd_X3_clearestOfAllLevers_v5 : yX3_clearestOfAllLevers.cls ≠ "java/lang/invoke/MethodHandle" ∧ yX3_clearestOfAllLevers.cls ≠ "java/lang/invoke/VarHandle" ∧ (parseMethodDescriptor yX3_clearestOfAllLevers.desc).map (fun d => d.parameters.length) = some 4 := by decide +kernel
theorem hv_X3_clearestOfAllLevers_v5 : yX3_clearestOfAllLevers.cls = RX3 ∧ yX3_clearestOfAllLevers.cls ≠ "java/lang/invoke/MethodHandle" ∧ yX3_clearestOfAllLevers.cls ≠ "java/lang/invoke/VarHandle" ∧ (parseMethodDescriptor yX3_clearestOfAllLevers.desc).map (fun d => d.parameters.length) = some 4 := ⟨rfl, hd_X3_clearestOfAllLevers_v5⟩
theorem wX3_clearestOfAllLevers_v5_0 : Cond.methodLink RX3 290 Lib.Math.max.name ∈ wsX3_clearestOfAllLevers := by decide +kernel
theorem wX3_clearestOfAllLevers_v5_1 : Cond.static Lib.Math.max.name ∈ wsX3_clearestOfAllLevers := by decide +kernel
theorem wX3_clearestOfAllLevers_v5_2 : Cond.initialized "java/lang/Math" ∈ wsX3_clearestOfAllLevers := by decide +kernel
theorem wX3_clearestOfAllLevers_v5_3 : Cond.code Lib.Math.max.name Lib.Math.max.code 2 (some .int) ∈ wsX3_clearestOfAllLevers := by decide +kernel
set_option maxHeartbeats 4000000 in
set_option maxRecDepth 100000 in
theorem L_X3_clearestOfAllLevers_v5_b12 {p : Program} {l : Launch} {e : Env} {s : State} {m : MethodId} {args : Array Value} {below : List Frame} {meth : Method} {c : Code} {G : zG} {r : Int32} {mu1 : Mm}  (C : CallFix p m c cX3_clearestOfAllLevers 8 s args wsX3_clearestOfAllLevers RX3) (hr : meth.sig.returnType = (some .int)) (hlk : meth.locks = false) (Z : z_Z G (z_A G s.heap.size) s)  :
    ∀ (n : Nat) (x0 : Int32) (x1 : Int32) (x2 : Int32) (x3 : Int32) (x4 : Int32) (x5 : Int32) (μ : Mm), f_X3_clearestOfAllLevers_v5_b12  n x0 x1 x2 x3 x4 x5 μ = some (r, mu1) → ∀ (H : Heap) (locs : List Loc), z_P G μ H → va_S (z_A G s.heap.size) s.heap H locs → ∀ ls : Array Slot, lv_has ls 8 [(0, .int (x0)), (1, .int (x1)), (2, .int (x2)), (3, .int (x3)), (4, .int (x4)), (5, .int (x5))] → W p l e rm_X3_clearestOfAllLevers_v5 s m args below meth c H locs 0 0 (MQ below (z_Qi G r mu1 s.heap.size) args s 0 0 (z_A G s.heap.size)) (F0 m 12 ls []) := by
  have hx := C.1
  have hb := C.2.1
  have hts := C.2.2.2.2
  intro n
  induction n with
  | zero =>
    intro x0 x1 x2 x3 x4 x5 μ h
    rw [f_X3_clearestOfAllLevers_v5_b12] at h
    cases h
  | succ n ih =>
    intro x0 x1 x2 x3 x4 x5 μ h H locs hP hS ls hl
    rw [f_X3_clearestOfAllLevers_v5_b12] at h
    refine lv_iload hx hb dX3_clearestOfAllLevers_12 (lv_at hl 5 rfl) ?_
    refine lv_iconst (v := 3) hx hb dX3_clearestOfAllLevers_14 (by decide) ?_
    refine lv_icmp_gt (tgt := 65) hx hb dX3_clearestOfAllLevers_15 (by decide) (fun hc2 => ?_) (fun hc2 => ?_)
    · have h := z_ip hc2 h
      refine lv_iload hx hb dX3_clearestOfAllLevers_65 (lv_at hl 4 rfl) ?_
      cases h
      exact z_reti C hr hlk hP hS dX3_clearestOfAllLevers_67
    · have h := z_in hc2 h
      refine lv_iload_n hx hb dX3_clearestOfAllLevers_18 rfl (lv_at hl 1 rfl) ?_
      refine lv_iload hx hb dX3_clearestOfAllLevers_19 (lv_at hl 5 rfl) ?_
      obtain ⟨r3, m4, e5, h⟩ := zb_some h
      refine z_calli hS (va_runS (As := [.int (x1), .int (x5)]) (rest := []) C (c_X3_copiedDepth l G e5 _) (va_cwS 2 hts gX3_clearestOfAllLevers_X3_copiedDepth rfl rfl rfl hd_X3_copiedDepth ⟨Nat.le_of_ble_eq_true rfl, Nat.le_of_ble_eq_true rfl⟩) (z_preS Z hS hP) rfl rfl hl.1 rfl (lv_room (Nat.le_of_ble_eq_true rfl)) dX3_clearestOfAllLevers_21 ⟨Nat.zero_le _, Nat.zero_le _⟩) (fun H locs hP hS => ?_)
      refine lv_istore (lv' := [(6, .int (r3)), (0, .int (x0)), (1, .int (x1)), (2, .int (x2)), (3, .int (x3)), (4, .int (x4)), (5, .int (x5))]) hx hb dX3_clearestOfAllLevers_24 hl (by decide) rfl (fun ls hl => ?_)
      refine lv_iload_n hx hb dX3_clearestOfAllLevers_26 rfl (lv_at hl 3 rfl) ?_
      refine lv_iload hx hb dX3_clearestOfAllLevers_27 (lv_at hl 6 rfl) ?_
      refine lv_iload_n hx hb dX3_clearestOfAllLevers_29 rfl (lv_at hl 4 rfl) ?_
      refine lv_iconst (v := 0) hx hb dX3_clearestOfAllLevers_30 (by decide) ?_
      obtain ⟨r6, m7, e8, h⟩ := zb_some h
      refine z_calli hS (va_runS (As := [.int (x2), .int (x5), .int (x3), .int (0)]) (rest := []) C (c_X3_copiedClearness l G e8 _) (va_cwS 4 hts gX3_clearestOfAllLevers_X3_copiedClearness rfl rfl rfl hd_X3_copiedClearness ⟨Nat.le_of_ble_eq_true rfl, Nat.le_of_ble_eq_true rfl⟩) (z_preS Z hS hP) rfl rfl hl.1 rfl (lv_room (Nat.le_of_ble_eq_true rfl)) dX3_clearestOfAllLevers_31 ⟨Nat.zero_le _, Nat.zero_le _⟩) (fun H locs hP hS => ?_)
      refine lv_istore (lv' := [(7, .int (r6)), (6, .int (r3)), (0, .int (x0)), (1, .int (x1)), (2, .int (x2)), (3, .int (x3)), (4, .int (x4)), (5, .int (x5))]) hx hb dX3_clearestOfAllLevers_34 hl (by decide) rfl (fun ls hl => ?_)
      refine lv_iload hx hb dX3_clearestOfAllLevers_36 (lv_at hl 6 rfl) ?_
      refine lv_iload_n hx hb dX3_clearestOfAllLevers_38 rfl (lv_at hl 2 rfl) ?_
      refine lv_iconst (v := 1) hx hb dX3_clearestOfAllLevers_39 (by decide) ?_
      refine lv_isub hx hb dX3_clearestOfAllLevers_40 ?_
      refine lv_iload hx hb dX3_clearestOfAllLevers_41 (lv_at hl 1 rfl) ?_
      refine lv_iload hx hb dX3_clearestOfAllLevers_43 (lv_at hl 0 rfl) ?_
      refine lv_iload_n hx hb dX3_clearestOfAllLevers_45 rfl (lv_at hl 5 rfl) ?_
      refine lv_iload hx hb dX3_clearestOfAllLevers_46 (lv_at hl 1 rfl) ?_
      obtain ⟨r9, m10, e11, h⟩ := zb_some h
      refine z_calli hS (va_runS (As := [.int (x3), .int (r3)]) (rest := [.int (r6), .int (r3), .int ((x0 - 1)), .int (x4)]) C (c_X3_sharpnessAfter l G e11 _) (va_cwS 2 hts gX3_clearestOfAllLevers_X3_sharpnessAfter rfl rfl rfl hd_X3_sharpnessAfter ⟨Nat.le_of_ble_eq_true rfl, Nat.le_of_ble_eq_true rfl⟩) (z_preS Z hS hP) rfl rfl hl.1 rfl (lv_room (Nat.le_of_ble_eq_true rfl)) dX3_clearestOfAllLevers_48 ⟨Nat.zero_le _, Nat.zero_le _⟩) (fun H locs hP hS => ?_)
      obtain ⟨r12, m13, e14, h⟩ := zb_some h
      refine z_calli hS (va_runS (As := [.int ((x0 - 1)), .int (r3), .int (r6), .int (r9)]) (rest := [.int (x4)]) C (c_X3_clearestOfAllLevers_v4 l G e14 _) (va_cwS 4 hts gX3_clearestOfAllLevers_X3_clearestOfAllLevers rfl rfl rfl hd_X3_clearestOfAllLevers_v4 ⟨Nat.le_of_ble_eq_true rfl, Nat.le_of_ble_eq_true rfl⟩) (z_preS Z hS hP) rfl rfl hl.1 rfl (lv_room (Nat.le_of_ble_eq_true rfl)) dX3_clearestOfAllLevers_51 ⟨Nat.zero_le _, Nat.zero_le _⟩) (fun H locs hP hS => ?_)
      refine va_mmax hx hb (C.2.2.1.trans hl.1.symm) C.2.2.2.1 (C.2.2.2.2 _ wX3_clearestOfAllLevers_v5_0) (C.2.2.2.2 _ wX3_clearestOfAllLevers_v5_1) (C.2.2.2.2 _ wX3_clearestOfAllLevers_v5_2) (C.2.2.2.2 _ wX3_clearestOfAllLevers_v5_3) (Nat.le_of_ble_eq_true rfl) (Nat.le_of_ble_eq_true rfl) (Nat.zero_le _) (Nat.zero_le _) dX3_clearestOfAllLevers_54 ?_
      refine lv_istore (lv' := [(4, .int ((if x4 < r12 then r12 else x4))), (7, .int (r6)), (6, .int (r3)), (0, .int (x0)), (1, .int (x1)), (2, .int (x2)), (3, .int (x3)), (5, .int (x5))]) hx hb dX3_clearestOfAllLevers_57 hl (by decide) rfl (fun ls hl => ?_)
      refine lv_iinc (v := (x5 + 1)) (lv' := [(5, .int ((x5 + 1))), (4, .int ((if x4 < r12 then r12 else x4))), (7, .int (r6)), (6, .int (r3)), (0, .int (x0)), (1, .int (x1)), (2, .int (x2)), (3, .int (x3))]) hx hb dX3_clearestOfAllLevers_59 hl (k := 7) rfl rfl (by decide) rfl (fun ls hl => ?_)
      refine lv_goto (tgt := 12) hx hb dX3_clearestOfAllLevers_62 (by decide) ?_
      exact ih _ _ _ _ _ _ _ h _ _ hP hS ls (lv_sub hl [4, 5, 6, 7, 1, 0] rfl)
set_option maxHeartbeats 4000000 in
set_option maxRecDepth 100000 in
theorem c_X3_clearestOfAllLevers_v5 (l : Launch) (G : zG) {x0 : Int32} {x1 : Int32} {x2 : Int32} {x3 : Int32} {μ mu1 : Mm} {r : Int32} (h : f_X3_clearestOfAllLevers_v5 x0 x1 x2 x3 μ = some (r, mu1)) (sz : Nat) : Met l yX3_clearestOfAllLevers wsX3_clearestOfAllLevers rm_X3_clearestOfAllLevers_v5 (z_Pre G μ [.int (x0), .int (x1), .int (x2), .int (x3)] sz) (z_Qi G r mu1 sz) 0 0 (z_A G sz) := by
  refine z_start (cc := cX3_clearestOfAllLevers) (maxL := 8) (ret := (some .int)) (own := RX3) (by decide) rfl rfl (Nat.le_of_ble_eq_true rfl) (fun p e s m args below meth c C hr hlk Z hP ls hl => ?_) sz
  have hx := C.1
  have hb := C.2.1
  have hts := C.2.2.2.2
  have hS : va_S (z_A G s.heap.size) s.heap s.heap [] := va_S.rf
  have hl : lv_has ls 8 [(0, .int (x0)), (1, .int (x1)), (2, .int (x2)), (3, .int (x3))] := hl
  unfold f_X3_clearestOfAllLevers_v5 at h
  refine lv_iload_n hx hb dX3_clearestOfAllLevers_0 rfl (lv_at hl 0 rfl) ?_
  refine lv_if_gt (tgt := 6) hx hb dX3_clearestOfAllLevers_1 (by decide) (fun hc1 => ?_) (fun hc1 => ?_)
  · have h := z_ip hc1 h
    refine lv_iconst (v := (-1)) hx hb dX3_clearestOfAllLevers_6 (by decide) ?_
    refine lv_istore (lv' := [(4, .int ((-1))), (0, .int (x0)), (1, .int (x1)), (2, .int (x2)), (3, .int (x3))]) hx hb dX3_clearestOfAllLevers_7 hl (by decide) rfl (fun ls hl => ?_)
    refine lv_iconst (v := 1) hx hb dX3_clearestOfAllLevers_9 (by decide) ?_
    refine lv_istore (lv' := [(5, .int (1)), (4, .int ((-1))), (0, .int (x0)), (1, .int (x1)), (2, .int (x2)), (3, .int (x3))]) hx hb dX3_clearestOfAllLevers_10 hl (by decide) rfl (fun ls hl => ?_)
    exact L_X3_clearestOfAllLevers_v5_b12 C hr hlk Z z_F _ _ _ _ _ _ _ h _ _ hP hS ls (lv_sub hl [2, 3, 4, 5, 1, 0] rfl)
  · have h := z_in hc1 h
    refine lv_iload_n hx hb dX3_clearestOfAllLevers_4 rfl (lv_at hl 2 rfl) ?_
    cases h
    exact z_reti C hr hlk hP hS dX3_clearestOfAllLevers_5
abbrev rm_X3_chain : Room := { frames := 8, cells := 0, slots := 0, locals := 205 }
theorem hd_X3_chain : yX3_chain.cls ≠ "java/lang/invoke/MethodHandle" ∧ yX3_chain.cls ≠ "java/lang/invoke/VarHandle" ∧ (parseMethodDescriptor yX3_chain.desc).map (fun d => d.parameters.length) = some 3 := by decide +kernel
theorem hv_X3_chain : yX3_chain.cls = RX3 ∧ yX3_chain.cls ≠ "java/lang/invoke/MethodHandle" ∧ yX3_chain.cls ≠ "java/lang/invoke/VarHandle" ∧ (parseMethodDescriptor yX3_chain.desc).map (fun d => d.parameters.length) = some 3 := ⟨rfl, hd_X3_chain⟩
theorem wX3_chain_0 : Cond.fieldLink RX3 12 "WaxCopies" "now" "LWaxCopies$Wax;" ∈ wsX3_chain := by decide +kernel
theorem inX3_chain_X3 : ∀ w ∈ wsX30, w ∈ wsX3_chain := by decide +kernel
theorem wX3_chain_2 : Cond.fieldLink RX3 169 "WaxCopies$Wax" "depth" "[I" ∈ wsX3_chain := by decide +kernel
theorem inX3_chain_X2 : ∀ w ∈ wsX20, w ∈ wsX3_chain := by decide +kernel
theorem wX3_chain_4 : Cond.fieldLink RX3 173 "WaxCopies$Wax" "clearness" "[I" ∈ wsX3_chain := by decide +kernel
theorem wX3_chain_5 : Cond.fieldLink RX3 176 "WaxCopies$Wax" "sharpness" "I" ∈ wsX3_chain := by decide +kernel
theorem wX3_chain_6 : Cond.fieldLink RX3 41 "WaxCopies" "steps" "LWaxCopies$Steps;" ∈ wsX3_chain := by decide +kernel
set_option maxHeartbeats 4000000 in
set_option maxRecDepth 100000 in
theorem c_X3_chain (l : Launch) (G : zG) {x1 : Int32} {x2 : Int32} {x3 : Int32} {μ mu1 : Mm} {r : Int32} (h : f_X3_chain x1 x2 x3 μ = some (.inr r, mu1)) (sz : Nat) : Met l yX3_chain wsX3_chain rm_X3_chain (z_Pre G μ [.ref (G.2.1 (90)), .int (x1), .int (x2), .int (x3)] sz) (z_Qi G r mu1 sz) 0 0 (z_A G sz) := by
  refine z_start (cc := cX3_chain) (maxL := 6) (ret := (some .int)) (own := RX3) (by decide) rfl rfl (Nat.le_of_ble_eq_true rfl) (fun p e s m args below meth c C hr hlk Z hP ls hl => ?_) sz
  have hx := C.1
  have hb := C.2.1
  have hts := C.2.2.2.2
  have hS : va_S (z_A G s.heap.size) s.heap s.heap [] := va_S.rf
  have hl : lv_has ls 6 [(0, .ref (G.2.1 (90))), (1, .int (x1)), (2, .int (x2)), (3, .int (x3))] := hl
  unfold f_X3_chain at h
  refine lv_aload_n hx hb dX3_chain_0 rfl (lv_at hl 0 rfl) ?_
  refine lv_iload_n hx hb dX3_chain_1 rfl (lv_at hl 1 rfl) ?_
  obtain ⟨r1, m2, e3, h⟩ := zbx_r h
  refine z_callv hS (va_runV (As := [.int (x1)]) (rest := []) C (c_X3_checkTrack l G e3 _) (cwV 1 hts gX3_chain_X3_checkTrack rfl rfl rfl hv_X3_checkTrack ⟨Nat.le_of_ble_eq_true rfl, Nat.le_of_ble_eq_true rfl⟩) (z_preV Z hS hP (by decide) (z_E_90 _) rfl rfl) rfl rfl hl.1 rfl (lv_room (Nat.le_of_ble_eq_true rfl)) dX3_chain_2 ⟨Nat.zero_le _, Nat.zero_le _⟩) (fun H locs hP hS => ?_)
  refine lv_iload_n hx hb dX3_chain_5 rfl (lv_at hl 2 rfl) ?_
  refine lv_iconst (v := 1) hx hb dX3_chain_6 (by decide) ?_
  refine lv_icmp_lt (tgt := 15) hx hb dX3_chain_7 (by decide) (fun hc4 => ?_) (fun hc4 => ?_)
  · have h := z_ip hc4 h
    cases h
  · have h := z_in hc4 h
    refine lv_iload_n hx hb dX3_chain_10 rfl (lv_at hl 2 rfl) ?_
    refine lv_iconst (v := 5) hx hb dX3_chain_11 (by decide) ?_
    refine lv_icmp_le (tgt := 25) hx hb dX3_chain_12 (by decide) (fun hc5 => ?_) (fun hc5 => ?_)
    · have h := z_ip hc5 h
      refine lv_aload_n hx hb dX3_chain_25 rfl (lv_at hl 0 rfl) ?_
      refine lv_iload_n hx hb dX3_chain_26 rfl (lv_at hl 3 rfl) ?_
      refine lv_iconst (v := 2) hx hb dX3_chain_27 (by decide) ?_
      obtain ⟨r6, m7, e8, h⟩ := zbx_r h
      refine z_callv hS (va_runV (As := [.int (x3), .int (2)]) (rest := []) C (c_X3_checkWhat l G e8 _) (cwV 2 hts gX3_chain_X3_checkWhat rfl rfl rfl hv_X3_checkWhat ⟨Nat.le_of_ble_eq_true rfl, Nat.le_of_ble_eq_true rfl⟩) (z_preV Z hS hP (by decide) (z_E_90 _) rfl rfl) rfl rfl hl.1 rfl (lv_room (Nat.le_of_ble_eq_true rfl)) dX3_chain_28 ⟨Nat.zero_le _, Nat.zero_le _⟩) (fun H locs hP hS => ?_)
      refine lv_aload_n hx hb dX3_chain_31 rfl (lv_at hl 0 rfl) ?_
      refine z_get C Z hP (k := 90) (ci := 3) (j := 0) (N := 7) (v := .ref (G.2.1 (0))) (by decide) (z_E_90 _) rfl inX3_chain_X3 (by decide) wX3_chain_0 rfl dX3_chain_32 ?_
      refine lv_iload_n hx hb dX3_chain_35 rfl (lv_at hl 1 rfl) ?_
      obtain ⟨r9, m10, e11, h⟩ := zb_some h
      refine z_calli hS (va_runV (As := [.int (x1)]) (rest := []) C (c_X2_isCut l G e11 _) (cwV 1 hts gX3_chain_X2_isCut rfl rfl rfl hv_X2_isCut ⟨Nat.le_of_ble_eq_true rfl, Nat.le_of_ble_eq_true rfl⟩) (z_preV Z hS hP (by decide) (z_E_0 _) rfl rfl) rfl rfl hl.1 rfl (lv_room (Nat.le_of_ble_eq_true rfl)) dX3_chain_36 ⟨Nat.zero_le _, Nat.zero_le _⟩) (fun H locs hP hS => ?_)
      refine lv_if_ne (tgt := 44) hx hb dX3_chain_39 (by decide) (fun hc12 => ?_) (fun hc12 => ?_)
      · have h := z_in hc12 h
        refine lv_aload_n hx hb dX3_chain_44 rfl (lv_at hl 0 rfl) ?_
        refine z_get C Z hP (k := 90) (ci := 3) (j := 0) (N := 7) (v := .ref (G.2.1 (0))) (by decide) (z_E_90 _) rfl inX3_chain_X3 (by decide) wX3_chain_0 rfl dX3_chain_45 ?_
        refine z_get C Z hP (k := 0) (ci := 2) (j := 0) (N := 19) (v := .ref (G.2.1 (1))) (by decide) (z_E_0 _) rfl inX3_chain_X2 (by decide) wX3_chain_2 rfl dX3_chain_48 ?_
        refine lv_iload_n hx hb dX3_chain_51 rfl (lv_at hl 1 rfl) ?_
        obtain ⟨hg13, h⟩ := z_g h
        refine z_iald C Z hP (k := 1) (n := 24) (j := (x1).toNatClampNeg) (by decide) (z_E_1 _) hg13 rfl dX3_chain_52 ?_
        refine lv_istore (lv' := [(4, .int ((m10 (1) ((x1).toNatClampNeg)))), (0, .ref (G.2.1 (90))), (1, .int (x1)), (2, .int (x2)), (3, .int (x3))]) hx hb dX3_chain_53 hl (by decide) rfl (fun ls hl => ?_)
        refine lv_aload_n hx hb dX3_chain_55 rfl (lv_at hl 1 rfl) ?_
        refine z_get C Z hP (k := 90) (ci := 3) (j := 0) (N := 7) (v := .ref (G.2.1 (0))) (by decide) (z_E_90 _) rfl inX3_chain_X3 (by decide) wX3_chain_0 rfl dX3_chain_56 ?_
        refine z_get C Z hP (k := 0) (ci := 2) (j := 1) (N := 19) (v := .ref (G.2.1 (2))) (by decide) (z_E_0 _) rfl inX3_chain_X2 (by decide) wX3_chain_4 rfl dX3_chain_59 ?_
        refine lv_iload_n hx hb dX3_chain_62 rfl (lv_at hl 2 rfl) ?_
        refine z_iald C Z hP (k := 2) (n := 24) (j := (x1).toNatClampNeg) (by decide) (z_E_2 _) hg13 rfl dX3_chain_63 ?_
        refine lv_istore (lv' := [(5, .int ((m10 (2) ((x1).toNatClampNeg)))), (4, .int ((m10 (1) ((x1).toNatClampNeg)))), (0, .ref (G.2.1 (90))), (1, .int (x1)), (2, .int (x2)), (3, .int (x3))]) hx hb dX3_chain_64 hl (by decide) rfl (fun ls hl => ?_)
        refine lv_iload_n hx hb dX3_chain_66 rfl (lv_at hl 5 rfl) ?_
        refine lv_if_ne (tgt := 90) hx hb dX3_chain_67 (by decide) (fun hc14 => ?_) (fun hc14 => ?_)
        · have h := z_in hc14 h
          refine lv_iload_n hx hb dX3_chain_90 rfl (lv_at hl 4 rfl) ?_
          refine lv_iload hx hb dX3_chain_91 (lv_at hl 1 rfl) ?_
          refine lv_iload hx hb dX3_chain_93 (lv_at hl 0 rfl) ?_
          refine lv_aload_n hx hb dX3_chain_95 rfl (lv_at hl 2 rfl) ?_
          refine z_get C Z hP (k := 90) (ci := 3) (j := 0) (N := 7) (v := .ref (G.2.1 (0))) (by decide) (z_E_90 _) rfl inX3_chain_X3 (by decide) wX3_chain_0 rfl dX3_chain_96 ?_
          refine z_get C Z hP (k := 0) (ci := 2) (j := 9) (N := 19) (v := .int ((m10 0 9))) (by decide) (z_E_0 _) rfl inX3_chain_X2 (by decide) wX3_chain_5 rfl dX3_chain_99 ?_
          obtain ⟨r15, m16, e17, h⟩ := zb_some h
          refine z_calli hS (va_runS (As := [.int (x2), .int ((m10 (1) ((x1).toNatClampNeg))), .int ((m10 (2) ((x1).toNatClampNeg))), .int ((m10 0 9))]) (rest := []) C (c_X3_clearestOfAllLevers_v5 l G e17 _) (va_cwS 4 hts gX3_chain_X3_clearestOfAllLevers rfl rfl rfl hd_X3_clearestOfAllLevers_v5 ⟨Nat.le_of_ble_eq_true rfl, Nat.le_of_ble_eq_true rfl⟩) (z_preS Z hS hP) rfl rfl hl.1 rfl (lv_room (Nat.le_of_ble_eq_true rfl)) dX3_chain_102 ⟨Nat.zero_le _, Nat.zero_le _⟩) (fun H locs hP hS => ?_)
          cases h
          exact z_reti C hr hlk hP hS dX3_chain_105
        · have h := z_ip hc14 h
          refine lv_aload_n hx hb dX3_chain_70 rfl (lv_at hl 2 rfl) ?_
          refine z_get C Z hP (k := 90) (ci := 3) (j := 6) (N := 7) (v := .ref (G.2.1 (96))) (by decide) (z_E_90 _) rfl inX3_chain_X3 (by decide) wX3_chain_6 rfl dX3_chain_71 ?_
          refine lv_iload_n hx hb dX3_chain_74 rfl (lv_at hl 4 rfl) ?_
          refine lv_iload hx hb dX3_chain_75 (lv_at hl 1 rfl) ?_
          refine lv_iload hx hb dX3_chain_77 (lv_at hl 0 rfl) ?_
          refine lv_aload_n hx hb dX3_chain_79 rfl (lv_at hl 2 rfl) ?_
          refine z_get C Z hP (k := 90) (ci := 3) (j := 0) (N := 7) (v := .ref (G.2.1 (0))) (by decide) (z_E_90 _) rfl inX3_chain_X3 (by decide) wX3_chain_0 rfl dX3_chain_80 ?_
          refine z_get C Z hP (k := 0) (ci := 2) (j := 9) (N := 19) (v := .int ((m10 0 9))) (by decide) (z_E_0 _) rfl inX3_chain_X2 (by decide) wX3_chain_5 rfl dX3_chain_83 ?_
          obtain ⟨r18, m19, e20, h⟩ := zb_some h
          refine z_calli hS (va_runV (As := [.int (x2), .int ((m10 (1) ((x1).toNatClampNeg))), .int ((m10 (2) ((x1).toNatClampNeg))), .int ((m10 0 9))]) (rest := []) C (c_X1_clearestAfter l G e20 _) (cwV 4 hts gX3_chain_X1_clearestAfter rfl rfl rfl hv_X1_clearestAfter ⟨Nat.le_of_ble_eq_true rfl, Nat.le_of_ble_eq_true rfl⟩) (z_preV Z hS hP (by decide) (z_E_96 _) rfl rfl) rfl rfl hl.1 rfl (lv_room (Nat.le_of_ble_eq_true rfl)) dX3_chain_86 ⟨Nat.zero_le _, Nat.zero_le _⟩) (fun H locs hP hS => ?_)
          cases h
          exact z_reti C hr hlk hP hS dX3_chain_89
      · have h := z_ip hc12 h
        refine lv_iconst (v := (-1)) hx hb dX3_chain_42 (by decide) ?_
        cases h
        exact z_reti C hr hlk hP hS dX3_chain_43
    · have h := z_in hc5 h
      cases h
abbrev rm_X3_clearest : Room := { frames := 2, cells := 0, slots := 0, locals := 44 }
theorem hd_X3_clearest : yX3_clearest.cls ≠ "java/lang/invoke/MethodHandle" ∧ yX3_clearest.cls ≠ "java/lang/invoke/VarHandle" ∧ (parseMethodDescriptor yX3_clearest.desc).map (fun d => d.parameters.length) = some 0 := by decide +kernel
theorem hv_X3_clearest : yX3_clearest.cls = RX3 ∧ yX3_clearest.cls ≠ "java/lang/invoke/MethodHandle" ∧ yX3_clearest.cls ≠ "java/lang/invoke/VarHandle" ∧ (parseMethodDescriptor yX3_clearest.desc).map (fun d => d.parameters.length) = some 0 := ⟨rfl, hd_X3_clearest⟩
theorem wX3_clearest_0 : Cond.fieldLink RX3 12 "WaxCopies" "now" "LWaxCopies$Wax;" ∈ wsX3_clearest := by decide +kernel
theorem inX3_clearest_X3 : ∀ w ∈ wsX30, w ∈ wsX3_clearest := by decide +kernel
set_option maxHeartbeats 4000000 in
set_option maxRecDepth 100000 in
theorem c_X3_clearest (l : Launch) (G : zG) {μ mu1 : Mm} {r : Int32} (h : f_X3_clearest μ = some (r, mu1)) (sz : Nat) : Met l yX3_clearest wsX3_clearest rm_X3_clearest (z_Pre G μ [.ref (G.2.1 (90))] sz) (z_Qi G r mu1 sz) 0 0 (z_A G sz) := by
  refine z_start (cc := cX3_clearest) (maxL := 1) (ret := (some .int)) (own := RX3) (by decide) rfl rfl (Nat.le_of_ble_eq_true rfl) (fun p e s m args below meth c C hr hlk Z hP ls hl => ?_) sz
  have hx := C.1
  have hb := C.2.1
  have hts := C.2.2.2.2
  have hS : va_S (z_A G s.heap.size) s.heap s.heap [] := va_S.rf
  have hl : lv_has ls 1 [(0, .ref (G.2.1 (90)))] := hl
  unfold f_X3_clearest at h
  refine lv_aload_n hx hb dX3_clearest_0 rfl (lv_at hl 0 rfl) ?_
  refine z_get C Z hP (k := 90) (ci := 3) (j := 0) (N := 7) (v := .ref (G.2.1 (0))) (by decide) (z_E_90 _) rfl inX3_clearest_X3 (by decide) wX3_clearest_0 rfl dX3_clearest_1 ?_
  obtain ⟨r1, m2, e3, h⟩ := zb_some h
  refine z_calli hS (va_runV (As := []) (rest := []) C (c_X2_clearestTrack l G e3 _) (cwV 0 hts gX3_clearest_X2_clearestTrack rfl rfl rfl hv_X2_clearestTrack ⟨Nat.le_of_ble_eq_true rfl, Nat.le_of_ble_eq_true rfl⟩) (z_preV Z hS hP (by decide) (z_E_0 _) rfl rfl) rfl rfl hl.1 rfl (lv_room (Nat.le_of_ble_eq_true rfl)) dX3_clearest_4 ⟨Nat.zero_le _, Nat.zero_le _⟩) (fun H locs hP hS => ?_)
  cases h
  exact z_reti C hr hlk hP hS dX3_clearest_7
abbrev rm_X3_daughters : Room := { frames := 2, cells := 0, slots := 0, locals := 47 }
theorem hd_X3_daughters : yX3_daughters.cls ≠ "java/lang/invoke/MethodHandle" ∧ yX3_daughters.cls ≠ "java/lang/invoke/VarHandle" ∧ (parseMethodDescriptor yX3_daughters.desc).map (fun d => d.parameters.length) = some 1 := by decide +kernel
theorem hv_X3_daughters : yX3_daughters.cls = RX3 ∧ yX3_daughters.cls ≠ "java/lang/invoke/MethodHandle" ∧ yX3_daughters.cls ≠ "java/lang/invoke/VarHandle" ∧ (parseMethodDescriptor yX3_daughters.desc).map (fun d => d.parameters.length) = some 1 := ⟨rfl, hd_X3_daughters⟩
theorem wX3_daughters_0 : Cond.fieldLink RX3 12 "WaxCopies" "now" "LWaxCopies$Wax;" ∈ wsX3_daughters := by decide +kernel
theorem inX3_daughters_X3 : ∀ w ∈ wsX30, w ∈ wsX3_daughters := by decide +kernel
set_option maxHeartbeats 4000000 in
set_option maxRecDepth 100000 in
theorem c_X3_daughters (l : Launch) (G : zG) {x1 : Int32} {μ mu1 : Mm} {r : Int32} (h : f_X3_daughters x1 μ = some (.inr r, mu1)) (sz : Nat) : Met l yX3_daughters wsX3_daughters rm_X3_daughters (z_Pre G μ [.ref (G.2.1 (90)), .int (x1)] sz) (z_Qi G r mu1 sz) 0 0 (z_A G sz) := by
  refine z_start (cc := cX3_daughters) (maxL := 2) (ret := (some .int)) (own := RX3) (by decide) rfl rfl (Nat.le_of_ble_eq_true rfl) (fun p e s m args below meth c C hr hlk Z hP ls hl => ?_) sz
  have hx := C.1
  have hb := C.2.1
  have hts := C.2.2.2.2
  have hS : va_S (z_A G s.heap.size) s.heap s.heap [] := va_S.rf
  have hl : lv_has ls 2 [(0, .ref (G.2.1 (90))), (1, .int (x1))] := hl
  unfold f_X3_daughters at h
  refine lv_aload_n hx hb dX3_daughters_0 rfl (lv_at hl 0 rfl) ?_
  refine lv_iload_n hx hb dX3_daughters_1 rfl (lv_at hl 1 rfl) ?_
  obtain ⟨r1, m2, e3, h⟩ := zbx_r h
  refine z_callv hS (va_runV (As := [.int (x1)]) (rest := []) C (c_X3_checkTrack l G e3 _) (cwV 1 hts gX3_daughters_X3_checkTrack rfl rfl rfl hv_X3_checkTrack ⟨Nat.le_of_ble_eq_true rfl, Nat.le_of_ble_eq_true rfl⟩) (z_preV Z hS hP (by decide) (z_E_90 _) rfl rfl) rfl rfl hl.1 rfl (lv_room (Nat.le_of_ble_eq_true rfl)) dX3_daughters_2 ⟨Nat.zero_le _, Nat.zero_le _⟩) (fun H locs hP hS => ?_)
  refine lv_aload_n hx hb dX3_daughters_5 rfl (lv_at hl 0 rfl) ?_
  refine z_get C Z hP (k := 90) (ci := 3) (j := 0) (N := 7) (v := .ref (G.2.1 (0))) (by decide) (z_E_90 _) rfl inX3_daughters_X3 (by decide) wX3_daughters_0 rfl dX3_daughters_6 ?_
  refine lv_iload_n hx hb dX3_daughters_9 rfl (lv_at hl 1 rfl) ?_
  obtain ⟨r4, m5, e6, h⟩ := zb_some h
  refine z_calli hS (va_runV (As := [.int (x1)]) (rest := []) C (c_X2_descendants l G e6 _) (cwV 1 hts gX3_daughters_X2_descendants rfl rfl rfl hv_X2_descendants ⟨Nat.le_of_ble_eq_true rfl, Nat.le_of_ble_eq_true rfl⟩) (z_preV Z hS hP (by decide) (z_E_0 _) rfl rfl) rfl rfl hl.1 rfl (lv_room (Nat.le_of_ble_eq_true rfl)) dX3_daughters_10 ⟨Nat.zero_le _, Nat.zero_le _⟩) (fun H locs hP hS => ?_)
  cases h
  exact z_reti C hr hlk hP hS dX3_daughters_13
abbrev rm_X3_meanDepth : Room := { frames := 3, cells := 0, slots := 0, locals := 67 }
theorem hd_X3_meanDepth : yX3_meanDepth.cls ≠ "java/lang/invoke/MethodHandle" ∧ yX3_meanDepth.cls ≠ "java/lang/invoke/VarHandle" ∧ (parseMethodDescriptor yX3_meanDepth.desc).map (fun d => d.parameters.length) = some 0 := by decide +kernel
theorem hv_X3_meanDepth : yX3_meanDepth.cls = RX3 ∧ yX3_meanDepth.cls ≠ "java/lang/invoke/MethodHandle" ∧ yX3_meanDepth.cls ≠ "java/lang/invoke/VarHandle" ∧ (parseMethodDescriptor yX3_meanDepth.desc).map (fun d => d.parameters.length) = some 0 := ⟨rfl, hd_X3_meanDepth⟩
theorem wX3_meanDepth_0 : Cond.fieldLink RX3 12 "WaxCopies" "now" "LWaxCopies$Wax;" ∈ wsX3_meanDepth := by decide +kernel
theorem inX3_meanDepth_X3 : ∀ w ∈ wsX30, w ∈ wsX3_meanDepth := by decide +kernel
set_option maxHeartbeats 4000000 in
set_option maxRecDepth 100000 in
theorem c_X3_meanDepth (l : Launch) (G : zG) {μ mu1 : Mm} {r : UInt32} (h : f_X3_meanDepth μ = some (r, mu1)) (sz : Nat) : Met l yX3_meanDepth wsX3_meanDepth rm_X3_meanDepth (z_Pre G μ [.ref (G.2.1 (90))] sz) (z_Qf G r mu1 sz) 0 0 (z_A G sz) := by
  refine z_start (cc := cX3_meanDepth) (maxL := 2) (ret := (some .float)) (own := RX3) (by decide) rfl rfl (Nat.le_of_ble_eq_true rfl) (fun p e s m args below meth c C hr hlk Z hP ls hl => ?_) sz
  have hx := C.1
  have hb := C.2.1
  have hts := C.2.2.2.2
  have hS : va_S (z_A G s.heap.size) s.heap s.heap [] := va_S.rf
  have hl : lv_has ls 2 [(0, .ref (G.2.1 (90)))] := hl
  unfold f_X3_meanDepth at h
  refine lv_aload_n hx hb dX3_meanDepth_0 rfl (lv_at hl 0 rfl) ?_
  refine z_get C Z hP (k := 90) (ci := 3) (j := 0) (N := 7) (v := .ref (G.2.1 (0))) (by decide) (z_E_90 _) rfl inX3_meanDepth_X3 (by decide) wX3_meanDepth_0 rfl dX3_meanDepth_1 ?_
  obtain ⟨r1, m2, e3, h⟩ := zb_some h
  refine z_calli hS (va_runV (As := []) (rest := []) C (c_X2_cutTracks l G e3 _) (cwV 0 hts gX3_meanDepth_X2_cutTracks rfl rfl rfl hv_X2_cutTracks ⟨Nat.le_of_ble_eq_true rfl, Nat.le_of_ble_eq_true rfl⟩) (z_preV Z hS hP (by decide) (z_E_0 _) rfl rfl) rfl rfl hl.1 rfl (lv_room (Nat.le_of_ble_eq_true rfl)) dX3_meanDepth_4 ⟨Nat.zero_le _, Nat.zero_le _⟩) (fun H locs hP hS => ?_)
  refine lv_istore_n (lv' := [(1, .int (r1)), (0, .ref (G.2.1 (90)))]) hx hb dX3_meanDepth_7 rfl hl (by decide) rfl (fun ls hl => ?_)
  refine lv_iload_n hx hb dX3_meanDepth_8 rfl (lv_at hl 0 rfl) ?_
  refine lv_if_gt (tgt := 16) hx hb dX3_meanDepth_9 (by decide) (fun hc4 => ?_) (fun hc4 => ?_)
  · have h := z_ip hc4 h
    refine lv_aload_n hx hb dX3_meanDepth_16 rfl (lv_at hl 1 rfl) ?_
    refine z_get C Z hP (k := 90) (ci := 3) (j := 0) (N := 7) (v := .ref (G.2.1 (0))) (by decide) (z_E_90 _) rfl inX3_meanDepth_X3 (by decide) wX3_meanDepth_0 rfl dX3_meanDepth_17 ?_
    obtain ⟨r5, m6, e7, h⟩ := zb_some h
    refine z_calli hS (va_runV (As := []) (rest := []) C (c_X2_depthTogether l G e7 _) (cwV 0 hts gX3_meanDepth_X2_depthTogether rfl rfl rfl hv_X2_depthTogether ⟨Nat.le_of_ble_eq_true rfl, Nat.le_of_ble_eq_true rfl⟩) (z_preV Z hS hP (by decide) (z_E_0 _) rfl rfl) rfl rfl hl.1 rfl (lv_room (Nat.le_of_ble_eq_true rfl)) dX3_meanDepth_20 ⟨Nat.zero_le _, Nat.zero_le _⟩) (fun H locs hP hS => ?_)
    refine lv_i2f hx hb dX3_meanDepth_23 ?_
    refine lv_iload_n hx hb dX3_meanDepth_24 rfl (lv_at hl 0 rfl) ?_
    refine lv_i2f hx hb dX3_meanDepth_25 ?_
    obtain ⟨hg8, h⟩ := z_g h
    refine lv_fdiv hx hb dX3_meanDepth_26 hg8 ?_
    cases h
    exact z_retf C hr hlk hP hS dX3_meanDepth_27
  · have h := z_in hc4 h
    refine lv_fconst0 hx hb dX3_meanDepth_12 ?_
    refine lv_goto (tgt := 27) hx hb dX3_meanDepth_13 (by decide) ?_
    cases h
    exact z_retf C hr hlk hP hS dX3_meanDepth_27
abbrev rm_X3_clearShare : Room := { frames := 3, cells := 0, slots := 0, locals := 67 }
theorem hd_X3_clearShare : yX3_clearShare.cls ≠ "java/lang/invoke/MethodHandle" ∧ yX3_clearShare.cls ≠ "java/lang/invoke/VarHandle" ∧ (parseMethodDescriptor yX3_clearShare.desc).map (fun d => d.parameters.length) = some 0 := by decide +kernel
theorem hv_X3_clearShare : yX3_clearShare.cls = RX3 ∧ yX3_clearShare.cls ≠ "java/lang/invoke/MethodHandle" ∧ yX3_clearShare.cls ≠ "java/lang/invoke/VarHandle" ∧ (parseMethodDescriptor yX3_clearShare.desc).map (fun d => d.parameters.length) = some 0 := ⟨rfl, hd_X3_clearShare⟩
theorem wX3_clearShare_0 : Cond.fieldLink RX3 12 "WaxCopies" "now" "LWaxCopies$Wax;" ∈ wsX3_clearShare := by decide +kernel
theorem inX3_clearShare_X3 : ∀ w ∈ wsX30, w ∈ wsX3_clearShare := by decide +kernel
set_option maxHeartbeats 4000000 in
set_option maxRecDepth 100000 in
theorem c_X3_clearShare (l : Launch) (G : zG) {μ mu1 : Mm} {r : UInt64} (h : f_X3_clearShare μ = some (r, mu1)) (sz : Nat) : Met l yX3_clearShare wsX3_clearShare rm_X3_clearShare (z_Pre G μ [.ref (G.2.1 (90))] sz) (z_Qd G r mu1 sz) 0 0 (z_A G sz) := by
  refine z_start (cc := cX3_clearShare) (maxL := 2) (ret := (some .double)) (own := RX3) (by decide) rfl rfl (Nat.le_of_ble_eq_true rfl) (fun p e s m args below meth c C hr hlk Z hP ls hl => ?_) sz
  have hx := C.1
  have hb := C.2.1
  have hts := C.2.2.2.2
  have hS : va_S (z_A G s.heap.size) s.heap s.heap [] := va_S.rf
  have hl : lv_has ls 2 [(0, .ref (G.2.1 (90)))] := hl
  unfold f_X3_clearShare at h
  refine lv_aload_n hx hb dX3_clearShare_0 rfl (lv_at hl 0 rfl) ?_
  refine z_get C Z hP (k := 90) (ci := 3) (j := 0) (N := 7) (v := .ref (G.2.1 (0))) (by decide) (z_E_90 _) rfl inX3_clearShare_X3 (by decide) wX3_clearShare_0 rfl dX3_clearShare_1 ?_
  obtain ⟨r1, m2, e3, h⟩ := zb_some h
  refine z_calli hS (va_runV (As := []) (rest := []) C (c_X2_cutTracks l G e3 _) (cwV 0 hts gX3_clearShare_X2_cutTracks rfl rfl rfl hv_X2_cutTracks ⟨Nat.le_of_ble_eq_true rfl, Nat.le_of_ble_eq_true rfl⟩) (z_preV Z hS hP (by decide) (z_E_0 _) rfl rfl) rfl rfl hl.1 rfl (lv_room (Nat.le_of_ble_eq_true rfl)) dX3_clearShare_4 ⟨Nat.zero_le _, Nat.zero_le _⟩) (fun H locs hP hS => ?_)
  refine lv_istore_n (lv' := [(1, .int (r1)), (0, .ref (G.2.1 (90)))]) hx hb dX3_clearShare_7 rfl hl (by decide) rfl (fun ls hl => ?_)
  refine lv_iload_n hx hb dX3_clearShare_8 rfl (lv_at hl 0 rfl) ?_
  refine lv_if_gt (tgt := 16) hx hb dX3_clearShare_9 (by decide) (fun hc4 => ?_) (fun hc4 => ?_)
  · have h := z_ip hc4 h
    refine lv_aload_n hx hb dX3_clearShare_16 rfl (lv_at hl 1 rfl) ?_
    refine z_get C Z hP (k := 90) (ci := 3) (j := 0) (N := 7) (v := .ref (G.2.1 (0))) (by decide) (z_E_90 _) rfl inX3_clearShare_X3 (by decide) wX3_clearShare_0 rfl dX3_clearShare_17 ?_
    obtain ⟨r5, m6, e7, h⟩ := zb_some h
    refine z_calli hS (va_runV (As := []) (rest := []) C (c_X2_clearnessTogether l G e7 _) (cwV 0 hts gX3_clearShare_X2_clearnessTogether rfl rfl rfl hv_X2_clearnessTogether ⟨Nat.le_of_ble_eq_true rfl, Nat.le_of_ble_eq_true rfl⟩) (z_preV Z hS hP (by decide) (z_E_0 _) rfl rfl) rfl rfl hl.1 rfl (lv_room (Nat.le_of_ble_eq_true rfl)) dX3_clearShare_20 ⟨Nat.zero_le _, Nat.zero_le _⟩) (fun H locs hP hS => ?_)
    refine lv_i2d hx hb dX3_clearShare_23 ?_
    refine lv_bipush (v := 100) hx hb dX3_clearShare_24 (by decide) ?_
    refine lv_iload_n hx hb dX3_clearShare_26 rfl (lv_at hl 0 rfl) ?_
    refine lv_imul hx hb dX3_clearShare_27 ?_
    refine lv_i2d hx hb dX3_clearShare_28 ?_
    obtain ⟨hg8, h⟩ := z_g h
    refine lv_ddiv hx hb dX3_clearShare_29 hg8 ?_
    cases h
    exact z_retd C hr hlk hP hS dX3_clearShare_30
  · have h := z_in hc4 h
    refine lv_dconst0 hx hb dX3_clearShare_12 ?_
    refine lv_goto (tgt := 30) hx hb dX3_clearShare_13 (by decide) ?_
    cases h
    exact z_retd C hr hlk hP hS dX3_clearShare_30
abbrev rm_X3_mixed : Room := { frames := 0, cells := 0, slots := 0, locals := 0 }
theorem hd_X3_mixed : yX3_mixed.cls ≠ "java/lang/invoke/MethodHandle" ∧ yX3_mixed.cls ≠ "java/lang/invoke/VarHandle" ∧ (parseMethodDescriptor yX3_mixed.desc).map (fun d => d.parameters.length) = some 2 := by decide +kernel
theorem hv_X3_mixed : yX3_mixed.cls = RX3 ∧ yX3_mixed.cls ≠ "java/lang/invoke/MethodHandle" ∧ yX3_mixed.cls ≠ "java/lang/invoke/VarHandle" ∧ (parseMethodDescriptor yX3_mixed.desc).map (fun d => d.parameters.length) = some 2 := ⟨rfl, hd_X3_mixed⟩
theorem wX3_mixed_0 : Cond.constantLong RX3 253 (31) ∈ wsX3_mixed := by decide +kernel
set_option maxHeartbeats 4000000 in
set_option maxRecDepth 100000 in
theorem c_X3_mixed (l : Launch) (G : zG) {x0 : Int64} {x2 : Int64} {μ mu1 : Mm} {r : Int64} (h : f_X3_mixed x0 x2 μ = some (r, mu1)) (sz : Nat) : Met l yX3_mixed wsX3_mixed rm_X3_mixed (z_Pre G μ [.long (x0), .long (x2)] sz) (z_Ql G r mu1 sz) 0 0 (z_A G sz) := by
  refine z_start (cc := cX3_mixed) (maxL := 4) (ret := (some .long)) (own := RX3) (by decide) rfl rfl (Nat.le_of_ble_eq_true rfl) (fun p e s m args below meth c C hr hlk Z hP ls hl => ?_) sz
  have hx := C.1
  have hb := C.2.1
  have hts := C.2.2.2.2
  have hS : va_S (z_A G s.heap.size) s.heap s.heap [] := va_S.rf
  have hl : lv_has ls 4 [(0, .long (x0)), (2, .long (x2))] := hl
  unfold f_X3_mixed at h
  refine lv_ldc2 hx hb C.2.2.2.1 (C.2.2.2.2 _ wX3_mixed_0) dX3_mixed_0 ?_
  refine lv_lload_n hx hb dX3_mixed_3 rfl (lv_at hl 0 rfl) ?_
  refine lv_lmul hx hb dX3_mixed_4 ?_
  refine lv_lload_n hx hb dX3_mixed_5 rfl (lv_at hl 1 rfl) ?_
  refine lv_ladd hx hb dX3_mixed_6 ?_
  cases h
  exact z_retl C hr hlk hP hS dX3_mixed_7
abbrev rm_X3_mixedTrack : Room := { frames := 9, cells := 0, slots := 0, locals := 230 }
theorem hd_X3_mixedTrack : yX3_mixedTrack.cls ≠ "java/lang/invoke/MethodHandle" ∧ yX3_mixedTrack.cls ≠ "java/lang/invoke/VarHandle" ∧ (parseMethodDescriptor yX3_mixedTrack.desc).map (fun d => d.parameters.length) = some 2 := by decide +kernel
theorem hv_X3_mixedTrack : yX3_mixedTrack.cls = RX3 ∧ yX3_mixedTrack.cls ≠ "java/lang/invoke/MethodHandle" ∧ yX3_mixedTrack.cls ≠ "java/lang/invoke/VarHandle" ∧ (parseMethodDescriptor yX3_mixedTrack.desc).map (fun d => d.parameters.length) = some 2 := ⟨rfl, hd_X3_mixedTrack⟩
set_option maxHeartbeats 4000000 in
set_option maxRecDepth 100000 in
theorem L_X3_mixedTrack_b6 {p : Program} {l : Launch} {e : Env} {s : State} {m : MethodId} {args : Array Value} {below : List Frame} {meth : Method} {c : Code} {G : zG} {r : Int64} {mu1 : Mm}  (C : CallFix p m c cX3_mixedTrack 7 s args wsX3_mixedTrack RX3) (hr : meth.sig.returnType = (some .long)) (hlk : meth.locks = false) (Z : z_Z G (z_A G s.heap.size) s)  :
    ∀ (n : Nat) (x3 : Int32) (x4 : Int64) (x6 : Int32) (μ : Mm), f_X3_mixedTrack_b6  n x3 x4 x6 μ = some (r, mu1) → ∀ (H : Heap) (locs : List Loc), z_P G μ H → va_S (z_A G s.heap.size) s.heap H locs → ∀ ls : Array Slot, lv_has ls 7 [(0, .ref (G.2.1 (90))), (3, .int (x3)), (4, .long (x4)), (6, .int (x6))] → W p l e rm_X3_mixedTrack s m args below meth c H locs 0 0 (MQ below (z_Ql G r mu1 s.heap.size) args s 0 0 (z_A G s.heap.size)) (F0 m 6 ls []) := by
  have hx := C.1
  have hb := C.2.1
  have hts := C.2.2.2.2
  intro n
  induction n with
  | zero =>
    intro x3 x4 x6 μ h
    rw [f_X3_mixedTrack_b6] at h
    cases h
  | succ n ih =>
    intro x3 x4 x6 μ h H locs hP hS ls hl
    rw [f_X3_mixedTrack_b6] at h
    refine lv_iload hx hb dX3_mixedTrack_6 (lv_at hl 3 rfl) ?_
    refine lv_bipush (v := 7) hx hb dX3_mixedTrack_8 (by decide) ?_
    refine lv_icmp_ge (tgt := 34) hx hb dX3_mixedTrack_10 (by decide) (fun hc1 => ?_) (fun hc1 => ?_)
    · have h := z_ip hc1 h
      refine lv_lload hx hb dX3_mixedTrack_34 (lv_at hl 2 rfl) ?_
      refine lv_aload_n hx hb dX3_mixedTrack_36 rfl (lv_at hl 0 rfl) ?_
      refine lv_iload_n hx hb dX3_mixedTrack_37 rfl (lv_at hl 1 rfl) ?_
      refine lv_iconst (v := 5) hx hb dX3_mixedTrack_38 (by decide) ?_
      obtain ⟨r2, m3, e4, h⟩ := zbn_some h
      refine z_calli hS (va_runV (As := [.int (x3), .int (5)]) (rest := [.long (x4)]) C (c_X3_whyNot l G e4 _) (cwV 2 hts gX3_mixedTrack_X3_whyNot rfl rfl rfl hv_X3_whyNot ⟨Nat.le_of_ble_eq_true rfl, Nat.le_of_ble_eq_true rfl⟩) (z_preV Z hS hP (by decide) (z_E_90 _) rfl rfl) rfl rfl hl.1 rfl (lv_room (Nat.le_of_ble_eq_true rfl)) dX3_mixedTrack_39 ⟨Nat.zero_le _, Nat.zero_le _⟩) (fun H locs hP hS => ?_)
      refine lv_i2l (v := ((r2).toInt64)) hx hb dX3_mixedTrack_42 rfl ?_
      obtain ⟨r5, m6, e7, h⟩ := zb_some h
      refine z_calll hS (va_runS (As := [.long (x4), .long (((r2).toInt64))]) (rest := []) C (c_X3_mixed l G e7 _) (va_cwS 2 hts gX3_mixedTrack_X3_mixed rfl rfl rfl hd_X3_mixed ⟨Nat.le_of_ble_eq_true rfl, Nat.le_of_ble_eq_true rfl⟩) (z_preS Z hS hP) rfl rfl hl.1 rfl (lv_room (Nat.le_of_ble_eq_true rfl)) dX3_mixedTrack_43 ⟨Nat.zero_le _, Nat.zero_le _⟩) (fun H locs hP hS => ?_)
      refine lv_lstore (lv' := [(4, .long (r5)), (0, .ref (G.2.1 (90))), (3, .int (x3)), (6, .int (x6))]) hx hb dX3_mixedTrack_46 hl (by decide) rfl (fun ls hl => ?_)
      refine lv_lload hx hb dX3_mixedTrack_48 (lv_at hl 0 rfl) ?_
      refine lv_aload_n hx hb dX3_mixedTrack_50 rfl (lv_at hl 1 rfl) ?_
      refine lv_iload_n hx hb dX3_mixedTrack_51 rfl (lv_at hl 2 rfl) ?_
      obtain ⟨r8, m9, e10, h⟩ := zbn_some h
      refine z_calli hS (va_runV (As := [.int (x3)]) (rest := [.long (r5)]) C (c_X3_daughters l G e10 _) (cwV 1 hts gX3_mixedTrack_X3_daughters rfl rfl rfl hv_X3_daughters ⟨Nat.le_of_ble_eq_true rfl, Nat.le_of_ble_eq_true rfl⟩) (z_preV Z hS hP (by decide) (z_E_90 _) rfl rfl) rfl rfl hl.1 rfl (lv_room (Nat.le_of_ble_eq_true rfl)) dX3_mixedTrack_52 ⟨Nat.zero_le _, Nat.zero_le _⟩) (fun H locs hP hS => ?_)
      refine lv_i2l (v := ((r8).toInt64)) hx hb dX3_mixedTrack_55 rfl ?_
      obtain ⟨r11, m12, e13, h⟩ := zb_some h
      refine z_calll hS (va_runS (As := [.long (r5), .long (((r8).toInt64))]) (rest := []) C (c_X3_mixed l G e13 _) (va_cwS 2 hts gX3_mixedTrack_X3_mixed rfl rfl rfl hd_X3_mixed ⟨Nat.le_of_ble_eq_true rfl, Nat.le_of_ble_eq_true rfl⟩) (z_preS Z hS hP) rfl rfl hl.1 rfl (lv_room (Nat.le_of_ble_eq_true rfl)) dX3_mixedTrack_56 ⟨Nat.zero_le _, Nat.zero_le _⟩) (fun H locs hP hS => ?_)
      refine lv_lstore (lv' := [(4, .long (r11)), (0, .ref (G.2.1 (90))), (3, .int (x3)), (6, .int (x6))]) hx hb dX3_mixedTrack_59 hl (by decide) rfl (fun ls hl => ?_)
      refine lv_lload hx hb dX3_mixedTrack_61 (lv_at hl 0 rfl) ?_
      refine lv_aload_n hx hb dX3_mixedTrack_63 rfl (lv_at hl 1 rfl) ?_
      refine lv_iload_n hx hb dX3_mixedTrack_64 rfl (lv_at hl 2 rfl) ?_
      refine lv_iconst (v := 1) hx hb dX3_mixedTrack_65 (by decide) ?_
      refine lv_iconst (v := 0) hx hb dX3_mixedTrack_66 (by decide) ?_
      obtain ⟨r14, m15, e16, h⟩ := zbn_some h
      refine z_calli hS (va_runV (As := [.int (x3), .int (1), .int (0)]) (rest := [.long (r11)]) C (c_X3_chain l G e16 _) (cwV 3 hts gX3_mixedTrack_X3_chain rfl rfl rfl hv_X3_chain ⟨Nat.le_of_ble_eq_true rfl, Nat.le_of_ble_eq_true rfl⟩) (z_preV Z hS hP (by decide) (z_E_90 _) rfl rfl) rfl rfl hl.1 rfl (lv_room (Nat.le_of_ble_eq_true rfl)) dX3_mixedTrack_67 ⟨Nat.zero_le _, Nat.zero_le _⟩) (fun H locs hP hS => ?_)
      refine lv_i2l (v := ((r14).toInt64)) hx hb dX3_mixedTrack_70 rfl ?_
      obtain ⟨r17, m18, e19, h⟩ := zb_some h
      refine z_calll hS (va_runS (As := [.long (r11), .long (((r14).toInt64))]) (rest := []) C (c_X3_mixed l G e19 _) (va_cwS 2 hts gX3_mixedTrack_X3_mixed rfl rfl rfl hd_X3_mixed ⟨Nat.le_of_ble_eq_true rfl, Nat.le_of_ble_eq_true rfl⟩) (z_preS Z hS hP) rfl rfl hl.1 rfl (lv_room (Nat.le_of_ble_eq_true rfl)) dX3_mixedTrack_71 ⟨Nat.zero_le _, Nat.zero_le _⟩) (fun H locs hP hS => ?_)
      refine lv_lstore (lv' := [(4, .long (r17)), (0, .ref (G.2.1 (90))), (3, .int (x3)), (6, .int (x6))]) hx hb dX3_mixedTrack_74 hl (by decide) rfl (fun ls hl => ?_)
      refine lv_lload hx hb dX3_mixedTrack_76 (lv_at hl 0 rfl) ?_
      refine lv_aload_n hx hb dX3_mixedTrack_78 rfl (lv_at hl 1 rfl) ?_
      refine lv_iload_n hx hb dX3_mixedTrack_79 rfl (lv_at hl 2 rfl) ?_
      refine lv_iconst (v := 1) hx hb dX3_mixedTrack_80 (by decide) ?_
      refine lv_iconst (v := 1) hx hb dX3_mixedTrack_81 (by decide) ?_
      obtain ⟨r20, m21, e22, h⟩ := zbn_some h
      refine z_calli hS (va_runV (As := [.int (x3), .int (1), .int (1)]) (rest := [.long (r17)]) C (c_X3_chain l G e22 _) (cwV 3 hts gX3_mixedTrack_X3_chain rfl rfl rfl hv_X3_chain ⟨Nat.le_of_ble_eq_true rfl, Nat.le_of_ble_eq_true rfl⟩) (z_preV Z hS hP (by decide) (z_E_90 _) rfl rfl) rfl rfl hl.1 rfl (lv_room (Nat.le_of_ble_eq_true rfl)) dX3_mixedTrack_82 ⟨Nat.zero_le _, Nat.zero_le _⟩) (fun H locs hP hS => ?_)
      refine lv_i2l (v := ((r20).toInt64)) hx hb dX3_mixedTrack_85 rfl ?_
      obtain ⟨r23, m24, e25, h⟩ := zb_some h
      refine z_calll hS (va_runS (As := [.long (r17), .long (((r20).toInt64))]) (rest := []) C (c_X3_mixed l G e25 _) (va_cwS 2 hts gX3_mixedTrack_X3_mixed rfl rfl rfl hd_X3_mixed ⟨Nat.le_of_ble_eq_true rfl, Nat.le_of_ble_eq_true rfl⟩) (z_preS Z hS hP) rfl rfl hl.1 rfl (lv_room (Nat.le_of_ble_eq_true rfl)) dX3_mixedTrack_86 ⟨Nat.zero_le _, Nat.zero_le _⟩) (fun H locs hP hS => ?_)
      refine lv_lstore (lv' := [(4, .long (r23)), (0, .ref (G.2.1 (90))), (3, .int (x3)), (6, .int (x6))]) hx hb dX3_mixedTrack_89 hl (by decide) rfl (fun ls hl => ?_)
      refine lv_lload hx hb dX3_mixedTrack_91 (lv_at hl 0 rfl) ?_
      refine lv_aload_n hx hb dX3_mixedTrack_93 rfl (lv_at hl 1 rfl) ?_
      refine lv_iload_n hx hb dX3_mixedTrack_94 rfl (lv_at hl 2 rfl) ?_
      refine lv_iconst (v := 3) hx hb dX3_mixedTrack_95 (by decide) ?_
      refine lv_iconst (v := 0) hx hb dX3_mixedTrack_96 (by decide) ?_
      obtain ⟨r26, m27, e28, h⟩ := zbn_some h
      refine z_calli hS (va_runV (As := [.int (x3), .int (3), .int (0)]) (rest := [.long (r23)]) C (c_X3_chain l G e28 _) (cwV 3 hts gX3_mixedTrack_X3_chain rfl rfl rfl hv_X3_chain ⟨Nat.le_of_ble_eq_true rfl, Nat.le_of_ble_eq_true rfl⟩) (z_preV Z hS hP (by decide) (z_E_90 _) rfl rfl) rfl rfl hl.1 rfl (lv_room (Nat.le_of_ble_eq_true rfl)) dX3_mixedTrack_97 ⟨Nat.zero_le _, Nat.zero_le _⟩) (fun H locs hP hS => ?_)
      refine lv_i2l (v := ((r26).toInt64)) hx hb dX3_mixedTrack_100 rfl ?_
      obtain ⟨r29, m30, e31, h⟩ := zb_some h
      refine z_calll hS (va_runS (As := [.long (r23), .long (((r26).toInt64))]) (rest := []) C (c_X3_mixed l G e31 _) (va_cwS 2 hts gX3_mixedTrack_X3_mixed rfl rfl rfl hd_X3_mixed ⟨Nat.le_of_ble_eq_true rfl, Nat.le_of_ble_eq_true rfl⟩) (z_preS Z hS hP) rfl rfl hl.1 rfl (lv_room (Nat.le_of_ble_eq_true rfl)) dX3_mixedTrack_101 ⟨Nat.zero_le _, Nat.zero_le _⟩) (fun H locs hP hS => ?_)
      refine lv_lstore (lv' := [(4, .long (r29)), (0, .ref (G.2.1 (90))), (3, .int (x3)), (6, .int (x6))]) hx hb dX3_mixedTrack_104 hl (by decide) rfl (fun ls hl => ?_)
      refine lv_lload hx hb dX3_mixedTrack_106 (lv_at hl 0 rfl) ?_
      refine lv_aload_n hx hb dX3_mixedTrack_108 rfl (lv_at hl 1 rfl) ?_
      refine lv_iload_n hx hb dX3_mixedTrack_109 rfl (lv_at hl 2 rfl) ?_
      refine lv_iconst (v := 3) hx hb dX3_mixedTrack_110 (by decide) ?_
      refine lv_iconst (v := 1) hx hb dX3_mixedTrack_111 (by decide) ?_
      obtain ⟨r32, m33, e34, h⟩ := zbn_some h
      refine z_calli hS (va_runV (As := [.int (x3), .int (3), .int (1)]) (rest := [.long (r29)]) C (c_X3_chain l G e34 _) (cwV 3 hts gX3_mixedTrack_X3_chain rfl rfl rfl hv_X3_chain ⟨Nat.le_of_ble_eq_true rfl, Nat.le_of_ble_eq_true rfl⟩) (z_preV Z hS hP (by decide) (z_E_90 _) rfl rfl) rfl rfl hl.1 rfl (lv_room (Nat.le_of_ble_eq_true rfl)) dX3_mixedTrack_112 ⟨Nat.zero_le _, Nat.zero_le _⟩) (fun H locs hP hS => ?_)
      refine lv_i2l (v := ((r32).toInt64)) hx hb dX3_mixedTrack_115 rfl ?_
      obtain ⟨r35, m36, e37, h⟩ := zb_some h
      refine z_calll hS (va_runS (As := [.long (r29), .long (((r32).toInt64))]) (rest := []) C (c_X3_mixed l G e37 _) (va_cwS 2 hts gX3_mixedTrack_X3_mixed rfl rfl rfl hd_X3_mixed ⟨Nat.le_of_ble_eq_true rfl, Nat.le_of_ble_eq_true rfl⟩) (z_preS Z hS hP) rfl rfl hl.1 rfl (lv_room (Nat.le_of_ble_eq_true rfl)) dX3_mixedTrack_116 ⟨Nat.zero_le _, Nat.zero_le _⟩) (fun H locs hP hS => ?_)
      cases h
      exact z_retl C hr hlk hP hS dX3_mixedTrack_119
    · have h := z_in hc1 h
      refine lv_lload hx hb dX3_mixedTrack_13 (lv_at hl 2 rfl) ?_
      refine lv_aload_n hx hb dX3_mixedTrack_15 rfl (lv_at hl 0 rfl) ?_
      refine lv_iload_n hx hb dX3_mixedTrack_16 rfl (lv_at hl 1 rfl) ?_
      refine lv_iload hx hb dX3_mixedTrack_17 (lv_at hl 3 rfl) ?_
      obtain ⟨r38, m39, e40, h⟩ := zbn_some h
      refine z_calli hS (va_runV (As := [.int (x3), .int (x6)]) (rest := [.long (x4)]) C (c_X3_trackOf l G e40 _) (cwV 2 hts gX3_mixedTrack_X3_trackOf rfl rfl rfl hv_X3_trackOf ⟨Nat.le_of_ble_eq_true rfl, Nat.le_of_ble_eq_true rfl⟩) (z_preV Z hS hP (by decide) (z_E_90 _) rfl rfl) rfl rfl hl.1 rfl (lv_room (Nat.le_of_ble_eq_true rfl)) dX3_mixedTrack_19 ⟨Nat.zero_le _, Nat.zero_le _⟩) (fun H locs hP hS => ?_)
      refine lv_i2l (v := ((r38).toInt64)) hx hb dX3_mixedTrack_22 rfl ?_
      obtain ⟨r41, m42, e43, h⟩ := zb_some h
      refine z_calll hS (va_runS (As := [.long (x4), .long (((r38).toInt64))]) (rest := []) C (c_X3_mixed l G e43 _) (va_cwS 2 hts gX3_mixedTrack_X3_mixed rfl rfl rfl hd_X3_mixed ⟨Nat.le_of_ble_eq_true rfl, Nat.le_of_ble_eq_true rfl⟩) (z_preS Z hS hP) rfl rfl hl.1 rfl (lv_room (Nat.le_of_ble_eq_true rfl)) dX3_mixedTrack_23 ⟨Nat.zero_le _, Nat.zero_le _⟩) (fun H locs hP hS => ?_)
      refine lv_lstore (lv' := [(4, .long (r41)), (0, .ref (G.2.1 (90))), (3, .int (x3)), (6, .int (x6))]) hx hb dX3_mixedTrack_26 hl (by decide) rfl (fun ls hl => ?_)
      refine lv_iinc (v := (x6 + 1)) (lv' := [(6, .int ((x6 + 1))), (4, .long (r41)), (0, .ref (G.2.1 (90))), (3, .int (x3))]) hx hb dX3_mixedTrack_28 hl (k := 3) rfl rfl (by decide) rfl (fun ls hl => ?_)
      refine lv_goto (tgt := 6) hx hb dX3_mixedTrack_31 (by decide) ?_
      exact ih _ _ _ _ h _ _ hP hS ls (lv_sub hl [2, 3, 1, 0] rfl)
set_option maxHeartbeats 4000000 in
set_option maxRecDepth 100000 in
theorem c_X3_mixedTrack (l : Launch) (G : zG) {x1 : Int64} {x3 : Int32} {μ mu1 : Mm} {r : Int64} (h : f_X3_mixedTrack x1 x3 μ = some (r, mu1)) (sz : Nat) : Met l yX3_mixedTrack wsX3_mixedTrack rm_X3_mixedTrack (z_Pre G μ [.ref (G.2.1 (90)), .long (x1), .int (x3)] sz) (z_Ql G r mu1 sz) 0 0 (z_A G sz) := by
  refine z_start (cc := cX3_mixedTrack) (maxL := 7) (ret := (some .long)) (own := RX3) (by decide) rfl rfl (Nat.le_of_ble_eq_true rfl) (fun p e s m args below meth c C hr hlk Z hP ls hl => ?_) sz
  have hx := C.1
  have hb := C.2.1
  have hts := C.2.2.2.2
  have hS : va_S (z_A G s.heap.size) s.heap s.heap [] := va_S.rf
  have hl : lv_has ls 7 [(0, .ref (G.2.1 (90))), (1, .long (x1)), (3, .int (x3))] := hl
  unfold f_X3_mixedTrack at h
  refine lv_lload_n hx hb dX3_mixedTrack_0 rfl (lv_at hl 1 rfl) ?_
  refine lv_lstore (lv' := [(4, .long (x1)), (0, .ref (G.2.1 (90))), (1, .long (x1)), (3, .int (x3))]) hx hb dX3_mixedTrack_1 hl (by decide) rfl (fun ls hl => ?_)
  refine lv_iconst (v := 0) hx hb dX3_mixedTrack_3 (by decide) ?_
  refine lv_istore (lv' := [(6, .int (0)), (4, .long (x1)), (0, .ref (G.2.1 (90))), (1, .long (x1)), (3, .int (x3))]) hx hb dX3_mixedTrack_4 hl (by decide) rfl (fun ls hl => ?_)
  exact L_X3_mixedTrack_b6 C hr hlk Z z_F _ _ _ _ h _ _ hP hS ls (lv_sub hl [2, 4, 1, 0] rfl)
abbrev rm_X3_bitsOf : Room := { frames := 0, cells := 0, slots := 0, locals := 0 }
theorem hd_X3_bitsOf : yX3_bitsOf.cls ≠ "java/lang/invoke/MethodHandle" ∧ yX3_bitsOf.cls ≠ "java/lang/invoke/VarHandle" ∧ (parseMethodDescriptor yX3_bitsOf.desc).map (fun d => d.parameters.length) = some 3 := by decide +kernel
theorem hv_X3_bitsOf : yX3_bitsOf.cls = RX3 ∧ yX3_bitsOf.cls ≠ "java/lang/invoke/MethodHandle" ∧ yX3_bitsOf.cls ≠ "java/lang/invoke/VarHandle" ∧ (parseMethodDescriptor yX3_bitsOf.desc).map (fun d => d.parameters.length) = some 3 := ⟨rfl, hd_X3_bitsOf⟩
theorem wX3_bitsOf_0 : Cond.constantDouble RX3 255 (4611686018427387904) ∈ wsX3_bitsOf := by decide +kernel
set_option maxHeartbeats 4000000 in
set_option maxRecDepth 100000 in
theorem L_X3_bitsOf_b72 {p : Program} {l : Launch} {e : Env} {s : State} {m : MethodId} {args : Array Value} {below : List Frame} {meth : Method} {c : Code} {G : zG} {r : Int64} {mu1 : Mm}  (C : CallFix p m c cX3_bitsOf 9 s args wsX3_bitsOf RX3) (hr : meth.sig.returnType = (some .long)) (hlk : meth.locks = false) (Z : z_Z G (z_A G s.heap.size) s)  :
    ∀ (x2 : Int32) (x4 : UInt64) (x6 : Int32) (μ : Mm), f_X3_bitsOf_b72  x2 x4 x6 μ = some (r, mu1) → ∀ (H : Heap) (locs : List Loc), z_P G μ H → va_S (z_A G s.heap.size) s.heap H locs → ∀ ls : Array Slot, lv_has ls 9 [(2, .int (x2)), (4, .double (x4)), (6, .int (x6))] → W p l e rm_X3_bitsOf s m args below meth c H locs 0 0 (MQ below (z_Ql G r mu1 s.heap.size) args s 0 0 (z_A G s.heap.size)) (F0 m 72 ls []) := by
  have hx := C.1
  have hb := C.2.1
  have hts := C.2.2.2.2
  intro x2 x4 x6 μ h H locs hP hS ls hl
  unfold f_X3_bitsOf_b72 at h
  refine lv_dload hx hb dX3_bitsOf_72 (lv_at hl 1 rfl) ?_
  refine lv_dconst1 hx hb dX3_bitsOf_74 ?_
  obtain ⟨hg4, h⟩ := z_g h
  refine lv_dsub hx hb dX3_bitsOf_75 hg4 ?_
  refine lv_lconst (v := 1) hx hb dX3_bitsOf_76 (by decide) ?_
  refine lv_iload_n hx hb dX3_bitsOf_77 rfl (lv_at hl 0 rfl) ?_
  refine lv_lshl (v := ((1 : Int64) <<< ((x2).toInt64 &&& 63))) hx hb dX3_bitsOf_78 rfl ?_
  refine lv_l2d hx hb dX3_bitsOf_79 ?_
  obtain ⟨hg5, h⟩ := z_g h
  refine lv_dmul hx hb dX3_bitsOf_80 hg5 ?_
  refine lv_d2l hx hb dX3_bitsOf_81 ?_
  refine lv_lstore (lv' := [(7, .long ((FP.d2l (FP.dmul (FP.dsub x4 FP.dconst1) (FP.l2d ((1 : Int64) <<< ((x2).toInt64 &&& 63))))))), (2, .int (x2)), (4, .double (x4)), (6, .int (x6))]) hx hb dX3_bitsOf_82 hl (by decide) rfl (fun ls hl => ?_)
  refine lv_iload hx hb dX3_bitsOf_84 (lv_at hl 3 rfl) ?_
  refine lv_i2l (v := ((x6).toInt64)) hx hb dX3_bitsOf_86 rfl ?_
  refine lv_iload_n hx hb dX3_bitsOf_87 rfl (lv_at hl 1 rfl) ?_
  refine lv_lshl (v := (((x6).toInt64) <<< ((x2).toInt64 &&& 63))) hx hb dX3_bitsOf_88 rfl ?_
  refine lv_lload hx hb dX3_bitsOf_89 (lv_at hl 0 rfl) ?_
  refine lv_ladd hx hb dX3_bitsOf_91 ?_
  cases h
  exact z_retl C hr hlk hP hS dX3_bitsOf_92
set_option maxHeartbeats 4000000 in
set_option maxRecDepth 100000 in
theorem L_X3_bitsOf_b45 {p : Program} {l : Launch} {e : Env} {s : State} {m : MethodId} {args : Array Value} {below : List Frame} {meth : Method} {c : Code} {G : zG} {r : Int64} {mu1 : Mm}  (C : CallFix p m c cX3_bitsOf 9 s args wsX3_bitsOf RX3) (hr : meth.sig.returnType = (some .long)) (hlk : meth.locks = false) (Z : z_Z G (z_A G s.heap.size) s)  :
    ∀ (n : Nat) (x2 : Int32) (x4 : UInt64) (x6 : Int32) (μ : Mm), f_X3_bitsOf_b45  n x2 x4 x6 μ = some (r, mu1) → ∀ (H : Heap) (locs : List Loc), z_P G μ H → va_S (z_A G s.heap.size) s.heap H locs → ∀ ls : Array Slot, lv_has ls 9 [(2, .int (x2)), (4, .double (x4)), (6, .int (x6))] → W p l e rm_X3_bitsOf s m args below meth c H locs 0 0 (MQ below (z_Ql G r mu1 s.heap.size) args s 0 0 (z_A G s.heap.size)) (F0 m 45 ls []) := by
  have hx := C.1
  have hb := C.2.1
  have hts := C.2.2.2.2
  intro n
  induction n with
  | zero =>
    intro x2 x4 x6 μ h
    rw [f_X3_bitsOf_b45] at h
    cases h
  | succ n ih =>
    intro x2 x4 x6 μ h H locs hP hS ls hl
    rw [f_X3_bitsOf_b45] at h
    refine lv_dload hx hb dX3_bitsOf_45 (lv_at hl 1 rfl) ?_
    refine lv_dconst1 hx hb dX3_bitsOf_47 ?_
    refine lv_dcmp hx hb dX3_bitsOf_48 ?_
    refine lv_if_ge (tgt := 72) hx hb dX3_bitsOf_49 (by decide) (fun hc3 => ?_) (fun hc3 => ?_)
    · have h := z_ip hc3 h
      exact L_X3_bitsOf_b72 C hr hlk Z _ _ _ _ h _ _ hP hS ls (lv_sub hl [0, 1, 2] rfl)
    · have h := z_in hc3 h
      refine lv_iload hx hb dX3_bitsOf_52 (lv_at hl 2 rfl) ?_
      refine lv_iconst (v := 1) hx hb dX3_bitsOf_54 (by decide) ?_
      refine lv_icmp_le (tgt := 72) hx hb dX3_bitsOf_55 (by decide) (fun hc6 => ?_) (fun hc6 => ?_)
      · have h := z_ip hc6 h
        exact L_X3_bitsOf_b72 C hr hlk Z _ _ _ _ h _ _ hP hS ls (lv_sub hl [0, 1, 2] rfl)
      · have h := z_in hc6 h
        refine lv_dload hx hb dX3_bitsOf_58 (lv_at hl 1 rfl) ?_
        refine lv_ldc2d hx hb C.2.2.2.1 (C.2.2.2.2 _ wX3_bitsOf_0) dX3_bitsOf_60 ?_
        obtain ⟨hg7, h⟩ := z_g h
        refine lv_dmul hx hb dX3_bitsOf_63 hg7 ?_
        refine lv_dstore (lv' := [(4, .double ((FP.dmul x4 (4611686018427387904 : UInt64)))), (2, .int (x2)), (6, .int (x6))]) hx hb dX3_bitsOf_64 hl (by decide) rfl (fun ls hl => ?_)
        refine lv_iinc (v := (x6 + (-1))) (lv' := [(6, .int ((x6 + (-1)))), (4, .double ((FP.dmul x4 (4611686018427387904 : UInt64)))), (2, .int (x2))]) hx hb dX3_bitsOf_66 hl (k := 2) rfl rfl (by decide) rfl (fun ls hl => ?_)
        refine lv_goto (tgt := 45) hx hb dX3_bitsOf_69 (by decide) ?_
        exact ih _ _ _ _ h _ _ hP hS ls (lv_sub hl [2, 1, 0] rfl)
set_option maxHeartbeats 4000000 in
set_option maxRecDepth 100000 in
theorem L_X3_bitsOf_b14 {p : Program} {l : Launch} {e : Env} {s : State} {m : MethodId} {args : Array Value} {below : List Frame} {meth : Method} {c : Code} {G : zG} {r : Int64} {mu1 : Mm}  (C : CallFix p m c cX3_bitsOf 9 s args wsX3_bitsOf RX3) (hr : meth.sig.returnType = (some .long)) (hlk : meth.locks = false) (Z : z_Z G (z_A G s.heap.size) s)  :
    ∀ (n : Nat) (x2 : Int32) (x3 : Int32) (x4 : UInt64) (x6 : Int32) (μ : Mm), f_X3_bitsOf_b14  n x2 x3 x4 x6 μ = some (r, mu1) → ∀ (H : Heap) (locs : List Loc), z_P G μ H → va_S (z_A G s.heap.size) s.heap H locs → ∀ ls : Array Slot, lv_has ls 9 [(2, .int (x2)), (3, .int (x3)), (4, .double (x4)), (6, .int (x6))] → W p l e rm_X3_bitsOf s m args below meth c H locs 0 0 (MQ below (z_Ql G r mu1 s.heap.size) args s 0 0 (z_A G s.heap.size)) (F0 m 14 ls []) := by
  have hx := C.1
  have hb := C.2.1
  have hts := C.2.2.2.2
  intro n
  induction n with
  | zero =>
    intro x2 x3 x4 x6 μ h
    rw [f_X3_bitsOf_b14] at h
    cases h
  | succ n ih =>
    intro x2 x3 x4 x6 μ h H locs hP hS ls hl
    rw [f_X3_bitsOf_b14] at h
    refine lv_dload hx hb dX3_bitsOf_14 (lv_at hl 2 rfl) ?_
    refine lv_ldc2d hx hb C.2.2.2.1 (C.2.2.2.2 _ wX3_bitsOf_0) dX3_bitsOf_16 ?_
    refine lv_dcmp hx hb dX3_bitsOf_19 ?_
    refine lv_if_lt (tgt := 45) hx hb dX3_bitsOf_20 (by decide) (fun hc2 => ?_) (fun hc2 => ?_)
    · have h := z_ip hc2 h
      exact L_X3_bitsOf_b45 C hr hlk Z z_F _ _ _ _ h _ _ hP hS ls (lv_sub hl [0, 2, 3] rfl)
    · have h := z_in hc2 h
      refine lv_iload hx hb dX3_bitsOf_23 (lv_at hl 3 rfl) ?_
      refine lv_iconst (v := 2) hx hb dX3_bitsOf_25 (by decide) ?_
      refine lv_iload_n hx hb dX3_bitsOf_26 rfl (lv_at hl 1 rfl) ?_
      refine lv_imul hx hb dX3_bitsOf_27 ?_
      refine lv_icmp_ge (tgt := 45) hx hb dX3_bitsOf_28 (by decide) (fun hc8 => ?_) (fun hc8 => ?_)
      · have h := z_ip hc8 h
        exact L_X3_bitsOf_b45 C hr hlk Z z_F _ _ _ _ h _ _ hP hS ls (lv_sub hl [0, 2, 3] rfl)
      · have h := z_in hc8 h
        refine lv_dload hx hb dX3_bitsOf_31 (lv_at hl 2 rfl) ?_
        refine lv_ldc2d hx hb C.2.2.2.1 (C.2.2.2.2 _ wX3_bitsOf_0) dX3_bitsOf_33 ?_
        obtain ⟨hg9, h⟩ := z_g h
        refine lv_ddiv hx hb dX3_bitsOf_36 hg9 ?_
        refine lv_dstore (lv' := [(4, .double ((FP.ddiv x4 (4611686018427387904 : UInt64)))), (2, .int (x2)), (3, .int (x3)), (6, .int (x6))]) hx hb dX3_bitsOf_37 hl (by decide) rfl (fun ls hl => ?_)
        refine lv_iinc (v := (x6 + 1)) (lv' := [(6, .int ((x6 + 1))), (4, .double ((FP.ddiv x4 (4611686018427387904 : UInt64)))), (2, .int (x2)), (3, .int (x3))]) hx hb dX3_bitsOf_39 hl (k := 3) rfl rfl (by decide) rfl (fun ls hl => ?_)
        refine lv_goto (tgt := 14) hx hb dX3_bitsOf_42 (by decide) ?_
        exact ih _ _ _ _ _ h _ _ hP hS ls (lv_sub hl [2, 3, 1, 0] rfl)
set_option maxHeartbeats 4000000 in
set_option maxRecDepth 100000 in
theorem c_X3_bitsOf (l : Launch) (G : zG) {x0 : UInt64} {x2 : Int32} {x3 : Int32} {μ mu1 : Mm} {r : Int64} (h : f_X3_bitsOf x0 x2 x3 μ = some (r, mu1)) (sz : Nat) : Met l yX3_bitsOf wsX3_bitsOf rm_X3_bitsOf (z_Pre G μ [.double (x0), .int (x2), .int (x3)] sz) (z_Ql G r mu1 sz) 0 0 (z_A G sz) := by
  refine z_start (cc := cX3_bitsOf) (maxL := 9) (ret := (some .long)) (own := RX3) (by decide) rfl rfl (Nat.le_of_ble_eq_true rfl) (fun p e s m args below meth c C hr hlk Z hP ls hl => ?_) sz
  have hx := C.1
  have hb := C.2.1
  have hts := C.2.2.2.2
  have hS : va_S (z_A G s.heap.size) s.heap s.heap [] := va_S.rf
  have hl : lv_has ls 9 [(0, .double (x0)), (2, .int (x2)), (3, .int (x3))] := hl
  unfold f_X3_bitsOf at h
  refine lv_dload_n hx hb dX3_bitsOf_0 rfl (lv_at hl 0 rfl) ?_
  refine lv_dconst0 hx hb dX3_bitsOf_1 ?_
  refine lv_dcmp hx hb dX3_bitsOf_2 ?_
  refine lv_if_gt (tgt := 8) hx hb dX3_bitsOf_3 (by decide) (fun hc1 => ?_) (fun hc1 => ?_)
  · have h := z_ip hc1 h
    refine lv_dload_n hx hb dX3_bitsOf_8 rfl (lv_at hl 0 rfl) ?_
    refine lv_dstore (lv' := [(4, .double (x0)), (0, .double (x0)), (2, .int (x2)), (3, .int (x3))]) hx hb dX3_bitsOf_9 hl (by decide) rfl (fun ls hl => ?_)
    refine lv_iload_n hx hb dX3_bitsOf_11 rfl (lv_at hl 3 rfl) ?_
    refine lv_istore (lv' := [(6, .int (x3)), (4, .double (x0)), (0, .double (x0)), (2, .int (x2)), (3, .int (x3))]) hx hb dX3_bitsOf_12 hl (by decide) rfl (fun ls hl => ?_)
    exact L_X3_bitsOf_b14 C hr hlk Z z_F _ _ _ _ _ h _ _ hP hS ls (lv_sub hl [3, 4, 1, 0] rfl)
  · have h := z_in hc1 h
    refine lv_lconst (v := 0) hx hb dX3_bitsOf_6 (by decide) ?_
    cases h
    exact z_retl C hr hlk hP hS dX3_bitsOf_7
abbrev rm_X3_digest : Room := { frames := 10, cells := 0, slots := 0, locals := 256 }
theorem hd_X3_digest : yX3_digest.cls ≠ "java/lang/invoke/MethodHandle" ∧ yX3_digest.cls ≠ "java/lang/invoke/VarHandle" ∧ (parseMethodDescriptor yX3_digest.desc).map (fun d => d.parameters.length) = some 0 := by decide +kernel
theorem hv_X3_digest : yX3_digest.cls = RX3 ∧ yX3_digest.cls ≠ "java/lang/invoke/MethodHandle" ∧ yX3_digest.cls ≠ "java/lang/invoke/VarHandle" ∧ (parseMethodDescriptor yX3_digest.desc).map (fun d => d.parameters.length) = some 0 := ⟨rfl, hd_X3_digest⟩
theorem wX3_digest_0 : Cond.constantLong RX3 198 (3559) ∈ wsX3_digest := by decide +kernel
theorem wX3_digest_1 : Cond.fieldLink RX3 34 "WaxCopies" "orders" "LWaxCopies$Orders;" ∈ wsX3_digest := by decide +kernel
theorem inX3_digest_X3 : ∀ w ∈ wsX30, w ∈ wsX3_digest := by decide +kernel
theorem wX3_digest_3 : Cond.fieldLink RX3 20 "WaxCopies" "slotTaken" "[Z" ∈ wsX3_digest := by decide +kernel
set_option maxHeartbeats 4000000 in
set_option maxRecDepth 100000 in
theorem L_X3_digest_b234 {p : Program} {l : Launch} {e : Env} {s : State} {m : MethodId} {args : Array Value} {below : List Frame} {meth : Method} {c : Code} {G : zG} {r : Int64} {mu1 : Mm}  (C : CallFix p m c cX3_digest 5 s args wsX3_digest RX3) (hr : meth.sig.returnType = (some .long)) (hlk : meth.locks = false) (Z : z_Z G (z_A G s.heap.size) s)  :
    ∀ (n : Nat) (x1 : Int64) (x3 : Int32) (μ : Mm), f_X3_digest_b234  n x1 x3 μ = some (r, mu1) → ∀ (H : Heap) (locs : List Loc), z_P G μ H → va_S (z_A G s.heap.size) s.heap H locs → ∀ ls : Array Slot, lv_has ls 5 [(0, .ref (G.2.1 (90))), (1, .long (x1)), (3, .int (x3))] → W p l e rm_X3_digest s m args below meth c H locs 0 0 (MQ below (z_Ql G r mu1 s.heap.size) args s 0 0 (z_A G s.heap.size)) (F0 m 234 ls []) := by
  have hx := C.1
  have hb := C.2.1
  have hts := C.2.2.2.2
  intro n
  induction n with
  | zero =>
    intro x1 x3 μ h
    rw [f_X3_digest_b234] at h
    cases h
  | succ n ih =>
    intro x1 x3 μ h H locs hP hS ls hl
    rw [f_X3_digest_b234] at h
    refine lv_iload_n hx hb dX3_digest_234 rfl (lv_at hl 2 rfl) ?_
    refine lv_aload_n hx hb dX3_digest_235 rfl (lv_at hl 0 rfl) ?_
    refine z_get C Z hP (k := 90) (ci := 3) (j := 5) (N := 7) (v := .ref (G.2.1 (94))) (by decide) (z_E_90 _) rfl inX3_digest_X3 (by decide) wX3_digest_1 rfl dX3_digest_236 ?_
    obtain ⟨r60, m61, e62, h⟩ := zb_some h
    refine z_calli hS (va_runV (As := []) (rest := [.int (x3)]) C (c_X0_length l G e62 _) (cwV 0 hts gX3_digest_X0_length rfl rfl rfl hv_X0_length ⟨Nat.le_of_ble_eq_true rfl, Nat.le_of_ble_eq_true rfl⟩) (z_preV Z hS hP (by decide) (z_E_94 _) rfl rfl) rfl rfl hl.1 rfl (lv_room (Nat.le_of_ble_eq_true rfl)) dX3_digest_239 ⟨Nat.zero_le _, Nat.zero_le _⟩) (fun H locs hP hS => ?_)
    refine lv_icmp_ge (tgt := 265) hx hb dX3_digest_242 (by decide) (fun hc63 => ?_) (fun hc63 => ?_)
    · have h := z_ip hc63 h
      refine lv_lload_n hx hb dX3_digest_265 rfl (lv_at hl 1 rfl) ?_
      cases h
      exact z_retl C hr hlk hP hS dX3_digest_266
    · have h := z_in hc63 h
      refine lv_lload_n hx hb dX3_digest_245 rfl (lv_at hl 1 rfl) ?_
      refine lv_aload_n hx hb dX3_digest_246 rfl (lv_at hl 0 rfl) ?_
      refine z_get C Z hP (k := 90) (ci := 3) (j := 5) (N := 7) (v := .ref (G.2.1 (94))) (by decide) (z_E_90 _) rfl inX3_digest_X3 (by decide) wX3_digest_1 rfl dX3_digest_247 ?_
      refine lv_iload_n hx hb dX3_digest_250 rfl (lv_at hl 2 rfl) ?_
      obtain ⟨r64, m65, e66, h⟩ := zb_some h
      refine z_calli hS (va_runV (As := [.int (x3)]) (rest := [.long (x1)]) C (c_X0_codeAt l G e66 _) (cwV 1 hts gX3_digest_X0_codeAt rfl rfl rfl hv_X0_codeAt ⟨Nat.le_of_ble_eq_true rfl, Nat.le_of_ble_eq_true rfl⟩) (z_preV Z hS hP (by decide) (z_E_94 _) rfl rfl) rfl rfl hl.1 rfl (lv_room (Nat.le_of_ble_eq_true rfl)) dX3_digest_251 ⟨Nat.zero_le _, Nat.zero_le _⟩) (fun H locs hP hS => ?_)
      refine lv_i2l (v := ((r64).toInt64)) hx hb dX3_digest_254 rfl ?_
      obtain ⟨r67, m68, e69, h⟩ := zb_some h
      refine z_calll hS (va_runS (As := [.long (x1), .long (((r64).toInt64))]) (rest := []) C (c_X3_mixed l G e69 _) (va_cwS 2 hts gX3_digest_X3_mixed rfl rfl rfl hd_X3_mixed ⟨Nat.le_of_ble_eq_true rfl, Nat.le_of_ble_eq_true rfl⟩) (z_preS Z hS hP) rfl rfl hl.1 rfl (lv_room (Nat.le_of_ble_eq_true rfl)) dX3_digest_255 ⟨Nat.zero_le _, Nat.zero_le _⟩) (fun H locs hP hS => ?_)
      refine lv_lstore_n (lv' := [(1, .long (r67)), (0, .ref (G.2.1 (90))), (3, .int (x3))]) hx hb dX3_digest_258 rfl hl (by decide) rfl (fun ls hl => ?_)
      refine lv_iinc (v := (x3 + 1)) (lv' := [(3, .int ((x3 + 1))), (1, .long (r67)), (0, .ref (G.2.1 (90)))]) hx hb dX3_digest_259 hl (k := 2) rfl rfl (by decide) rfl (fun ls hl => ?_)
      refine lv_goto (tgt := 234) hx hb dX3_digest_262 (by decide) ?_
      exact ih _ _ _ h _ _ hP hS ls (lv_sub hl [2, 1, 0] rfl)
set_option maxHeartbeats 4000000 in
set_option maxRecDepth 100000 in
theorem L_X3_digest_b209 {p : Program} {l : Launch} {e : Env} {s : State} {m : MethodId} {args : Array Value} {below : List Frame} {meth : Method} {c : Code} {G : zG} {r : Int64} {mu1 : Mm} {ag189 : Int64 → Int32 → Mm → Option (Int64 × Mm)} (C : CallFix p m c cX3_digest 5 s args wsX3_digest RX3) (hr : meth.sig.returnType = (some .long)) (hlk : meth.locks = false) (Z : z_Z G (z_A G s.heap.size) s) (hag189 : ∀ (x1 : Int64) (x3 : Int32) (μ : Mm), ag189 x1 x3 μ = some (r, mu1) → ∀ (H : Heap) (locs : List Loc), z_P G μ H → va_S (z_A G s.heap.size) s.heap H locs → ∀ ls : Array Slot, lv_has ls 5 [(0, .ref (G.2.1 (90))), (1, .long (x1)), (3, .int (x3))] → W p l e rm_X3_digest s m args below meth c H locs 0 0 (MQ below (z_Ql G r mu1 s.heap.size) args s 0 0 (z_A G s.heap.size)) (F0 m 189 ls [])) :
    ∀ (x3 : Int32) (y0 : Int64) (y1 : Int64) (μ : Mm), f_X3_digest_b209 ag189 x3 y0 y1 μ = some (r, mu1) → ∀ (H : Heap) (locs : List Loc), z_P G μ H → va_S (z_A G s.heap.size) s.heap H locs → ∀ ls : Array Slot, lv_has ls 5 [(0, .ref (G.2.1 (90))), (3, .int (x3))] → W p l e rm_X3_digest s m args below meth c H locs 0 0 (MQ below (z_Ql G r mu1 s.heap.size) args s 0 0 (z_A G s.heap.size)) (F0 m 209 ls [.long (y0), .long (y1)]) := by
  have hx := C.1
  have hb := C.2.1
  have hts := C.2.2.2.2
  intro x3 y0 y1 μ h H locs hP hS ls hl
  unfold f_X3_digest_b209 at h
  obtain ⟨r72, m73, e74, h⟩ := zb_some h
  refine z_calll hS (va_runS (As := [.long (y1), .long (y0)]) (rest := []) C (c_X3_mixed l G e74 _) (va_cwS 2 hts gX3_digest_X3_mixed rfl rfl rfl hd_X3_mixed ⟨Nat.le_of_ble_eq_true rfl, Nat.le_of_ble_eq_true rfl⟩) (z_preS Z hS hP) rfl rfl hl.1 rfl (lv_room (Nat.le_of_ble_eq_true rfl)) dX3_digest_209 ⟨Nat.zero_le _, Nat.zero_le _⟩) (fun H locs hP hS => ?_)
  refine lv_lstore_n (lv' := [(1, .long (r72)), (0, .ref (G.2.1 (90))), (3, .int (x3))]) hx hb dX3_digest_212 rfl hl (by decide) rfl (fun ls hl => ?_)
  refine lv_iinc (v := (x3 + 1)) (lv' := [(3, .int ((x3 + 1))), (1, .long (r72)), (0, .ref (G.2.1 (90)))]) hx hb dX3_digest_213 hl (k := 2) rfl rfl (by decide) rfl (fun ls hl => ?_)
  refine lv_goto (tgt := 189) hx hb dX3_digest_216 (by decide) ?_
  exact hag189 _ _ _ h _ _ hP hS ls (lv_sub hl [2, 1, 0] rfl)
set_option maxHeartbeats 4000000 in
set_option maxRecDepth 100000 in
theorem L_X3_digest_b189 {p : Program} {l : Launch} {e : Env} {s : State} {m : MethodId} {args : Array Value} {below : List Frame} {meth : Method} {c : Code} {G : zG} {r : Int64} {mu1 : Mm}  (C : CallFix p m c cX3_digest 5 s args wsX3_digest RX3) (hr : meth.sig.returnType = (some .long)) (hlk : meth.locks = false) (Z : z_Z G (z_A G s.heap.size) s)  :
    ∀ (n : Nat) (x1 : Int64) (x3 : Int32) (μ : Mm), f_X3_digest_b189  n x1 x3 μ = some (r, mu1) → ∀ (H : Heap) (locs : List Loc), z_P G μ H → va_S (z_A G s.heap.size) s.heap H locs → ∀ ls : Array Slot, lv_has ls 5 [(0, .ref (G.2.1 (90))), (1, .long (x1)), (3, .int (x3))] → W p l e rm_X3_digest s m args below meth c H locs 0 0 (MQ below (z_Ql G r mu1 s.heap.size) args s 0 0 (z_A G s.heap.size)) (F0 m 189 ls []) := by
  have hx := C.1
  have hb := C.2.1
  have hts := C.2.2.2.2
  intro n
  induction n with
  | zero =>
    intro x1 x3 μ h
    rw [f_X3_digest_b189] at h
    cases h
  | succ n ih =>
    intro x1 x3 μ h H locs hP hS ls hl
    rw [f_X3_digest_b189] at h
    refine lv_iload_n hx hb dX3_digest_189 rfl (lv_at hl 2 rfl) ?_
    refine lv_iconst (v := 2) hx hb dX3_digest_190 (by decide) ?_
    refine lv_icmp_ge (tgt := 219) hx hb dX3_digest_191 (by decide) (fun hc53 => ?_) (fun hc53 => ?_)
    · have h := z_ip hc53 h
      refine lv_lload_n hx hb dX3_digest_219 rfl (lv_at hl 1 rfl) ?_
      refine lv_aload_n hx hb dX3_digest_220 rfl (lv_at hl 0 rfl) ?_
      refine z_get C Z hP (k := 90) (ci := 3) (j := 5) (N := 7) (v := .ref (G.2.1 (94))) (by decide) (z_E_90 _) rfl inX3_digest_X3 (by decide) wX3_digest_1 rfl dX3_digest_221 ?_
      obtain ⟨r54, m55, e56, h⟩ := zb_some h
      refine z_calli hS (va_runV (As := []) (rest := [.long (x1)]) C (c_X0_length l G e56 _) (cwV 0 hts gX3_digest_X0_length rfl rfl rfl hv_X0_length ⟨Nat.le_of_ble_eq_true rfl, Nat.le_of_ble_eq_true rfl⟩) (z_preV Z hS hP (by decide) (z_E_94 _) rfl rfl) rfl rfl hl.1 rfl (lv_room (Nat.le_of_ble_eq_true rfl)) dX3_digest_224 ⟨Nat.zero_le _, Nat.zero_le _⟩) (fun H locs hP hS => ?_)
      refine lv_i2l (v := ((r54).toInt64)) hx hb dX3_digest_227 rfl ?_
      obtain ⟨r57, m58, e59, h⟩ := zb_some h
      refine z_calll hS (va_runS (As := [.long (x1), .long (((r54).toInt64))]) (rest := []) C (c_X3_mixed l G e59 _) (va_cwS 2 hts gX3_digest_X3_mixed rfl rfl rfl hd_X3_mixed ⟨Nat.le_of_ble_eq_true rfl, Nat.le_of_ble_eq_true rfl⟩) (z_preS Z hS hP) rfl rfl hl.1 rfl (lv_room (Nat.le_of_ble_eq_true rfl)) dX3_digest_228 ⟨Nat.zero_le _, Nat.zero_le _⟩) (fun H locs hP hS => ?_)
      refine lv_lstore_n (lv' := [(1, .long (r57)), (0, .ref (G.2.1 (90))), (3, .int (x3))]) hx hb dX3_digest_231 rfl hl (by decide) rfl (fun ls hl => ?_)
      refine lv_iconst (v := 0) hx hb dX3_digest_232 (by decide) ?_
      refine lv_istore_n (lv' := [(3, .int (0)), (1, .long (r57)), (0, .ref (G.2.1 (90)))]) hx hb dX3_digest_233 rfl hl (by decide) rfl (fun ls hl => ?_)
      exact L_X3_digest_b234 C hr hlk Z z_F _ _ _ h _ _ hP hS ls (lv_sub hl [2, 1, 0] rfl)
    · have h := z_in hc53 h
      refine lv_lload_n hx hb dX3_digest_194 rfl (lv_at hl 1 rfl) ?_
      refine lv_aload_n hx hb dX3_digest_195 rfl (lv_at hl 0 rfl) ?_
      refine z_get C Z hP (k := 90) (ci := 3) (j := 2) (N := 7) (v := .ref (G.2.1 (92))) (by decide) (z_E_90 _) rfl inX3_digest_X3 (by decide) wX3_digest_3 rfl dX3_digest_196 ?_
      refine lv_iload_n hx hb dX3_digest_199 rfl (lv_at hl 2 rfl) ?_
      obtain ⟨hg70, h⟩ := z_g h
      refine z_zald C Z hP (k := 92) (n := 2) (j := (x3).toNatClampNeg) (by decide) (z_E_92 _) hg70 rfl dX3_digest_200 ?_
      refine lv_if_eq (tgt := 208) hx hb dX3_digest_201 (by decide) (fun hc71 => ?_) (fun hc71 => ?_)
      · have h := z_ip hc71 h
        refine lv_lconst (v := 0) hx hb dX3_digest_208 (by decide) ?_
        exact L_X3_digest_b209 C hr hlk Z ih _ _ _ _ h _ _ hP hS ls (lv_sub hl [0, 2] rfl)
      · have h := z_in hc71 h
        refine lv_lconst (v := 1) hx hb dX3_digest_204 (by decide) ?_
        refine lv_goto (tgt := 209) hx hb dX3_digest_205 (by decide) ?_
        exact L_X3_digest_b209 C hr hlk Z ih _ _ _ _ h _ _ hP hS ls (lv_sub hl [0, 2] rfl)
set_option maxHeartbeats 4000000 in
set_option maxRecDepth 100000 in
theorem L_X3_digest_b71 {p : Program} {l : Launch} {e : Env} {s : State} {m : MethodId} {args : Array Value} {below : List Frame} {meth : Method} {c : Code} {G : zG} {r : Int64} {mu1 : Mm} {ag62 : Int64 → Int32 → Mm → Option (Int64 × Mm)} (C : CallFix p m c cX3_digest 5 s args wsX3_digest RX3) (hr : meth.sig.returnType = (some .long)) (hlk : meth.locks = false) (Z : z_Z G (z_A G s.heap.size) s) (hag62 : ∀ (x1 : Int64) (x3 : Int32) (μ : Mm), ag62 x1 x3 μ = some (r, mu1) → ∀ (H : Heap) (locs : List Loc), z_P G μ H → va_S (z_A G s.heap.size) s.heap H locs → ∀ ls : Array Slot, lv_has ls 5 [(0, .ref (G.2.1 (90))), (1, .long (x1)), (3, .int (x3))] → W p l e rm_X3_digest s m args below meth c H locs 0 0 (MQ below (z_Ql G r mu1 s.heap.size) args s 0 0 (z_A G s.heap.size)) (F0 m 62 ls [])) :
    ∀ (n : Nat) (x1 : Int64) (x3 : Int32) (x4 : Int32) (μ : Mm), f_X3_digest_b71 ag62 n x1 x3 x4 μ = some (r, mu1) → ∀ (H : Heap) (locs : List Loc), z_P G μ H → va_S (z_A G s.heap.size) s.heap H locs → ∀ ls : Array Slot, lv_has ls 5 [(0, .ref (G.2.1 (90))), (1, .long (x1)), (3, .int (x3)), (4, .int (x4))] → W p l e rm_X3_digest s m args below meth c H locs 0 0 (MQ below (z_Ql G r mu1 s.heap.size) args s 0 0 (z_A G s.heap.size)) (F0 m 71 ls []) := by
  have hx := C.1
  have hb := C.2.1
  have hts := C.2.2.2.2
  intro n
  induction n with
  | zero =>
    intro x1 x3 x4 μ h
    rw [f_X3_digest_b71] at h
    cases h
  | succ n ih =>
    intro x1 x3 x4 μ h H locs hP hS ls hl
    rw [f_X3_digest_b71] at h
    refine lv_iload hx hb dX3_digest_71 (lv_at hl 3 rfl) ?_
    refine lv_iconst (v := 5) hx hb dX3_digest_73 (by decide) ?_
    refine lv_icmp_ge (tgt := 96) hx hb dX3_digest_74 (by decide) (fun hc75 => ?_) (fun hc75 => ?_)
    · have h := z_ip hc75 h
      refine lv_iinc (v := (x3 + 1)) (lv' := [(3, .int ((x3 + 1))), (0, .ref (G.2.1 (90))), (1, .long (x1)), (4, .int (x4))]) hx hb dX3_digest_96 hl (k := 2) rfl rfl (by decide) rfl (fun ls hl => ?_)
      refine lv_goto (tgt := 62) hx hb dX3_digest_99 (by decide) ?_
      exact hag62 _ _ _ h _ _ hP hS ls (lv_sub hl [1, 2, 0] rfl)
    · have h := z_in hc75 h
      refine lv_lload_n hx hb dX3_digest_77 rfl (lv_at hl 1 rfl) ?_
      refine lv_aload_n hx hb dX3_digest_78 rfl (lv_at hl 0 rfl) ?_
      refine lv_iload_n hx hb dX3_digest_79 rfl (lv_at hl 2 rfl) ?_
      refine lv_iload hx hb dX3_digest_80 (lv_at hl 3 rfl) ?_
      obtain ⟨r76, m77, e78, h⟩ := zbn_some h
      refine z_calli hS (va_runV (As := [.int (x3), .int (x4)]) (rest := [.long (x1)]) C (c_X3_cylinderOf l G e78 _) (cwV 2 hts gX3_digest_X3_cylinderOf rfl rfl rfl hv_X3_cylinderOf ⟨Nat.le_of_ble_eq_true rfl, Nat.le_of_ble_eq_true rfl⟩) (z_preV Z hS hP (by decide) (z_E_90 _) rfl rfl) rfl rfl hl.1 rfl (lv_room (Nat.le_of_ble_eq_true rfl)) dX3_digest_82 ⟨Nat.zero_le _, Nat.zero_le _⟩) (fun H locs hP hS => ?_)
      refine lv_i2l (v := ((r76).toInt64)) hx hb dX3_digest_85 rfl ?_
      obtain ⟨r79, m80, e81, h⟩ := zb_some h
      refine z_calll hS (va_runS (As := [.long (x1), .long (((r76).toInt64))]) (rest := []) C (c_X3_mixed l G e81 _) (va_cwS 2 hts gX3_digest_X3_mixed rfl rfl rfl hd_X3_mixed ⟨Nat.le_of_ble_eq_true rfl, Nat.le_of_ble_eq_true rfl⟩) (z_preS Z hS hP) rfl rfl hl.1 rfl (lv_room (Nat.le_of_ble_eq_true rfl)) dX3_digest_86 ⟨Nat.zero_le _, Nat.zero_le _⟩) (fun H locs hP hS => ?_)
      refine lv_lstore_n (lv' := [(1, .long (r79)), (0, .ref (G.2.1 (90))), (3, .int (x3)), (4, .int (x4))]) hx hb dX3_digest_89 rfl hl (by decide) rfl (fun ls hl => ?_)
      refine lv_iinc (v := (x4 + 1)) (lv' := [(4, .int ((x4 + 1))), (1, .long (r79)), (0, .ref (G.2.1 (90))), (3, .int (x3))]) hx hb dX3_digest_90 hl (k := 3) rfl rfl (by decide) rfl (fun ls hl => ?_)
      refine lv_goto (tgt := 71) hx hb dX3_digest_93 (by decide) ?_
      exact ih _ _ _ _ h _ _ hP hS ls (lv_sub hl [2, 1, 3, 0] rfl)
set_option maxHeartbeats 4000000 in
set_option maxRecDepth 100000 in
theorem L_X3_digest_b62 {p : Program} {l : Launch} {e : Env} {s : State} {m : MethodId} {args : Array Value} {below : List Frame} {meth : Method} {c : Code} {G : zG} {r : Int64} {mu1 : Mm}  (C : CallFix p m c cX3_digest 5 s args wsX3_digest RX3) (hr : meth.sig.returnType = (some .long)) (hlk : meth.locks = false) (Z : z_Z G (z_A G s.heap.size) s)  :
    ∀ (n : Nat) (x1 : Int64) (x3 : Int32) (μ : Mm), f_X3_digest_b62  n x1 x3 μ = some (r, mu1) → ∀ (H : Heap) (locs : List Loc), z_P G μ H → va_S (z_A G s.heap.size) s.heap H locs → ∀ ls : Array Slot, lv_has ls 5 [(0, .ref (G.2.1 (90))), (1, .long (x1)), (3, .int (x3))] → W p l e rm_X3_digest s m args below meth c H locs 0 0 (MQ below (z_Ql G r mu1 s.heap.size) args s 0 0 (z_A G s.heap.size)) (F0 m 62 ls []) := by
  have hx := C.1
  have hb := C.2.1
  have hts := C.2.2.2.2
  intro n
  induction n with
  | zero =>
    intro x1 x3 μ h
    rw [f_X3_digest_b62] at h
    cases h
  | succ n ih =>
    intro x1 x3 μ h H locs hP hS ls hl
    rw [f_X3_digest_b62] at h
    refine lv_iload_n hx hb dX3_digest_62 rfl (lv_at hl 2 rfl) ?_
    refine lv_bipush (v := 6) hx hb dX3_digest_63 (by decide) ?_
    refine lv_icmp_ge (tgt := 102) hx hb dX3_digest_65 (by decide) (fun hc9 => ?_) (fun hc9 => ?_)
    · have h := z_ip hc9 h
      refine lv_lload_n hx hb dX3_digest_102 rfl (lv_at hl 1 rfl) ?_
      refine lv_aload_n hx hb dX3_digest_103 rfl (lv_at hl 0 rfl) ?_
      refine lv_iconst (v := 0) hx hb dX3_digest_104 (by decide) ?_
      refine lv_iconst (v := 4) hx hb dX3_digest_105 (by decide) ?_
      refine lv_iconst (v := 2) hx hb dX3_digest_106 (by decide) ?_
      obtain ⟨r10, m11, e12, h⟩ := zbn_some h
      refine z_calli hS (va_runV (As := [.int (0), .int (4), .int (2)]) (rest := [.long (x1)]) C (c_X3_ifCopied l G e12 _) (cwV 3 hts gX3_digest_X3_ifCopied rfl rfl rfl hv_X3_ifCopied ⟨Nat.le_of_ble_eq_true rfl, Nat.le_of_ble_eq_true rfl⟩) (z_preV Z hS hP (by decide) (z_E_90 _) rfl rfl) rfl rfl hl.1 rfl (lv_room (Nat.le_of_ble_eq_true rfl)) dX3_digest_107 ⟨Nat.zero_le _, Nat.zero_le _⟩) (fun H locs hP hS => ?_)
      refine lv_i2l (v := ((r10).toInt64)) hx hb dX3_digest_110 rfl ?_
      obtain ⟨r13, m14, e15, h⟩ := zb_some h
      refine z_calll hS (va_runS (As := [.long (x1), .long (((r10).toInt64))]) (rest := []) C (c_X3_mixed l G e15 _) (va_cwS 2 hts gX3_digest_X3_mixed rfl rfl rfl hd_X3_mixed ⟨Nat.le_of_ble_eq_true rfl, Nat.le_of_ble_eq_true rfl⟩) (z_preS Z hS hP) rfl rfl hl.1 rfl (lv_room (Nat.le_of_ble_eq_true rfl)) dX3_digest_111 ⟨Nat.zero_le _, Nat.zero_le _⟩) (fun H locs hP hS => ?_)
      refine lv_lstore_n (lv' := [(1, .long (r13)), (0, .ref (G.2.1 (90))), (3, .int (x3))]) hx hb dX3_digest_114 rfl hl (by decide) rfl (fun ls hl => ?_)
      refine lv_lload_n hx hb dX3_digest_115 rfl (lv_at hl 0 rfl) ?_
      refine lv_aload_n hx hb dX3_digest_116 rfl (lv_at hl 1 rfl) ?_
      refine lv_iconst (v := 4) hx hb dX3_digest_117 (by decide) ?_
      refine lv_bipush (v := 9) hx hb dX3_digest_118 (by decide) ?_
      refine lv_iconst (v := 2) hx hb dX3_digest_120 (by decide) ?_
      obtain ⟨r16, m17, e18, h⟩ := zbn_some h
      refine z_calli hS (va_runV (As := [.int (4), .int (9), .int (2)]) (rest := [.long (r13)]) C (c_X3_ifCopied l G e18 _) (cwV 3 hts gX3_digest_X3_ifCopied rfl rfl rfl hv_X3_ifCopied ⟨Nat.le_of_ble_eq_true rfl, Nat.le_of_ble_eq_true rfl⟩) (z_preV Z hS hP (by decide) (z_E_90 _) rfl rfl) rfl rfl hl.1 rfl (lv_room (Nat.le_of_ble_eq_true rfl)) dX3_digest_121 ⟨Nat.zero_le _, Nat.zero_le _⟩) (fun H locs hP hS => ?_)
      refine lv_i2l (v := ((r16).toInt64)) hx hb dX3_digest_124 rfl ?_
      obtain ⟨r19, m20, e21, h⟩ := zb_some h
      refine z_calll hS (va_runS (As := [.long (r13), .long (((r16).toInt64))]) (rest := []) C (c_X3_mixed l G e21 _) (va_cwS 2 hts gX3_digest_X3_mixed rfl rfl rfl hd_X3_mixed ⟨Nat.le_of_ble_eq_true rfl, Nat.le_of_ble_eq_true rfl⟩) (z_preS Z hS hP) rfl rfl hl.1 rfl (lv_room (Nat.le_of_ble_eq_true rfl)) dX3_digest_125 ⟨Nat.zero_le _, Nat.zero_le _⟩) (fun H locs hP hS => ?_)
      refine lv_lstore_n (lv' := [(1, .long (r19)), (0, .ref (G.2.1 (90))), (3, .int (x3))]) hx hb dX3_digest_128 rfl hl (by decide) rfl (fun ls hl => ?_)
      refine lv_lload_n hx hb dX3_digest_129 rfl (lv_at hl 0 rfl) ?_
      refine lv_aload_n hx hb dX3_digest_130 rfl (lv_at hl 1 rfl) ?_
      refine lv_bipush (v := 9) hx hb dX3_digest_131 (by decide) ?_
      refine lv_iconst (v := 0) hx hb dX3_digest_133 (by decide) ?_
      refine lv_iconst (v := 2) hx hb dX3_digest_134 (by decide) ?_
      obtain ⟨r22, m23, e24, h⟩ := zbn_some h
      refine z_calli hS (va_runV (As := [.int (9), .int (0), .int (2)]) (rest := [.long (r19)]) C (c_X3_ifCopied l G e24 _) (cwV 3 hts gX3_digest_X3_ifCopied rfl rfl rfl hv_X3_ifCopied ⟨Nat.le_of_ble_eq_true rfl, Nat.le_of_ble_eq_true rfl⟩) (z_preV Z hS hP (by decide) (z_E_90 _) rfl rfl) rfl rfl hl.1 rfl (lv_room (Nat.le_of_ble_eq_true rfl)) dX3_digest_135 ⟨Nat.zero_le _, Nat.zero_le _⟩) (fun H locs hP hS => ?_)
      refine lv_i2l (v := ((r22).toInt64)) hx hb dX3_digest_138 rfl ?_
      obtain ⟨r25, m26, e27, h⟩ := zb_some h
      refine z_calll hS (va_runS (As := [.long (r19), .long (((r22).toInt64))]) (rest := []) C (c_X3_mixed l G e27 _) (va_cwS 2 hts gX3_digest_X3_mixed rfl rfl rfl hd_X3_mixed ⟨Nat.le_of_ble_eq_true rfl, Nat.le_of_ble_eq_true rfl⟩) (z_preS Z hS hP) rfl rfl hl.1 rfl (lv_room (Nat.le_of_ble_eq_true rfl)) dX3_digest_139 ⟨Nat.zero_le _, Nat.zero_le _⟩) (fun H locs hP hS => ?_)
      refine lv_lstore_n (lv' := [(1, .long (r25)), (0, .ref (G.2.1 (90))), (3, .int (x3))]) hx hb dX3_digest_142 rfl hl (by decide) rfl (fun ls hl => ?_)
      refine lv_lload_n hx hb dX3_digest_143 rfl (lv_at hl 0 rfl) ?_
      refine lv_aload_n hx hb dX3_digest_144 rfl (lv_at hl 1 rfl) ?_
      obtain ⟨r28, m29, e30, h⟩ := zb_some h
      refine z_calli hS (va_runV (As := []) (rest := [.long (r25)]) C (c_X3_clearest l G e30 _) (cwV 0 hts gX3_digest_X3_clearest rfl rfl rfl hv_X3_clearest ⟨Nat.le_of_ble_eq_true rfl, Nat.le_of_ble_eq_true rfl⟩) (z_preV Z hS hP (by decide) (z_E_90 _) rfl rfl) rfl rfl hl.1 rfl (lv_room (Nat.le_of_ble_eq_true rfl)) dX3_digest_145 ⟨Nat.zero_le _, Nat.zero_le _⟩) (fun H locs hP hS => ?_)
      refine lv_i2l (v := ((r28).toInt64)) hx hb dX3_digest_148 rfl ?_
      obtain ⟨r31, m32, e33, h⟩ := zb_some h
      refine z_calll hS (va_runS (As := [.long (r25), .long (((r28).toInt64))]) (rest := []) C (c_X3_mixed l G e33 _) (va_cwS 2 hts gX3_digest_X3_mixed rfl rfl rfl hd_X3_mixed ⟨Nat.le_of_ble_eq_true rfl, Nat.le_of_ble_eq_true rfl⟩) (z_preS Z hS hP) rfl rfl hl.1 rfl (lv_room (Nat.le_of_ble_eq_true rfl)) dX3_digest_149 ⟨Nat.zero_le _, Nat.zero_le _⟩) (fun H locs hP hS => ?_)
      refine lv_lstore_n (lv' := [(1, .long (r31)), (0, .ref (G.2.1 (90))), (3, .int (x3))]) hx hb dX3_digest_152 rfl hl (by decide) rfl (fun ls hl => ?_)
      refine lv_lload_n hx hb dX3_digest_153 rfl (lv_at hl 0 rfl) ?_
      refine lv_aload_n hx hb dX3_digest_154 rfl (lv_at hl 1 rfl) ?_
      obtain ⟨r34, m35, e36, h⟩ := zb_some h
      refine z_callf hS (va_runV (As := []) (rest := [.long (r31)]) C (c_X3_meanDepth l G e36 _) (cwV 0 hts gX3_digest_X3_meanDepth rfl rfl rfl hv_X3_meanDepth ⟨Nat.le_of_ble_eq_true rfl, Nat.le_of_ble_eq_true rfl⟩) (z_preV Z hS hP (by decide) (z_E_90 _) rfl rfl) rfl rfl hl.1 rfl (lv_room (Nat.le_of_ble_eq_true rfl)) dX3_digest_155 ⟨Nat.zero_le _, Nat.zero_le _⟩) (fun H locs hP hS => ?_)
      obtain ⟨hg37, h⟩ := z_g h
      refine lv_f2d hx hb dX3_digest_158 hg37 ?_
      refine lv_bipush (v := 23) hx hb dX3_digest_159 (by decide) ?_
      refine lv_bipush (v := 127) hx hb dX3_digest_161 (by decide) ?_
      obtain ⟨r38, m39, e40, h⟩ := zb_some h
      refine z_calll hS (va_runS (As := [.double ((FP.f2d r34)), .int (23), .int (127)]) (rest := [.long (r31)]) C (c_X3_bitsOf l G e40 _) (va_cwS 3 hts gX3_digest_X3_bitsOf rfl rfl rfl hd_X3_bitsOf ⟨Nat.le_of_ble_eq_true rfl, Nat.le_of_ble_eq_true rfl⟩) (z_preS Z hS hP) rfl rfl hl.1 rfl (lv_room (Nat.le_of_ble_eq_true rfl)) dX3_digest_163 ⟨Nat.zero_le _, Nat.zero_le _⟩) (fun H locs hP hS => ?_)
      obtain ⟨r41, m42, e43, h⟩ := zb_some h
      refine z_calll hS (va_runS (As := [.long (r31), .long (r38)]) (rest := []) C (c_X3_mixed l G e43 _) (va_cwS 2 hts gX3_digest_X3_mixed rfl rfl rfl hd_X3_mixed ⟨Nat.le_of_ble_eq_true rfl, Nat.le_of_ble_eq_true rfl⟩) (z_preS Z hS hP) rfl rfl hl.1 rfl (lv_room (Nat.le_of_ble_eq_true rfl)) dX3_digest_166 ⟨Nat.zero_le _, Nat.zero_le _⟩) (fun H locs hP hS => ?_)
      refine lv_lstore_n (lv' := [(1, .long (r41)), (0, .ref (G.2.1 (90))), (3, .int (x3))]) hx hb dX3_digest_169 rfl hl (by decide) rfl (fun ls hl => ?_)
      refine lv_lload_n hx hb dX3_digest_170 rfl (lv_at hl 0 rfl) ?_
      refine lv_aload_n hx hb dX3_digest_171 rfl (lv_at hl 1 rfl) ?_
      obtain ⟨r44, m45, e46, h⟩ := zb_some h
      refine z_calld hS (va_runV (As := []) (rest := [.long (r41)]) C (c_X3_clearShare l G e46 _) (cwV 0 hts gX3_digest_X3_clearShare rfl rfl rfl hv_X3_clearShare ⟨Nat.le_of_ble_eq_true rfl, Nat.le_of_ble_eq_true rfl⟩) (z_preV Z hS hP (by decide) (z_E_90 _) rfl rfl) rfl rfl hl.1 rfl (lv_room (Nat.le_of_ble_eq_true rfl)) dX3_digest_172 ⟨Nat.zero_le _, Nat.zero_le _⟩) (fun H locs hP hS => ?_)
      refine lv_bipush (v := 52) hx hb dX3_digest_175 (by decide) ?_
      refine lv_sipush (v := 1023) hx hb dX3_digest_177 (by decide) ?_
      obtain ⟨r47, m48, e49, h⟩ := zb_some h
      refine z_calll hS (va_runS (As := [.double (r44), .int (52), .int (1023)]) (rest := [.long (r41)]) C (c_X3_bitsOf l G e49 _) (va_cwS 3 hts gX3_digest_X3_bitsOf rfl rfl rfl hd_X3_bitsOf ⟨Nat.le_of_ble_eq_true rfl, Nat.le_of_ble_eq_true rfl⟩) (z_preS Z hS hP) rfl rfl hl.1 rfl (lv_room (Nat.le_of_ble_eq_true rfl)) dX3_digest_180 ⟨Nat.zero_le _, Nat.zero_le _⟩) (fun H locs hP hS => ?_)
      obtain ⟨r50, m51, e52, h⟩ := zb_some h
      refine z_calll hS (va_runS (As := [.long (r41), .long (r47)]) (rest := []) C (c_X3_mixed l G e52 _) (va_cwS 2 hts gX3_digest_X3_mixed rfl rfl rfl hd_X3_mixed ⟨Nat.le_of_ble_eq_true rfl, Nat.le_of_ble_eq_true rfl⟩) (z_preS Z hS hP) rfl rfl hl.1 rfl (lv_room (Nat.le_of_ble_eq_true rfl)) dX3_digest_183 ⟨Nat.zero_le _, Nat.zero_le _⟩) (fun H locs hP hS => ?_)
      refine lv_lstore_n (lv' := [(1, .long (r50)), (0, .ref (G.2.1 (90))), (3, .int (x3))]) hx hb dX3_digest_186 rfl hl (by decide) rfl (fun ls hl => ?_)
      refine lv_iconst (v := 0) hx hb dX3_digest_187 (by decide) ?_
      refine lv_istore_n (lv' := [(3, .int (0)), (1, .long (r50)), (0, .ref (G.2.1 (90)))]) hx hb dX3_digest_188 rfl hl (by decide) rfl (fun ls hl => ?_)
      exact L_X3_digest_b189 C hr hlk Z z_F _ _ _ h _ _ hP hS ls (lv_sub hl [2, 1, 0] rfl)
    · have h := z_in hc9 h
      refine lv_iconst (v := 0) hx hb dX3_digest_68 (by decide) ?_
      refine lv_istore (lv' := [(4, .int (0)), (0, .ref (G.2.1 (90))), (1, .long (x1)), (3, .int (x3))]) hx hb dX3_digest_69 hl (by decide) rfl (fun ls hl => ?_)
      exact L_X3_digest_b71 C hr hlk Z ih z_F _ _ _ _ h _ _ hP hS ls (lv_sub hl [1, 2, 3, 0] rfl)
set_option maxHeartbeats 4000000 in
set_option maxRecDepth 100000 in
theorem L_X3_digest_b41 {p : Program} {l : Launch} {e : Env} {s : State} {m : MethodId} {args : Array Value} {below : List Frame} {meth : Method} {c : Code} {G : zG} {r : Int64} {mu1 : Mm}  (C : CallFix p m c cX3_digest 5 s args wsX3_digest RX3) (hr : meth.sig.returnType = (some .long)) (hlk : meth.locks = false) (Z : z_Z G (z_A G s.heap.size) s)  :
    ∀ (n : Nat) (x1 : Int64) (x3 : Int32) (μ : Mm), f_X3_digest_b41  n x1 x3 μ = some (r, mu1) → ∀ (H : Heap) (locs : List Loc), z_P G μ H → va_S (z_A G s.heap.size) s.heap H locs → ∀ ls : Array Slot, lv_has ls 5 [(0, .ref (G.2.1 (90))), (1, .long (x1)), (3, .int (x3))] → W p l e rm_X3_digest s m args below meth c H locs 0 0 (MQ below (z_Ql G r mu1 s.heap.size) args s 0 0 (z_A G s.heap.size)) (F0 m 41 ls []) := by
  have hx := C.1
  have hb := C.2.1
  have hts := C.2.2.2.2
  intro n
  induction n with
  | zero =>
    intro x1 x3 μ h
    rw [f_X3_digest_b41] at h
    cases h
  | succ n ih =>
    intro x1 x3 μ h H locs hP hS ls hl
    rw [f_X3_digest_b41] at h
    refine lv_iload_n hx hb dX3_digest_41 rfl (lv_at hl 2 rfl) ?_
    refine lv_bipush (v := 24) hx hb dX3_digest_42 (by decide) ?_
    refine lv_icmp_ge (tgt := 60) hx hb dX3_digest_44 (by decide) (fun hc8 => ?_) (fun hc8 => ?_)
    · have h := z_ip hc8 h
      refine lv_iconst (v := 0) hx hb dX3_digest_60 (by decide) ?_
      refine lv_istore_n (lv' := [(3, .int (0)), (0, .ref (G.2.1 (90))), (1, .long (x1))]) hx hb dX3_digest_61 rfl hl (by decide) rfl (fun ls hl => ?_)
      exact L_X3_digest_b62 C hr hlk Z z_F _ _ _ h _ _ hP hS ls (lv_sub hl [1, 2, 0] rfl)
    · have h := z_in hc8 h
      refine lv_aload_n hx hb dX3_digest_47 rfl (lv_at hl 0 rfl) ?_
      refine lv_lload_n hx hb dX3_digest_48 rfl (lv_at hl 1 rfl) ?_
      refine lv_iload_n hx hb dX3_digest_49 rfl (lv_at hl 2 rfl) ?_
      obtain ⟨r82, m83, e84, h⟩ := zb_some h
      refine z_calll hS (va_runV (As := [.long (x1), .int (x3)]) (rest := []) C (c_X3_mixedTrack l G e84 _) (cwV 2 hts gX3_digest_X3_mixedTrack rfl rfl rfl hv_X3_mixedTrack ⟨Nat.le_of_ble_eq_true rfl, Nat.le_of_ble_eq_true rfl⟩) (z_preV Z hS hP (by decide) (z_E_90 _) rfl rfl) rfl rfl hl.1 rfl (lv_room (Nat.le_of_ble_eq_true rfl)) dX3_digest_50 ⟨Nat.zero_le _, Nat.zero_le _⟩) (fun H locs hP hS => ?_)
      refine lv_lstore_n (lv' := [(1, .long (r82)), (0, .ref (G.2.1 (90))), (3, .int (x3))]) hx hb dX3_digest_53 rfl hl (by decide) rfl (fun ls hl => ?_)
      refine lv_iinc (v := (x3 + 1)) (lv' := [(3, .int ((x3 + 1))), (1, .long (r82)), (0, .ref (G.2.1 (90)))]) hx hb dX3_digest_54 hl (k := 2) rfl rfl (by decide) rfl (fun ls hl => ?_)
      refine lv_goto (tgt := 41) hx hb dX3_digest_57 (by decide) ?_
      exact ih _ _ _ h _ _ hP hS ls (lv_sub hl [2, 1, 0] rfl)
set_option maxHeartbeats 4000000 in
set_option maxRecDepth 100000 in
theorem L_X3_digest_b6 {p : Program} {l : Launch} {e : Env} {s : State} {m : MethodId} {args : Array Value} {below : List Frame} {meth : Method} {c : Code} {G : zG} {r : Int64} {mu1 : Mm}  (C : CallFix p m c cX3_digest 5 s args wsX3_digest RX3) (hr : meth.sig.returnType = (some .long)) (hlk : meth.locks = false) (Z : z_Z G (z_A G s.heap.size) s)  :
    ∀ (n : Nat) (x1 : Int64) (x3 : Int32) (μ : Mm), f_X3_digest_b6  n x1 x3 μ = some (r, mu1) → ∀ (H : Heap) (locs : List Loc), z_P G μ H → va_S (z_A G s.heap.size) s.heap H locs → ∀ ls : Array Slot, lv_has ls 5 [(0, .ref (G.2.1 (90))), (1, .long (x1)), (3, .int (x3))] → W p l e rm_X3_digest s m args below meth c H locs 0 0 (MQ below (z_Ql G r mu1 s.heap.size) args s 0 0 (z_A G s.heap.size)) (F0 m 6 ls []) := by
  have hx := C.1
  have hb := C.2.1
  have hts := C.2.2.2.2
  intro n
  induction n with
  | zero =>
    intro x1 x3 μ h
    rw [f_X3_digest_b6] at h
    cases h
  | succ n ih =>
    intro x1 x3 μ h H locs hP hS ls hl
    rw [f_X3_digest_b6] at h
    refine lv_iload_n hx hb dX3_digest_6 rfl (lv_at hl 2 rfl) ?_
    refine lv_bipush (v := 13) hx hb dX3_digest_7 (by decide) ?_
    refine lv_icmp_ge (tgt := 29) hx hb dX3_digest_9 (by decide) (fun hc1 => ?_) (fun hc1 => ?_)
    · have h := z_ip hc1 h
      refine lv_lload_n hx hb dX3_digest_29 rfl (lv_at hl 1 rfl) ?_
      refine lv_aload_n hx hb dX3_digest_30 rfl (lv_at hl 0 rfl) ?_
      obtain ⟨r2, m3, e4, h⟩ := zb_some h
      refine z_calli hS (va_runV (As := []) (rest := [.long (x1)]) C (c_X3_setting l G e4 _) (cwV 0 hts gX3_digest_X3_setting rfl rfl rfl hv_X3_setting ⟨Nat.le_of_ble_eq_true rfl, Nat.le_of_ble_eq_true rfl⟩) (z_preV Z hS hP (by decide) (z_E_90 _) rfl rfl) rfl rfl hl.1 rfl (lv_room (Nat.le_of_ble_eq_true rfl)) dX3_digest_31 ⟨Nat.zero_le _, Nat.zero_le _⟩) (fun H locs hP hS => ?_)
      refine lv_i2l (v := ((r2).toInt64)) hx hb dX3_digest_34 rfl ?_
      obtain ⟨r5, m6, e7, h⟩ := zb_some h
      refine z_calll hS (va_runS (As := [.long (x1), .long (((r2).toInt64))]) (rest := []) C (c_X3_mixed l G e7 _) (va_cwS 2 hts gX3_digest_X3_mixed rfl rfl rfl hd_X3_mixed ⟨Nat.le_of_ble_eq_true rfl, Nat.le_of_ble_eq_true rfl⟩) (z_preS Z hS hP) rfl rfl hl.1 rfl (lv_room (Nat.le_of_ble_eq_true rfl)) dX3_digest_35 ⟨Nat.zero_le _, Nat.zero_le _⟩) (fun H locs hP hS => ?_)
      refine lv_lstore_n (lv' := [(1, .long (r5)), (0, .ref (G.2.1 (90))), (3, .int (x3))]) hx hb dX3_digest_38 rfl hl (by decide) rfl (fun ls hl => ?_)
      refine lv_iconst (v := 0) hx hb dX3_digest_39 (by decide) ?_
      refine lv_istore_n (lv' := [(3, .int (0)), (1, .long (r5)), (0, .ref (G.2.1 (90)))]) hx hb dX3_digest_40 rfl hl (by decide) rfl (fun ls hl => ?_)
      exact L_X3_digest_b41 C hr hlk Z z_F _ _ _ h _ _ hP hS ls (lv_sub hl [2, 1, 0] rfl)
    · have h := z_in hc1 h
      refine lv_lload_n hx hb dX3_digest_12 rfl (lv_at hl 1 rfl) ?_
      refine lv_aload_n hx hb dX3_digest_13 rfl (lv_at hl 0 rfl) ?_
      refine lv_iload_n hx hb dX3_digest_14 rfl (lv_at hl 2 rfl) ?_
      obtain ⟨r85, m86, e87, h⟩ := zbn_some h
      refine z_calli hS (va_runV (As := [.int (x3)]) (rest := [.long (x1)]) C (c_X3_count l G e87 _) (cwV 1 hts gX3_digest_X3_count rfl rfl rfl hv_X3_count ⟨Nat.le_of_ble_eq_true rfl, Nat.le_of_ble_eq_true rfl⟩) (z_preV Z hS hP (by decide) (z_E_90 _) rfl rfl) rfl rfl hl.1 rfl (lv_room (Nat.le_of_ble_eq_true rfl)) dX3_digest_15 ⟨Nat.zero_le _, Nat.zero_le _⟩) (fun H locs hP hS => ?_)
      refine lv_i2l (v := ((r85).toInt64)) hx hb dX3_digest_18 rfl ?_
      obtain ⟨r88, m89, e90, h⟩ := zb_some h
      refine z_calll hS (va_runS (As := [.long (x1), .long (((r85).toInt64))]) (rest := []) C (c_X3_mixed l G e90 _) (va_cwS 2 hts gX3_digest_X3_mixed rfl rfl rfl hd_X3_mixed ⟨Nat.le_of_ble_eq_true rfl, Nat.le_of_ble_eq_true rfl⟩) (z_preS Z hS hP) rfl rfl hl.1 rfl (lv_room (Nat.le_of_ble_eq_true rfl)) dX3_digest_19 ⟨Nat.zero_le _, Nat.zero_le _⟩) (fun H locs hP hS => ?_)
      refine lv_lstore_n (lv' := [(1, .long (r88)), (0, .ref (G.2.1 (90))), (3, .int (x3))]) hx hb dX3_digest_22 rfl hl (by decide) rfl (fun ls hl => ?_)
      refine lv_iinc (v := (x3 + 1)) (lv' := [(3, .int ((x3 + 1))), (1, .long (r88)), (0, .ref (G.2.1 (90)))]) hx hb dX3_digest_23 hl (k := 2) rfl rfl (by decide) rfl (fun ls hl => ?_)
      refine lv_goto (tgt := 6) hx hb dX3_digest_26 (by decide) ?_
      exact ih _ _ _ h _ _ hP hS ls (lv_sub hl [2, 1, 0] rfl)
set_option maxHeartbeats 4000000 in
set_option maxRecDepth 100000 in
theorem c_X3_digest (l : Launch) (G : zG) {μ mu1 : Mm} {r : Int64} (h : f_X3_digest μ = some (r, mu1)) (sz : Nat) : Met l yX3_digest wsX3_digest rm_X3_digest (z_Pre G μ [.ref (G.2.1 (90))] sz) (z_Ql G r mu1 sz) 0 0 (z_A G sz) := by
  refine z_start (cc := cX3_digest) (maxL := 5) (ret := (some .long)) (own := RX3) (by decide) rfl rfl (Nat.le_of_ble_eq_true rfl) (fun p e s m args below meth c C hr hlk Z hP ls hl => ?_) sz
  have hx := C.1
  have hb := C.2.1
  have hts := C.2.2.2.2
  have hS : va_S (z_A G s.heap.size) s.heap s.heap [] := va_S.rf
  have hl : lv_has ls 5 [(0, .ref (G.2.1 (90)))] := hl
  unfold f_X3_digest at h
  refine lv_ldc2 hx hb C.2.2.2.1 (C.2.2.2.2 _ wX3_digest_0) dX3_digest_0 ?_
  refine lv_lstore_n (lv' := [(1, .long ((3559 : Int64))), (0, .ref (G.2.1 (90)))]) hx hb dX3_digest_3 rfl hl (by decide) rfl (fun ls hl => ?_)
  refine lv_iconst (v := 0) hx hb dX3_digest_4 (by decide) ?_
  refine lv_istore_n (lv' := [(3, .int (0)), (1, .long ((3559 : Int64))), (0, .ref (G.2.1 (90)))]) hx hb dX3_digest_5 rfl hl (by decide) rfl (fun ls hl => ?_)
  exact L_X3_digest_b6 C hr hlk Z z_F _ _ _ h _ _ hP hS ls (lv_sub hl [2, 1, 0] rfl)
