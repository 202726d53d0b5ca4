abbrev rm_L_speak : Room := { frames := 8, cells := 1, slots := 6, locals := 125 }
theorem hd_L_speak : yL_speak.cls ≠ "java/lang/invoke/MethodHandle" ∧ yL_speak.cls ≠ "java/lang/invoke/VarHandle" ∧ (parseMethodDescriptor yL_speak.desc).map (fun d => d.parameters.length) = some 4 := by decide +kernel
theorem wL_speak_0 : Cond.classLink RL 13 "java/lang/IndexOutOfBoundsException" ∈ wsL_speak := by decide +kernel
theorem wL_speak_1 : Cond.classLink RL 15 "java/lang/IllegalArgumentException" ∈ wsL_speak := by decide +kernel
set_option maxHeartbeats 4000000 in
set_option maxRecDepth 100000 in
theorem c_L_speak (l : Launch) (G : zG) (hst : l.stackTraces = false) {x1 : Int32} {x2 : Int32} {μ mu1 : Mm} {r : Int32} (h : f_L_speak x1 x2 μ = some (r, mu1)) (sz : Nat) : Met l yL_speak wsL_speak rm_L_speak (z_Pre G μ [.ref (G.2.1 90), .int (x1), .int (x2), .ref (G.2.1 125)] sz) (z_Qi G r mu1 sz) 1 6 (z_A G sz) := by
  refine z_startW (Qc := fun sz => z_Qi G r mu1 sz) (cc := cL_speak) (maxL := 5) (ret := some .int) (own := RL) (hh := [(0, 10, 13, 13), (0, 10, 17, 15)]) (by decide) rfl rfl (Nat.le_of_ble_eq_true rfl) (fun p e s m args below meth c C hr htab hlk Z hP ls hl => ?_) sz
  have hx := C.1
  have hb := C.2.1
  have hts := C.2.2.2.2
  have hS : va_S (z_A G s.heap.size) s.heap s.heap [] := va_S.rf
  have hl : lv_has ls 5 [(0, .ref (G.2.1 90)), (1, .int (x1)), (2, .int (x2)), (3, .ref (G.2.1 125))] := hl
  unfold f_L_speak at h
  refine lv_aload_n hx hb dL_speak_0 rfl (lv_at hl 3 rfl) ?_
  refine lv_iconst (v := 0) hx hb dL_speak_1 (by decide) ?_
  refine lv_aload_n hx hb dL_speak_2 rfl (lv_at hl 0 rfl) ?_
  refine lv_iload_n hx hb dL_speak_3 rfl (lv_at hl 1 rfl) ?_
  refine lv_iload_n hx hb dL_speak_4 rfl (lv_at hl 2 rfl) ?_
  rcases zw_some h with ⟨r0, m0, e0, rfl, rfl⟩ | ⟨E, e0, hE⟩
  · refine z_calli hS (va_runV (As := [.int (x1), .int (x2)]) (rest := [.int 0, .ref (G.2.1 125)]) C (c_X3_speak l G e0 _) (cwV 2 hts gL_speak_X3_speak rfl rfl rfl hv_X3_speak ⟨Nat.le_of_ble_eq_true rfl, Nat.le_of_ble_eq_true rfl⟩) (z_preV Z hS hP (by decide) (z_E_90 _) rfl rfl) rfl rfl hl.1 rfl (lv_room (Nat.le_of_ble_eq_true rfl)) dL_speak_5 ⟨Nat.zero_le _, Nat.zero_le _⟩) (fun H locs hP hS => ?_)
    refine lv_i2l (v := r0.toInt64) hx hb dL_speak_8 rfl ?_
    refine z_last C Z hP hS dL_speak_9 (fun H locs hP hS => ?_)
    refine lv_goto (tgt := 21) hx hb dL_speak_10 (by decide) ?_
    refine lv_iconst (v := 0) hx hb dL_speak_21 (by decide) ?_
    refine W.widen (k := 1) (n := 6) (Nat.zero_le _) (Nat.zero_le _) ?_
    exact z_retiK C hr hlk hP hS dL_speak_22
  · rcases zw_l2 hE with ⟨rfl, rfl⟩ | ⟨rfl, rfl⟩
    · refine z_xcalli hS (vx_runV (As := [.int (x1), .int (x2)]) (rest := [.int 0, .ref (G.2.1 125)]) C (x_X3_speak l G hst e0 _) (cwV 2 hts gL_speak_X3_speak rfl rfl rfl hv_X3_speak ⟨Nat.le_of_ble_eq_true rfl, Nat.le_of_ble_eq_true rfl⟩) (z_preV Z hS hP (by decide) (z_E_90 _) rfl rfl) rfl rfl hl.1 rfl (lv_room (Nat.le_of_ble_eq_true rfl)) dL_speak_5 ⟨Nat.le_of_ble_eq_true rfl, Nat.le_of_ble_eq_true rfl⟩) (fun ce q9 H locs hP hS h1 h2 h3 => ?_)
      refine vx_catch (own := RL) (name := "java/lang/IndexOutOfBoundsException") C.2.2.2.1 [] ⟨0, 10, 13, 13⟩ [⟨0, 10, 17, 15⟩] htab (fun _ hz => absurd hz List.not_mem_nil) (by decide) (by decide) (hts _ wL_speak_0) (va_Nw.use rfl (Z.2.2.2.2.2.2.1.1 "java/lang/IndexOutOfBoundsException" (by decide))) h1 h2 h3 ?_
      refine lv_astore (lv' := [(4, .ref q9), (0, .ref (G.2.1 90)), (1, .int (x1)), (2, .int (x2)), (3, .ref (G.2.1 125))]) hx hb dL_speak_13 hl (by decide) rfl (fun ls hl => ?_)
      refine lv_iconst (v := 1) hx hb dL_speak_15 (by decide) ?_
      exact z_retiK C hr hlk hP hS dL_speak_16
    · refine z_xcalli hS (vx_runV (As := [.int (x1), .int (x2)]) (rest := [.int 0, .ref (G.2.1 125)]) C (x_X3_speak l G hst e0 _) (cwV 2 hts gL_speak_X3_speak rfl rfl rfl hv_X3_speak ⟨Nat.le_of_ble_eq_true rfl, Nat.le_of_ble_eq_true rfl⟩) (z_preV Z hS hP (by decide) (z_E_90 _) rfl rfl) rfl rfl hl.1 rfl (lv_room (Nat.le_of_ble_eq_true rfl)) dL_speak_5 ⟨Nat.le_of_ble_eq_true rfl, Nat.le_of_ble_eq_true rfl⟩) (fun ce q9 H locs hP hS h1 h2 h3 => ?_)
      refine vx_catch (own := RL) (name := "java/lang/IllegalArgumentException") C.2.2.2.1 [⟨0, 10, 13, 13⟩] ⟨0, 10, 17, 15⟩ [] htab (fun z hz => by rw [List.mem_singleton.mp hz]; exact Or.inr ⟨by decide, "java/lang/IndexOutOfBoundsException", hts _ wL_speak_0, Z.2.2.2.2.2.2.1.2 ("java/lang/IllegalArgumentException", "java/lang/IndexOutOfBoundsException") (by decide)⟩) (by decide) (by decide) (hts _ wL_speak_1) (va_Nw.use rfl (Z.2.2.2.2.2.2.1.1 "java/lang/IllegalArgumentException" (by decide))) h1 h2 h3 ?_
      refine lv_astore (lv' := [(4, .ref q9), (0, .ref (G.2.1 90)), (1, .int (x1)), (2, .int (x2)), (3, .ref (G.2.1 125))]) hx hb dL_speak_17 hl (by decide) rfl (fun ls hl => ?_)
      refine lv_iconst (v := 2) hx hb dL_speak_19 (by decide) ?_
      exact z_retiK C hr hlk hP hS dL_speak_20
abbrev rm_L_copy : Room := { frames := 8, cells := 1, slots := 6, locals := 126 }
theorem hd_L_copy : yL_copy.cls ≠ "java/lang/invoke/MethodHandle" ∧ yL_copy.cls ≠ "java/lang/invoke/VarHandle" ∧ (parseMethodDescriptor yL_copy.desc).map (fun d => d.parameters.length) = some 5 := by decide +kernel
theorem wL_copy_0 : Cond.classLink RL 13 "java/lang/IndexOutOfBoundsException" ∈ wsL_copy := by decide +kernel
theorem wL_copy_1 : Cond.classLink RL 15 "java/lang/IllegalArgumentException" ∈ wsL_copy := by decide +kernel
set_option maxHeartbeats 4000000 in
set_option maxRecDepth 100000 in
theorem c_L_copy (l : Launch) (G : zG) (hst : l.stackTraces = false) {x1 : Int32} {x2 : Int32} {x3 : Int32} {μ mu1 : Mm} {r : Int32} (h : f_L_copy x1 x2 x3 μ = some (r, mu1)) (sz : Nat) : Met l yL_copy wsL_copy rm_L_copy (z_Pre G μ [.ref (G.2.1 90), .int (x1), .int (x2), .int (x3), .ref (G.2.1 125)] sz) (z_Qi G r mu1 sz) 1 6 (z_A G sz) := by
  refine z_startW (Qc := fun sz => z_Qi G r mu1 sz) (cc := cL_copy) (maxL := 6) (ret := some .int) (own := RL) (hh := [(0, 12, 15, 13), (0, 12, 19, 15)]) (by decide) rfl rfl (Nat.le_of_ble_eq_true rfl) (fun p e s m args below meth c C hr htab hlk Z hP ls hl => ?_) sz
  have hx := C.1
  have hb := C.2.1
  have hts := C.2.2.2.2
  have hS : va_S (z_A G s.heap.size) s.heap s.heap [] := va_S.rf
  have hl : lv_has ls 6 [(0, .ref (G.2.1 90)), (1, .int (x1)), (2, .int (x2)), (3, .int (x3)), (4, .ref (G.2.1 125))] := hl
  unfold f_L_copy at h
  refine lv_aload hx hb dL_copy_0 (lv_at hl 4 rfl) ?_
  refine lv_iconst (v := 0) hx hb dL_copy_2 (by decide) ?_
  refine lv_aload_n hx hb dL_copy_3 rfl (lv_at hl 0 rfl) ?_
  refine lv_iload_n hx hb dL_copy_4 rfl (lv_at hl 1 rfl) ?_
  refine lv_iload_n hx hb dL_copy_5 rfl (lv_at hl 2 rfl) ?_
  refine lv_iload_n hx hb dL_copy_6 rfl (lv_at hl 3 rfl) ?_
  rcases zw_some h with ⟨r0, m0, e0, rfl, rfl⟩ | ⟨E, e0, hE⟩
  · refine z_calli hS (va_runV (As := [.int (x1), .int (x2), .int (x3)]) (rest := [.int 0, .ref (G.2.1 125)]) C (c_X3_copy l G e0 _) (cwV 3 hts gL_copy_X3_copy rfl rfl rfl hv_X3_copy ⟨Nat.le_of_ble_eq_true rfl, Nat.le_of_ble_eq_true rfl⟩) (z_preV Z hS hP (by decide) (z_E_90 _) rfl rfl) rfl rfl hl.1 rfl (lv_room (Nat.le_of_ble_eq_true rfl)) dL_copy_7 ⟨Nat.zero_le _, Nat.zero_le _⟩) (fun H locs hP hS => ?_)
    refine lv_i2l (v := r0.toInt64) hx hb dL_copy_10 rfl ?_
    refine z_last C Z hP hS dL_copy_11 (fun H locs hP hS => ?_)
    refine lv_goto (tgt := 23) hx hb dL_copy_12 (by decide) ?_
    refine lv_iconst (v := 0) hx hb dL_copy_23 (by decide) ?_
    refine W.widen (k := 1) (n := 6) (Nat.zero_le _) (Nat.zero_le _) ?_
    exact z_retiK C hr hlk hP hS dL_copy_24
  · rcases zw_l2 hE with ⟨rfl, rfl⟩ | ⟨rfl, rfl⟩
    · refine z_xcalli hS (vx_runV (As := [.int (x1), .int (x2), .int (x3)]) (rest := [.int 0, .ref (G.2.1 125)]) C (x_X3_copy l G hst e0 _) (cwV 3 hts gL_copy_X3_copy rfl rfl rfl hv_X3_copy ⟨Nat.le_of_ble_eq_true rfl, Nat.le_of_ble_eq_true rfl⟩) (z_preV Z hS hP (by decide) (z_E_90 _) rfl rfl) rfl rfl hl.1 rfl (lv_room (Nat.le_of_ble_eq_true rfl)) dL_copy_7 ⟨Nat.le_of_ble_eq_true rfl, Nat.le_of_ble_eq_true rfl⟩) (fun ce q9 H locs hP hS h1 h2 h3 => ?_)
      refine vx_catch (own := RL) (name := "java/lang/IndexOutOfBoundsException") C.2.2.2.1 [] ⟨0, 12, 15, 13⟩ [⟨0, 12, 19, 15⟩] htab (fun _ hz => absurd hz List.not_mem_nil) (by decide) (by decide) (hts _ wL_copy_0) (va_Nw.use rfl (Z.2.2.2.2.2.2.1.1 "java/lang/IndexOutOfBoundsException" (by decide))) h1 h2 h3 ?_
      refine lv_astore (lv' := [(5, .ref q9), (0, .ref (G.2.1 90)), (1, .int (x1)), (2, .int (x2)), (3, .int (x3)), (4, .ref (G.2.1 125))]) hx hb dL_copy_15 hl (by decide) rfl (fun ls hl => ?_)
      refine lv_iconst (v := 1) hx hb dL_copy_17 (by decide) ?_
      exact z_retiK C hr hlk hP hS dL_copy_18
    · refine z_xcalli hS (vx_runV (As := [.int (x1), .int (x2), .int (x3)]) (rest := [.int 0, .ref (G.2.1 125)]) C (x_X3_copy l G hst e0 _) (cwV 3 hts gL_copy_X3_copy rfl rfl rfl hv_X3_copy ⟨Nat.le_of_ble_eq_true rfl, Nat.le_of_ble_eq_true rfl⟩) (z_preV Z hS hP (by decide) (z_E_90 _) rfl rfl) rfl rfl hl.1 rfl (lv_room (Nat.le_of_ble_eq_true rfl)) dL_copy_7 ⟨Nat.le_of_ble_eq_true rfl, Nat.le_of_ble_eq_true rfl⟩) (fun ce q9 H locs hP hS h1 h2 h3 => ?_)
      refine vx_catch (own := RL) (name := "java/lang/IllegalArgumentException") C.2.2.2.1 [⟨0, 12, 15, 13⟩] ⟨0, 12, 19, 15⟩ [] htab (fun z hz => by rw [List.mem_singleton.mp hz]; exact Or.inr ⟨by decide, "java/lang/IndexOutOfBoundsException", hts _ wL_copy_0, Z.2.2.2.2.2.2.1.2 ("java/lang/IllegalArgumentException", "java/lang/IndexOutOfBoundsException") (by decide)⟩) (by decide) (by decide) (hts _ wL_copy_1) (va_Nw.use rfl (Z.2.2.2.2.2.2.1.1 "java/lang/IllegalArgumentException" (by decide))) h1 h2 h3 ?_
      refine lv_astore (lv' := [(5, .ref q9), (0, .ref (G.2.1 90)), (1, .int (x1)), (2, .int (x2)), (3, .int (x3)), (4, .ref (G.2.1 125))]) hx hb dL_copy_19 hl (by decide) rfl (fun ls hl => ?_)
      refine lv_iconst (v := 2) hx hb dL_copy_21 (by decide) ?_
      exact z_retiK C hr hlk hP hS dL_copy_22
abbrev rm_L_play : Room := { frames := 8, cells := 1, slots := 6, locals := 124 }
theorem hd_L_play : yL_play.cls ≠ "java/lang/invoke/MethodHandle" ∧ yL_play.cls ≠ "java/lang/invoke/VarHandle" ∧ (parseMethodDescriptor yL_play.desc).map (fun d => d.parameters.length) = some 3 := by decide +kernel
theorem wL_play_0 : Cond.classLink RL 13 "java/lang/IndexOutOfBoundsException" ∈ wsL_play := by decide +kernel
set_option maxHeartbeats 4000000 in
set_option maxRecDepth 100000 in
theorem c_L_play (l : Launch) (G : zG) (hst : l.stackTraces = false) {x1 : Int32} {μ mu1 : Mm} {r : Int32} (h : f_L_play x1 μ = some (r, mu1)) (sz : Nat) : Met l yL_play wsL_play rm_L_play (z_Pre G μ [.ref (G.2.1 90), .int (x1), .ref (G.2.1 125)] sz) (z_Qi G r mu1 sz) 1 6 (z_A G sz) := by
  refine z_startW (Qc := fun sz => z_Qi G r mu1 sz) (cc := cL_play) (maxL := 4) (ret := some .int) (own := RL) (hh := [(0, 9, 12, 13)]) (by decide) rfl rfl (Nat.le_of_ble_eq_true rfl) (fun p e s m args below meth c C hr htab hlk Z hP ls hl => ?_) sz
  have hx := C.1
  have hb := C.2.1
  have hts := C.2.2.2.2
  have hS : va_S (z_A G s.heap.size) s.heap s.heap [] := va_S.rf
  have hl : lv_has ls 4 [(0, .ref (G.2.1 90)), (1, .int (x1)), (2, .ref (G.2.1 125))] := hl
  unfold f_L_play at h
  refine lv_aload_n hx hb dL_play_0 rfl (lv_at hl 2 rfl) ?_
  refine lv_iconst (v := 0) hx hb dL_play_1 (by decide) ?_
  refine lv_aload_n hx hb dL_play_2 rfl (lv_at hl 0 rfl) ?_
  refine lv_iload_n hx hb dL_play_3 rfl (lv_at hl 1 rfl) ?_
  rcases zw_some h with ⟨r0, m0, e0, rfl, rfl⟩ | ⟨E, e0, hE⟩
  · refine z_calli hS (va_runV (As := [.int (x1)]) (rest := [.int 0, .ref (G.2.1 125)]) C (c_X3_play l G e0 _) (cwV 1 hts gL_play_X3_play rfl rfl rfl hv_X3_play ⟨Nat.le_of_ble_eq_true rfl, Nat.le_of_ble_eq_true rfl⟩) (z_preV Z hS hP (by decide) (z_E_90 _) rfl rfl) rfl rfl hl.1 rfl (lv_room (Nat.le_of_ble_eq_true rfl)) dL_play_4 ⟨Nat.zero_le _, Nat.zero_le _⟩) (fun H locs hP hS => ?_)
    refine lv_i2l (v := r0.toInt64) hx hb dL_play_7 rfl ?_
    refine z_last C Z hP hS dL_play_8 (fun H locs hP hS => ?_)
    refine lv_goto (tgt := 15) hx hb dL_play_9 (by decide) ?_
    refine lv_iconst (v := 0) hx hb dL_play_15 (by decide) ?_
    refine W.widen (k := 1) (n := 6) (Nat.zero_le _) (Nat.zero_le _) ?_
    exact z_retiK C hr hlk hP hS dL_play_16
  · obtain ⟨rfl, rfl⟩ := zw_l1 hE
    refine z_xcalli hS (vx_runV (As := [.int (x1)]) (rest := [.int 0, .ref (G.2.1 125)]) C (x_X3_play l G hst e0 _) (cwV 1 hts gL_play_X3_play rfl rfl rfl hv_X3_play ⟨Nat.le_of_ble_eq_true rfl, Nat.le_of_ble_eq_true rfl⟩) (z_preV Z hS hP (by decide) (z_E_90 _) rfl rfl) rfl rfl hl.1 rfl (lv_room (Nat.le_of_ble_eq_true rfl)) dL_play_4 ⟨Nat.le_of_ble_eq_true rfl, Nat.le_of_ble_eq_true rfl⟩) (fun ce q9 H locs hP hS h1 h2 h3 => ?_)
    refine vx_catch (own := RL) (name := "java/lang/IndexOutOfBoundsException") C.2.2.2.1 [] ⟨0, 9, 12, 13⟩ [] htab (fun _ hz => absurd hz List.not_mem_nil) (by decide) (by decide) (hts _ wL_play_0) (va_Nw.use rfl (Z.2.2.2.2.2.2.1.1 "java/lang/IndexOutOfBoundsException" (by decide))) h1 h2 h3 ?_
    refine lv_astore_n (lv' := [(3, .ref q9), (0, .ref (G.2.1 90)), (1, .int (x1)), (2, .ref (G.2.1 125))]) hx hb dL_play_12 rfl hl (by decide) rfl (fun ls hl => ?_)
    refine lv_iconst (v := 1) hx hb dL_play_13 (by decide) ?_
    exact z_retiK C hr hlk hP hS dL_play_14
abbrev rm_L_shave : Room := { frames := 8, cells := 1, slots := 6, locals := 124 }
theorem hd_L_shave : yL_shave.cls ≠ "java/lang/invoke/MethodHandle" ∧ yL_shave.cls ≠ "java/lang/invoke/VarHandle" ∧ (parseMethodDescriptor yL_shave.desc).map (fun d => d.parameters.length) = some 3 := by decide +kernel
theorem wL_shave_0 : Cond.classLink RL 13 "java/lang/IndexOutOfBoundsException" ∈ wsL_shave := by decide +kernel
set_option maxHeartbeats 4000000 in
set_option maxRecDepth 100000 in
theorem c_L_shave (l : Launch) (G : zG) (hst : l.stackTraces = false) {x1 : Int32} {μ mu1 : Mm} {r : Int32} (h : f_L_shave x1 μ = some (r, mu1)) (sz : Nat) : Met l yL_shave wsL_shave rm_L_shave (z_Pre G μ [.ref (G.2.1 90), .int (x1), .ref (G.2.1 125)] sz) (z_Qi G r mu1 sz) 1 6 (z_A G sz) := by
  refine z_startW (Qc := fun sz => z_Qi G r mu1 sz) (cc := cL_shave) (maxL := 4) (ret := some .int) (own := RL) (hh := [(0, 9, 12, 13)]) (by decide) rfl rfl (Nat.le_of_ble_eq_true rfl) (fun p e s m args below meth c C hr htab hlk Z hP ls hl => ?_) sz
  have hx := C.1
  have hb := C.2.1
  have hts := C.2.2.2.2
  have hS : va_S (z_A G s.heap.size) s.heap s.heap [] := va_S.rf
  have hl : lv_has ls 4 [(0, .ref (G.2.1 90)), (1, .int (x1)), (2, .ref (G.2.1 125))] := hl
  unfold f_L_shave at h
  refine lv_aload_n hx hb dL_shave_0 rfl (lv_at hl 2 rfl) ?_
  refine lv_iconst (v := 0) hx hb dL_shave_1 (by decide) ?_
  refine lv_aload_n hx hb dL_shave_2 rfl (lv_at hl 0 rfl) ?_
  refine lv_iload_n hx hb dL_shave_3 rfl (lv_at hl 1 rfl) ?_
  rcases zw_some h with ⟨r0, m0, e0, rfl, rfl⟩ | ⟨E, e0, hE⟩
  · refine z_calli hS (va_runV (As := [.int (x1)]) (rest := [.int 0, .ref (G.2.1 125)]) C (c_X3_shave l G e0 _) (cwV 1 hts gL_shave_X3_shave rfl rfl rfl hv_X3_shave ⟨Nat.le_of_ble_eq_true rfl, Nat.le_of_ble_eq_true rfl⟩) (z_preV Z hS hP (by decide) (z_E_90 _) rfl rfl) rfl rfl hl.1 rfl (lv_room (Nat.le_of_ble_eq_true rfl)) dL_shave_4 ⟨Nat.zero_le _, Nat.zero_le _⟩) (fun H locs hP hS => ?_)
    refine lv_i2l (v := r0.toInt64) hx hb dL_shave_7 rfl ?_
    refine z_last C Z hP hS dL_shave_8 (fun H locs hP hS => ?_)
    refine lv_goto (tgt := 15) hx hb dL_shave_9 (by decide) ?_
    refine lv_iconst (v := 0) hx hb dL_shave_15 (by decide) ?_
    refine W.widen (k := 1) (n := 6) (Nat.zero_le _) (Nat.zero_le _) ?_
    exact z_retiK C hr hlk hP hS dL_shave_16
  · obtain ⟨rfl, rfl⟩ := zw_l1 hE
    refine z_xcalli hS (vx_runV (As := [.int (x1)]) (rest := [.int 0, .ref (G.2.1 125)]) C (x_X3_shave l G hst e0 _) (cwV 1 hts gL_shave_X3_shave rfl rfl rfl hv_X3_shave ⟨Nat.le_of_ble_eq_true rfl, Nat.le_of_ble_eq_true rfl⟩) (z_preV Z hS hP (by decide) (z_E_90 _) rfl rfl) rfl rfl hl.1 rfl (lv_room (Nat.le_of_ble_eq_true rfl)) dL_shave_4 ⟨Nat.le_of_ble_eq_true rfl, Nat.le_of_ble_eq_true rfl⟩) (fun ce q9 H locs hP hS h1 h2 h3 => ?_)
    refine vx_catch (own := RL) (name := "java/lang/IndexOutOfBoundsException") C.2.2.2.1 [] ⟨0, 9, 12, 13⟩ [] htab (fun _ hz => absurd hz List.not_mem_nil) (by decide) (by decide) (hts _ wL_shave_0) (va_Nw.use rfl (Z.2.2.2.2.2.2.1.1 "java/lang/IndexOutOfBoundsException" (by decide))) h1 h2 h3 ?_
    refine lv_astore_n (lv' := [(3, .ref q9), (0, .ref (G.2.1 90)), (1, .int (x1)), (2, .ref (G.2.1 125))]) hx hb dL_shave_12 rfl hl (by decide) rfl (fun ls hl => ?_)
    refine lv_iconst (v := 1) hx hb dL_shave_13 (by decide) ?_
    exact z_retiK C hr hlk hP hS dL_shave_14
abbrev rm_L_renew : Room := { frames := 8, cells := 1, slots := 6, locals := 125 }
theorem hd_L_renew : yL_renew.cls ≠ "java/lang/invoke/MethodHandle" ∧ yL_renew.cls ≠ "java/lang/invoke/VarHandle" ∧ (parseMethodDescriptor yL_renew.desc).map (fun d => d.parameters.length) = some 4 := by decide +kernel
theorem wL_renew_0 : Cond.classLink RL 13 "java/lang/IndexOutOfBoundsException" ∈ wsL_renew := by decide +kernel
theorem wL_renew_1 : Cond.classLink RL 15 "java/lang/IllegalArgumentException" ∈ wsL_renew := by decide +kernel
set_option maxHeartbeats 4000000 in
set_option maxRecDepth 100000 in
theorem c_L_renew (l : Launch) (G : zG) (hst : l.stackTraces = false) {x1 : Int32} {x2 : Int32} {μ mu1 : Mm} {r : Int32} (h : f_L_renew x1 x2 μ = some (r, mu1)) (sz : Nat) : Met l yL_renew wsL_renew rm_L_renew (z_Pre G μ [.ref (G.2.1 90), .int (x1), .int (x2), .ref (G.2.1 125)] sz) (z_Qi G r mu1 sz) 1 6 (z_A G sz) := by
  refine z_startW (Qc := fun sz => z_Qi G r mu1 sz) (cc := cL_renew) (maxL := 5) (ret := some .int) (own := RL) (hh := [(0, 10, 13, 13), (0, 10, 17, 15)]) (by decide) rfl rfl (Nat.le_of_ble_eq_true rfl) (fun p e s m args below meth c C hr htab hlk Z hP ls hl => ?_) sz
  have hx := C.1
  have hb := C.2.1
  have hts := C.2.2.2.2
  have hS : va_S (z_A G s.heap.size) s.heap s.heap [] := va_S.rf
  have hl : lv_has ls 5 [(0, .ref (G.2.1 90)), (1, .int (x1)), (2, .int (x2)), (3, .ref (G.2.1 125))] := hl
  unfold f_L_renew at h
  refine lv_aload_n hx hb dL_renew_0 rfl (lv_at hl 3 rfl) ?_
  refine lv_iconst (v := 0) hx hb dL_renew_1 (by decide) ?_
  refine lv_aload_n hx hb dL_renew_2 rfl (lv_at hl 0 rfl) ?_
  refine lv_iload_n hx hb dL_renew_3 rfl (lv_at hl 1 rfl) ?_
  refine lv_iload_n hx hb dL_renew_4 rfl (lv_at hl 2 rfl) ?_
  rcases zw_some h with ⟨r0, m0, e0, rfl, rfl⟩ | ⟨E, e0, hE⟩
  · refine z_calli hS (va_runV (As := [.int (x1), .int (x2)]) (rest := [.int 0, .ref (G.2.1 125)]) C (c_X3_renew l G e0 _) (cwV 2 hts gL_renew_X3_renew rfl rfl rfl hv_X3_renew ⟨Nat.le_of_ble_eq_true rfl, Nat.le_of_ble_eq_true rfl⟩) (z_preV Z hS hP (by decide) (z_E_90 _) rfl rfl) rfl rfl hl.1 rfl (lv_room (Nat.le_of_ble_eq_true rfl)) dL_renew_5 ⟨Nat.zero_le _, Nat.zero_le _⟩) (fun H locs hP hS => ?_)
    refine lv_i2l (v := r0.toInt64) hx hb dL_renew_8 rfl ?_
    refine z_last C Z hP hS dL_renew_9 (fun H locs hP hS => ?_)
    refine lv_goto (tgt := 21) hx hb dL_renew_10 (by decide) ?_
    refine lv_iconst (v := 0) hx hb dL_renew_21 (by decide) ?_
    refine W.widen (k := 1) (n := 6) (Nat.zero_le _) (Nat.zero_le _) ?_
    exact z_retiK C hr hlk hP hS dL_renew_22
  · rcases zw_l2 hE with ⟨rfl, rfl⟩ | ⟨rfl, rfl⟩
    · refine z_xcalli hS (vx_runV (As := [.int (x1), .int (x2)]) (rest := [.int 0, .ref (G.2.1 125)]) C (x_X3_renew l G hst e0 _) (cwV 2 hts gL_renew_X3_renew rfl rfl rfl hv_X3_renew ⟨Nat.le_of_ble_eq_true rfl, Nat.le_of_ble_eq_true rfl⟩) (z_preV Z hS hP (by decide) (z_E_90 _) rfl rfl) rfl rfl hl.1 rfl (lv_room (Nat.le_of_ble_eq_true rfl)) dL_renew_5 ⟨Nat.le_of_ble_eq_true rfl, Nat.le_of_ble_eq_true rfl⟩) (fun ce q9 H locs hP hS h1 h2 h3 => ?_)
      refine vx_catch (own := RL) (name := "java/lang/IndexOutOfBoundsException") C.2.2.2.1 [] ⟨0, 10, 13, 13⟩ [⟨0, 10, 17, 15⟩] htab (fun _ hz => absurd hz List.not_mem_nil) (by decide) (by decide) (hts _ wL_renew_0) (va_Nw.use rfl (Z.2.2.2.2.2.2.1.1 "java/lang/IndexOutOfBoundsException" (by decide))) h1 h2 h3 ?_
      refine lv_astore (lv' := [(4, .ref q9), (0, .ref (G.2.1 90)), (1, .int (x1)), (2, .int (x2)), (3, .ref (G.2.1 125))]) hx hb dL_renew_13 hl (by decide) rfl (fun ls hl => ?_)
      refine lv_iconst (v := 1) hx hb dL_renew_15 (by decide) ?_
      exact z_retiK C hr hlk hP hS dL_renew_16
    · refine z_xcalli hS (vx_runV (As := [.int (x1), .int (x2)]) (rest := [.int 0, .ref (G.2.1 125)]) C (x_X3_renew l G hst e0 _) (cwV 2 hts gL_renew_X3_renew rfl rfl rfl hv_X3_renew ⟨Nat.le_of_ble_eq_true rfl, Nat.le_of_ble_eq_true rfl⟩) (z_preV Z hS hP (by decide) (z_E_90 _) rfl rfl) rfl rfl hl.1 rfl (lv_room (Nat.le_of_ble_eq_true rfl)) dL_renew_5 ⟨Nat.le_of_ble_eq_true rfl, Nat.le_of_ble_eq_true rfl⟩) (fun ce q9 H locs hP hS h1 h2 h3 => ?_)
      refine vx_catch (own := RL) (name := "java/lang/IllegalArgumentException") C.2.2.2.1 [⟨0, 10, 13, 13⟩] ⟨0, 10, 17, 15⟩ [] htab (fun z hz => by rw [List.mem_singleton.mp hz]; exact Or.inr ⟨by decide, "java/lang/IndexOutOfBoundsException", hts _ wL_renew_0, Z.2.2.2.2.2.2.1.2 ("java/lang/IllegalArgumentException", "java/lang/IndexOutOfBoundsException") (by decide)⟩) (by decide) (by decide) (hts _ wL_renew_1) (va_Nw.use rfl (Z.2.2.2.2.2.2.1.1 "java/lang/IllegalArgumentException" (by decide))) h1 h2 h3 ?_
      refine lv_astore (lv' := [(4, .ref q9), (0, .ref (G.2.1 90)), (1, .int (x1)), (2, .int (x2)), (3, .ref (G.2.1 125))]) hx hb dL_renew_17 hl (by decide) rfl (fun ls hl => ?_)
      refine lv_iconst (v := 2) hx hb dL_renew_19 (by decide) ?_
      exact z_retiK C hr hlk hP hS dL_renew_20
abbrev rm_L_set : Room := { frames := 7, cells := 1, slots := 6, locals := 104 }
theorem hd_L_set : yL_set.cls ≠ "java/lang/invoke/MethodHandle" ∧ yL_set.cls ≠ "java/lang/invoke/VarHandle" ∧ (parseMethodDescriptor yL_set.desc).map (fun d => d.parameters.length) = some 3 := by decide +kernel
theorem wL_set_0 : Cond.classLink RL 15 "java/lang/IllegalArgumentException" ∈ wsL_set := by decide +kernel
set_option maxHeartbeats 4000000 in
set_option maxRecDepth 100000 in
theorem c_L_set (l : Launch) (G : zG) (hst : l.stackTraces = false) {x1 : Int32} {μ mu1 : Mm} {r : Int32} (h : f_L_set x1 μ = some (r, mu1)) (sz : Nat) : Met l yL_set wsL_set rm_L_set (z_Pre G μ [.ref (G.2.1 90), .int (x1), .ref (G.2.1 125)] sz) (z_Qi G r mu1 sz) 1 6 (z_A G sz) := by
  refine z_startW (Qc := fun sz => z_Qi G r mu1 sz) (cc := cL_set) (maxL := 4) (ret := some .int) (own := RL) (hh := [(0, 9, 12, 15)]) (by decide) rfl rfl (Nat.le_of_ble_eq_true rfl) (fun p e s m args below meth c C hr htab hlk Z hP ls hl => ?_) sz
  have hx := C.1
  have hb := C.2.1
  have hts := C.2.2.2.2
  have hS : va_S (z_A G s.heap.size) s.heap s.heap [] := va_S.rf
  have hl : lv_has ls 4 [(0, .ref (G.2.1 90)), (1, .int (x1)), (2, .ref (G.2.1 125))] := hl
  unfold f_L_set at h
  refine lv_aload_n hx hb dL_set_0 rfl (lv_at hl 2 rfl) ?_
  refine lv_iconst (v := 0) hx hb dL_set_1 (by decide) ?_
  refine lv_aload_n hx hb dL_set_2 rfl (lv_at hl 0 rfl) ?_
  refine lv_iload_n hx hb dL_set_3 rfl (lv_at hl 1 rfl) ?_
  rcases zw_some h with ⟨r0, m0, e0, rfl, rfl⟩ | ⟨E, e0, hE⟩
  · refine z_calli hS (va_runV (As := [.int (x1)]) (rest := [.int 0, .ref (G.2.1 125)]) C (c_X3_set l G e0 _) (cwV 1 hts gL_set_X3_set rfl rfl rfl hv_X3_set ⟨Nat.le_of_ble_eq_true rfl, Nat.le_of_ble_eq_true rfl⟩) (z_preV Z hS hP (by decide) (z_E_90 _) rfl rfl) rfl rfl hl.1 rfl (lv_room (Nat.le_of_ble_eq_true rfl)) dL_set_4 ⟨Nat.zero_le _, Nat.zero_le _⟩) (fun H locs hP hS => ?_)
    refine lv_i2l (v := r0.toInt64) hx hb dL_set_7 rfl ?_
    refine z_last C Z hP hS dL_set_8 (fun H locs hP hS => ?_)
    refine lv_goto (tgt := 15) hx hb dL_set_9 (by decide) ?_
    refine lv_iconst (v := 0) hx hb dL_set_15 (by decide) ?_
    refine W.widen (k := 1) (n := 6) (Nat.zero_le _) (Nat.zero_le _) ?_
    exact z_retiK C hr hlk hP hS dL_set_16
  · obtain ⟨rfl, rfl⟩ := zw_l1 hE
    refine z_xcalli hS (vx_runV (As := [.int (x1)]) (rest := [.int 0, .ref (G.2.1 125)]) C (x_X3_set l G hst e0 _) (cwV 1 hts gL_set_X3_set rfl rfl rfl hv_X3_set ⟨Nat.le_of_ble_eq_true rfl, Nat.le_of_ble_eq_true rfl⟩) (z_preV Z hS hP (by decide) (z_E_90 _) rfl rfl) rfl rfl hl.1 rfl (lv_room (Nat.le_of_ble_eq_true rfl)) dL_set_4 ⟨Nat.le_of_ble_eq_true rfl, Nat.le_of_ble_eq_true rfl⟩) (fun ce q9 H locs hP hS h1 h2 h3 => ?_)
    refine vx_catch (own := RL) (name := "java/lang/IllegalArgumentException") C.2.2.2.1 [] ⟨0, 9, 12, 15⟩ [] htab (fun _ hz => absurd hz List.not_mem_nil) (by decide) (by decide) (hts _ wL_set_0) (va_Nw.use rfl (Z.2.2.2.2.2.2.1.1 "java/lang/IllegalArgumentException" (by decide))) h1 h2 h3 ?_
    refine lv_astore_n (lv' := [(3, .ref q9), (0, .ref (G.2.1 90)), (1, .int (x1)), (2, .ref (G.2.1 125))]) hx hb dL_set_12 rfl hl (by decide) rfl (fun ls hl => ?_)
    refine lv_iconst (v := 1) hx hb dL_set_13 (by decide) ?_
    exact z_retiK C hr hlk hP hS dL_set_14
abbrev rm_L_append : Room := { frames := 7, cells := 1, slots := 6, locals := 103 }
theorem hd_L_append : yL_append.cls ≠ "java/lang/invoke/MethodHandle" ∧ yL_append.cls ≠ "java/lang/invoke/VarHandle" ∧ (parseMethodDescriptor yL_append.desc).map (fun d => d.parameters.length) = some 3 := by decide +kernel
theorem wL_append_0 : Cond.classLink RL 15 "java/lang/IllegalArgumentException" ∈ wsL_append := by decide +kernel
theorem wL_append_1 : Cond.classLink RL 37 "java/lang/IllegalStateException" ∈ wsL_append := by decide +kernel
set_option maxHeartbeats 4000000 in
set_option maxRecDepth 100000 in
theorem c_L_append (l : Launch) (G : zG) (hst : l.stackTraces = false) {x1 : Int32} {μ mu1 : Mm} {r : Int32} (h : f_L_append x1 μ = some (r, mu1)) (sz : Nat) : Met l yL_append wsL_append rm_L_append (z_Pre G μ [.ref (G.2.1 90), .int (x1), .ref (G.2.1 125)] sz) (z_Qi G r mu1 sz) 1 6 (z_A G sz) := by
  refine z_startW (Qc := fun sz => z_Qi G r mu1 sz) (cc := cL_append) (maxL := 4) (ret := some .int) (own := RL) (hh := [(0, 9, 12, 15), (0, 9, 15, 37)]) (by decide) rfl rfl (Nat.le_of_ble_eq_true rfl) (fun p e s m args below meth c C hr htab hlk Z hP ls hl => ?_) sz
  have hx := C.1
  have hb := C.2.1
  have hts := C.2.2.2.2
  have hS : va_S (z_A G s.heap.size) s.heap s.heap [] := va_S.rf
  have hl : lv_has ls 4 [(0, .ref (G.2.1 90)), (1, .int (x1)), (2, .ref (G.2.1 125))] := hl
  unfold f_L_append at h
  refine lv_aload_n hx hb dL_append_0 rfl (lv_at hl 2 rfl) ?_
  refine lv_iconst (v := 0) hx hb dL_append_1 (by decide) ?_
  refine lv_aload_n hx hb dL_append_2 rfl (lv_at hl 0 rfl) ?_
  refine lv_iload_n hx hb dL_append_3 rfl (lv_at hl 1 rfl) ?_
  rcases zw_some h with ⟨r0, m0, e0, rfl, rfl⟩ | ⟨E, e0, hE⟩
  · refine z_calli hS (va_runV (As := [.int (x1)]) (rest := [.int 0, .ref (G.2.1 125)]) C (c_X3_append l G e0 _) (cwV 1 hts gL_append_X3_append rfl rfl rfl hv_X3_append ⟨Nat.le_of_ble_eq_true rfl, Nat.le_of_ble_eq_true rfl⟩) (z_preV Z hS hP (by decide) (z_E_90 _) rfl rfl) rfl rfl hl.1 rfl (lv_room (Nat.le_of_ble_eq_true rfl)) dL_append_4 ⟨Nat.zero_le _, Nat.zero_le _⟩) (fun H locs hP hS => ?_)
    refine lv_i2l (v := r0.toInt64) hx hb dL_append_7 rfl ?_
    refine z_last C Z hP hS dL_append_8 (fun H locs hP hS => ?_)
    refine lv_goto (tgt := 18) hx hb dL_append_9 (by decide) ?_
    refine lv_iconst (v := 0) hx hb dL_append_18 (by decide) ?_
    refine W.widen (k := 1) (n := 6) (Nat.zero_le _) (Nat.zero_le _) ?_
    exact z_retiK C hr hlk hP hS dL_append_19
  · rcases zw_l2 hE with ⟨rfl, rfl⟩ | ⟨rfl, rfl⟩
    · refine z_xcalli hS (vx_runV (As := [.int (x1)]) (rest := [.int 0, .ref (G.2.1 125)]) C (x_X3_append l G hst e0 _) (cwV 1 hts gL_append_X3_append rfl rfl rfl hv_X3_append ⟨Nat.le_of_ble_eq_true rfl, Nat.le_of_ble_eq_true rfl⟩) (z_preV Z hS hP (by decide) (z_E_90 _) rfl rfl) rfl rfl hl.1 rfl (lv_room (Nat.le_of_ble_eq_true rfl)) dL_append_4 ⟨Nat.le_of_ble_eq_true rfl, Nat.le_of_ble_eq_true rfl⟩) (fun ce q9 H locs hP hS h1 h2 h3 => ?_)
      refine vx_catch (own := RL) (name := "java/lang/IllegalArgumentException") C.2.2.2.1 [] ⟨0, 9, 12, 15⟩ [⟨0, 9, 15, 37⟩] htab (fun _ hz => absurd hz List.not_mem_nil) (by decide) (by decide) (hts _ wL_append_0) (va_Nw.use rfl (Z.2.2.2.2.2.2.1.1 "java/lang/IllegalArgumentException" (by decide))) h1 h2 h3 ?_
      refine lv_astore_n (lv' := [(3, .ref q9), (0, .ref (G.2.1 90)), (1, .int (x1)), (2, .ref (G.2.1 125))]) hx hb dL_append_12 rfl hl (by decide) rfl (fun ls hl => ?_)
      refine lv_iconst (v := 1) hx hb dL_append_13 (by decide) ?_
      exact z_retiK C hr hlk hP hS dL_append_14
    · refine z_xcalli hS (vx_runV (As := [.int (x1)]) (rest := [.int 0, .ref (G.2.1 125)]) C (x_X3_append l G hst e0 _) (cwV 1 hts gL_append_X3_append rfl rfl rfl hv_X3_append ⟨Nat.le_of_ble_eq_true rfl, Nat.le_of_ble_eq_true rfl⟩) (z_preV Z hS hP (by decide) (z_E_90 _) rfl rfl) rfl rfl hl.1 rfl (lv_room (Nat.le_of_ble_eq_true rfl)) dL_append_4 ⟨Nat.le_of_ble_eq_true rfl, Nat.le_of_ble_eq_true rfl⟩) (fun ce q9 H locs hP hS h1 h2 h3 => ?_)
      refine vx_catch (own := RL) (name := "java/lang/IllegalStateException") C.2.2.2.1 [⟨0, 9, 12, 15⟩] ⟨0, 9, 15, 37⟩ [] htab (fun z hz => by rw [List.mem_singleton.mp hz]; exact Or.inr ⟨by decide, "java/lang/IllegalArgumentException", hts _ wL_append_0, Z.2.2.2.2.2.2.1.2 ("java/lang/IllegalStateException", "java/lang/IllegalArgumentException") (by decide)⟩) (by decide) (by decide) (hts _ wL_append_1) (va_Nw.use rfl (Z.2.2.2.2.2.2.1.1 "java/lang/IllegalStateException" (by decide))) h1 h2 h3 ?_
      refine lv_astore_n (lv' := [(3, .ref q9), (0, .ref (G.2.1 90)), (1, .int (x1)), (2, .ref (G.2.1 125))]) hx hb dL_append_15 rfl hl (by decide) rfl (fun ls hl => ?_)
      refine lv_iconst (v := 2) hx hb dL_append_16 (by decide) ?_
      exact z_retiK C hr hlk hP hS dL_append_17
abbrev rm_L_run : Room := { frames := 8, cells := 1, slots := 6, locals := 173 }
theorem hd_L_run : yL_run.cls ≠ "java/lang/invoke/MethodHandle" ∧ yL_run.cls ≠ "java/lang/invoke/VarHandle" ∧ (parseMethodDescriptor yL_run.desc).map (fun d => d.parameters.length) = some 2 := by decide +kernel
theorem wL_run_0 : Cond.classLink RL 15 "java/lang/IllegalArgumentException" ∈ wsL_run := by decide +kernel
set_option maxHeartbeats 4000000 in
set_option maxRecDepth 100000 in
theorem c_L_run (l : Launch) (G : zG) (hst : l.stackTraces = false)  {μ mu1 : Mm} {r : Int32} (h : f_L_run  μ = some (r, mu1)) (sz : Nat) : Met l yL_run wsL_run rm_L_run (z_Pre G μ [.ref (G.2.1 90), .ref (G.2.1 125)] sz) (z_Qi G r mu1 sz) 1 6 (z_A G sz) := by
  refine z_startW (Qc := fun sz => z_Qi G r mu1 sz) (cc := cL_run) (maxL := 3) (ret := some .int) (own := RL) (hh := [(0, 8, 11, 15)]) (by decide) rfl rfl (Nat.le_of_ble_eq_true rfl) (fun p e s m args below meth c C hr htab hlk Z hP ls hl => ?_) sz
  have hx := C.1
  have hb := C.2.1
  have hts := C.2.2.2.2
  have hS : va_S (z_A G s.heap.size) s.heap s.heap [] := va_S.rf
  have hl : lv_has ls 3 [(0, .ref (G.2.1 90)), (1, .ref (G.2.1 125))] := hl
  unfold f_L_run at h
  refine lv_aload_n hx hb dL_run_0 rfl (lv_at hl 1 rfl) ?_
  refine lv_iconst (v := 0) hx hb dL_run_1 (by decide) ?_
  refine lv_aload_n hx hb dL_run_2 rfl (lv_at hl 0 rfl) ?_
  rcases zw_some h with ⟨r0, m0, e0, rfl, rfl⟩ | ⟨E, e0, hE⟩
  · refine z_calli hS (va_runV (As := []) (rest := [.int 0, .ref (G.2.1 125)]) C (c_X3_run l G e0 _) (cwV 0 hts gL_run_X3_run rfl rfl rfl hv_X3_run ⟨Nat.le_of_ble_eq_true rfl, Nat.le_of_ble_eq_true rfl⟩) (z_preV Z hS hP (by decide) (z_E_90 _) rfl rfl) rfl rfl hl.1 rfl (lv_room (Nat.le_of_ble_eq_true rfl)) dL_run_3 ⟨Nat.zero_le _, Nat.zero_le _⟩) (fun H locs hP hS => ?_)
    refine lv_i2l (v := r0.toInt64) hx hb dL_run_6 rfl ?_
    refine z_last C Z hP hS dL_run_7 (fun H locs hP hS => ?_)
    refine lv_goto (tgt := 14) hx hb dL_run_8 (by decide) ?_
    refine lv_iconst (v := 0) hx hb dL_run_14 (by decide) ?_
    refine W.widen (k := 1) (n := 6) (Nat.zero_le _) (Nat.zero_le _) ?_
    exact z_retiK C hr hlk hP hS dL_run_15
  · obtain ⟨rfl, rfl⟩ := zw_l1 hE
    refine z_xcalli hS (vx_runV (As := []) (rest := [.int 0, .ref (G.2.1 125)]) C (x_X3_run l G hst e0 _) (cwV 0 hts gL_run_X3_run rfl rfl rfl hv_X3_run ⟨Nat.le_of_ble_eq_true rfl, Nat.le_of_ble_eq_true rfl⟩) (z_preV Z hS hP (by decide) (z_E_90 _) rfl rfl) rfl rfl hl.1 rfl (lv_room (Nat.le_of_ble_eq_true rfl)) dL_run_3 ⟨Nat.le_of_ble_eq_true rfl, Nat.le_of_ble_eq_true rfl⟩) (fun ce q9 H locs hP hS h1 h2 h3 => ?_)
    refine vx_catch (own := RL) (name := "java/lang/IllegalArgumentException") C.2.2.2.1 [] ⟨0, 8, 11, 15⟩ [] htab (fun _ hz => absurd hz List.not_mem_nil) (by decide) (by decide) (hts _ wL_run_0) (va_Nw.use rfl (Z.2.2.2.2.2.2.1.1 "java/lang/IllegalArgumentException" (by decide))) h1 h2 h3 ?_
    refine lv_astore_n (lv' := [(2, .ref q9), (0, .ref (G.2.1 90)), (1, .ref (G.2.1 125))]) hx hb dL_run_11 rfl hl (by decide) rfl (fun ls hl => ?_)
    refine lv_iconst (v := 1) hx hb dL_run_12 (by decide) ?_
    exact z_retiK C hr hlk hP hS dL_run_13
abbrev rm_L_keep : Room := { frames := 8, cells := 1, slots := 6, locals := 124 }
theorem hd_L_keep : yL_keep.cls ≠ "java/lang/invoke/MethodHandle" ∧ yL_keep.cls ≠ "java/lang/invoke/VarHandle" ∧ (parseMethodDescriptor yL_keep.desc).map (fun d => d.parameters.length) = some 3 := by decide +kernel
theorem wL_keep_0 : Cond.classLink RL 15 "java/lang/IllegalArgumentException" ∈ wsL_keep := by decide +kernel
set_option maxHeartbeats 4000000 in
set_option maxRecDepth 100000 in
theorem c_L_keep (l : Launch) (G : zG) (hst : l.stackTraces = false) {x1 : Int32} {μ mu1 : Mm} {r : Int32} (h : f_L_keep x1 μ = some (r, mu1)) (sz : Nat) : Met l yL_keep wsL_keep rm_L_keep (z_Pre G μ [.ref (G.2.1 90), .int (x1), .ref (G.2.1 125)] sz) (z_Qi G r mu1 sz) 1 6 (z_A G sz) := by
  refine z_startW (Qc := fun sz => z_Qi G r mu1 sz) (cc := cL_keep) (maxL := 4) (ret := some .int) (own := RL) (hh := [(0, 9, 12, 15)]) (by decide) rfl rfl (Nat.le_of_ble_eq_true rfl) (fun p e s m args below meth c C hr htab hlk Z hP ls hl => ?_) sz
  have hx := C.1
  have hb := C.2.1
  have hts := C.2.2.2.2
  have hS : va_S (z_A G s.heap.size) s.heap s.heap [] := va_S.rf
  have hl : lv_has ls 4 [(0, .ref (G.2.1 90)), (1, .int (x1)), (2, .ref (G.2.1 125))] := hl
  unfold f_L_keep at h
  refine lv_aload_n hx hb dL_keep_0 rfl (lv_at hl 2 rfl) ?_
  refine lv_iconst (v := 0) hx hb dL_keep_1 (by decide) ?_
  refine lv_aload_n hx hb dL_keep_2 rfl (lv_at hl 0 rfl) ?_
  refine lv_iload_n hx hb dL_keep_3 rfl (lv_at hl 1 rfl) ?_
  rcases zw_some h with ⟨r0, m0, e0, rfl, rfl⟩ | ⟨E, e0, hE⟩
  · refine z_calli hS (va_runV (As := [.int (x1)]) (rest := [.int 0, .ref (G.2.1 125)]) C (c_X3_keep l G e0 _) (cwV 1 hts gL_keep_X3_keep rfl rfl rfl hv_X3_keep ⟨Nat.le_of_ble_eq_true rfl, Nat.le_of_ble_eq_true rfl⟩) (z_preV Z hS hP (by decide) (z_E_90 _) rfl rfl) rfl rfl hl.1 rfl (lv_room (Nat.le_of_ble_eq_true rfl)) dL_keep_4 ⟨Nat.zero_le _, Nat.zero_le _⟩) (fun H locs hP hS => ?_)
    refine lv_i2l (v := r0.toInt64) hx hb dL_keep_7 rfl ?_
    refine z_last C Z hP hS dL_keep_8 (fun H locs hP hS => ?_)
    refine lv_goto (tgt := 15) hx hb dL_keep_9 (by decide) ?_
    refine lv_iconst (v := 0) hx hb dL_keep_15 (by decide) ?_
    refine W.widen (k := 1) (n := 6) (Nat.zero_le _) (Nat.zero_le _) ?_
    exact z_retiK C hr hlk hP hS dL_keep_16
  · obtain ⟨rfl, rfl⟩ := zw_l1 hE
    refine z_xcalli hS (vx_runV (As := [.int (x1)]) (rest := [.int 0, .ref (G.2.1 125)]) C (x_X3_keep l G hst e0 _) (cwV 1 hts gL_keep_X3_keep rfl rfl rfl hv_X3_keep ⟨Nat.le_of_ble_eq_true rfl, Nat.le_of_ble_eq_true rfl⟩) (z_preV Z hS hP (by decide) (z_E_90 _) rfl rfl) rfl rfl hl.1 rfl (lv_room (Nat.le_of_ble_eq_true rfl)) dL_keep_4 ⟨Nat.le_of_ble_eq_true rfl, Nat.le_of_ble_eq_true rfl⟩) (fun ce q9 H locs hP hS h1 h2 h3 => ?_)
    refine vx_catch (own := RL) (name := "java/lang/IllegalArgumentException") C.2.2.2.1 [] ⟨0, 9, 12, 15⟩ [] htab (fun _ hz => absurd hz List.not_mem_nil) (by decide) (by decide) (hts _ wL_keep_0) (va_Nw.use rfl (Z.2.2.2.2.2.2.1.1 "java/lang/IllegalArgumentException" (by decide))) h1 h2 h3 ?_
    refine lv_astore_n (lv' := [(3, .ref q9), (0, .ref (G.2.1 90)), (1, .int (x1)), (2, .ref (G.2.1 125))]) hx hb dL_keep_12 rfl hl (by decide) rfl (fun ls hl => ?_)
    refine lv_iconst (v := 1) hx hb dL_keep_13 (by decide) ?_
    exact z_retiK C hr hlk hP hS dL_keep_14
abbrev rm_L_goBack : Room := { frames := 8, cells := 1, slots := 6, locals := 124 }
theorem hd_L_goBack : yL_goBack.cls ≠ "java/lang/invoke/MethodHandle" ∧ yL_goBack.cls ≠ "java/lang/invoke/VarHandle" ∧ (parseMethodDescriptor yL_goBack.desc).map (fun d => d.parameters.length) = some 3 := by decide +kernel
theorem wL_goBack_0 : Cond.classLink RL 15 "java/lang/IllegalArgumentException" ∈ wsL_goBack := by decide +kernel
theorem wL_goBack_1 : Cond.classLink RL 37 "java/lang/IllegalStateException" ∈ wsL_goBack := by decide +kernel
set_option maxHeartbeats 4000000 in
set_option maxRecDepth 100000 in
theorem c_L_goBack (l : Launch) (G : zG) (hst : l.stackTraces = false) {x1 : Int32} {μ mu1 : Mm} {r : Int32} (h : f_L_goBack x1 μ = some (r, mu1)) (sz : Nat) : Met l yL_goBack wsL_goBack rm_L_goBack (z_Pre G μ [.ref (G.2.1 90), .int (x1), .ref (G.2.1 125)] sz) (z_Qi G r mu1 sz) 1 6 (z_A G sz) := by
  refine z_startW (Qc := fun sz => z_Qi G r mu1 sz) (cc := cL_goBack) (maxL := 4) (ret := some .int) (own := RL) (hh := [(0, 9, 12, 15), (0, 9, 15, 37)]) (by decide) rfl rfl (Nat.le_of_ble_eq_true rfl) (fun p e s m args below meth c C hr htab hlk Z hP ls hl => ?_) sz
  have hx := C.1
  have hb := C.2.1
  have hts := C.2.2.2.2
  have hS : va_S (z_A G s.heap.size) s.heap s.heap [] := va_S.rf
  have hl : lv_has ls 4 [(0, .ref (G.2.1 90)), (1, .int (x1)), (2, .ref (G.2.1 125))] := hl
  unfold f_L_goBack at h
  refine lv_aload_n hx hb dL_goBack_0 rfl (lv_at hl 2 rfl) ?_
  refine lv_iconst (v := 0) hx hb dL_goBack_1 (by decide) ?_
  refine lv_aload_n hx hb dL_goBack_2 rfl (lv_at hl 0 rfl) ?_
  refine lv_iload_n hx hb dL_goBack_3 rfl (lv_at hl 1 rfl) ?_
  rcases zw_some h with ⟨r0, m0, e0, rfl, rfl⟩ | ⟨E, e0, hE⟩
  · refine z_calli hS (va_runV (As := [.int (x1)]) (rest := [.int 0, .ref (G.2.1 125)]) C (c_X3_goBack l G e0 _) (cwV 1 hts gL_goBack_X3_goBack rfl rfl rfl hv_X3_goBack ⟨Nat.le_of_ble_eq_true rfl, Nat.le_of_ble_eq_true rfl⟩) (z_preV Z hS hP (by decide) (z_E_90 _) rfl rfl) rfl rfl hl.1 rfl (lv_room (Nat.le_of_ble_eq_true rfl)) dL_goBack_4 ⟨Nat.zero_le _, Nat.zero_le _⟩) (fun H locs hP hS => ?_)
    refine lv_i2l (v := r0.toInt64) hx hb dL_goBack_7 rfl ?_
    refine z_last C Z hP hS dL_goBack_8 (fun H locs hP hS => ?_)
    refine lv_goto (tgt := 18) hx hb dL_goBack_9 (by decide) ?_
    refine lv_iconst (v := 0) hx hb dL_goBack_18 (by decide) ?_
    refine W.widen (k := 1) (n := 6) (Nat.zero_le _) (Nat.zero_le _) ?_
    exact z_retiK C hr hlk hP hS dL_goBack_19
  · rcases zw_l2 hE with ⟨rfl, rfl⟩ | ⟨rfl, rfl⟩
    · refine z_xcalli hS (vx_runV (As := [.int (x1)]) (rest := [.int 0, .ref (G.2.1 125)]) C (x_X3_goBack l G hst e0 _) (cwV 1 hts gL_goBack_X3_goBack rfl rfl rfl hv_X3_goBack ⟨Nat.le_of_ble_eq_true rfl, Nat.le_of_ble_eq_true rfl⟩) (z_preV Z hS hP (by decide) (z_E_90 _) rfl rfl) rfl rfl hl.1 rfl (lv_room (Nat.le_of_ble_eq_true rfl)) dL_goBack_4 ⟨Nat.le_of_ble_eq_true rfl, Nat.le_of_ble_eq_true rfl⟩) (fun ce q9 H locs hP hS h1 h2 h3 => ?_)
      refine vx_catch (own := RL) (name := "java/lang/IllegalArgumentException") C.2.2.2.1 [] ⟨0, 9, 12, 15⟩ [⟨0, 9, 15, 37⟩] htab (fun _ hz => absurd hz List.not_mem_nil) (by decide) (by decide) (hts _ wL_goBack_0) (va_Nw.use rfl (Z.2.2.2.2.2.2.1.1 "java/lang/IllegalArgumentException" (by decide))) h1 h2 h3 ?_
      refine lv_astore_n (lv' := [(3, .ref q9), (0, .ref (G.2.1 90)), (1, .int (x1)), (2, .ref (G.2.1 125))]) hx hb dL_goBack_12 rfl hl (by decide) rfl (fun ls hl => ?_)
      refine lv_iconst (v := 1) hx hb dL_goBack_13 (by decide) ?_
      exact z_retiK C hr hlk hP hS dL_goBack_14
    · refine z_xcalli hS (vx_runV (As := [.int (x1)]) (rest := [.int 0, .ref (G.2.1 125)]) C (x_X3_goBack l G hst e0 _) (cwV 1 hts gL_goBack_X3_goBack rfl rfl rfl hv_X3_goBack ⟨Nat.le_of_ble_eq_true rfl, Nat.le_of_ble_eq_true rfl⟩) (z_preV Z hS hP (by decide) (z_E_90 _) rfl rfl) rfl rfl hl.1 rfl (lv_room (Nat.le_of_ble_eq_true rfl)) dL_goBack_4 ⟨Nat.le_of_ble_eq_true rfl, Nat.le_of_ble_eq_true rfl⟩) (fun ce q9 H locs hP hS h1 h2 h3 => ?_)
      refine vx_catch (own := RL) (name := "java/lang/IllegalStateException") C.2.2.2.1 [⟨0, 9, 12, 15⟩] ⟨0, 9, 15, 37⟩ [] htab (fun z hz => by rw [List.mem_singleton.mp hz]; exact Or.inr ⟨by decide, "java/lang/IllegalArgumentException", hts _ wL_goBack_0, Z.2.2.2.2.2.2.1.2 ("java/lang/IllegalStateException", "java/lang/IllegalArgumentException") (by decide)⟩) (by decide) (by decide) (hts _ wL_goBack_1) (va_Nw.use rfl (Z.2.2.2.2.2.2.1.1 "java/lang/IllegalStateException" (by decide))) h1 h2 h3 ?_
      refine lv_astore_n (lv' := [(3, .ref q9), (0, .ref (G.2.1 90)), (1, .int (x1)), (2, .ref (G.2.1 125))]) hx hb dL_goBack_15 rfl hl (by decide) rfl (fun ls hl => ?_)
      refine lv_iconst (v := 2) hx hb dL_goBack_16 (by decide) ?_
      exact z_retiK C hr hlk hP hS dL_goBack_17
abbrev rm_L_undo : Room := { frames := 7, cells := 1, slots := 6, locals := 102 }
theorem hd_L_undo : yL_undo.cls ≠ "java/lang/invoke/MethodHandle" ∧ yL_undo.cls ≠ "java/lang/invoke/VarHandle" ∧ (parseMethodDescriptor yL_undo.desc).map (fun d => d.parameters.length) = some 2 := by decide +kernel
theorem wL_undo_0 : Cond.classLink RL 37 "java/lang/IllegalStateException" ∈ wsL_undo := by decide +kernel
set_option maxHeartbeats 4000000 in
set_option maxRecDepth 100000 in
theorem c_L_undo (l : Launch) (G : zG) (hst : l.stackTraces = false)  {μ mu1 : Mm} {r : Int32} (h : f_L_undo  μ = some (r, mu1)) (sz : Nat) : Met l yL_undo wsL_undo rm_L_undo (z_Pre G μ [.ref (G.2.1 90), .ref (G.2.1 125)] sz) (z_Qi G r mu1 sz) 1 6 (z_A G sz) := by
  refine z_startW (Qc := fun sz => z_Qi G r mu1 sz) (cc := cL_undo) (maxL := 3) (ret := some .int) (own := RL) (hh := [(0, 8, 11, 37)]) (by decide) rfl rfl (Nat.le_of_ble_eq_true rfl) (fun p e s m args below meth c C hr htab hlk Z hP ls hl => ?_) sz
  have hx := C.1
  have hb := C.2.1
  have hts := C.2.2.2.2
  have hS : va_S (z_A G s.heap.size) s.heap s.heap [] := va_S.rf
  have hl : lv_has ls 3 [(0, .ref (G.2.1 90)), (1, .ref (G.2.1 125))] := hl
  unfold f_L_undo at h
  refine lv_aload_n hx hb dL_undo_0 rfl (lv_at hl 1 rfl) ?_
  refine lv_iconst (v := 0) hx hb dL_undo_1 (by decide) ?_
  refine lv_aload_n hx hb dL_undo_2 rfl (lv_at hl 0 rfl) ?_
  rcases zw_some h with ⟨r0, m0, e0, rfl, rfl⟩ | ⟨E, e0, hE⟩
  · refine z_calli hS (va_runV (As := []) (rest := [.int 0, .ref (G.2.1 125)]) C (c_X3_undo l G e0 _) (cwV 0 hts gL_undo_X3_undo rfl rfl rfl hv_X3_undo ⟨Nat.le_of_ble_eq_true rfl, Nat.le_of_ble_eq_true rfl⟩) (z_preV Z hS hP (by decide) (z_E_90 _) rfl rfl) rfl rfl hl.1 rfl (lv_room (Nat.le_of_ble_eq_true rfl)) dL_undo_3 ⟨Nat.zero_le _, Nat.zero_le _⟩) (fun H locs hP hS => ?_)
    refine lv_i2l (v := r0.toInt64) hx hb dL_undo_6 rfl ?_
    refine z_last C Z hP hS dL_undo_7 (fun H locs hP hS => ?_)
    refine lv_goto (tgt := 14) hx hb dL_undo_8 (by decide) ?_
    refine lv_iconst (v := 0) hx hb dL_undo_14 (by decide) ?_
    refine W.widen (k := 1) (n := 6) (Nat.zero_le _) (Nat.zero_le _) ?_
    exact z_retiK C hr hlk hP hS dL_undo_15
  · obtain ⟨rfl, rfl⟩ := zw_l1 hE
    refine z_xcalli hS (vx_runV (As := []) (rest := [.int 0, .ref (G.2.1 125)]) C (x_X3_undo l G hst e0 _) (cwV 0 hts gL_undo_X3_undo rfl rfl rfl hv_X3_undo ⟨Nat.le_of_ble_eq_true rfl, Nat.le_of_ble_eq_true rfl⟩) (z_preV Z hS hP (by decide) (z_E_90 _) rfl rfl) rfl rfl hl.1 rfl (lv_room (Nat.le_of_ble_eq_true rfl)) dL_undo_3 ⟨Nat.le_of_ble_eq_true rfl, Nat.le_of_ble_eq_true rfl⟩) (fun ce q9 H locs hP hS h1 h2 h3 => ?_)
    refine vx_catch (own := RL) (name := "java/lang/IllegalStateException") C.2.2.2.1 [] ⟨0, 8, 11, 37⟩ [] htab (fun _ hz => absurd hz List.not_mem_nil) (by decide) (by decide) (hts _ wL_undo_0) (va_Nw.use rfl (Z.2.2.2.2.2.2.1.1 "java/lang/IllegalStateException" (by decide))) h1 h2 h3 ?_
    refine lv_astore_n (lv' := [(2, .ref q9), (0, .ref (G.2.1 90)), (1, .ref (G.2.1 125))]) hx hb dL_undo_11 rfl hl (by decide) rfl (fun ls hl => ?_)
    refine lv_iconst (v := 1) hx hb dL_undo_12 (by decide) ?_
    exact z_retiK C hr hlk hP hS dL_undo_13
abbrev rm_L_trackOf : Room := { frames := 8, cells := 1, slots := 6, locals := 126 }
theorem hd_L_trackOf : yL_trackOf.cls ≠ "java/lang/invoke/MethodHandle" ∧ yL_trackOf.cls ≠ "java/lang/invoke/VarHandle" ∧ (parseMethodDescriptor yL_trackOf.desc).map (fun d => d.parameters.length) = some 4 := by decide +kernel
theorem wL_trackOf_0 : Cond.classLink RL 13 "java/lang/IndexOutOfBoundsException" ∈ wsL_trackOf := by decide +kernel
theorem wL_trackOf_1 : Cond.classLink RL 15 "java/lang/IllegalArgumentException" ∈ wsL_trackOf := by decide +kernel
set_option maxHeartbeats 4000000 in
set_option maxRecDepth 100000 in
theorem c_L_trackOf (l : Launch) (G : zG) (hst : l.stackTraces = false) {x1 : Int32} {x2 : Int32} {μ mu1 : Mm} {r : Int32} (h : f_L_trackOf x1 x2 μ = some (r, mu1)) (sz : Nat) : Met l yL_trackOf wsL_trackOf rm_L_trackOf (z_Pre G μ [.ref (G.2.1 90), .int (x1), .int (x2), .ref (G.2.1 125)] sz) (z_Qi G r mu1 sz) 1 6 (z_A G sz) := by
  refine z_startW (Qc := fun sz => z_Qi G r mu1 sz) (cc := cL_trackOf) (maxL := 5) (ret := some .int) (own := RL) (hh := [(0, 10, 13, 13), (0, 10, 17, 15)]) (by decide) rfl rfl (Nat.le_of_ble_eq_true rfl) (fun p e s m args below meth c C hr htab hlk Z hP ls hl => ?_) sz
  have hx := C.1
  have hb := C.2.1
  have hts := C.2.2.2.2
  have hS : va_S (z_A G s.heap.size) s.heap s.heap [] := va_S.rf
  have hl : lv_has ls 5 [(0, .ref (G.2.1 90)), (1, .int (x1)), (2, .int (x2)), (3, .ref (G.2.1 125))] := hl
  unfold f_L_trackOf at h
  refine lv_aload_n hx hb dL_trackOf_0 rfl (lv_at hl 3 rfl) ?_
  refine lv_iconst (v := 0) hx hb dL_trackOf_1 (by decide) ?_
  refine lv_aload_n hx hb dL_trackOf_2 rfl (lv_at hl 0 rfl) ?_
  refine lv_iload_n hx hb dL_trackOf_3 rfl (lv_at hl 1 rfl) ?_
  refine lv_iload_n hx hb dL_trackOf_4 rfl (lv_at hl 2 rfl) ?_
  rcases zw_some h with ⟨r0, m0, e0, rfl, rfl⟩ | ⟨E, e0, hE⟩
  · refine z_calli hS (va_runV (As := [.int (x1), .int (x2)]) (rest := [.int 0, .ref (G.2.1 125)]) C (c_X3_trackOf l G e0 _) (cwV 2 hts gL_trackOf_X3_trackOf rfl rfl rfl hv_X3_trackOf ⟨Nat.le_of_ble_eq_true rfl, Nat.le_of_ble_eq_true rfl⟩) (z_preV Z hS hP (by decide) (z_E_90 _) rfl rfl) rfl rfl hl.1 rfl (lv_room (Nat.le_of_ble_eq_true rfl)) dL_trackOf_5 ⟨Nat.zero_le _, Nat.zero_le _⟩) (fun H locs hP hS => ?_)
    refine lv_i2l (v := r0.toInt64) hx hb dL_trackOf_8 rfl ?_
    refine z_last C Z hP hS dL_trackOf_9 (fun H locs hP hS => ?_)
    refine lv_goto (tgt := 21) hx hb dL_trackOf_10 (by decide) ?_
    refine lv_iconst (v := 0) hx hb dL_trackOf_21 (by decide) ?_
    refine W.widen (k := 1) (n := 6) (Nat.zero_le _) (Nat.zero_le _) ?_
    exact z_retiK C hr hlk hP hS dL_trackOf_22
  · rcases zw_l2 hE with ⟨rfl, rfl⟩ | ⟨rfl, rfl⟩
    · refine z_xcalli hS (vx_runV (As := [.int (x1), .int (x2)]) (rest := [.int 0, .ref (G.2.1 125)]) C (x_X3_trackOf l G hst e0 _) (cwV 2 hts gL_trackOf_X3_trackOf rfl rfl rfl hv_X3_trackOf ⟨Nat.le_of_ble_eq_true rfl, Nat.le_of_ble_eq_true rfl⟩) (z_preV Z hS hP (by decide) (z_E_90 _) rfl rfl) rfl rfl hl.1 rfl (lv_room (Nat.le_of_ble_eq_true rfl)) dL_trackOf_5 ⟨Nat.le_of_ble_eq_true rfl, Nat.le_of_ble_eq_true rfl⟩) (fun ce q9 H locs hP hS h1 h2 h3 => ?_)
      refine vx_catch (own := RL) (name := "java/lang/IndexOutOfBoundsException") C.2.2.2.1 [] ⟨0, 10, 13, 13⟩ [⟨0, 10, 17, 15⟩] htab (fun _ hz => absurd hz List.not_mem_nil) (by decide) (by decide) (hts _ wL_trackOf_0) (va_Nw.use rfl (Z.2.2.2.2.2.2.1.1 "java/lang/IndexOutOfBoundsException" (by decide))) h1 h2 h3 ?_
      refine lv_astore (lv' := [(4, .ref q9), (0, .ref (G.2.1 90)), (1, .int (x1)), (2, .int (x2)), (3, .ref (G.2.1 125))]) hx hb dL_trackOf_13 hl (by decide) rfl (fun ls hl => ?_)
      refine lv_iconst (v := 1) hx hb dL_trackOf_15 (by decide) ?_
      exact z_retiK C hr hlk hP hS dL_trackOf_16
    · refine z_xcalli hS (vx_runV (As := [.int (x1), .int (x2)]) (rest := [.int 0, .ref (G.2.1 125)]) C (x_X3_trackOf l G hst e0 _) (cwV 2 hts gL_trackOf_X3_trackOf rfl rfl rfl hv_X3_trackOf ⟨Nat.le_of_ble_eq_true rfl, Nat.le_of_ble_eq_true rfl⟩) (z_preV Z hS hP (by decide) (z_E_90 _) rfl rfl) rfl rfl hl.1 rfl (lv_room (Nat.le_of_ble_eq_true rfl)) dL_trackOf_5 ⟨Nat.le_of_ble_eq_true rfl, Nat.le_of_ble_eq_true rfl⟩) (fun ce q9 H locs hP hS h1 h2 h3 => ?_)
      refine vx_catch (own := RL) (name := "java/lang/IllegalArgumentException") C.2.2.2.1 [⟨0, 10, 13, 13⟩] ⟨0, 10, 17, 15⟩ [] htab (fun z hz => by rw [List.mem_singleton.mp hz]; exact Or.inr ⟨by decide, "java/lang/IndexOutOfBoundsException", hts _ wL_trackOf_0, Z.2.2.2.2.2.2.1.2 ("java/lang/IllegalArgumentException", "java/lang/IndexOutOfBoundsException") (by decide)⟩) (by decide) (by decide) (hts _ wL_trackOf_1) (va_Nw.use rfl (Z.2.2.2.2.2.2.1.1 "java/lang/IllegalArgumentException" (by decide))) h1 h2 h3 ?_
      refine lv_astore (lv' := [(4, .ref q9), (0, .ref (G.2.1 90)), (1, .int (x1)), (2, .int (x2)), (3, .ref (G.2.1 125))]) hx hb dL_trackOf_17 hl (by decide) rfl (fun ls hl => ?_)
      refine lv_iconst (v := 2) hx hb dL_trackOf_19 (by decide) ?_
      exact z_retiK C hr hlk hP hS dL_trackOf_20
abbrev rm_L_cylinderOf : Room := { frames := 8, cells := 1, slots := 6, locals := 126 }
theorem hd_L_cylinderOf : yL_cylinderOf.cls ≠ "java/lang/invoke/MethodHandle" ∧ yL_cylinderOf.cls ≠ "java/lang/invoke/VarHandle" ∧ (parseMethodDescriptor yL_cylinderOf.desc).map (fun d => d.parameters.length) = some 4 := by decide +kernel
theorem wL_cylinderOf_0 : Cond.classLink RL 13 "java/lang/IndexOutOfBoundsException" ∈ wsL_cylinderOf := by decide +kernel
theorem wL_cylinderOf_1 : Cond.classLink RL 15 "java/lang/IllegalArgumentException" ∈ wsL_cylinderOf := by decide +kernel
set_option maxHeartbeats 4000000 in
set_option maxRecDepth 100000 in
theorem c_L_cylinderOf (l : Launch) (G : zG) (hst : l.stackTraces = false) {x1 : Int32} {x2 : Int32} {μ mu1 : Mm} {r : Int32} (h : f_L_cylinderOf x1 x2 μ = some (r, mu1)) (sz : Nat) : Met l yL_cylinderOf wsL_cylinderOf rm_L_cylinderOf (z_Pre G μ [.ref (G.2.1 90), .int (x1), .int (x2), .ref (G.2.1 125)] sz) (z_Qi G r mu1 sz) 1 6 (z_A G sz) := by
  refine z_startW (Qc := fun sz => z_Qi G r mu1 sz) (cc := cL_cylinderOf) (maxL := 5) (ret := some .int) (own := RL) (hh := [(0, 10, 13, 13), (0, 10, 17, 15)]) (by decide) rfl rfl (Nat.le_of_ble_eq_true rfl) (fun p e s m args below meth c C hr htab hlk Z hP ls hl => ?_) sz
  have hx := C.1
  have hb := C.2.1
  have hts := C.2.2.2.2
  have hS : va_S (z_A G s.heap.size) s.heap s.heap [] := va_S.rf
  have hl : lv_has ls 5 [(0, .ref (G.2.1 90)), (1, .int (x1)), (2, .int (x2)), (3, .ref (G.2.1 125))] := hl
  unfold f_L_cylinderOf at h
  refine lv_aload_n hx hb dL_cylinderOf_0 rfl (lv_at hl 3 rfl) ?_
  refine lv_iconst (v := 0) hx hb dL_cylinderOf_1 (by decide) ?_
  refine lv_aload_n hx hb dL_cylinderOf_2 rfl (lv_at hl 0 rfl) ?_
  refine lv_iload_n hx hb dL_cylinderOf_3 rfl (lv_at hl 1 rfl) ?_
  refine lv_iload_n hx hb dL_cylinderOf_4 rfl (lv_at hl 2 rfl) ?_
  rcases zw_some h with ⟨r0, m0, e0, rfl, rfl⟩ | ⟨E, e0, hE⟩
  · refine z_calli hS (va_runV (As := [.int (x1), .int (x2)]) (rest := [.int 0, .ref (G.2.1 125)]) C (c_X3_cylinderOf l G e0 _) (cwV 2 hts gL_cylinderOf_X3_cylinderOf rfl rfl rfl hv_X3_cylinderOf ⟨Nat.le_of_ble_eq_true rfl, Nat.le_of_ble_eq_true rfl⟩) (z_preV Z hS hP (by decide) (z_E_90 _) rfl rfl) rfl rfl hl.1 rfl (lv_room (Nat.le_of_ble_eq_true rfl)) dL_cylinderOf_5 ⟨Nat.zero_le _, Nat.zero_le _⟩) (fun H locs hP hS => ?_)
    refine lv_i2l (v := r0.toInt64) hx hb dL_cylinderOf_8 rfl ?_
    refine z_last C Z hP hS dL_cylinderOf_9 (fun H locs hP hS => ?_)
    refine lv_goto (tgt := 21) hx hb dL_cylinderOf_10 (by decide) ?_
    refine lv_iconst (v := 0) hx hb dL_cylinderOf_21 (by decide) ?_
    refine W.widen (k := 1) (n := 6) (Nat.zero_le _) (Nat.zero_le _) ?_
    exact z_retiK C hr hlk hP hS dL_cylinderOf_22
  · rcases zw_l2 hE with ⟨rfl, rfl⟩ | ⟨rfl, rfl⟩
    · refine z_xcalli hS (vx_runV (As := [.int (x1), .int (x2)]) (rest := [.int 0, .ref (G.2.1 125)]) C (x_X3_cylinderOf l G hst e0 _) (cwV 2 hts gL_cylinderOf_X3_cylinderOf rfl rfl rfl hv_X3_cylinderOf ⟨Nat.le_of_ble_eq_true rfl, Nat.le_of_ble_eq_true rfl⟩) (z_preV Z hS hP (by decide) (z_E_90 _) rfl rfl) rfl rfl hl.1 rfl (lv_room (Nat.le_of_ble_eq_true rfl)) dL_cylinderOf_5 ⟨Nat.le_of_ble_eq_true rfl, Nat.le_of_ble_eq_true rfl⟩) (fun ce q9 H locs hP hS h1 h2 h3 => ?_)
      refine vx_catch (own := RL) (name := "java/lang/IndexOutOfBoundsException") C.2.2.2.1 [] ⟨0, 10, 13, 13⟩ [⟨0, 10, 17, 15⟩] htab (fun _ hz => absurd hz List.not_mem_nil) (by decide) (by decide) (hts _ wL_cylinderOf_0) (va_Nw.use rfl (Z.2.2.2.2.2.2.1.1 "java/lang/IndexOutOfBoundsException" (by decide))) h1 h2 h3 ?_
      refine lv_astore (lv' := [(4, .ref q9), (0, .ref (G.2.1 90)), (1, .int (x1)), (2, .int (x2)), (3, .ref (G.2.1 125))]) hx hb dL_cylinderOf_13 hl (by decide) rfl (fun ls hl => ?_)
      refine lv_iconst (v := 1) hx hb dL_cylinderOf_15 (by decide) ?_
      exact z_retiK C hr hlk hP hS dL_cylinderOf_16
    · refine z_xcalli hS (vx_runV (As := [.int (x1), .int (x2)]) (rest := [.int 0, .ref (G.2.1 125)]) C (x_X3_cylinderOf l G hst e0 _) (cwV 2 hts gL_cylinderOf_X3_cylinderOf rfl rfl rfl hv_X3_cylinderOf ⟨Nat.le_of_ble_eq_true rfl, Nat.le_of_ble_eq_true rfl⟩) (z_preV Z hS hP (by decide) (z_E_90 _) rfl rfl) rfl rfl hl.1 rfl (lv_room (Nat.le_of_ble_eq_true rfl)) dL_cylinderOf_5 ⟨Nat.le_of_ble_eq_true rfl, Nat.le_of_ble_eq_true rfl⟩) (fun ce q9 H locs hP hS h1 h2 h3 => ?_)
      refine vx_catch (own := RL) (name := "java/lang/IllegalArgumentException") C.2.2.2.1 [⟨0, 10, 13, 13⟩] ⟨0, 10, 17, 15⟩ [] htab (fun z hz => by rw [List.mem_singleton.mp hz]; exact Or.inr ⟨by decide, "java/lang/IndexOutOfBoundsException", hts _ wL_cylinderOf_0, Z.2.2.2.2.2.2.1.2 ("java/lang/IllegalArgumentException", "java/lang/IndexOutOfBoundsException") (by decide)⟩) (by decide) (by decide) (hts _ wL_cylinderOf_1) (va_Nw.use rfl (Z.2.2.2.2.2.2.1.1 "java/lang/IllegalArgumentException" (by decide))) h1 h2 h3 ?_
      refine lv_astore (lv' := [(4, .ref q9), (0, .ref (G.2.1 90)), (1, .int (x1)), (2, .int (x2)), (3, .ref (G.2.1 125))]) hx hb dL_cylinderOf_17 hl (by decide) rfl (fun ls hl => ?_)
      refine lv_iconst (v := 2) hx hb dL_cylinderOf_19 (by decide) ?_
      exact z_retiK C hr hlk hP hS dL_cylinderOf_20
abbrev rm_L_count : Room := { frames := 8, cells := 1, slots := 6, locals := 125 }
theorem hd_L_count : yL_count.cls ≠ "java/lang/invoke/MethodHandle" ∧ yL_count.cls ≠ "java/lang/invoke/VarHandle" ∧ (parseMethodDescriptor yL_count.desc).map (fun d => d.parameters.length) = some 3 := by decide +kernel
theorem wL_count_0 : Cond.classLink RL 15 "java/lang/IllegalArgumentException" ∈ wsL_count := by decide +kernel
set_option maxHeartbeats 4000000 in
set_option maxRecDepth 100000 in
theorem c_L_count (l : Launch) (G : zG) (hst : l.stackTraces = false) {x1 : Int32} {μ mu1 : Mm} {r : Int32} (h : f_L_count x1 μ = some (r, mu1)) (sz : Nat) : Met l yL_count wsL_count rm_L_count (z_Pre G μ [.ref (G.2.1 90), .int (x1), .ref (G.2.1 125)] sz) (z_Qi G r mu1 sz) 1 6 (z_A G sz) := by
  refine z_startW (Qc := fun sz => z_Qi G r mu1 sz) (cc := cL_count) (maxL := 4) (ret := some .int) (own := RL) (hh := [(0, 9, 12, 15)]) (by decide) rfl rfl (Nat.le_of_ble_eq_true rfl) (fun p e s m args below meth c C hr htab hlk Z hP ls hl => ?_) sz
  have hx := C.1
  have hb := C.2.1
  have hts := C.2.2.2.2
  have hS : va_S (z_A G s.heap.size) s.heap s.heap [] := va_S.rf
  have hl : lv_has ls 4 [(0, .ref (G.2.1 90)), (1, .int (x1)), (2, .ref (G.2.1 125))] := hl
  unfold f_L_count at h
  refine lv_aload_n hx hb dL_count_0 rfl (lv_at hl 2 rfl) ?_
  refine lv_iconst (v := 0) hx hb dL_count_1 (by decide) ?_
  refine lv_aload_n hx hb dL_count_2 rfl (lv_at hl 0 rfl) ?_
  refine lv_iload_n hx hb dL_count_3 rfl (lv_at hl 1 rfl) ?_
  rcases zw_some h with ⟨r0, m0, e0, rfl, rfl⟩ | ⟨E, e0, hE⟩
  · refine z_calli hS (va_runV (As := [.int (x1)]) (rest := [.int 0, .ref (G.2.1 125)]) C (c_X3_count l G e0 _) (cwV 1 hts gL_count_X3_count rfl rfl rfl hv_X3_count ⟨Nat.le_of_ble_eq_true rfl, Nat.le_of_ble_eq_true rfl⟩) (z_preV Z hS hP (by decide) (z_E_90 _) rfl rfl) rfl rfl hl.1 rfl (lv_room (Nat.le_of_ble_eq_true rfl)) dL_count_4 ⟨Nat.zero_le _, Nat.zero_le _⟩) (fun H locs hP hS => ?_)
    refine lv_i2l (v := r0.toInt64) hx hb dL_count_7 rfl ?_
    refine z_last C Z hP hS dL_count_8 (fun H locs hP hS => ?_)
    refine lv_goto (tgt := 15) hx hb dL_count_9 (by decide) ?_
    refine lv_iconst (v := 0) hx hb dL_count_15 (by decide) ?_
    refine W.widen (k := 1) (n := 6) (Nat.zero_le _) (Nat.zero_le _) ?_
    exact z_retiK C hr hlk hP hS dL_count_16
  · obtain ⟨rfl, rfl⟩ := zw_l1 hE
    refine z_xcalli hS (vx_runV (As := [.int (x1)]) (rest := [.int 0, .ref (G.2.1 125)]) C (x_X3_count l G hst e0 _) (cwV 1 hts gL_count_X3_count rfl rfl rfl hv_X3_count ⟨Nat.le_of_ble_eq_true rfl, Nat.le_of_ble_eq_true rfl⟩) (z_preV Z hS hP (by decide) (z_E_90 _) rfl rfl) rfl rfl hl.1 rfl (lv_room (Nat.le_of_ble_eq_true rfl)) dL_count_4 ⟨Nat.le_of_ble_eq_true rfl, Nat.le_of_ble_eq_true rfl⟩) (fun ce q9 H locs hP hS h1 h2 h3 => ?_)
    refine vx_catch (own := RL) (name := "java/lang/IllegalArgumentException") C.2.2.2.1 [] ⟨0, 9, 12, 15⟩ [] htab (fun _ hz => absurd hz List.not_mem_nil) (by decide) (by decide) (hts _ wL_count_0) (va_Nw.use rfl (Z.2.2.2.2.2.2.1.1 "java/lang/IllegalArgumentException" (by decide))) h1 h2 h3 ?_
    refine lv_astore_n (lv' := [(3, .ref q9), (0, .ref (G.2.1 90)), (1, .int (x1)), (2, .ref (G.2.1 125))]) hx hb dL_count_12 rfl hl (by decide) rfl (fun ls hl => ?_)
    refine lv_iconst (v := 1) hx hb dL_count_13 (by decide) ?_
    exact z_retiK C hr hlk hP hS dL_count_14
abbrev rm_L_whyNot : Room := { frames := 8, cells := 1, slots := 6, locals := 125 }
theorem hd_L_whyNot : yL_whyNot.cls ≠ "java/lang/invoke/MethodHandle" ∧ yL_whyNot.cls ≠ "java/lang/invoke/VarHandle" ∧ (parseMethodDescriptor yL_whyNot.desc).map (fun d => d.parameters.length) = some 4 := by decide +kernel
theorem wL_whyNot_0 : Cond.classLink RL 13 "java/lang/IndexOutOfBoundsException" ∈ wsL_whyNot := by decide +kernel
theorem wL_whyNot_1 : Cond.classLink RL 15 "java/lang/IllegalArgumentException" ∈ wsL_whyNot := by decide +kernel
set_option maxHeartbeats 4000000 in
set_option maxRecDepth 100000 in
theorem c_L_whyNot (l : Launch) (G : zG) (hst : l.stackTraces = false) {x1 : Int32} {x2 : Int32} {μ mu1 : Mm} {r : Int32} (h : f_L_whyNot x1 x2 μ = some (r, mu1)) (sz : Nat) : Met l yL_whyNot wsL_whyNot rm_L_whyNot (z_Pre G μ [.ref (G.2.1 90), .int (x1), .int (x2), .ref (G.2.1 125)] sz) (z_Qi G r mu1 sz) 1 6 (z_A G sz) := by
  refine z_startW (Qc := fun sz => z_Qi G r mu1 sz) (cc := cL_whyNot) (maxL := 5) (ret := some .int) (own := RL) (hh := [(0, 10, 13, 13), (0, 10, 17, 15)]) (by decide) rfl rfl (Nat.le_of_ble_eq_true rfl) (fun p e s m args below meth c C hr htab hlk Z hP ls hl => ?_) sz
  have hx := C.1
  have hb := C.2.1
  have hts := C.2.2.2.2
  have hS : va_S (z_A G s.heap.size) s.heap s.heap [] := va_S.rf
  have hl : lv_has ls 5 [(0, .ref (G.2.1 90)), (1, .int (x1)), (2, .int (x2)), (3, .ref (G.2.1 125))] := hl
  unfold f_L_whyNot at h
  refine lv_aload_n hx hb dL_whyNot_0 rfl (lv_at hl 3 rfl) ?_
  refine lv_iconst (v := 0) hx hb dL_whyNot_1 (by decide) ?_
  refine lv_aload_n hx hb dL_whyNot_2 rfl (lv_at hl 0 rfl) ?_
  refine lv_iload_n hx hb dL_whyNot_3 rfl (lv_at hl 1 rfl) ?_
  refine lv_iload_n hx hb dL_whyNot_4 rfl (lv_at hl 2 rfl) ?_
  rcases zw_some h with ⟨r0, m0, e0, rfl, rfl⟩ | ⟨E, e0, hE⟩
  · refine z_calli hS (va_runV (As := [.int (x1), .int (x2)]) (rest := [.int 0, .ref (G.2.1 125)]) C (c_X3_whyNot l G e0 _) (cwV 2 hts gL_whyNot_X3_whyNot rfl rfl rfl hv_X3_whyNot ⟨Nat.le_of_ble_eq_true rfl, Nat.le_of_ble_eq_true rfl⟩) (z_preV Z hS hP (by decide) (z_E_90 _) rfl rfl) rfl rfl hl.1 rfl (lv_room (Nat.le_of_ble_eq_true rfl)) dL_whyNot_5 ⟨Nat.zero_le _, Nat.zero_le _⟩) (fun H locs hP hS => ?_)
    refine lv_i2l (v := r0.toInt64) hx hb dL_whyNot_8 rfl ?_
    refine z_last C Z hP hS dL_whyNot_9 (fun H locs hP hS => ?_)
    refine lv_goto (tgt := 21) hx hb dL_whyNot_10 (by decide) ?_
    refine lv_iconst (v := 0) hx hb dL_whyNot_21 (by decide) ?_
    refine W.widen (k := 1) (n := 6) (Nat.zero_le _) (Nat.zero_le _) ?_
    exact z_retiK C hr hlk hP hS dL_whyNot_22
  · rcases zw_l2 hE with ⟨rfl, rfl⟩ | ⟨rfl, rfl⟩
    · refine z_xcalli hS (vx_runV (As := [.int (x1), .int (x2)]) (rest := [.int 0, .ref (G.2.1 125)]) C (x_X3_whyNot l G hst e0 _) (cwV 2 hts gL_whyNot_X3_whyNot rfl rfl rfl hv_X3_whyNot ⟨Nat.le_of_ble_eq_true rfl, Nat.le_of_ble_eq_true rfl⟩) (z_preV Z hS hP (by decide) (z_E_90 _) rfl rfl) rfl rfl hl.1 rfl (lv_room (Nat.le_of_ble_eq_true rfl)) dL_whyNot_5 ⟨Nat.le_of_ble_eq_true rfl, Nat.le_of_ble_eq_true rfl⟩) (fun ce q9 H locs hP hS h1 h2 h3 => ?_)
      refine vx_catch (own := RL) (name := "java/lang/IndexOutOfBoundsException") C.2.2.2.1 [] ⟨0, 10, 13, 13⟩ [⟨0, 10, 17, 15⟩] htab (fun _ hz => absurd hz List.not_mem_nil) (by decide) (by decide) (hts _ wL_whyNot_0) (va_Nw.use rfl (Z.2.2.2.2.2.2.1.1 "java/lang/IndexOutOfBoundsException" (by decide))) h1 h2 h3 ?_
      refine lv_astore (lv' := [(4, .ref q9), (0, .ref (G.2.1 90)), (1, .int (x1)), (2, .int (x2)), (3, .ref (G.2.1 125))]) hx hb dL_whyNot_13 hl (by decide) rfl (fun ls hl => ?_)
      refine lv_iconst (v := 1) hx hb dL_whyNot_15 (by decide) ?_
      exact z_retiK C hr hlk hP hS dL_whyNot_16
    · refine z_xcalli hS (vx_runV (As := [.int (x1), .int (x2)]) (rest := [.int 0, .ref (G.2.1 125)]) C (x_X3_whyNot l G hst e0 _) (cwV 2 hts gL_whyNot_X3_whyNot rfl rfl rfl hv_X3_whyNot ⟨Nat.le_of_ble_eq_true rfl, Nat.le_of_ble_eq_true rfl⟩) (z_preV Z hS hP (by decide) (z_E_90 _) rfl rfl) rfl rfl hl.1 rfl (lv_room (Nat.le_of_ble_eq_true rfl)) dL_whyNot_5 ⟨Nat.le_of_ble_eq_true rfl, Nat.le_of_ble_eq_true rfl⟩) (fun ce q9 H locs hP hS h1 h2 h3 => ?_)
      refine vx_catch (own := RL) (name := "java/lang/IllegalArgumentException") C.2.2.2.1 [⟨0, 10, 13, 13⟩] ⟨0, 10, 17, 15⟩ [] htab (fun z hz => by rw [List.mem_singleton.mp hz]; exact Or.inr ⟨by decide, "java/lang/IndexOutOfBoundsException", hts _ wL_whyNot_0, Z.2.2.2.2.2.2.1.2 ("java/lang/IllegalArgumentException", "java/lang/IndexOutOfBoundsException") (by decide)⟩) (by decide) (by decide) (hts _ wL_whyNot_1) (va_Nw.use rfl (Z.2.2.2.2.2.2.1.1 "java/lang/IllegalArgumentException" (by decide))) h1 h2 h3 ?_
      refine lv_astore (lv' := [(4, .ref q9), (0, .ref (G.2.1 90)), (1, .int (x1)), (2, .int (x2)), (3, .ref (G.2.1 125))]) hx hb dL_whyNot_17 hl (by decide) rfl (fun ls hl => ?_)
      refine lv_iconst (v := 2) hx hb dL_whyNot_19 (by decide) ?_
      exact z_retiK C hr hlk hP hS dL_whyNot_20
abbrev rm_L_ifCopied : Room := { frames := 8, cells := 1, slots := 6, locals := 127 }
theorem hd_L_ifCopied : yL_ifCopied.cls ≠ "java/lang/invoke/MethodHandle" ∧ yL_ifCopied.cls ≠ "java/lang/invoke/VarHandle" ∧ (parseMethodDescriptor yL_ifCopied.desc).map (fun d => d.parameters.length) = some 5 := by decide +kernel
theorem wL_ifCopied_0 : Cond.classLink RL 13 "java/lang/IndexOutOfBoundsException" ∈ wsL_ifCopied := by decide +kernel
theorem wL_ifCopied_1 : Cond.classLink RL 15 "java/lang/IllegalArgumentException" ∈ wsL_ifCopied := by decide +kernel
set_option maxHeartbeats 4000000 in
set_option maxRecDepth 100000 in
theorem c_L_ifCopied (l : Launch) (G : zG) (hst : l.stackTraces = false) {x1 : Int32} {x2 : Int32} {x3 : Int32} {μ mu1 : Mm} {r : Int32} (h : f_L_ifCopied x1 x2 x3 μ = some (r, mu1)) (sz : Nat) : Met l yL_ifCopied wsL_ifCopied rm_L_ifCopied (z_Pre G μ [.ref (G.2.1 90), .int (x1), .int (x2), .int (x3), .ref (G.2.1 125)] sz) (z_Qi G r mu1 sz) 1 6 (z_A G sz) := by
  refine z_startW (Qc := fun sz => z_Qi G r mu1 sz) (cc := cL_ifCopied) (maxL := 6) (ret := some .int) (own := RL) (hh := [(0, 12, 15, 13), (0, 12, 19, 15)]) (by decide) rfl rfl (Nat.le_of_ble_eq_true rfl) (fun p e s m args below meth c C hr htab hlk Z hP ls hl => ?_) sz
  have hx := C.1
  have hb := C.2.1
  have hts := C.2.2.2.2
  have hS : va_S (z_A G s.heap.size) s.heap s.heap [] := va_S.rf
  have hl : lv_has ls 6 [(0, .ref (G.2.1 90)), (1, .int (x1)), (2, .int (x2)), (3, .int (x3)), (4, .ref (G.2.1 125))] := hl
  unfold f_L_ifCopied at h
  refine lv_aload hx hb dL_ifCopied_0 (lv_at hl 4 rfl) ?_
  refine lv_iconst (v := 0) hx hb dL_ifCopied_2 (by decide) ?_
  refine lv_aload_n hx hb dL_ifCopied_3 rfl (lv_at hl 0 rfl) ?_
  refine lv_iload_n hx hb dL_ifCopied_4 rfl (lv_at hl 1 rfl) ?_
  refine lv_iload_n hx hb dL_ifCopied_5 rfl (lv_at hl 2 rfl) ?_
  refine lv_iload_n hx hb dL_ifCopied_6 rfl (lv_at hl 3 rfl) ?_
  rcases zw_some h with ⟨r0, m0, e0, rfl, rfl⟩ | ⟨E, e0, hE⟩
  · refine z_calli hS (va_runV (As := [.int (x1), .int (x2), .int (x3)]) (rest := [.int 0, .ref (G.2.1 125)]) C (c_X3_ifCopied l G e0 _) (cwV 3 hts gL_ifCopied_X3_ifCopied rfl rfl rfl hv_X3_ifCopied ⟨Nat.le_of_ble_eq_true rfl, Nat.le_of_ble_eq_true rfl⟩) (z_preV Z hS hP (by decide) (z_E_90 _) rfl rfl) rfl rfl hl.1 rfl (lv_room (Nat.le_of_ble_eq_true rfl)) dL_ifCopied_7 ⟨Nat.zero_le _, Nat.zero_le _⟩) (fun H locs hP hS => ?_)
    refine lv_i2l (v := r0.toInt64) hx hb dL_ifCopied_10 rfl ?_
    refine z_last C Z hP hS dL_ifCopied_11 (fun H locs hP hS => ?_)
    refine lv_goto (tgt := 23) hx hb dL_ifCopied_12 (by decide) ?_
    refine lv_iconst (v := 0) hx hb dL_ifCopied_23 (by decide) ?_
    refine W.widen (k := 1) (n := 6) (Nat.zero_le _) (Nat.zero_le _) ?_
    exact z_retiK C hr hlk hP hS dL_ifCopied_24
  · rcases zw_l2 hE with ⟨rfl, rfl⟩ | ⟨rfl, rfl⟩
    · refine z_xcalli hS (vx_runV (As := [.int (x1), .int (x2), .int (x3)]) (rest := [.int 0, .ref (G.2.1 125)]) C (x_X3_ifCopied l G hst e0 _) (cwV 3 hts gL_ifCopied_X3_ifCopied rfl rfl rfl hv_X3_ifCopied ⟨Nat.le_of_ble_eq_true rfl, Nat.le_of_ble_eq_true rfl⟩) (z_preV Z hS hP (by decide) (z_E_90 _) rfl rfl) rfl rfl hl.1 rfl (lv_room (Nat.le_of_ble_eq_true rfl)) dL_ifCopied_7 ⟨Nat.le_of_ble_eq_true rfl, Nat.le_of_ble_eq_true rfl⟩) (fun ce q9 H locs hP hS h1 h2 h3 => ?_)
      refine vx_catch (own := RL) (name := "java/lang/IndexOutOfBoundsException") C.2.2.2.1 [] ⟨0, 12, 15, 13⟩ [⟨0, 12, 19, 15⟩] htab (fun _ hz => absurd hz List.not_mem_nil) (by decide) (by decide) (hts _ wL_ifCopied_0) (va_Nw.use rfl (Z.2.2.2.2.2.2.1.1 "java/lang/IndexOutOfBoundsException" (by decide))) h1 h2 h3 ?_
      refine lv_astore (lv' := [(5, .ref q9), (0, .ref (G.2.1 90)), (1, .int (x1)), (2, .int (x2)), (3, .int (x3)), (4, .ref (G.2.1 125))]) hx hb dL_ifCopied_15 hl (by decide) rfl (fun ls hl => ?_)
      refine lv_iconst (v := 1) hx hb dL_ifCopied_17 (by decide) ?_
      exact z_retiK C hr hlk hP hS dL_ifCopied_18
    · refine z_xcalli hS (vx_runV (As := [.int (x1), .int (x2), .int (x3)]) (rest := [.int 0, .ref (G.2.1 125)]) C (x_X3_ifCopied l G hst e0 _) (cwV 3 hts gL_ifCopied_X3_ifCopied rfl rfl rfl hv_X3_ifCopied ⟨Nat.le_of_ble_eq_true rfl, Nat.le_of_ble_eq_true rfl⟩) (z_preV Z hS hP (by decide) (z_E_90 _) rfl rfl) rfl rfl hl.1 rfl (lv_room (Nat.le_of_ble_eq_true rfl)) dL_ifCopied_7 ⟨Nat.le_of_ble_eq_true rfl, Nat.le_of_ble_eq_true rfl⟩) (fun ce q9 H locs hP hS h1 h2 h3 => ?_)
      refine vx_catch (own := RL) (name := "java/lang/IllegalArgumentException") C.2.2.2.1 [⟨0, 12, 15, 13⟩] ⟨0, 12, 19, 15⟩ [] htab (fun z hz => by rw [List.mem_singleton.mp hz]; exact Or.inr ⟨by decide, "java/lang/IndexOutOfBoundsException", hts _ wL_ifCopied_0, Z.2.2.2.2.2.2.1.2 ("java/lang/IllegalArgumentException", "java/lang/IndexOutOfBoundsException") (by decide)⟩) (by decide) (by decide) (hts _ wL_ifCopied_1) (va_Nw.use rfl (Z.2.2.2.2.2.2.1.1 "java/lang/IllegalArgumentException" (by decide))) h1 h2 h3 ?_
      refine lv_astore (lv' := [(5, .ref q9), (0, .ref (G.2.1 90)), (1, .int (x1)), (2, .int (x2)), (3, .int (x3)), (4, .ref (G.2.1 125))]) hx hb dL_ifCopied_19 hl (by decide) rfl (fun ls hl => ?_)
      refine lv_iconst (v := 2) hx hb dL_ifCopied_21 (by decide) ?_
      exact z_retiK C hr hlk hP hS dL_ifCopied_22
abbrev rm_L_chain : Room := { frames := 9, cells := 1, slots := 6, locals := 230 }
theorem hd_L_chain : yL_chain.cls ≠ "java/lang/invoke/MethodHandle" ∧ yL_chain.cls ≠ "java/lang/invoke/VarHandle" ∧ (parseMethodDescriptor yL_chain.desc).map (fun d => d.parameters.length) = some 5 := by decide +kernel
theorem wL_chain_0 : Cond.classLink RL 13 "java/lang/IndexOutOfBoundsException" ∈ wsL_chain := by decide +kernel
theorem wL_chain_1 : Cond.classLink RL 15 "java/lang/IllegalArgumentException" ∈ wsL_chain := by decide +kernel
set_option maxHeartbeats 4000000 in
set_option maxRecDepth 100000 in
theorem c_L_chain (l : Launch) (G : zG) (hst : l.stackTraces = false) {x1 : Int32} {x2 : Int32} {x3 : Int32} {μ mu1 : Mm} {r : Int32} (h : f_L_chain x1 x2 x3 μ = some (r, mu1)) (sz : Nat) : Met l yL_chain wsL_chain rm_L_chain (z_Pre G μ [.ref (G.2.1 90), .int (x1), .int (x2), .int (x3), .ref (G.2.1 125)] sz) (z_Qi G r mu1 sz) 1 6 (z_A G sz) := by
  refine z_startW (Qc := fun sz => z_Qi G r mu1 sz) (cc := cL_chain) (maxL := 6) (ret := some .int) (own := RL) (hh := [(0, 12, 15, 13), (0, 12, 19, 15)]) (by decide) rfl rfl (Nat.le_of_ble_eq_true rfl) (fun p e s m args below meth c C hr htab hlk Z hP ls hl => ?_) sz
  have hx := C.1
  have hb := C.2.1
  have hts := C.2.2.2.2
  have hS : va_S (z_A G s.heap.size) s.heap s.heap [] := va_S.rf
  have hl : lv_has ls 6 [(0, .ref (G.2.1 90)), (1, .int (x1)), (2, .int (x2)), (3, .int (x3)), (4, .ref (G.2.1 125))] := hl
  unfold f_L_chain at h
  refine lv_aload hx hb dL_chain_0 (lv_at hl 4 rfl) ?_
  refine lv_iconst (v := 0) hx hb dL_chain_2 (by decide) ?_
  refine lv_aload_n hx hb dL_chain_3 rfl (lv_at hl 0 rfl) ?_
  refine lv_iload_n hx hb dL_chain_4 rfl (lv_at hl 1 rfl) ?_
  refine lv_iload_n hx hb dL_chain_5 rfl (lv_at hl 2 rfl) ?_
  refine lv_iload_n hx hb dL_chain_6 rfl (lv_at hl 3 rfl) ?_
  rcases zw_some h with ⟨r0, m0, e0, rfl, rfl⟩ | ⟨E, e0, hE⟩
  · refine z_calli hS (va_runV (As := [.int (x1), .int (x2), .int (x3)]) (rest := [.int 0, .ref (G.2.1 125)]) C (c_X3_chain l G e0 _) (cwV 3 hts gL_chain_X3_chain rfl rfl rfl hv_X3_chain ⟨Nat.le_of_ble_eq_true rfl, Nat.le_of_ble_eq_true rfl⟩) (z_preV Z hS hP (by decide) (z_E_90 _) rfl rfl) rfl rfl hl.1 rfl (lv_room (Nat.le_of_ble_eq_true rfl)) dL_chain_7 ⟨Nat.zero_le _, Nat.zero_le _⟩) (fun H locs hP hS => ?_)
    refine lv_i2l (v := r0.toInt64) hx hb dL_chain_10 rfl ?_
    refine z_last C Z hP hS dL_chain_11 (fun H locs hP hS => ?_)
    refine lv_goto (tgt := 23) hx hb dL_chain_12 (by decide) ?_
    refine lv_iconst (v := 0) hx hb dL_chain_23 (by decide) ?_
    refine W.widen (k := 1) (n := 6) (Nat.zero_le _) (Nat.zero_le _) ?_
    exact z_retiK C hr hlk hP hS dL_chain_24
  · rcases zw_l2 hE with ⟨rfl, rfl⟩ | ⟨rfl, rfl⟩
    · refine z_xcalli hS (vx_runV (As := [.int (x1), .int (x2), .int (x3)]) (rest := [.int 0, .ref (G.2.1 125)]) C (x_X3_chain l G hst e0 _) (cwV 3 hts gL_chain_X3_chain rfl rfl rfl hv_X3_chain ⟨Nat.le_of_ble_eq_true rfl, Nat.le_of_ble_eq_true rfl⟩) (z_preV Z hS hP (by decide) (z_E_90 _) rfl rfl) rfl rfl hl.1 rfl (lv_room (Nat.le_of_ble_eq_true rfl)) dL_chain_7 ⟨Nat.le_of_ble_eq_true rfl, Nat.le_of_ble_eq_true rfl⟩) (fun ce q9 H locs hP hS h1 h2 h3 => ?_)
      refine vx_catch (own := RL) (name := "java/lang/IndexOutOfBoundsException") C.2.2.2.1 [] ⟨0, 12, 15, 13⟩ [⟨0, 12, 19, 15⟩] htab (fun _ hz => absurd hz List.not_mem_nil) (by decide) (by decide) (hts _ wL_chain_0) (va_Nw.use rfl (Z.2.2.2.2.2.2.1.1 "java/lang/IndexOutOfBoundsException" (by decide))) h1 h2 h3 ?_
      refine lv_astore (lv' := [(5, .ref q9), (0, .ref (G.2.1 90)), (1, .int (x1)), (2, .int (x2)), (3, .int (x3)), (4, .ref (G.2.1 125))]) hx hb dL_chain_15 hl (by decide) rfl (fun ls hl => ?_)
      refine lv_iconst (v := 1) hx hb dL_chain_17 (by decide) ?_
      exact z_retiK C hr hlk hP hS dL_chain_18
    · refine z_xcalli hS (vx_runV (As := [.int (x1), .int (x2), .int (x3)]) (rest := [.int 0, .ref (G.2.1 125)]) C (x_X3_chain l G hst e0 _) (cwV 3 hts gL_chain_X3_chain rfl rfl rfl hv_X3_chain ⟨Nat.le_of_ble_eq_true rfl, Nat.le_of_ble_eq_true rfl⟩) (z_preV Z hS hP (by decide) (z_E_90 _) rfl rfl) rfl rfl hl.1 rfl (lv_room (Nat.le_of_ble_eq_true rfl)) dL_chain_7 ⟨Nat.le_of_ble_eq_true rfl, Nat.le_of_ble_eq_true rfl⟩) (fun ce q9 H locs hP hS h1 h2 h3 => ?_)
      refine vx_catch (own := RL) (name := "java/lang/IllegalArgumentException") C.2.2.2.1 [⟨0, 12, 15, 13⟩] ⟨0, 12, 19, 15⟩ [] htab (fun z hz => by rw [List.mem_singleton.mp hz]; exact Or.inr ⟨by decide, "java/lang/IndexOutOfBoundsException", hts _ wL_chain_0, Z.2.2.2.2.2.2.1.2 ("java/lang/IllegalArgumentException", "java/lang/IndexOutOfBoundsException") (by decide)⟩) (by decide) (by decide) (hts _ wL_chain_1) (va_Nw.use rfl (Z.2.2.2.2.2.2.1.1 "java/lang/IllegalArgumentException" (by decide))) h1 h2 h3 ?_
      refine lv_astore (lv' := [(5, .ref q9), (0, .ref (G.2.1 90)), (1, .int (x1)), (2, .int (x2)), (3, .int (x3)), (4, .ref (G.2.1 125))]) hx hb dL_chain_19 hl (by decide) rfl (fun ls hl => ?_)
      refine lv_iconst (v := 2) hx hb dL_chain_21 (by decide) ?_
      exact z_retiK C hr hlk hP hS dL_chain_22
abbrev rm_L_daughters : Room := { frames := 8, cells := 1, slots := 6, locals := 124 }
theorem hd_L_daughters : yL_daughters.cls ≠ "java/lang/invoke/MethodHandle" ∧ yL_daughters.cls ≠ "java/lang/invoke/VarHandle" ∧ (parseMethodDescriptor yL_daughters.desc).map (fun d => d.parameters.length) = some 3 := by decide +kernel
theorem wL_daughters_0 : Cond.classLink RL 13 "java/lang/IndexOutOfBoundsException" ∈ wsL_daughters := by decide +kernel
set_option maxHeartbeats 4000000 in
set_option maxRecDepth 100000 in
theorem c_L_daughters (l : Launch) (G : zG) (hst : l.stackTraces = false) {x1 : Int32} {μ mu1 : Mm} {r : Int32} (h : f_L_daughters x1 μ = some (r, mu1)) (sz : Nat) : Met l yL_daughters wsL_daughters rm_L_daughters (z_Pre G μ [.ref (G.2.1 90), .int (x1), .ref (G.2.1 125)] sz) (z_Qi G r mu1 sz) 1 6 (z_A G sz) := by
  refine z_startW (Qc := fun sz => z_Qi G r mu1 sz) (cc := cL_daughters) (maxL := 4) (ret := some .int) (own := RL) (hh := [(0, 9, 12, 13)]) (by decide) rfl rfl (Nat.le_of_ble_eq_true rfl) (fun p e s m args below meth c C hr htab hlk Z hP ls hl => ?_) sz
  have hx := C.1
  have hb := C.2.1
  have hts := C.2.2.2.2
  have hS : va_S (z_A G s.heap.size) s.heap s.heap [] := va_S.rf
  have hl : lv_has ls 4 [(0, .ref (G.2.1 90)), (1, .int (x1)), (2, .ref (G.2.1 125))] := hl
  unfold f_L_daughters at h
  refine lv_aload_n hx hb dL_daughters_0 rfl (lv_at hl 2 rfl) ?_
  refine lv_iconst (v := 0) hx hb dL_daughters_1 (by decide) ?_
  refine lv_aload_n hx hb dL_daughters_2 rfl (lv_at hl 0 rfl) ?_
  refine lv_iload_n hx hb dL_daughters_3 rfl (lv_at hl 1 rfl) ?_
  rcases zw_some h with ⟨r0, m0, e0, rfl, rfl⟩ | ⟨E, e0, hE⟩
  · refine z_calli hS (va_runV (As := [.int (x1)]) (rest := [.int 0, .ref (G.2.1 125)]) C (c_X3_daughters l G e0 _) (cwV 1 hts gL_daughters_X3_daughters rfl rfl rfl hv_X3_daughters ⟨Nat.le_of_ble_eq_true rfl, Nat.le_of_ble_eq_true rfl⟩) (z_preV Z hS hP (by decide) (z_E_90 _) rfl rfl) rfl rfl hl.1 rfl (lv_room (Nat.le_of_ble_eq_true rfl)) dL_daughters_4 ⟨Nat.zero_le _, Nat.zero_le _⟩) (fun H locs hP hS => ?_)
    refine lv_i2l (v := r0.toInt64) hx hb dL_daughters_7 rfl ?_
    refine z_last C Z hP hS dL_daughters_8 (fun H locs hP hS => ?_)
    refine lv_goto (tgt := 15) hx hb dL_daughters_9 (by decide) ?_
    refine lv_iconst (v := 0) hx hb dL_daughters_15 (by decide) ?_
    refine W.widen (k := 1) (n := 6) (Nat.zero_le _) (Nat.zero_le _) ?_
    exact z_retiK C hr hlk hP hS dL_daughters_16
  · obtain ⟨rfl, rfl⟩ := zw_l1 hE
    refine z_xcalli hS (vx_runV (As := [.int (x1)]) (rest := [.int 0, .ref (G.2.1 125)]) C (x_X3_daughters l G hst e0 _) (cwV 1 hts gL_daughters_X3_daughters rfl rfl rfl hv_X3_daughters ⟨Nat.le_of_ble_eq_true rfl, Nat.le_of_ble_eq_true rfl⟩) (z_preV Z hS hP (by decide) (z_E_90 _) rfl rfl) rfl rfl hl.1 rfl (lv_room (Nat.le_of_ble_eq_true rfl)) dL_daughters_4 ⟨Nat.le_of_ble_eq_true rfl, Nat.le_of_ble_eq_true rfl⟩) (fun ce q9 H locs hP hS h1 h2 h3 => ?_)
    refine vx_catch (own := RL) (name := "java/lang/IndexOutOfBoundsException") C.2.2.2.1 [] ⟨0, 9, 12, 13⟩ [] htab (fun _ hz => absurd hz List.not_mem_nil) (by decide) (by decide) (hts _ wL_daughters_0) (va_Nw.use rfl (Z.2.2.2.2.2.2.1.1 "java/lang/IndexOutOfBoundsException" (by decide))) h1 h2 h3 ?_
    refine lv_astore_n (lv' := [(3, .ref q9), (0, .ref (G.2.1 90)), (1, .int (x1)), (2, .ref (G.2.1 125))]) hx hb dL_daughters_12 rfl hl (by decide) rfl (fun ls hl => ?_)
    refine lv_iconst (v := 1) hx hb dL_daughters_13 (by decide) ?_
    exact z_retiK C hr hlk hP hS dL_daughters_14
