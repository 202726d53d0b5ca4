abbrev rmx_X3_checkTrack : Room := { frames := 6, cells := 1, slots := 6, locals := 82 }
theorem xatX3_checkTrack_o : ∀ w ∈ (vx_atS RX3 261 "java/lang/IndexOutOfBoundsException" z_nm).filter goodWord, w ∈ wsX3_checkTrack := fun _ h => List.mem_cons_of_mem _ (List.mem_append_right _ h)
theorem wX3_checkTrack_1 : Cond.classLink RX3 257 "java/lang/IndexOutOfBoundsException" ∈ wsX3_checkTrack := by decide +kernel
theorem wX3_checkTrack_2 : Cond.initialized "java/lang/IndexOutOfBoundsException" ∈ wsX3_checkTrack := by decide +kernel
set_option maxHeartbeats 4000000 in
set_option maxRecDepth 100000 in
theorem x_X3_checkTrack (l : Launch) (G : zG) (hst : l.stackTraces = false) {x1 : Int32} {μ mu1 : Mm} {E : String} (h : f_X3_checkTrack x1 μ = some (.inl E, mu1)) (sz : Nat) : vx_Met l yX3_checkTrack wsX3_checkTrack rmx_X3_checkTrack (z_Pre G μ [.ref (G.2.1 (90)), .int (x1)] sz) (z_Fv G sz) (z_XC G E mu1 sz) 1 6 (z_A G sz) := by
  refine z_startX (Qc := fun sz => z_Fv G sz) (XC := fun sz => z_XC G E mu1 sz) (cc := cX3_checkTrack) (maxL := 2) (ret := none) (own := RX3) (by decide) rfl rfl (Nat.le_of_ble_eq_true rfl) (fun p e s m args below meth c C ht hlk Z hP ls hl => ?_) sz
  have hx := C.1
  have hb := C.2.1
  have hts := C.2.2.2.2
  have hS : va_S (z_A G s.heap.size) s.heap s.heap [] := va_S.rf
  have hl : lv_has ls 2 [(0, .ref (G.2.1 (90))), (1, .int (x1))] := hl
  unfold f_X3_checkTrack at h
  refine lv_iload_n hx hb dX3_checkTrack_0 rfl (lv_at hl 1 rfl) ?_
  refine lv_if_lt (tgt := 10) hx hb dX3_checkTrack_1 (by decide) (fun hc3 => ?_) (fun hc3 => ?_)
  · have h := z_ip hc3 h
    cases h
    exact z_throwW C Z hst ht hlk hP hS hl.1 (text := "there is no such track") (by decide) wX3_checkTrack_1 wX3_checkTrack_2 (by decide) (by decide) xatX3_checkTrack_o z_xB_o z_xG_o dX3_checkTrack_10 dX3_checkTrack_13 dX3_checkTrack_14 dX3_checkTrack_17 dX3_checkTrack_20 (Nat.le_of_ble_eq_true rfl) (Nat.le_of_ble_eq_true rfl) (Nat.le_of_ble_eq_true rfl) (Nat.le_of_ble_eq_true rfl)
  · have h := z_in hc3 h
    refine lv_iload_n hx hb dX3_checkTrack_4 rfl (lv_at hl 1 rfl) ?_
    refine lv_bipush (v := 24) hx hb dX3_checkTrack_5 (by decide) ?_
    refine lv_icmp_lt (tgt := 21) hx hb dX3_checkTrack_7 (by decide) (fun hc4 => ?_) (fun hc4 => ?_)
    · have h := z_ip hc4 h
      cases h
    · have h := z_in hc4 h
      cases h
      exact z_throwW C Z hst ht hlk hP hS hl.1 (text := "there is no such track") (by decide) wX3_checkTrack_1 wX3_checkTrack_2 (by decide) (by decide) xatX3_checkTrack_o z_xB_o z_xG_o dX3_checkTrack_10 dX3_checkTrack_13 dX3_checkTrack_14 dX3_checkTrack_17 dX3_checkTrack_20 (Nat.le_of_ble_eq_true rfl) (Nat.le_of_ble_eq_true rfl) (Nat.le_of_ble_eq_true rfl) (Nat.le_of_ble_eq_true rfl)
abbrev rmx_X3_checkLoudness : Room := { frames := 6, cells := 1, slots := 6, locals := 82 }
theorem xatX3_checkLoudness_a : ∀ w ∈ (vx_atS RX3 87 "java/lang/IllegalArgumentException" z_nm).filter goodWord, w ∈ wsX3_checkLoudness := fun _ h => List.mem_cons_of_mem _ (List.mem_append_right _ h)
theorem wX3_checkLoudness_1 : Cond.classLink RX3 83 "java/lang/IllegalArgumentException" ∈ wsX3_checkLoudness := by decide +kernel
theorem wX3_checkLoudness_2 : Cond.initialized "java/lang/IllegalArgumentException" ∈ wsX3_checkLoudness := by decide +kernel
set_option maxHeartbeats 4000000 in
set_option maxRecDepth 100000 in
theorem x_X3_checkLoudness (l : Launch) (G : zG) (hst : l.stackTraces = false) {x1 : Int32} {μ mu1 : Mm} {E : String} (h : f_X3_checkLoudness x1 μ = some (.inl E, mu1)) (sz : Nat) : vx_Met l yX3_checkLoudness wsX3_checkLoudness rmx_X3_checkLoudness (z_Pre G μ [.ref (G.2.1 (90)), .int (x1)] sz) (z_Fv G sz) (z_XC G E mu1 sz) 1 6 (z_A G sz) := by
  refine z_startX (Qc := fun sz => z_Fv G sz) (XC := fun sz => z_XC G E mu1 sz) (cc := cX3_checkLoudness) (maxL := 2) (ret := none) (own := RX3) (by decide) rfl rfl (Nat.le_of_ble_eq_true rfl) (fun p e s m args below meth c C ht hlk Z hP ls hl => ?_) sz
  have hx := C.1
  have hb := C.2.1
  have hts := C.2.2.2.2
  have hS : va_S (z_A G s.heap.size) s.heap s.heap [] := va_S.rf
  have hl : lv_has ls 2 [(0, .ref (G.2.1 (90))), (1, .int (x1))] := hl
  unfold f_X3_checkLoudness at h
  refine lv_iload_n hx hb dX3_checkLoudness_0 rfl (lv_at hl 1 rfl) ?_
  refine lv_iconst (v := 1) hx hb dX3_checkLoudness_1 (by decide) ?_
  refine lv_icmp_lt (tgt := 11) hx hb dX3_checkLoudness_2 (by decide) (fun hc3 => ?_) (fun hc3 => ?_)
  · have h := z_ip hc3 h
    cases h
    exact z_throwW C Z hst ht hlk hP hS hl.1 (text := "a loudness is 1 to 9") (by decide) wX3_checkLoudness_1 wX3_checkLoudness_2 (by decide) (by decide) xatX3_checkLoudness_a z_xB_a z_xG_a dX3_checkLoudness_11 dX3_checkLoudness_14 dX3_checkLoudness_15 dX3_checkLoudness_18 dX3_checkLoudness_21 (Nat.le_of_ble_eq_true rfl) (Nat.le_of_ble_eq_true rfl) (Nat.le_of_ble_eq_true rfl) (Nat.le_of_ble_eq_true rfl)
  · have h := z_in hc3 h
    refine lv_iload_n hx hb dX3_checkLoudness_5 rfl (lv_at hl 1 rfl) ?_
    refine lv_bipush (v := 9) hx hb dX3_checkLoudness_6 (by decide) ?_
    refine lv_icmp_le (tgt := 22) hx hb dX3_checkLoudness_8 (by decide) (fun hc4 => ?_) (fun hc4 => ?_)
    · have h := z_ip hc4 h
      cases h
    · have h := z_in hc4 h
      cases h
      exact z_throwW C Z hst ht hlk hP hS hl.1 (text := "a loudness is 1 to 9") (by decide) wX3_checkLoudness_1 wX3_checkLoudness_2 (by decide) (by decide) xatX3_checkLoudness_a z_xB_a z_xG_a dX3_checkLoudness_11 dX3_checkLoudness_14 dX3_checkLoudness_15 dX3_checkLoudness_18 dX3_checkLoudness_21 (Nat.le_of_ble_eq_true rfl) (Nat.le_of_ble_eq_true rfl) (Nat.le_of_ble_eq_true rfl) (Nat.le_of_ble_eq_true rfl)
abbrev rmx_X3_speak : Room := { frames := 7, cells := 1, slots := 6, locals := 103 }
set_option maxHeartbeats 4000000 in
set_option maxRecDepth 100000 in
theorem x_X3_speak (l : Launch) (G : zG) (hst : l.stackTraces = false) {x1 : Int32} {x2 : Int32} {μ mu1 : Mm} {E : String} (h : f_X3_speak x1 x2 μ = some (.inl E, mu1)) (sz : Nat) : vx_Met l yX3_speak wsX3_speak rmx_X3_speak (z_Pre G μ [.ref (G.2.1 (90)), .int (x1), .int (x2)] sz) (z_Fi G sz) (z_XC G E mu1 sz) 1 6 (z_A G sz) := by
  refine z_startX (Qc := fun sz => z_Fi G sz) (XC := fun sz => z_XC G E mu1 sz) (cc := cX3_speak) (maxL := 3) (ret := (some .int)) (own := RX3) (by decide) rfl rfl (Nat.le_of_ble_eq_true rfl) (fun p e s m args below meth c C ht hlk Z hP ls hl => ?_) sz
  have hx := C.1
  have hb := C.2.1
  have hts := C.2.2.2.2
  have hS : va_S (z_A G s.heap.size) s.heap s.heap [] := va_S.rf
  have hl : lv_has ls 3 [(0, .ref (G.2.1 (90))), (1, .int (x1)), (2, .int (x2))] := hl
  unfold f_X3_speak at h
  refine lv_aload_n hx hb dX3_speak_0 rfl (lv_at hl 0 rfl) ?_
  refine lv_iload_n hx hb dX3_speak_1 rfl (lv_at hl 1 rfl) ?_
  rcases zbx_l h with h | ⟨r13, m14, e15, h⟩
  · refine z_xcallv hS (vx_runV (As := [.int (x1)]) (rest := []) C (x_X3_checkTrack l G hst h _) (cwV 1 hts gX3_speak_X3_checkTrack rfl rfl rfl hv_X3_checkTrack ⟨Nat.le_of_ble_eq_true rfl, Nat.le_of_ble_eq_true rfl⟩) (z_preV Z hS hP (by decide) (z_E_90 _) rfl rfl) rfl rfl hl.1 rfl (lv_room (Nat.le_of_ble_eq_true rfl)) dX3_speak_2 ⟨Nat.le_of_ble_eq_true rfl, Nat.le_of_ble_eq_true rfl⟩) (fun ce q9 H locs hP hS h1 h2 h3 => ?_)
    exact z_xout ht hlk hP hS h1 h2 h3
  refine z_callv hS (va_runV (As := [.int (x1)]) (rest := []) C (c_X3_checkTrack l G e15 _) (cwV 1 hts gX3_speak_X3_checkTrack rfl rfl rfl hv_X3_checkTrack ⟨Nat.le_of_ble_eq_true rfl, Nat.le_of_ble_eq_true rfl⟩) (z_preV Z hS hP (by decide) (z_E_90 _) rfl rfl) rfl rfl hl.1 rfl (lv_room (Nat.le_of_ble_eq_true rfl)) dX3_speak_2 ⟨Nat.zero_le _, Nat.zero_le _⟩) (fun H locs hP hS => ?_)
  refine lv_aload_n hx hb dX3_speak_5 rfl (lv_at hl 0 rfl) ?_
  refine lv_iload_n hx hb dX3_speak_6 rfl (lv_at hl 2 rfl) ?_
  rcases zbx_l h with h | ⟨r16, m17, e18, h⟩
  · refine z_xcallv hS (vx_runV (As := [.int (x2)]) (rest := []) C (x_X3_checkLoudness l G hst h _) (cwV 1 hts gX3_speak_X3_checkLoudness rfl rfl rfl hv_X3_checkLoudness ⟨Nat.le_of_ble_eq_true rfl, Nat.le_of_ble_eq_true rfl⟩) (z_preV Z hS hP (by decide) (z_E_90 _) rfl rfl) rfl rfl hl.1 rfl (lv_room (Nat.le_of_ble_eq_true rfl)) dX3_speak_7 ⟨Nat.le_of_ble_eq_true rfl, Nat.le_of_ble_eq_true rfl⟩) (fun ce q9 H locs hP hS h1 h2 h3 => ?_)
    exact z_xout ht hlk hP hS h1 h2 h3
  refine z_callv hS (va_runV (As := [.int (x2)]) (rest := []) C (c_X3_checkLoudness l G e18 _) (cwV 1 hts gX3_speak_X3_checkLoudness rfl rfl rfl hv_X3_checkLoudness ⟨Nat.le_of_ble_eq_true rfl, Nat.le_of_ble_eq_true rfl⟩) (z_preV Z hS hP (by decide) (z_E_90 _) rfl rfl) rfl rfl hl.1 rfl (lv_room (Nat.le_of_ble_eq_true rfl)) dX3_speak_7 ⟨Nat.zero_le _, Nat.zero_le _⟩) (fun H locs hP hS => ?_)
  refine lv_aload_n hx hb dX3_speak_10 rfl (lv_at hl 0 rfl) ?_
  obtain ⟨r19, m20, e21, h⟩ := zb_some h
  refine z_callv hS (va_runV (As := []) (rest := []) C (c_X3_saveState l G e21 _) (cwV 0 hts gX3_speak_X3_saveState rfl rfl rfl hv_X3_saveState ⟨Nat.le_of_ble_eq_true rfl, Nat.le_of_ble_eq_true rfl⟩) (z_preV Z hS hP (by decide) (z_E_90 _) rfl rfl) rfl rfl hl.1 rfl (lv_room (Nat.le_of_ble_eq_true rfl)) dX3_speak_11 ⟨Nat.zero_le _, Nat.zero_le _⟩) (fun H locs hP hS => ?_)
  refine lv_aload_n hx hb dX3_speak_14 rfl (lv_at hl 0 rfl) ?_
  refine z_get C Z hP (k := 90) (ci := 3) (j := 0) (N := 7) (v := .ref (G.2.1 (0))) (by decide) (z_E_90 _) rfl inX3_speak_X3 (by decide) wX3_speak_0 rfl dX3_speak_15 ?_
  refine lv_iload_n hx hb dX3_speak_18 rfl (lv_at hl 1 rfl) ?_
  refine lv_iload_n hx hb dX3_speak_19 rfl (lv_at hl 2 rfl) ?_
  obtain ⟨r22, m23, e24, h⟩ := zb_some h
  refine z_calli hS (va_runV (As := [.int (x1), .int (x2)]) (rest := []) C (c_X2_speakOnto l G e24 _) (cwV 2 hts gX3_speak_X2_speakOnto rfl rfl rfl hv_X2_speakOnto ⟨Nat.le_of_ble_eq_true rfl, Nat.le_of_ble_eq_true rfl⟩) (z_preV Z hS hP (by decide) (z_E_0 _) rfl rfl) rfl rfl hl.1 rfl (lv_room (Nat.le_of_ble_eq_true rfl)) dX3_speak_20 ⟨Nat.zero_le _, Nat.zero_le _⟩) (fun H locs hP hS => ?_)
  cases h
abbrev rmx_X3_checkLever : Room := { frames := 6, cells := 1, slots := 6, locals := 82 }
theorem xatX3_checkLever_a : ∀ w ∈ (vx_atS RX3 87 "java/lang/IllegalArgumentException" z_nm).filter goodWord, w ∈ wsX3_checkLever := fun _ h => List.mem_cons_of_mem _ (List.mem_append_right _ h)
theorem wX3_checkLever_1 : Cond.classLink RX3 83 "java/lang/IllegalArgumentException" ∈ wsX3_checkLever := by decide +kernel
theorem wX3_checkLever_2 : Cond.initialized "java/lang/IllegalArgumentException" ∈ wsX3_checkLever := by decide +kernel
set_option maxHeartbeats 4000000 in
set_option maxRecDepth 100000 in
theorem x_X3_checkLever (l : Launch) (G : zG) (hst : l.stackTraces = false) {x1 : Int32} {μ mu1 : Mm} {E : String} (h : f_X3_checkLever x1 μ = some (.inl E, mu1)) (sz : Nat) : vx_Met l yX3_checkLever wsX3_checkLever rmx_X3_checkLever (z_Pre G μ [.ref (G.2.1 (90)), .int (x1)] sz) (z_Fv G sz) (z_XC G E mu1 sz) 1 6 (z_A G sz) := by
  refine z_startX (Qc := fun sz => z_Fv G sz) (XC := fun sz => z_XC G E mu1 sz) (cc := cX3_checkLever) (maxL := 2) (ret := none) (own := RX3) (by decide) rfl rfl (Nat.le_of_ble_eq_true rfl) (fun p e s m args below meth c C ht hlk Z hP ls hl => ?_) sz
  have hx := C.1
  have hb := C.2.1
  have hts := C.2.2.2.2
  have hS : va_S (z_A G s.heap.size) s.heap s.heap [] := va_S.rf
  have hl : lv_has ls 2 [(0, .ref (G.2.1 (90))), (1, .int (x1))] := hl
  unfold f_X3_checkLever at h
  refine lv_iload_n hx hb dX3_checkLever_0 rfl (lv_at hl 1 rfl) ?_
  refine lv_iconst (v := 1) hx hb dX3_checkLever_1 (by decide) ?_
  refine lv_icmp_lt (tgt := 10) hx hb dX3_checkLever_2 (by decide) (fun hc3 => ?_) (fun hc3 => ?_)
  · have h := z_ip hc3 h
    cases h
    exact z_throwW C Z hst ht hlk hP hS hl.1 (text := "a lever is 1 to 3") (by decide) wX3_checkLever_1 wX3_checkLever_2 (by decide) (by decide) xatX3_checkLever_a z_xB_a z_xG_a dX3_checkLever_10 dX3_checkLever_13 dX3_checkLever_14 dX3_checkLever_17 dX3_checkLever_20 (Nat.le_of_ble_eq_true rfl) (Nat.le_of_ble_eq_true rfl) (Nat.le_of_ble_eq_true rfl) (Nat.le_of_ble_eq_true rfl)
  · have h := z_in hc3 h
    refine lv_iload_n hx hb dX3_checkLever_5 rfl (lv_at hl 1 rfl) ?_
    refine lv_iconst (v := 3) hx hb dX3_checkLever_6 (by decide) ?_
    refine lv_icmp_le (tgt := 21) hx hb dX3_checkLever_7 (by decide) (fun hc4 => ?_) (fun hc4 => ?_)
    · have h := z_ip hc4 h
      cases h
    · have h := z_in hc4 h
      cases h
      exact z_throwW C Z hst ht hlk hP hS hl.1 (text := "a lever is 1 to 3") (by decide) wX3_checkLever_1 wX3_checkLever_2 (by decide) (by decide) xatX3_checkLever_a z_xB_a z_xG_a dX3_checkLever_10 dX3_checkLever_13 dX3_checkLever_14 dX3_checkLever_17 dX3_checkLever_20 (Nat.le_of_ble_eq_true rfl) (Nat.le_of_ble_eq_true rfl) (Nat.le_of_ble_eq_true rfl) (Nat.le_of_ble_eq_true rfl)
abbrev rmx_X3_copy : Room := { frames := 7, cells := 1, slots := 6, locals := 103 }
set_option maxHeartbeats 4000000 in
set_option maxRecDepth 100000 in
theorem x_X3_copy (l : Launch) (G : zG) (hst : l.stackTraces = false) {x1 : Int32} {x2 : Int32} {x3 : Int32} {μ mu1 : Mm} {E : String} (h : f_X3_copy x1 x2 x3 μ = some (.inl E, mu1)) (sz : Nat) : vx_Met l yX3_copy wsX3_copy rmx_X3_copy (z_Pre G μ [.ref (G.2.1 (90)), .int (x1), .int (x2), .int (x3)] sz) (z_Fi G sz) (z_XC G E mu1 sz) 1 6 (z_A G sz) := by
  refine z_startX (Qc := fun sz => z_Fi G sz) (XC := fun sz => z_XC G E mu1 sz) (cc := cX3_copy) (maxL := 4) (ret := (some .int)) (own := RX3) (by decide) rfl rfl (Nat.le_of_ble_eq_true rfl) (fun p e s m args below meth c C ht hlk Z hP ls hl => ?_) sz
  have hx := C.1
  have hb := C.2.1
  have hts := C.2.2.2.2
  have hS : va_S (z_A G s.heap.size) s.heap s.heap [] := va_S.rf
  have hl : lv_has ls 4 [(0, .ref (G.2.1 (90))), (1, .int (x1)), (2, .int (x2)), (3, .int (x3))] := hl
  unfold f_X3_copy at h
  refine lv_aload_n hx hb dX3_copy_0 rfl (lv_at hl 0 rfl) ?_
  refine lv_iload_n hx hb dX3_copy_1 rfl (lv_at hl 1 rfl) ?_
  rcases zbx_l h with h | ⟨r16, m17, e18, h⟩
  · refine z_xcallv hS (vx_runV (As := [.int (x1)]) (rest := []) C (x_X3_checkTrack l G hst h _) (cwV 1 hts gX3_copy_X3_checkTrack rfl rfl rfl hv_X3_checkTrack ⟨Nat.le_of_ble_eq_true rfl, Nat.le_of_ble_eq_true rfl⟩) (z_preV Z hS hP (by decide) (z_E_90 _) rfl rfl) rfl rfl hl.1 rfl (lv_room (Nat.le_of_ble_eq_true rfl)) dX3_copy_2 ⟨Nat.le_of_ble_eq_true rfl, Nat.le_of_ble_eq_true rfl⟩) (fun ce q9 H locs hP hS h1 h2 h3 => ?_)
    exact z_xout ht hlk hP hS h1 h2 h3
  refine z_callv hS (va_runV (As := [.int (x1)]) (rest := []) C (c_X3_checkTrack l G e18 _) (cwV 1 hts gX3_copy_X3_checkTrack rfl rfl rfl hv_X3_checkTrack ⟨Nat.le_of_ble_eq_true rfl, Nat.le_of_ble_eq_true rfl⟩) (z_preV Z hS hP (by decide) (z_E_90 _) rfl rfl) rfl rfl hl.1 rfl (lv_room (Nat.le_of_ble_eq_true rfl)) dX3_copy_2 ⟨Nat.zero_le _, Nat.zero_le _⟩) (fun H locs hP hS => ?_)
  refine lv_aload_n hx hb dX3_copy_5 rfl (lv_at hl 0 rfl) ?_
  refine lv_iload_n hx hb dX3_copy_6 rfl (lv_at hl 2 rfl) ?_
  rcases zbx_l h with h | ⟨r19, m20, e21, h⟩
  · refine z_xcallv hS (vx_runV (As := [.int (x2)]) (rest := []) C (x_X3_checkTrack l G hst h _) (cwV 1 hts gX3_copy_X3_checkTrack rfl rfl rfl hv_X3_checkTrack ⟨Nat.le_of_ble_eq_true rfl, Nat.le_of_ble_eq_true rfl⟩) (z_preV Z hS hP (by decide) (z_E_90 _) rfl rfl) rfl rfl hl.1 rfl (lv_room (Nat.le_of_ble_eq_true rfl)) dX3_copy_7 ⟨Nat.le_of_ble_eq_true rfl, Nat.le_of_ble_eq_true rfl⟩) (fun ce q9 H locs hP hS h1 h2 h3 => ?_)
    exact z_xout ht hlk hP hS h1 h2 h3
  refine z_callv hS (va_runV (As := [.int (x2)]) (rest := []) C (c_X3_checkTrack l G e21 _) (cwV 1 hts gX3_copy_X3_checkTrack rfl rfl rfl hv_X3_checkTrack ⟨Nat.le_of_ble_eq_true rfl, Nat.le_of_ble_eq_true rfl⟩) (z_preV Z hS hP (by decide) (z_E_90 _) rfl rfl) rfl rfl hl.1 rfl (lv_room (Nat.le_of_ble_eq_true rfl)) dX3_copy_7 ⟨Nat.zero_le _, Nat.zero_le _⟩) (fun H locs hP hS => ?_)
  refine lv_aload_n hx hb dX3_copy_10 rfl (lv_at hl 0 rfl) ?_
  refine lv_iload_n hx hb dX3_copy_11 rfl (lv_at hl 3 rfl) ?_
  rcases zbx_l h with h | ⟨r22, m23, e24, h⟩
  · refine z_xcallv hS (vx_runV (As := [.int (x3)]) (rest := []) C (x_X3_checkLever l G hst h _) (cwV 1 hts gX3_copy_X3_checkLever rfl rfl rfl hv_X3_checkLever ⟨Nat.le_of_ble_eq_true rfl, Nat.le_of_ble_eq_true rfl⟩) (z_preV Z hS hP (by decide) (z_E_90 _) rfl rfl) rfl rfl hl.1 rfl (lv_room (Nat.le_of_ble_eq_true rfl)) dX3_copy_12 ⟨Nat.le_of_ble_eq_true rfl, Nat.le_of_ble_eq_true rfl⟩) (fun ce q9 H locs hP hS h1 h2 h3 => ?_)
    exact z_xout ht hlk hP hS h1 h2 h3
  refine z_callv hS (va_runV (As := [.int (x3)]) (rest := []) C (c_X3_checkLever l G e24 _) (cwV 1 hts gX3_copy_X3_checkLever rfl rfl rfl hv_X3_checkLever ⟨Nat.le_of_ble_eq_true rfl, Nat.le_of_ble_eq_true rfl⟩) (z_preV Z hS hP (by decide) (z_E_90 _) rfl rfl) rfl rfl hl.1 rfl (lv_room (Nat.le_of_ble_eq_true rfl)) dX3_copy_12 ⟨Nat.zero_le _, Nat.zero_le _⟩) (fun H locs hP hS => ?_)
  refine lv_aload_n hx hb dX3_copy_15 rfl (lv_at hl 0 rfl) ?_
  obtain ⟨r25, m26, e27, h⟩ := zb_some h
  refine z_callv hS (va_runV (As := []) (rest := []) C (c_X3_saveState l G e27 _) (cwV 0 hts gX3_copy_X3_saveState rfl rfl rfl hv_X3_saveState ⟨Nat.le_of_ble_eq_true rfl, Nat.le_of_ble_eq_true rfl⟩) (z_preV Z hS hP (by decide) (z_E_90 _) rfl rfl) rfl rfl hl.1 rfl (lv_room (Nat.le_of_ble_eq_true rfl)) dX3_copy_16 ⟨Nat.zero_le _, Nat.zero_le _⟩) (fun H locs hP hS => ?_)
  refine lv_aload_n hx hb dX3_copy_19 rfl (lv_at hl 0 rfl) ?_
  refine z_get C Z hP (k := 90) (ci := 3) (j := 0) (N := 7) (v := .ref (G.2.1 (0))) (by decide) (z_E_90 _) rfl inX3_copy_X3 (by decide) wX3_copy_0 rfl dX3_copy_20 ?_
  refine lv_iload_n hx hb dX3_copy_23 rfl (lv_at hl 1 rfl) ?_
  refine lv_iload_n hx hb dX3_copy_24 rfl (lv_at hl 2 rfl) ?_
  refine lv_iload_n hx hb dX3_copy_25 rfl (lv_at hl 3 rfl) ?_
  obtain ⟨r28, m29, e30, h⟩ := zb_some h
  refine z_calli hS (va_runV (As := [.int (x1), .int (x2), .int (x3)]) (rest := []) C (c_X2_copyOnto l G e30 _) (cwV 3 hts gX3_copy_X2_copyOnto rfl rfl rfl hv_X2_copyOnto ⟨Nat.le_of_ble_eq_true rfl, Nat.le_of_ble_eq_true rfl⟩) (z_preV Z hS hP (by decide) (z_E_0 _) rfl rfl) rfl rfl hl.1 rfl (lv_room (Nat.le_of_ble_eq_true rfl)) dX3_copy_26 ⟨Nat.zero_le _, Nat.zero_le _⟩) (fun H locs hP hS => ?_)
  cases h
abbrev rmx_X3_play : Room := { frames := 7, cells := 1, slots := 6, locals := 103 }
set_option maxHeartbeats 4000000 in
set_option maxRecDepth 100000 in
theorem x_X3_play (l : Launch) (G : zG) (hst : l.stackTraces = false) {x1 : Int32} {μ mu1 : Mm} {E : String} (h : f_X3_play x1 μ = some (.inl E, mu1)) (sz : Nat) : vx_Met l yX3_play wsX3_play rmx_X3_play (z_Pre G μ [.ref (G.2.1 (90)), .int (x1)] sz) (z_Fi G sz) (z_XC G E mu1 sz) 1 6 (z_A G sz) := by
  refine z_startX (Qc := fun sz => z_Fi G sz) (XC := fun sz => z_XC G E mu1 sz) (cc := cX3_play) (maxL := 2) (ret := (some .int)) (own := RX3) (by decide) rfl rfl (Nat.le_of_ble_eq_true rfl) (fun p e s m args below meth c C ht hlk Z hP ls hl => ?_) sz
  have hx := C.1
  have hb := C.2.1
  have hts := C.2.2.2.2
  have hS : va_S (z_A G s.heap.size) s.heap s.heap [] := va_S.rf
  have hl : lv_has ls 2 [(0, .ref (G.2.1 (90))), (1, .int (x1))] := hl
  unfold f_X3_play at h
  refine lv_aload_n hx hb dX3_play_0 rfl (lv_at hl 0 rfl) ?_
  refine lv_iload_n hx hb dX3_play_1 rfl (lv_at hl 1 rfl) ?_
  rcases zbx_l h with h | ⟨r10, m11, e12, h⟩
  · refine z_xcallv hS (vx_runV (As := [.int (x1)]) (rest := []) C (x_X3_checkTrack l G hst h _) (cwV 1 hts gX3_play_X3_checkTrack rfl rfl rfl hv_X3_checkTrack ⟨Nat.le_of_ble_eq_true rfl, Nat.le_of_ble_eq_true rfl⟩) (z_preV Z hS hP (by decide) (z_E_90 _) rfl rfl) rfl rfl hl.1 rfl (lv_room (Nat.le_of_ble_eq_true rfl)) dX3_play_2 ⟨Nat.le_of_ble_eq_true rfl, Nat.le_of_ble_eq_true rfl⟩) (fun ce q9 H locs hP hS h1 h2 h3 => ?_)
    exact z_xout ht hlk hP hS h1 h2 h3
  refine z_callv hS (va_runV (As := [.int (x1)]) (rest := []) C (c_X3_checkTrack l G e12 _) (cwV 1 hts gX3_play_X3_checkTrack rfl rfl rfl hv_X3_checkTrack ⟨Nat.le_of_ble_eq_true rfl, Nat.le_of_ble_eq_true rfl⟩) (z_preV Z hS hP (by decide) (z_E_90 _) rfl rfl) rfl rfl hl.1 rfl (lv_room (Nat.le_of_ble_eq_true rfl)) dX3_play_2 ⟨Nat.zero_le _, Nat.zero_le _⟩) (fun H locs hP hS => ?_)
  refine lv_aload_n hx hb dX3_play_5 rfl (lv_at hl 0 rfl) ?_
  obtain ⟨r13, m14, e15, h⟩ := zb_some h
  refine z_callv hS (va_runV (As := []) (rest := []) C (c_X3_saveState l G e15 _) (cwV 0 hts gX3_play_X3_saveState rfl rfl rfl hv_X3_saveState ⟨Nat.le_of_ble_eq_true rfl, Nat.le_of_ble_eq_true rfl⟩) (z_preV Z hS hP (by decide) (z_E_90 _) rfl rfl) rfl rfl hl.1 rfl (lv_room (Nat.le_of_ble_eq_true rfl)) dX3_play_6 ⟨Nat.zero_le _, Nat.zero_le _⟩) (fun H locs hP hS => ?_)
  refine lv_aload_n hx hb dX3_play_9 rfl (lv_at hl 0 rfl) ?_
  refine z_get C Z hP (k := 90) (ci := 3) (j := 0) (N := 7) (v := .ref (G.2.1 (0))) (by decide) (z_E_90 _) rfl inX3_play_X3 (by decide) wX3_play_0 rfl dX3_play_10 ?_
  refine lv_iload_n hx hb dX3_play_13 rfl (lv_at hl 1 rfl) ?_
  obtain ⟨r16, m17, e18, h⟩ := zb_some h
  refine z_calli hS (va_runV (As := [.int (x1)]) (rest := []) C (c_X2_playTrack l G e18 _) (cwV 1 hts gX3_play_X2_playTrack rfl rfl rfl hv_X2_playTrack ⟨Nat.le_of_ble_eq_true rfl, Nat.le_of_ble_eq_true rfl⟩) (z_preV Z hS hP (by decide) (z_E_0 _) rfl rfl) rfl rfl hl.1 rfl (lv_room (Nat.le_of_ble_eq_true rfl)) dX3_play_14 ⟨Nat.zero_le _, Nat.zero_le _⟩) (fun H locs hP hS => ?_)
  cases h
abbrev rmx_X3_checkCylinder : Room := { frames := 6, cells := 1, slots := 6, locals := 82 }
theorem xatX3_checkCylinder_o : ∀ w ∈ (vx_atS RX3 261 "java/lang/IndexOutOfBoundsException" z_nm).filter goodWord, w ∈ wsX3_checkCylinder := fun _ h => List.mem_cons_of_mem _ (List.mem_append_right _ h)
theorem wX3_checkCylinder_1 : Cond.classLink RX3 257 "java/lang/IndexOutOfBoundsException" ∈ wsX3_checkCylinder := by decide +kernel
theorem wX3_checkCylinder_2 : Cond.initialized "java/lang/IndexOutOfBoundsException" ∈ wsX3_checkCylinder := by decide +kernel
set_option maxHeartbeats 4000000 in
set_option maxRecDepth 100000 in
theorem x_X3_checkCylinder (l : Launch) (G : zG) (hst : l.stackTraces = false) {x1 : Int32} {μ mu1 : Mm} {E : String} (h : f_X3_checkCylinder x1 μ = some (.inl E, mu1)) (sz : Nat) : vx_Met l yX3_checkCylinder wsX3_checkCylinder rmx_X3_checkCylinder (z_Pre G μ [.ref (G.2.1 (90)), .int (x1)] sz) (z_Fv G sz) (z_XC G E mu1 sz) 1 6 (z_A G sz) := by
  refine z_startX (Qc := fun sz => z_Fv G sz) (XC := fun sz => z_XC G E mu1 sz) (cc := cX3_checkCylinder) (maxL := 2) (ret := none) (own := RX3) (by decide) rfl rfl (Nat.le_of_ble_eq_true rfl) (fun p e s m args below meth c C ht hlk Z hP ls hl => ?_) sz
  have hx := C.1
  have hb := C.2.1
  have hts := C.2.2.2.2
  have hS : va_S (z_A G s.heap.size) s.heap s.heap [] := va_S.rf
  have hl : lv_has ls 2 [(0, .ref (G.2.1 (90))), (1, .int (x1))] := hl
  unfold f_X3_checkCylinder at h
  refine lv_iload_n hx hb dX3_checkCylinder_0 rfl (lv_at hl 1 rfl) ?_
  refine lv_if_lt (tgt := 10) hx hb dX3_checkCylinder_1 (by decide) (fun hc3 => ?_) (fun hc3 => ?_)
  · have h := z_ip hc3 h
    cases h
    exact z_throwW C Z hst ht hlk hP hS hl.1 (text := "there is no such cylinder") (by decide) wX3_checkCylinder_1 wX3_checkCylinder_2 (by decide) (by decide) xatX3_checkCylinder_o z_xB_o z_xG_o dX3_checkCylinder_10 dX3_checkCylinder_13 dX3_checkCylinder_14 dX3_checkCylinder_17 dX3_checkCylinder_20 (Nat.le_of_ble_eq_true rfl) (Nat.le_of_ble_eq_true rfl) (Nat.le_of_ble_eq_true rfl) (Nat.le_of_ble_eq_true rfl)
  · have h := z_in hc3 h
    refine lv_iload_n hx hb dX3_checkCylinder_4 rfl (lv_at hl 1 rfl) ?_
    refine lv_bipush (v := 6) hx hb dX3_checkCylinder_5 (by decide) ?_
    refine lv_icmp_lt (tgt := 21) hx hb dX3_checkCylinder_7 (by decide) (fun hc4 => ?_) (fun hc4 => ?_)
    · have h := z_ip hc4 h
      cases h
    · have h := z_in hc4 h
      cases h
      exact z_throwW C Z hst ht hlk hP hS hl.1 (text := "there is no such cylinder") (by decide) wX3_checkCylinder_1 wX3_checkCylinder_2 (by decide) (by decide) xatX3_checkCylinder_o z_xB_o z_xG_o dX3_checkCylinder_10 dX3_checkCylinder_13 dX3_checkCylinder_14 dX3_checkCylinder_17 dX3_checkCylinder_20 (Nat.le_of_ble_eq_true rfl) (Nat.le_of_ble_eq_true rfl) (Nat.le_of_ble_eq_true rfl) (Nat.le_of_ble_eq_true rfl)
abbrev rmx_X3_shave : Room := { frames := 7, cells := 1, slots := 6, locals := 103 }
set_option maxHeartbeats 4000000 in
set_option maxRecDepth 100000 in
theorem x_X3_shave (l : Launch) (G : zG) (hst : l.stackTraces = false) {x1 : Int32} {μ mu1 : Mm} {E : String} (h : f_X3_shave x1 μ = some (.inl E, mu1)) (sz : Nat) : vx_Met l yX3_shave wsX3_shave rmx_X3_shave (z_Pre G μ [.ref (G.2.1 (90)), .int (x1)] sz) (z_Fi G sz) (z_XC G E mu1 sz) 1 6 (z_A G sz) := by
  refine z_startX (Qc := fun sz => z_Fi G sz) (XC := fun sz => z_XC G E mu1 sz) (cc := cX3_shave) (maxL := 2) (ret := (some .int)) (own := RX3) (by decide) rfl rfl (Nat.le_of_ble_eq_true rfl) (fun p e s m args below meth c C ht hlk Z hP ls hl => ?_) sz
  have hx := C.1
  have hb := C.2.1
  have hts := C.2.2.2.2
  have hS : va_S (z_A G s.heap.size) s.heap s.heap [] := va_S.rf
  have hl : lv_has ls 2 [(0, .ref (G.2.1 (90))), (1, .int (x1))] := hl
  unfold f_X3_shave at h
  refine lv_aload_n hx hb dX3_shave_0 rfl (lv_at hl 0 rfl) ?_
  refine lv_iload_n hx hb dX3_shave_1 rfl (lv_at hl 1 rfl) ?_
  rcases zbx_l h with h | ⟨r10, m11, e12, h⟩
  · refine z_xcallv hS (vx_runV (As := [.int (x1)]) (rest := []) C (x_X3_checkCylinder l G hst h _) (cwV 1 hts gX3_shave_X3_checkCylinder rfl rfl rfl hv_X3_checkCylinder ⟨Nat.le_of_ble_eq_true rfl, Nat.le_of_ble_eq_true rfl⟩) (z_preV Z hS hP (by decide) (z_E_90 _) rfl rfl) rfl rfl hl.1 rfl (lv_room (Nat.le_of_ble_eq_true rfl)) dX3_shave_2 ⟨Nat.le_of_ble_eq_true rfl, Nat.le_of_ble_eq_true rfl⟩) (fun ce q9 H locs hP hS h1 h2 h3 => ?_)
    exact z_xout ht hlk hP hS h1 h2 h3
  refine z_callv hS (va_runV (As := [.int (x1)]) (rest := []) C (c_X3_checkCylinder l G e12 _) (cwV 1 hts gX3_shave_X3_checkCylinder rfl rfl rfl hv_X3_checkCylinder ⟨Nat.le_of_ble_eq_true rfl, Nat.le_of_ble_eq_true rfl⟩) (z_preV Z hS hP (by decide) (z_E_90 _) rfl rfl) rfl rfl hl.1 rfl (lv_room (Nat.le_of_ble_eq_true rfl)) dX3_shave_2 ⟨Nat.zero_le _, Nat.zero_le _⟩) (fun H locs hP hS => ?_)
  refine lv_aload_n hx hb dX3_shave_5 rfl (lv_at hl 0 rfl) ?_
  obtain ⟨r13, m14, e15, h⟩ := zb_some h
  refine z_callv hS (va_runV (As := []) (rest := []) C (c_X3_saveState l G e15 _) (cwV 0 hts gX3_shave_X3_saveState rfl rfl rfl hv_X3_saveState ⟨Nat.le_of_ble_eq_true rfl, Nat.le_of_ble_eq_true rfl⟩) (z_preV Z hS hP (by decide) (z_E_90 _) rfl rfl) rfl rfl hl.1 rfl (lv_room (Nat.le_of_ble_eq_true rfl)) dX3_shave_6 ⟨Nat.zero_le _, Nat.zero_le _⟩) (fun H locs hP hS => ?_)
  refine lv_aload_n hx hb dX3_shave_9 rfl (lv_at hl 0 rfl) ?_
  refine z_get C Z hP (k := 90) (ci := 3) (j := 0) (N := 7) (v := .ref (G.2.1 (0))) (by decide) (z_E_90 _) rfl inX3_shave_X3 (by decide) wX3_shave_0 rfl dX3_shave_10 ?_
  refine lv_iload_n hx hb dX3_shave_13 rfl (lv_at hl 1 rfl) ?_
  obtain ⟨r16, m17, e18, h⟩ := zb_some h
  refine z_calli hS (va_runV (As := [.int (x1)]) (rest := []) C (c_X2_shaveCylinder l G e18 _) (cwV 1 hts gX3_shave_X2_shaveCylinder rfl rfl rfl hv_X2_shaveCylinder ⟨Nat.le_of_ble_eq_true rfl, Nat.le_of_ble_eq_true rfl⟩) (z_preV Z hS hP (by decide) (z_E_0 _) rfl rfl) rfl rfl hl.1 rfl (lv_room (Nat.le_of_ble_eq_true rfl)) dX3_shave_14 ⟨Nat.zero_le _, Nat.zero_le _⟩) (fun H locs hP hS => ?_)
  cases h
abbrev rmx_X3_renew : Room := { frames := 7, cells := 1, slots := 6, locals := 103 }
theorem xatX3_renew_a : ∀ w ∈ (vx_atS RX3 87 "java/lang/IllegalArgumentException" z_nm).filter goodWord, w ∈ wsX3_renew := fun _ h => List.mem_cons_of_mem _ (List.mem_append_left _ (List.mem_append_right _ h))
theorem wX3_renew_3 : Cond.classLink RX3 83 "java/lang/IllegalArgumentException" ∈ wsX3_renew := by decide +kernel
theorem wX3_renew_4 : Cond.initialized "java/lang/IllegalArgumentException" ∈ wsX3_renew := by decide +kernel
set_option maxHeartbeats 4000000 in
set_option maxRecDepth 100000 in
theorem x_X3_renew (l : Launch) (G : zG) (hst : l.stackTraces = false) {x1 : Int32} {x2 : Int32} {μ mu1 : Mm} {E : String} (h : f_X3_renew x1 x2 μ = some (.inl E, mu1)) (sz : Nat) : vx_Met l yX3_renew wsX3_renew rmx_X3_renew (z_Pre G μ [.ref (G.2.1 (90)), .int (x1), .int (x2)] sz) (z_Fi G sz) (z_XC G E mu1 sz) 1 6 (z_A G sz) := by
  refine z_startX (Qc := fun sz => z_Fi G sz) (XC := fun sz => z_XC G E mu1 sz) (cc := cX3_renew) (maxL := 3) (ret := (some .int)) (own := RX3) (by decide) rfl rfl (Nat.le_of_ble_eq_true rfl) (fun p e s m args below meth c C ht hlk Z hP ls hl => ?_) sz
  have hx := C.1
  have hb := C.2.1
  have hts := C.2.2.2.2
  have hS : va_S (z_A G s.heap.size) s.heap s.heap [] := va_S.rf
  have hl : lv_has ls 3 [(0, .ref (G.2.1 (90))), (1, .int (x1)), (2, .int (x2))] := hl
  unfold f_X3_renew at h
  refine lv_aload_n hx hb dX3_renew_0 rfl (lv_at hl 0 rfl) ?_
  refine lv_iload_n hx hb dX3_renew_1 rfl (lv_at hl 1 rfl) ?_
  rcases zbx_l h with h | ⟨r12, m13, e14, h⟩
  · refine z_xcallv hS (vx_runV (As := [.int (x1)]) (rest := []) C (x_X3_checkCylinder l G hst h _) (cwV 1 hts gX3_renew_X3_checkCylinder rfl rfl rfl hv_X3_checkCylinder ⟨Nat.le_of_ble_eq_true rfl, Nat.le_of_ble_eq_true rfl⟩) (z_preV Z hS hP (by decide) (z_E_90 _) rfl rfl) rfl rfl hl.1 rfl (lv_room (Nat.le_of_ble_eq_true rfl)) dX3_renew_2 ⟨Nat.le_of_ble_eq_true rfl, Nat.le_of_ble_eq_true rfl⟩) (fun ce q9 H locs hP hS h1 h2 h3 => ?_)
    exact z_xout ht hlk hP hS h1 h2 h3
  refine z_callv hS (va_runV (As := [.int (x1)]) (rest := []) C (c_X3_checkCylinder l G e14 _) (cwV 1 hts gX3_renew_X3_checkCylinder rfl rfl rfl hv_X3_checkCylinder ⟨Nat.le_of_ble_eq_true rfl, Nat.le_of_ble_eq_true rfl⟩) (z_preV Z hS hP (by decide) (z_E_90 _) rfl rfl) rfl rfl hl.1 rfl (lv_room (Nat.le_of_ble_eq_true rfl)) dX3_renew_2 ⟨Nat.zero_le _, Nat.zero_le _⟩) (fun H locs hP hS => ?_)
  refine lv_iload_n hx hb dX3_renew_5 rfl (lv_at hl 2 rfl) ?_
  refine lv_if_lt (tgt := 15) hx hb dX3_renew_6 (by decide) (fun hc15 => ?_) (fun hc15 => ?_)
  · have h := z_ip hc15 h
    cases h
    exact z_throw C Z hst ht hlk hP hS hl.1 (text := "layers are 0 to 100") (by decide) wX3_renew_3 wX3_renew_4 (by decide) (by decide) xatX3_renew_a z_xB_a z_xG_a dX3_renew_15 dX3_renew_18 dX3_renew_19 dX3_renew_21 dX3_renew_24 (Nat.le_of_ble_eq_true rfl) (Nat.le_of_ble_eq_true rfl) (Nat.le_of_ble_eq_true rfl) (Nat.le_of_ble_eq_true rfl)
  · have h := z_in hc15 h
    refine lv_iload_n hx hb dX3_renew_9 rfl (lv_at hl 2 rfl) ?_
    refine lv_bipush (v := 100) hx hb dX3_renew_10 (by decide) ?_
    refine lv_icmp_le (tgt := 25) hx hb dX3_renew_12 (by decide) (fun hc16 => ?_) (fun hc16 => ?_)
    · have h := z_ip hc16 h
      refine lv_aload_n hx hb dX3_renew_25 rfl (lv_at hl 0 rfl) ?_
      obtain ⟨r17, m18, e19, h⟩ := zb_some h
      refine z_callv hS (va_runV (As := []) (rest := []) C (c_X3_saveState l G e19 _) (cwV 0 hts gX3_renew_X3_saveState rfl rfl rfl hv_X3_saveState ⟨Nat.le_of_ble_eq_true rfl, Nat.le_of_ble_eq_true rfl⟩) (z_preV Z hS hP (by decide) (z_E_90 _) rfl rfl) rfl rfl hl.1 rfl (lv_room (Nat.le_of_ble_eq_true rfl)) dX3_renew_26 ⟨Nat.zero_le _, Nat.zero_le _⟩) (fun H locs hP hS => ?_)
      refine lv_aload_n hx hb dX3_renew_29 rfl (lv_at hl 0 rfl) ?_
      refine z_get C Z hP (k := 90) (ci := 3) (j := 0) (N := 7) (v := .ref (G.2.1 (0))) (by decide) (z_E_90 _) rfl inX3_renew_X3 (by decide) wX3_renew_0 rfl dX3_renew_30 ?_
      refine lv_iload_n hx hb dX3_renew_33 rfl (lv_at hl 1 rfl) ?_
      refine lv_iload_n hx hb dX3_renew_34 rfl (lv_at hl 2 rfl) ?_
      obtain ⟨r20, m21, e22, h⟩ := zb_some h
      refine z_calli hS (va_runV (As := [.int (x1), .int (x2)]) (rest := []) C (c_X2_renewCylinder l G e22 _) (cwV 2 hts gX3_renew_X2_renewCylinder rfl rfl rfl hv_X2_renewCylinder ⟨Nat.le_of_ble_eq_true rfl, Nat.le_of_ble_eq_true rfl⟩) (z_preV Z hS hP (by decide) (z_E_0 _) rfl rfl) rfl rfl hl.1 rfl (lv_room (Nat.le_of_ble_eq_true rfl)) dX3_renew_35 ⟨Nat.zero_le _, Nat.zero_le _⟩) (fun H locs hP hS => ?_)
      cases h
    · have h := z_in hc16 h
      cases h
      exact z_throw C Z hst ht hlk hP hS hl.1 (text := "layers are 0 to 100") (by decide) wX3_renew_3 wX3_renew_4 (by decide) (by decide) xatX3_renew_a z_xB_a z_xG_a dX3_renew_15 dX3_renew_18 dX3_renew_19 dX3_renew_21 dX3_renew_24 (Nat.le_of_ble_eq_true rfl) (Nat.le_of_ble_eq_true rfl) (Nat.le_of_ble_eq_true rfl) (Nat.le_of_ble_eq_true rfl)
abbrev rmx_X3_set : Room := { frames := 6, cells := 1, slots := 6, locals := 82 }
theorem xatX3_set_a : ∀ w ∈ (vx_atS RX3 87 "java/lang/IllegalArgumentException" z_nm).filter goodWord, w ∈ wsX3_set := fun _ h => List.mem_cons_of_mem _ (List.mem_append_right _ h)
theorem wX3_set_5 : Cond.classLink RX3 83 "java/lang/IllegalArgumentException" ∈ wsX3_set := by decide +kernel
theorem wX3_set_6 : Cond.initialized "java/lang/IllegalArgumentException" ∈ wsX3_set := by decide +kernel
set_option maxHeartbeats 4000000 in
set_option maxRecDepth 100000 in
theorem x_X3_set (l : Launch) (G : zG) (hst : l.stackTraces = false) {x1 : Int32} {μ mu1 : Mm} {E : String} (h : f_X3_set x1 μ = some (.inl E, mu1)) (sz : Nat) : vx_Met l yX3_set wsX3_set rmx_X3_set (z_Pre G μ [.ref (G.2.1 (90)), .int (x1)] sz) (z_Fi G sz) (z_XC G E mu1 sz) 1 6 (z_A G sz) := by
  refine z_startX (Qc := fun sz => z_Fi G sz) (XC := fun sz => z_XC G E mu1 sz) (cc := cX3_set) (maxL := 3) (ret := (some .int)) (own := RX3) (by decide) rfl rfl (Nat.le_of_ble_eq_true rfl) (fun p e s m args below meth c C ht hlk Z hP ls hl => ?_) sz
  have hx := C.1
  have hb := C.2.1
  have hts := C.2.2.2.2
  have hS : va_S (z_A G s.heap.size) s.heap s.heap [] := va_S.rf
  have hl : lv_has ls 3 [(0, .ref (G.2.1 (90))), (1, .int (x1))] := hl
  unfold f_X3_set at h
  refine lv_iload_n hx hb dX3_set_0 rfl (lv_at hl 1 rfl) ?_
  refine lv_if_lt (tgt := 10) hx hb dX3_set_1 (by decide) (fun hc6 => ?_) (fun hc6 => ?_)
  · have h := z_ip hc6 h
    cases h
    exact z_throw C Z hst ht hlk hP hS hl.1 (text := "the setting is 0 to 20") (by decide) wX3_set_5 wX3_set_6 (by decide) (by decide) xatX3_set_a z_xB_a z_xG_a dX3_set_10 dX3_set_13 dX3_set_14 dX3_set_16 dX3_set_19 (Nat.le_of_ble_eq_true rfl) (Nat.le_of_ble_eq_true rfl) (Nat.le_of_ble_eq_true rfl) (Nat.le_of_ble_eq_true rfl)
  · have h := z_in hc6 h
    refine lv_iload_n hx hb dX3_set_4 rfl (lv_at hl 1 rfl) ?_
    refine lv_bipush (v := 20) hx hb dX3_set_5 (by decide) ?_
    refine lv_icmp_le (tgt := 20) hx hb dX3_set_7 (by decide) (fun hc7 => ?_) (fun hc7 => ?_)
    · have h := z_ip hc7 h
      refine lv_aload_n hx hb dX3_set_20 rfl (lv_at hl 0 rfl) ?_
      obtain ⟨r8, m9, e10, h⟩ := zb_some h
      refine z_callv hS (va_runV (As := []) (rest := []) C (c_X3_saveState l G e10 _) (cwV 0 hts gX3_set_X3_saveState rfl rfl rfl hv_X3_saveState ⟨Nat.le_of_ble_eq_true rfl, Nat.le_of_ble_eq_true rfl⟩) (z_preV Z hS hP (by decide) (z_E_90 _) rfl rfl) rfl rfl hl.1 rfl (lv_room (Nat.le_of_ble_eq_true rfl)) dX3_set_21 ⟨Nat.zero_le _, Nat.zero_le _⟩) (fun H locs hP hS => ?_)
      refine lv_aload_n hx hb dX3_set_24 rfl (lv_at hl 0 rfl) ?_
      refine z_get C Z hP (k := 90) (ci := 3) (j := 0) (N := 7) (v := .ref (G.2.1 (0))) (by decide) (z_E_90 _) rfl inX3_set_X3 (by decide) wX3_set_0 rfl dX3_set_25 ?_
      refine z_get C Z hP (k := 0) (ci := 2) (j := 11) (N := 19) (v := .int ((m9 0 11))) (by decide) (z_E_0 _) rfl inX3_set_X2 (by decide) wX3_set_2 rfl dX3_set_28 ?_
      refine lv_istore_n (lv' := [(2, .int ((m9 0 11))), (0, .ref (G.2.1 (90))), (1, .int (x1))]) hx hb dX3_set_31 rfl hl (by decide) rfl (fun ls hl => ?_)
      refine lv_aload_n hx hb dX3_set_32 rfl (lv_at hl 1 rfl) ?_
      refine z_get C Z hP (k := 90) (ci := 3) (j := 0) (N := 7) (v := .ref (G.2.1 (0))) (by decide) (z_E_90 _) rfl inX3_set_X3 (by decide) wX3_set_0 rfl dX3_set_33 ?_
      refine lv_iload_n hx hb dX3_set_36 rfl (lv_at hl 2 rfl) ?_
      refine z_put C Z hP hS (k := 0) (ci := 2) (j := 11) (N := 19) (x := x1) (v := .int (x1)) (ty := .int) (by decide) (z_E_0 _) rfl inX3_set_X2 tyX2_ok nmX2 (by decide) wX3_set_2 rfl (by decide +kernel) rfl rfl (Nat.le_of_ble_eq_true rfl) (z_S_0_11 _ _) dX3_set_37 (fun H locs hP hS => ?_)
      refine lv_iload_n hx hb dX3_set_40 rfl (lv_at hl 0 rfl) ?_
      cases h
    · have h := z_in hc7 h
      cases h
      exact z_throw C Z hst ht hlk hP hS hl.1 (text := "the setting is 0 to 20") (by decide) wX3_set_5 wX3_set_6 (by decide) (by decide) xatX3_set_a z_xB_a z_xG_a dX3_set_10 dX3_set_13 dX3_set_14 dX3_set_16 dX3_set_19 (Nat.le_of_ble_eq_true rfl) (Nat.le_of_ble_eq_true rfl) (Nat.le_of_ble_eq_true rfl) (Nat.le_of_ble_eq_true rfl)
abbrev rmx_X3_append : Room := { frames := 6, cells := 1, slots := 6, locals := 82 }
theorem xatX3_append_a : ∀ w ∈ (vx_atS RX3 87 "java/lang/IllegalArgumentException" z_nm).filter goodWord, w ∈ wsX3_append := fun _ h => List.mem_cons_of_mem _ (List.mem_append_left _ (List.mem_append_right _ h))
theorem wX3_append_3 : Cond.classLink RX3 83 "java/lang/IllegalArgumentException" ∈ wsX3_append := by decide +kernel
theorem wX3_append_4 : Cond.initialized "java/lang/IllegalArgumentException" ∈ wsX3_append := by decide +kernel
theorem xatX3_append_s : ∀ w ∈ (vx_atS RX3 108 "java/lang/IllegalStateException" z_nm).filter goodWord, w ∈ wsX3_append := fun _ h => List.mem_cons_of_mem _ (List.mem_append_right _ h)
theorem wX3_append_6 : Cond.classLink RX3 104 "java/lang/IllegalStateException" ∈ wsX3_append := by decide +kernel
theorem wX3_append_7 : Cond.initialized "java/lang/IllegalStateException" ∈ wsX3_append := by decide +kernel
set_option maxHeartbeats 4000000 in
set_option maxRecDepth 100000 in
theorem x_X3_append (l : Launch) (G : zG) (hst : l.stackTraces = false) {x1 : Int32} {μ mu1 : Mm} {E : String} (h : f_X3_append x1 μ = some (.inl E, mu1)) (sz : Nat) : vx_Met l yX3_append wsX3_append rmx_X3_append (z_Pre G μ [.ref (G.2.1 (90)), .int (x1)] sz) (z_Fi G sz) (z_XC G E mu1 sz) 1 6 (z_A G sz) := by
  refine z_startX (Qc := fun sz => z_Fi G sz) (XC := fun sz => z_XC G E mu1 sz) (cc := cX3_append) (maxL := 2) (ret := (some .int)) (own := RX3) (by decide) rfl rfl (Nat.le_of_ble_eq_true rfl) (fun p e s m args below meth c C ht hlk Z hP ls hl => ?_) sz
  have hx := C.1
  have hb := C.2.1
  have hts := C.2.2.2.2
  have hS : va_S (z_A G s.heap.size) s.heap s.heap [] := va_S.rf
  have hl : lv_has ls 2 [(0, .ref (G.2.1 (90))), (1, .int (x1))] := hl
  unfold f_X3_append at h
  refine lv_iload_n hx hb dX3_append_0 rfl (lv_at hl 1 rfl) ?_
  refine lv_bipush (v := 33) hx hb dX3_append_1 (by decide) ?_
  refine lv_icmp_lt (tgt := 12) hx hb dX3_append_3 (by decide) (fun hc10 => ?_) (fun hc10 => ?_)
  · have h := z_ip hc10 h
    cases h
    exact z_throw C Z hst ht hlk hP hS hl.1 (text := "a character's code is 33 to 126") (by decide) wX3_append_3 wX3_append_4 (by decide) (by decide) xatX3_append_a z_xB_a z_xG_a dX3_append_12 dX3_append_15 dX3_append_16 dX3_append_18 dX3_append_21 (Nat.le_of_ble_eq_true rfl) (Nat.le_of_ble_eq_true rfl) (Nat.le_of_ble_eq_true rfl) (Nat.le_of_ble_eq_true rfl)
  · have h := z_in hc10 h
    refine lv_iload_n hx hb dX3_append_6 rfl (lv_at hl 1 rfl) ?_
    refine lv_bipush (v := 126) hx hb dX3_append_7 (by decide) ?_
    refine lv_icmp_le (tgt := 22) hx hb dX3_append_9 (by decide) (fun hc11 => ?_) (fun hc11 => ?_)
    · have h := z_ip hc11 h
      refine lv_aload_n hx hb dX3_append_22 rfl (lv_at hl 0 rfl) ?_
      refine z_get C Z hP (k := 90) (ci := 3) (j := 5) (N := 7) (v := .ref (G.2.1 (94))) (by decide) (z_E_90 _) rfl inX3_append_X3 (by decide) wX3_append_0 rfl dX3_append_23 ?_
      obtain ⟨r12, m13, e14, h⟩ := zb_some h
      refine z_calli hS (va_runV (As := []) (rest := []) C (c_X0_isFull l G e14 _) (cwV 0 hts gX3_append_X0_isFull rfl rfl rfl hv_X0_isFull ⟨Nat.le_of_ble_eq_true rfl, Nat.le_of_ble_eq_true rfl⟩) (z_preV Z hS hP (by decide) (z_E_94 _) rfl rfl) rfl rfl hl.1 rfl (lv_room (Nat.le_of_ble_eq_true rfl)) dX3_append_26 ⟨Nat.zero_le _, Nat.zero_le _⟩) (fun H locs hP hS => ?_)
      refine lv_if_eq (tgt := 42) hx hb dX3_append_29 (by decide) (fun hc15 => ?_) (fun hc15 => ?_)
      · have h := z_ip hc15 h
        refine lv_aload_n hx hb dX3_append_42 rfl (lv_at hl 0 rfl) ?_
        refine z_get C Z hP (k := 90) (ci := 3) (j := 5) (N := 7) (v := .ref (G.2.1 (94))) (by decide) (z_E_90 _) rfl inX3_append_X3 (by decide) wX3_append_0 rfl dX3_append_43 ?_
        refine lv_iload_n hx hb dX3_append_46 rfl (lv_at hl 1 rfl) ?_
        refine lv_i2c (v := (((x1).toUInt32 % 65536).toInt32)) hx hb dX3_append_47 rfl ?_
        obtain ⟨r16, m17, e18, h⟩ := zb_some h
        refine z_calli hS (va_runV (As := [.int ((((x1).toUInt32 % 65536).toInt32))]) (rest := []) C (c_X0_take l G e18 _) (cwV 1 hts gX3_append_X0_take rfl rfl rfl hv_X0_take ⟨Nat.le_of_ble_eq_true rfl, Nat.le_of_ble_eq_true rfl⟩) (z_preV Z hS hP (by decide) (z_E_94 _) rfl rfl) rfl rfl hl.1 rfl (lv_room (Nat.le_of_ble_eq_true rfl)) dX3_append_48 ⟨Nat.zero_le _, Nat.zero_le _⟩) (fun H locs hP hS => ?_)
        cases h
      · have h := z_in hc15 h
        cases h
        exact z_throw C Z hst ht hlk hP hS hl.1 (text := "the buffer is full") (by decide) wX3_append_6 wX3_append_7 (by decide) (by decide) xatX3_append_s z_xB_s z_xG_s dX3_append_32 dX3_append_35 dX3_append_36 dX3_append_38 dX3_append_41 (Nat.le_of_ble_eq_true rfl) (Nat.le_of_ble_eq_true rfl) (Nat.le_of_ble_eq_true rfl) (Nat.le_of_ble_eq_true rfl)
    · have h := z_in hc11 h
      cases h
      exact z_throw C Z hst ht hlk hP hS hl.1 (text := "a character's code is 33 to 126") (by decide) wX3_append_3 wX3_append_4 (by decide) (by decide) xatX3_append_a z_xB_a z_xG_a dX3_append_12 dX3_append_15 dX3_append_16 dX3_append_18 dX3_append_21 (Nat.le_of_ble_eq_true rfl) (Nat.le_of_ble_eq_true rfl) (Nat.le_of_ble_eq_true rfl) (Nat.le_of_ble_eq_true rfl)
abbrev rmx_X3_run : Room := { frames := 7, cells := 1, slots := 6, locals := 152 }
theorem xatX3_run_a : ∀ w ∈ (vx_atS RX3 87 "java/lang/IllegalArgumentException" z_nm).filter goodWord, w ∈ wsX3_run := fun _ h => List.mem_cons_of_mem _ (List.mem_append_right _ h)
theorem wX3_run_3 : Cond.classLink RX3 83 "java/lang/IllegalArgumentException" ∈ wsX3_run := by decide +kernel
theorem wX3_run_4 : Cond.initialized "java/lang/IllegalArgumentException" ∈ wsX3_run := by decide +kernel
set_option maxHeartbeats 4000000 in
set_option maxRecDepth 100000 in
theorem x_X3_run (l : Launch) (G : zG) (hst : l.stackTraces = false) {μ mu1 : Mm} {E : String} (h : f_X3_run μ = some (.inl E, mu1)) (sz : Nat) : vx_Met l yX3_run wsX3_run rmx_X3_run (z_Pre G μ [.ref (G.2.1 (90))] sz) (z_Fi G sz) (z_XC G E mu1 sz) 1 6 (z_A G sz) := by
  refine z_startX (Qc := fun sz => z_Fi G sz) (XC := fun sz => z_XC G E mu1 sz) (cc := cX3_run) (maxL := 2) (ret := (some .int)) (own := RX3) (by decide) rfl rfl (Nat.le_of_ble_eq_true rfl) (fun p e s m args below meth c C ht hlk Z hP ls hl => ?_) sz
  have hx := C.1
  have hb := C.2.1
  have hts := C.2.2.2.2
  have hS : va_S (z_A G s.heap.size) s.heap s.heap [] := va_S.rf
  have hl : lv_has ls 2 [(0, .ref (G.2.1 (90)))] := hl
  unfold f_X3_run at h
  refine lv_aload_n hx hb dX3_run_0 rfl (lv_at hl 0 rfl) ?_
  refine z_get C Z hP (k := 90) (ci := 3) (j := 5) (N := 7) (v := .ref (G.2.1 (94))) (by decide) (z_E_90 _) rfl inX3_run_X3 (by decide) wX3_run_0 rfl dX3_run_1 ?_
  obtain ⟨r14, m15, e16, h⟩ := zb_some h
  refine z_calli hS (va_runV (As := []) (rest := []) C (c_X0_areWhole l G e16 _) (cwV 0 hts gX3_run_X0_areWhole rfl rfl rfl hv_X0_areWhole ⟨Nat.le_of_ble_eq_true rfl, Nat.le_of_ble_eq_true rfl⟩) (z_preV Z hS hP (by decide) (z_E_94 _) rfl rfl) rfl rfl hl.1 rfl (lv_room (Nat.le_of_ble_eq_true rfl)) dX3_run_4 ⟨Nat.zero_le _, Nat.zero_le _⟩) (fun H locs hP hS => ?_)
  refine lv_if_ne (tgt := 20) hx hb dX3_run_7 (by decide) (fun hc17 => ?_) (fun hc17 => ?_)
  · have h := z_in hc17 h
    refine lv_aload_n hx hb dX3_run_20 rfl (lv_at hl 0 rfl) ?_
    obtain ⟨r18, m19, e20, h⟩ := zb_some h
    refine z_callv hS (va_runV (As := []) (rest := []) C (c_X3_saveState l G e20 _) (cwV 0 hts gX3_run_X3_saveState rfl rfl rfl hv_X3_saveState ⟨Nat.le_of_ble_eq_true rfl, Nat.le_of_ble_eq_true rfl⟩) (z_preV Z hS hP (by decide) (z_E_90 _) rfl rfl) rfl rfl hl.1 rfl (lv_room (Nat.le_of_ble_eq_true rfl)) dX3_run_21 ⟨Nat.zero_le _, Nat.zero_le _⟩) (fun H locs hP hS => ?_)
    refine lv_aload_n hx hb dX3_run_24 rfl (lv_at hl 0 rfl) ?_
    obtain ⟨r21, m22, e23, h⟩ := zb_some h
    refine z_calli hS (va_runV (As := []) (rest := []) C (c_X3_doOrders l G e23 _) (cwV 0 hts gX3_run_X3_doOrders rfl rfl rfl hv_X3_doOrders ⟨Nat.le_of_ble_eq_true rfl, Nat.le_of_ble_eq_true rfl⟩) (z_preV Z hS hP (by decide) (z_E_90 _) rfl rfl) rfl rfl hl.1 rfl (lv_room (Nat.le_of_ble_eq_true rfl)) dX3_run_25 ⟨Nat.zero_le _, Nat.zero_le _⟩) (fun H locs hP hS => ?_)
    refine lv_istore_n (lv' := [(1, .int (r21)), (0, .ref (G.2.1 (90)))]) hx hb dX3_run_28 rfl hl (by decide) rfl (fun ls hl => ?_)
    refine lv_aload_n hx hb dX3_run_29 rfl (lv_at hl 1 rfl) ?_
    refine z_get C Z hP (k := 90) (ci := 3) (j := 5) (N := 7) (v := .ref (G.2.1 (94))) (by decide) (z_E_90 _) rfl inX3_run_X3 (by decide) wX3_run_0 rfl dX3_run_30 ?_
    obtain ⟨r24, m25, e26, h⟩ := zb_some h
    refine z_calli hS (va_runV (As := []) (rest := []) C (c_X0_drop l G e26 _) (cwV 0 hts gX3_run_X0_drop rfl rfl rfl hv_X0_drop ⟨Nat.le_of_ble_eq_true rfl, Nat.le_of_ble_eq_true rfl⟩) (z_preV Z hS hP (by decide) (z_E_94 _) rfl rfl) rfl rfl hl.1 rfl (lv_room (Nat.le_of_ble_eq_true rfl)) dX3_run_33 ⟨Nat.zero_le _, Nat.zero_le _⟩) (fun H locs hP hS => ?_)
    refine lv_pop hx hb dX3_run_36 rfl ?_
    refine lv_iload_n hx hb dX3_run_37 rfl (lv_at hl 0 rfl) ?_
    cases h
  · have h := z_ip hc17 h
    cases h
    exact z_throw C Z hst ht hlk hP hS hl.1 (text := "the buffer does not tell orders") (by decide) wX3_run_3 wX3_run_4 (by decide) (by decide) xatX3_run_a z_xB_a z_xG_a dX3_run_10 dX3_run_13 dX3_run_14 dX3_run_16 dX3_run_19 (Nat.le_of_ble_eq_true rfl) (Nat.le_of_ble_eq_true rfl) (Nat.le_of_ble_eq_true rfl) (Nat.le_of_ble_eq_true rfl)
abbrev rmx_X3_checkSlot : Room := { frames := 6, cells := 1, slots := 6, locals := 82 }
theorem xatX3_checkSlot_a : ∀ w ∈ (vx_atS RX3 87 "java/lang/IllegalArgumentException" z_nm).filter goodWord, w ∈ wsX3_checkSlot := fun _ h => List.mem_cons_of_mem _ (List.mem_append_right _ h)
theorem wX3_checkSlot_1 : Cond.classLink RX3 83 "java/lang/IllegalArgumentException" ∈ wsX3_checkSlot := by decide +kernel
theorem wX3_checkSlot_2 : Cond.initialized "java/lang/IllegalArgumentException" ∈ wsX3_checkSlot := by decide +kernel
set_option maxHeartbeats 4000000 in
set_option maxRecDepth 100000 in
theorem x_X3_checkSlot (l : Launch) (G : zG) (hst : l.stackTraces = false) {x1 : Int32} {μ mu1 : Mm} {E : String} (h : f_X3_checkSlot x1 μ = some (.inl E, mu1)) (sz : Nat) : vx_Met l yX3_checkSlot wsX3_checkSlot rmx_X3_checkSlot (z_Pre G μ [.ref (G.2.1 (90)), .int (x1)] sz) (z_Fv G sz) (z_XC G E mu1 sz) 1 6 (z_A G sz) := by
  refine z_startX (Qc := fun sz => z_Fv G sz) (XC := fun sz => z_XC G E mu1 sz) (cc := cX3_checkSlot) (maxL := 2) (ret := none) (own := RX3) (by decide) rfl rfl (Nat.le_of_ble_eq_true rfl) (fun p e s m args below meth c C ht hlk Z hP ls hl => ?_) sz
  have hx := C.1
  have hb := C.2.1
  have hts := C.2.2.2.2
  have hS : va_S (z_A G s.heap.size) s.heap s.heap [] := va_S.rf
  have hl : lv_has ls 2 [(0, .ref (G.2.1 (90))), (1, .int (x1))] := hl
  unfold f_X3_checkSlot at h
  refine lv_iload_n hx hb dX3_checkSlot_0 rfl (lv_at hl 1 rfl) ?_
  refine lv_if_lt (tgt := 9) hx hb dX3_checkSlot_1 (by decide) (fun hc3 => ?_) (fun hc3 => ?_)
  · have h := z_ip hc3 h
    cases h
    exact z_throwW C Z hst ht hlk hP hS hl.1 (text := "a slot is 0 or 1") (by decide) wX3_checkSlot_1 wX3_checkSlot_2 (by decide) (by decide) xatX3_checkSlot_a z_xB_a z_xG_a dX3_checkSlot_9 dX3_checkSlot_12 dX3_checkSlot_13 dX3_checkSlot_16 dX3_checkSlot_19 (Nat.le_of_ble_eq_true rfl) (Nat.le_of_ble_eq_true rfl) (Nat.le_of_ble_eq_true rfl) (Nat.le_of_ble_eq_true rfl)
  · have h := z_in hc3 h
    refine lv_iload_n hx hb dX3_checkSlot_4 rfl (lv_at hl 1 rfl) ?_
    refine lv_iconst (v := 2) hx hb dX3_checkSlot_5 (by decide) ?_
    refine lv_icmp_lt (tgt := 20) hx hb dX3_checkSlot_6 (by decide) (fun hc4 => ?_) (fun hc4 => ?_)
    · have h := z_ip hc4 h
      cases h
    · have h := z_in hc4 h
      cases h
      exact z_throwW C Z hst ht hlk hP hS hl.1 (text := "a slot is 0 or 1") (by decide) wX3_checkSlot_1 wX3_checkSlot_2 (by decide) (by decide) xatX3_checkSlot_a z_xB_a z_xG_a dX3_checkSlot_9 dX3_checkSlot_12 dX3_checkSlot_13 dX3_checkSlot_16 dX3_checkSlot_19 (Nat.le_of_ble_eq_true rfl) (Nat.le_of_ble_eq_true rfl) (Nat.le_of_ble_eq_true rfl) (Nat.le_of_ble_eq_true rfl)
abbrev rmx_X3_keep : Room := { frames := 7, cells := 1, slots := 6, locals := 103 }
set_option maxHeartbeats 4000000 in
set_option maxRecDepth 100000 in
theorem x_X3_keep (l : Launch) (G : zG) (hst : l.stackTraces = false) {x1 : Int32} {μ mu1 : Mm} {E : String} (h : f_X3_keep x1 μ = some (.inl E, mu1)) (sz : Nat) : vx_Met l yX3_keep wsX3_keep rmx_X3_keep (z_Pre G μ [.ref (G.2.1 (90)), .int (x1)] sz) (z_Fi G sz) (z_XC G E mu1 sz) 1 6 (z_A G sz) := by
  refine z_startX (Qc := fun sz => z_Fi G sz) (XC := fun sz => z_XC G E mu1 sz) (cc := cX3_keep) (maxL := 2) (ret := (some .int)) (own := RX3) (by decide) rfl rfl (Nat.le_of_ble_eq_true rfl) (fun p e s m args below meth c C ht hlk Z hP ls hl => ?_) sz
  have hx := C.1
  have hb := C.2.1
  have hts := C.2.2.2.2
  have hS : va_S (z_A G s.heap.size) s.heap s.heap [] := va_S.rf
  have hl : lv_has ls 2 [(0, .ref (G.2.1 (90))), (1, .int (x1))] := hl
  unfold f_X3_keep at h
  refine lv_aload_n hx hb dX3_keep_0 rfl (lv_at hl 0 rfl) ?_
  refine lv_iload_n hx hb dX3_keep_1 rfl (lv_at hl 1 rfl) ?_
  rcases zbx_l h with h | ⟨r12, m13, e14, h⟩
  · refine z_xcallv hS (vx_runV (As := [.int (x1)]) (rest := []) C (x_X3_checkSlot l G hst h _) (cwV 1 hts gX3_keep_X3_checkSlot rfl rfl rfl hv_X3_checkSlot ⟨Nat.le_of_ble_eq_true rfl, Nat.le_of_ble_eq_true rfl⟩) (z_preV Z hS hP (by decide) (z_E_90 _) rfl rfl) rfl rfl hl.1 rfl (lv_room (Nat.le_of_ble_eq_true rfl)) dX3_keep_2 ⟨Nat.le_of_ble_eq_true rfl, Nat.le_of_ble_eq_true rfl⟩) (fun ce q9 H locs hP hS h1 h2 h3 => ?_)
    exact z_xout ht hlk hP hS h1 h2 h3
  refine z_callv hS (va_runV (As := [.int (x1)]) (rest := []) C (c_X3_checkSlot l G e14 _) (cwV 1 hts gX3_keep_X3_checkSlot rfl rfl rfl hv_X3_checkSlot ⟨Nat.le_of_ble_eq_true rfl, Nat.le_of_ble_eq_true rfl⟩) (z_preV Z hS hP (by decide) (z_E_90 _) rfl rfl) rfl rfl hl.1 rfl (lv_room (Nat.le_of_ble_eq_true rfl)) dX3_keep_2 ⟨Nat.zero_le _, Nat.zero_le _⟩) (fun H locs hP hS => ?_)
  refine lv_aload_n hx hb dX3_keep_5 rfl (lv_at hl 0 rfl) ?_
  refine z_get C Z hP (k := 90) (ci := 3) (j := 1) (N := 7) (v := .ref (G.2.1 (91))) (by decide) (z_E_90 _) rfl inX3_keep_X3 (by decide) wX3_keep_0 rfl dX3_keep_6 ?_
  refine lv_iload_n hx hb dX3_keep_9 rfl (lv_at hl 1 rfl) ?_
  obtain ⟨hg15, h⟩ := z_g h
  refine z_aldq C Z hP (k := 91) (n := 2) (b := G.2.1 (10 * (1 + (x1).toNatClampNeg))) (by decide) (z_E_91 _) hg15 rfl dX3_keep_10 ?_
  have hw16 : (10 * (1 + (x1).toNatClampNeg)) % 10 = 0 ∧ (10 * (1 + (x1).toNatClampNeg)) < 90 := z_slotin hg15 rfl
  refine lv_aload_n hx hb dX3_keep_11 rfl (lv_at hl 0 rfl) ?_
  refine z_get C Z hP (k := 90) (ci := 3) (j := 0) (N := 7) (v := .ref (G.2.1 (0))) (by decide) (z_E_90 _) rfl inX3_keep_X3 (by decide) wX3_keep_2 rfl dX3_keep_12 ?_
  obtain ⟨r17, m18, e19, h⟩ := zb_some h
  refine z_callv hS (va_runV (As := [.ref (G.2.1 (0))]) (rest := []) C (c_X2_takeOver l G e19 _) (cwV 1 hts gX3_keep_X2_takeOver rfl rfl rfl hv_X2_takeOver ⟨Nat.le_of_ble_eq_true rfl, Nat.le_of_ble_eq_true rfl⟩) (z_preV Z hS hP (Nat.lt_trans hw16.2 (by decide)) (z_E_wax hw16 _) rfl rfl) rfl rfl hl.1 rfl (lv_room (Nat.le_of_ble_eq_true rfl)) dX3_keep_15 ⟨Nat.zero_le _, Nat.zero_le _⟩) (fun H locs hP hS => ?_)
  refine lv_aload_n hx hb dX3_keep_18 rfl (lv_at hl 0 rfl) ?_
  refine z_get C Z hP (k := 90) (ci := 3) (j := 2) (N := 7) (v := .ref (G.2.1 (92))) (by decide) (z_E_90 _) rfl inX3_keep_X3 (by decide) wX3_keep_3 rfl dX3_keep_19 ?_
  refine lv_iload_n hx hb dX3_keep_22 rfl (lv_at hl 1 rfl) ?_
  refine lv_iconst (v := 1) hx hb dX3_keep_23 (by decide) ?_
  refine z_zast C Z hP hS (k := 92) (n := 2) (j := (x1).toNatClampNeg) (by decide) (fun r => z_E_92 r) hg15 rfl dX3_keep_24 (fun H locs hP hS => ?_)
  refine lv_aload_n hx hb dX3_keep_25 rfl (lv_at hl 0 rfl) ?_
  refine z_get C Z hP (k := 90) (ci := 3) (j := 0) (N := 7) (v := .ref (G.2.1 (0))) (by decide) (z_E_90 _) rfl inX3_keep_X3 (by decide) wX3_keep_2 rfl dX3_keep_26 ?_
  obtain ⟨r20, m21, e22, h⟩ := zb_some h
  refine z_calli hS (va_runV (As := []) (rest := []) C (c_X2_cutTracks l G e22 _) (cwV 0 hts gX3_keep_X2_cutTracks rfl rfl rfl hv_X2_cutTracks ⟨Nat.le_of_ble_eq_true rfl, Nat.le_of_ble_eq_true rfl⟩) (z_preV Z hS hP (by decide) (z_E_0 _) rfl rfl) rfl rfl hl.1 rfl (lv_room (Nat.le_of_ble_eq_true rfl)) dX3_keep_29 ⟨Nat.zero_le _, Nat.zero_le _⟩) (fun H locs hP hS => ?_)
  cases h
abbrev rmx_X3_goBack : Room := { frames := 7, cells := 1, slots := 6, locals := 103 }
theorem xatX3_goBack_s : ∀ w ∈ (vx_atS RX3 108 "java/lang/IllegalStateException" z_nm).filter goodWord, w ∈ wsX3_goBack := fun _ h => List.mem_cons_of_mem _ (List.mem_append_left _ (List.mem_append_right _ h))
theorem wX3_goBack_5 : Cond.classLink RX3 104 "java/lang/IllegalStateException" ∈ wsX3_goBack := by decide +kernel
theorem wX3_goBack_6 : Cond.initialized "java/lang/IllegalStateException" ∈ wsX3_goBack := by decide +kernel
set_option maxHeartbeats 4000000 in
set_option maxRecDepth 100000 in
theorem x_X3_goBack (l : Launch) (G : zG) (hst : l.stackTraces = false) {x1 : Int32} {μ mu1 : Mm} {E : String} (h : f_X3_goBack x1 μ = some (.inl E, mu1)) (sz : Nat) : vx_Met l yX3_goBack wsX3_goBack rmx_X3_goBack (z_Pre G μ [.ref (G.2.1 (90)), .int (x1)] sz) (z_Fi G sz) (z_XC G E mu1 sz) 1 6 (z_A G sz) := by
  refine z_startX (Qc := fun sz => z_Fi G sz) (XC := fun sz => z_XC G E mu1 sz) (cc := cX3_goBack) (maxL := 2) (ret := (some .int)) (own := RX3) (by decide) rfl rfl (Nat.le_of_ble_eq_true rfl) (fun p e s m args below meth c C ht hlk Z hP ls hl => ?_) sz
  have hx := C.1
  have hb := C.2.1
  have hts := C.2.2.2.2
  have hS : va_S (z_A G s.heap.size) s.heap s.heap [] := va_S.rf
  have hl : lv_has ls 2 [(0, .ref (G.2.1 (90))), (1, .int (x1))] := hl
  unfold f_X3_goBack at h
  refine lv_aload_n hx hb dX3_goBack_0 rfl (lv_at hl 0 rfl) ?_
  refine lv_iload_n hx hb dX3_goBack_1 rfl (lv_at hl 1 rfl) ?_
  rcases zbx_l h with h | ⟨r16, m17, e18, h⟩
  · refine z_xcallv hS (vx_runV (As := [.int (x1)]) (rest := []) C (x_X3_checkSlot l G hst h _) (cwV 1 hts gX3_goBack_X3_checkSlot rfl rfl rfl hv_X3_checkSlot ⟨Nat.le_of_ble_eq_true rfl, Nat.le_of_ble_eq_true rfl⟩) (z_preV Z hS hP (by decide) (z_E_90 _) rfl rfl) rfl rfl hl.1 rfl (lv_room (Nat.le_of_ble_eq_true rfl)) dX3_goBack_2 ⟨Nat.le_of_ble_eq_true rfl, Nat.le_of_ble_eq_true rfl⟩) (fun ce q9 H locs hP hS h1 h2 h3 => ?_)
    exact z_xout ht hlk hP hS h1 h2 h3
  refine z_callv hS (va_runV (As := [.int (x1)]) (rest := []) C (c_X3_checkSlot l G e18 _) (cwV 1 hts gX3_goBack_X3_checkSlot rfl rfl rfl hv_X3_checkSlot ⟨Nat.le_of_ble_eq_true rfl, Nat.le_of_ble_eq_true rfl⟩) (z_preV Z hS hP (by decide) (z_E_90 _) rfl rfl) rfl rfl hl.1 rfl (lv_room (Nat.le_of_ble_eq_true rfl)) dX3_goBack_2 ⟨Nat.zero_le _, Nat.zero_le _⟩) (fun H locs hP hS => ?_)
  refine lv_aload_n hx hb dX3_goBack_5 rfl (lv_at hl 0 rfl) ?_
  refine z_get C Z hP (k := 90) (ci := 3) (j := 2) (N := 7) (v := .ref (G.2.1 (92))) (by decide) (z_E_90 _) rfl inX3_goBack_X3 (by decide) wX3_goBack_0 rfl dX3_goBack_6 ?_
  refine lv_iload_n hx hb dX3_goBack_9 rfl (lv_at hl 1 rfl) ?_
  obtain ⟨hg19, h⟩ := z_g h
  refine z_zald C Z hP (k := 92) (n := 2) (j := (x1).toNatClampNeg) (by decide) (z_E_92 _) hg19 rfl dX3_goBack_10 ?_
  refine lv_if_ne (tgt := 24) hx hb dX3_goBack_11 (by decide) (fun hc20 => ?_) (fun hc20 => ?_)
  · have h := z_in hc20 h
    refine lv_aload_n hx hb dX3_goBack_24 rfl (lv_at hl 0 rfl) ?_
    obtain ⟨r21, m22, e23, h⟩ := zb_some h
    refine z_callv hS (va_runV (As := []) (rest := []) C (c_X3_saveState l G e23 _) (cwV 0 hts gX3_goBack_X3_saveState rfl rfl rfl hv_X3_saveState ⟨Nat.le_of_ble_eq_true rfl, Nat.le_of_ble_eq_true rfl⟩) (z_preV Z hS hP (by decide) (z_E_90 _) rfl rfl) rfl rfl hl.1 rfl (lv_room (Nat.le_of_ble_eq_true rfl)) dX3_goBack_25 ⟨Nat.zero_le _, Nat.zero_le _⟩) (fun H locs hP hS => ?_)
    refine lv_aload_n hx hb dX3_goBack_28 rfl (lv_at hl 0 rfl) ?_
    refine z_get C Z hP (k := 90) (ci := 3) (j := 0) (N := 7) (v := .ref (G.2.1 (0))) (by decide) (z_E_90 _) rfl inX3_goBack_X3 (by decide) wX3_goBack_2 rfl dX3_goBack_29 ?_
    refine lv_aload_n hx hb dX3_goBack_32 rfl (lv_at hl 0 rfl) ?_
    refine z_get C Z hP (k := 90) (ci := 3) (j := 1) (N := 7) (v := .ref (G.2.1 (91))) (by decide) (z_E_90 _) rfl inX3_goBack_X3 (by decide) wX3_goBack_3 rfl dX3_goBack_33 ?_
    refine lv_iload_n hx hb dX3_goBack_36 rfl (lv_at hl 1 rfl) ?_
    refine z_aldq C Z hP (k := 91) (n := 2) (b := G.2.1 (10 * (1 + (x1).toNatClampNeg))) (by decide) (z_E_91 _) hg19 rfl dX3_goBack_37 ?_
    have hw24 : (10 * (1 + (x1).toNatClampNeg)) % 10 = 0 ∧ (10 * (1 + (x1).toNatClampNeg)) < 90 := z_slotin hg19 rfl
    obtain ⟨r25, m26, e27, h⟩ := zb_some h
    refine z_callv hS (va_runV (As := [.ref (G.2.1 ((10 * (1 + (x1).toNatClampNeg))))]) (rest := []) C (c_X2_takeOver l G e27 _) (cwV 1 hts gX3_goBack_X2_takeOver rfl rfl rfl hv_X2_takeOver ⟨Nat.le_of_ble_eq_true rfl, Nat.le_of_ble_eq_true rfl⟩) (z_preV Z hS hP (by decide) (z_E_0 _) rfl rfl) rfl rfl hl.1 rfl (lv_room (Nat.le_of_ble_eq_true rfl)) dX3_goBack_38 ⟨Nat.zero_le _, Nat.zero_le _⟩) (fun H locs hP hS => ?_)
    refine lv_aload_n hx hb dX3_goBack_41 rfl (lv_at hl 0 rfl) ?_
    refine z_get C Z hP (k := 90) (ci := 3) (j := 0) (N := 7) (v := .ref (G.2.1 (0))) (by decide) (z_E_90 _) rfl inX3_goBack_X3 (by decide) wX3_goBack_2 rfl dX3_goBack_42 ?_
    obtain ⟨r28, m29, e30, h⟩ := zb_some h
    refine z_calli hS (va_runV (As := []) (rest := []) C (c_X2_cutTracks l G e30 _) (cwV 0 hts gX3_goBack_X2_cutTracks rfl rfl rfl hv_X2_cutTracks ⟨Nat.le_of_ble_eq_true rfl, Nat.le_of_ble_eq_true rfl⟩) (z_preV Z hS hP (by decide) (z_E_0 _) rfl rfl) rfl rfl hl.1 rfl (lv_room (Nat.le_of_ble_eq_true rfl)) dX3_goBack_45 ⟨Nat.zero_le _, Nat.zero_le _⟩) (fun H locs hP hS => ?_)
    cases h
  · have h := z_ip hc20 h
    cases h
    exact z_throw C Z hst ht hlk hP hS hl.1 (text := "there is no snapshot in the slot") (by decide) wX3_goBack_5 wX3_goBack_6 (by decide) (by decide) xatX3_goBack_s z_xB_s z_xG_s dX3_goBack_14 dX3_goBack_17 dX3_goBack_18 dX3_goBack_20 dX3_goBack_23 (Nat.le_of_ble_eq_true rfl) (Nat.le_of_ble_eq_true rfl) (Nat.le_of_ble_eq_true rfl) (Nat.le_of_ble_eq_true rfl)
abbrev rmx_X3_undo : Room := { frames := 6, cells := 1, slots := 6, locals := 82 }
theorem xatX3_undo_s : ∀ w ∈ (vx_atS RX3 108 "java/lang/IllegalStateException" z_nm).filter goodWord, w ∈ wsX3_undo := fun _ h => List.mem_cons_of_mem _ (List.mem_append_right _ h)
theorem wX3_undo_5 : Cond.classLink RX3 104 "java/lang/IllegalStateException" ∈ wsX3_undo := by decide +kernel
theorem wX3_undo_6 : Cond.initialized "java/lang/IllegalStateException" ∈ wsX3_undo := by decide +kernel
set_option maxHeartbeats 4000000 in
set_option maxRecDepth 100000 in
theorem x_X3_undo (l : Launch) (G : zG) (hst : l.stackTraces = false) {μ mu1 : Mm} {E : String} (h : f_X3_undo μ = some (.inl E, mu1)) (sz : Nat) : vx_Met l yX3_undo wsX3_undo rmx_X3_undo (z_Pre G μ [.ref (G.2.1 (90))] sz) (z_Fi G sz) (z_XC G E mu1 sz) 1 6 (z_A G sz) := by
  refine z_startX (Qc := fun sz => z_Fi G sz) (XC := fun sz => z_XC G E mu1 sz) (cc := cX3_undo) (maxL := 1) (ret := (some .int)) (own := RX3) (by decide) rfl rfl (Nat.le_of_ble_eq_true rfl) (fun p e s m args below meth c C ht hlk Z hP ls hl => ?_) sz
  have hx := C.1
  have hb := C.2.1
  have hts := C.2.2.2.2
  have hS : va_S (z_A G s.heap.size) s.heap s.heap [] := va_S.rf
  have hl : lv_has ls 1 [(0, .ref (G.2.1 (90)))] := hl
  unfold f_X3_undo at h
  refine lv_aload_n hx hb dX3_undo_0 rfl (lv_at hl 0 rfl) ?_
  refine z_get C Z hP (k := 90) (ci := 3) (j := 4) (N := 7) (v := .int ((μ 90 4))) (by decide) (z_E_90 _) rfl inX3_undo_X3 (by decide) wX3_undo_0 rfl dX3_undo_1 ?_
  refine lv_if_gt (tgt := 17) hx hb dX3_undo_4 (by decide) (fun hc7 => ?_) (fun hc7 => ?_)
  · have h := z_ip hc7 h
    refine lv_aload_n hx hb dX3_undo_17 rfl (lv_at hl 0 rfl) ?_
    refine lv_dup hx hb dX3_undo_18 rfl ?_
    refine z_get C Z hP (k := 90) (ci := 3) (j := 4) (N := 7) (v := .int ((μ 90 4))) (by decide) (z_E_90 _) rfl inX3_undo_X3 (by decide) wX3_undo_0 rfl dX3_undo_19 ?_
    refine lv_iconst (v := 1) hx hb dX3_undo_22 (by decide) ?_
    refine lv_isub hx hb dX3_undo_23 ?_
    refine z_put C Z hP hS (k := 90) (ci := 3) (j := 4) (N := 7) (x := ((μ 90 4) - 1)) (v := .int (((μ 90 4) - 1))) (ty := .int) (by decide) (z_E_90 _) rfl inX3_undo_X3 tyX3_ok nmX3 (by decide) wX3_undo_0 rfl (by decide +kernel) rfl rfl (Nat.le_of_ble_eq_true rfl) (z_S_90_4 _ _) dX3_undo_24 (fun H locs hP hS => ?_)
    refine lv_aload_n hx hb dX3_undo_27 rfl (lv_at hl 0 rfl) ?_
    refine z_get C Z hP (k := 90) (ci := 3) (j := 0) (N := 7) (v := .ref (G.2.1 (0))) (by decide) (z_E_90 _) rfl inX3_undo_X3 (by decide) wX3_undo_2 rfl dX3_undo_28 ?_
    refine lv_aload_n hx hb dX3_undo_31 rfl (lv_at hl 0 rfl) ?_
    refine z_get C Z hP (k := 90) (ci := 3) (j := 3) (N := 7) (v := .ref (G.2.1 (93))) (by decide) (z_E_90 _) rfl inX3_undo_X3 (by decide) wX3_undo_3 rfl dX3_undo_32 ?_
    refine lv_aload_n hx hb dX3_undo_35 rfl (lv_at hl 0 rfl) ?_
    refine z_get C Z hP (k := 90) (ci := 3) (j := 4) (N := 7) (v := .int (((z_up μ (90) 4 ((μ 90 4) - 1)) 90 4))) (by decide) (z_E_90 _) rfl inX3_undo_X3 (by decide) wX3_undo_0 rfl dX3_undo_36 ?_
    obtain ⟨hg8, h⟩ := z_g h
    refine z_aldq C Z hP (k := 93) (n := 6) (b := G.2.1 (z_rf ((z_up μ (90) 4 ((μ 90 4) - 1)) 93 ((((z_up μ (90) 4 ((μ 90 4) - 1)) 90 4)).toNatClampNeg)))) (by decide) (z_E_93 _) hg8 rfl dX3_undo_39 ?_
    obtain ⟨hg9, h⟩ := z_g h
    obtain ⟨r10, m11, e12, h⟩ := zb_some h
    refine z_callv hS (va_runV (As := [.ref (G.2.1 ((z_rf ((z_up μ (90) 4 ((μ 90 4) - 1)) 93 ((((z_up μ (90) 4 ((μ 90 4) - 1)) 90 4)).toNatClampNeg)))))]) (rest := []) C (c_X2_takeOver l G e12 _) (cwV 1 hts gX3_undo_X2_takeOver rfl rfl rfl hv_X2_takeOver ⟨Nat.le_of_ble_eq_true rfl, Nat.le_of_ble_eq_true rfl⟩) (z_preV Z hS hP (by decide) (z_E_0 _) rfl rfl) rfl rfl hl.1 rfl (lv_room (Nat.le_of_ble_eq_true rfl)) dX3_undo_40 ⟨Nat.zero_le _, Nat.zero_le _⟩) (fun H locs hP hS => ?_)
    refine lv_aload_n hx hb dX3_undo_43 rfl (lv_at hl 0 rfl) ?_
    refine z_get C Z hP (k := 90) (ci := 3) (j := 4) (N := 7) (v := .int ((m11 90 4))) (by decide) (z_E_90 _) rfl inX3_undo_X3 (by decide) wX3_undo_0 rfl dX3_undo_44 ?_
    cases h
  · have h := z_in hc7 h
    cases h
    exact z_throw C Z hst ht hlk hP hS hl.1 (text := "there is no saved state") (by decide) wX3_undo_5 wX3_undo_6 (by decide) (by decide) xatX3_undo_s z_xB_s z_xG_s dX3_undo_7 dX3_undo_10 dX3_undo_11 dX3_undo_13 dX3_undo_16 (Nat.le_of_ble_eq_true rfl) (Nat.le_of_ble_eq_true rfl) (Nat.le_of_ble_eq_true rfl) (Nat.le_of_ble_eq_true rfl)
abbrev rmx_X3_checkWhat : Room := { frames := 6, cells := 1, slots := 6, locals := 82 }
theorem xatX3_checkWhat_a : ∀ w ∈ (vx_atS RX3 87 "java/lang/IllegalArgumentException" z_nm).filter goodWord, w ∈ wsX3_checkWhat := fun _ h => List.mem_cons_of_mem _ (List.mem_append_right _ h)
theorem wX3_checkWhat_1 : Cond.classLink RX3 83 "java/lang/IllegalArgumentException" ∈ wsX3_checkWhat := by decide +kernel
theorem wX3_checkWhat_2 : Cond.initialized "java/lang/IllegalArgumentException" ∈ wsX3_checkWhat := by decide +kernel
set_option maxHeartbeats 4000000 in
set_option maxRecDepth 100000 in
theorem x_X3_checkWhat (l : Launch) (G : zG) (hst : l.stackTraces = false) {x1 : Int32} {x2 : Int32} {μ mu1 : Mm} {E : String} (h : f_X3_checkWhat x1 x2 μ = some (.inl E, mu1)) (sz : Nat) : vx_Met l yX3_checkWhat wsX3_checkWhat rmx_X3_checkWhat (z_Pre G μ [.ref (G.2.1 (90)), .int (x1), .int (x2)] sz) (z_Fv G sz) (z_XC G E mu1 sz) 1 6 (z_A G sz) := by
  refine z_startX (Qc := fun sz => z_Fv G sz) (XC := fun sz => z_XC G E mu1 sz) (cc := cX3_checkWhat) (maxL := 3) (ret := none) (own := RX3) (by decide) rfl rfl (Nat.le_of_ble_eq_true rfl) (fun p e s m args below meth c C ht hlk Z hP ls hl => ?_) sz
  have hx := C.1
  have hb := C.2.1
  have hts := C.2.2.2.2
  have hS : va_S (z_A G s.heap.size) s.heap s.heap [] := va_S.rf
  have hl : lv_has ls 3 [(0, .ref (G.2.1 (90))), (1, .int (x1)), (2, .int (x2))] := hl
  unfold f_X3_checkWhat at h
  refine lv_iload_n hx hb dX3_checkWhat_0 rfl (lv_at hl 1 rfl) ?_
  refine lv_if_lt (tgt := 9) hx hb dX3_checkWhat_1 (by decide) (fun hc3 => ?_) (fun hc3 => ?_)
  · have h := z_ip hc3 h
    cases h
    exact z_throwW C Z hst ht hlk hP hS hl.1 (text := "what is out of range") (by decide) wX3_checkWhat_1 wX3_checkWhat_2 (by decide) (by decide) xatX3_checkWhat_a z_xB_a z_xG_a dX3_checkWhat_9 dX3_checkWhat_12 dX3_checkWhat_13 dX3_checkWhat_16 dX3_checkWhat_19 (Nat.le_of_ble_eq_true rfl) (Nat.le_of_ble_eq_true rfl) (Nat.le_of_ble_eq_true rfl) (Nat.le_of_ble_eq_true rfl)
  · have h := z_in hc3 h
    refine lv_iload_n hx hb dX3_checkWhat_4 rfl (lv_at hl 1 rfl) ?_
    refine lv_iload_n hx hb dX3_checkWhat_5 rfl (lv_at hl 2 rfl) ?_
    refine lv_icmp_lt (tgt := 20) hx hb dX3_checkWhat_6 (by decide) (fun hc4 => ?_) (fun hc4 => ?_)
    · have h := z_ip hc4 h
      cases h
    · have h := z_in hc4 h
      cases h
      exact z_throwW C Z hst ht hlk hP hS hl.1 (text := "what is out of range") (by decide) wX3_checkWhat_1 wX3_checkWhat_2 (by decide) (by decide) xatX3_checkWhat_a z_xB_a z_xG_a dX3_checkWhat_9 dX3_checkWhat_12 dX3_checkWhat_13 dX3_checkWhat_16 dX3_checkWhat_19 (Nat.le_of_ble_eq_true rfl) (Nat.le_of_ble_eq_true rfl) (Nat.le_of_ble_eq_true rfl) (Nat.le_of_ble_eq_true rfl)
abbrev rmx_X3_trackOf : Room := { frames := 7, cells := 1, slots := 6, locals := 104 }
set_option maxHeartbeats 4000000 in
set_option maxRecDepth 100000 in
theorem x_X3_trackOf (l : Launch) (G : zG) (hst : l.stackTraces = false) {x1 : Int32} {x2 : Int32} {μ mu1 : Mm} {E : String} (h : f_X3_trackOf x1 x2 μ = some (.inl E, mu1)) (sz : Nat) : vx_Met l yX3_trackOf wsX3_trackOf rmx_X3_trackOf (z_Pre G μ [.ref (G.2.1 (90)), .int (x1), .int (x2)] sz) (z_Fi G sz) (z_XC G E mu1 sz) 1 6 (z_A G sz) := by
  refine z_startX (Qc := fun sz => z_Fi G sz) (XC := fun sz => z_XC G E mu1 sz) (cc := cX3_trackOf) (maxL := 3) (ret := (some .int)) (own := RX3) (by decide) rfl rfl (Nat.le_of_ble_eq_true rfl) (fun p e s m args below meth c C ht hlk Z hP ls hl => ?_) sz
  have hx := C.1
  have hb := C.2.1
  have hts := C.2.2.2.2
  have hS : va_S (z_A G s.heap.size) s.heap s.heap [] := va_S.rf
  have hl : lv_has ls 3 [(0, .ref (G.2.1 (90))), (1, .int (x1)), (2, .int (x2))] := hl
  unfold f_X3_trackOf at h
  refine lv_aload_n hx hb dX3_trackOf_0 rfl (lv_at hl 0 rfl) ?_
  refine lv_iload_n hx hb dX3_trackOf_1 rfl (lv_at hl 1 rfl) ?_
  rcases zbx_l h with h | ⟨r10, m11, e12, h⟩
  · refine z_xcallv hS (vx_runV (As := [.int (x1)]) (rest := []) C (x_X3_checkTrack l G hst h _) (cwV 1 hts gX3_trackOf_X3_checkTrack rfl rfl rfl hv_X3_checkTrack ⟨Nat.le_of_ble_eq_true rfl, Nat.le_of_ble_eq_true rfl⟩) (z_preV Z hS hP (by decide) (z_E_90 _) rfl rfl) rfl rfl hl.1 rfl (lv_room (Nat.le_of_ble_eq_true rfl)) dX3_trackOf_2 ⟨Nat.le_of_ble_eq_true rfl, Nat.le_of_ble_eq_true rfl⟩) (fun ce q9 H locs hP hS h1 h2 h3 => ?_)
    exact z_xout ht hlk hP hS h1 h2 h3
  refine z_callv hS (va_runV (As := [.int (x1)]) (rest := []) C (c_X3_checkTrack l G e12 _) (cwV 1 hts gX3_trackOf_X3_checkTrack rfl rfl rfl hv_X3_checkTrack ⟨Nat.le_of_ble_eq_true rfl, Nat.le_of_ble_eq_true rfl⟩) (z_preV Z hS hP (by decide) (z_E_90 _) rfl rfl) rfl rfl hl.1 rfl (lv_room (Nat.le_of_ble_eq_true rfl)) dX3_trackOf_2 ⟨Nat.zero_le _, Nat.zero_le _⟩) (fun H locs hP hS => ?_)
  refine lv_aload_n hx hb dX3_trackOf_5 rfl (lv_at hl 0 rfl) ?_
  refine lv_iload_n hx hb dX3_trackOf_6 rfl (lv_at hl 2 rfl) ?_
  refine lv_bipush (v := 7) hx hb dX3_trackOf_7 (by decide) ?_
  rcases zbx_l h with h | ⟨r13, m14, e15, h⟩
  · refine z_xcallv hS (vx_runV (As := [.int (x2), .int (7)]) (rest := []) C (x_X3_checkWhat l G hst h _) (cwV 2 hts gX3_trackOf_X3_checkWhat rfl rfl rfl hv_X3_checkWhat ⟨Nat.le_of_ble_eq_true rfl, Nat.le_of_ble_eq_true rfl⟩) (z_preV Z hS hP (by decide) (z_E_90 _) rfl rfl) rfl rfl hl.1 rfl (lv_room (Nat.le_of_ble_eq_true rfl)) dX3_trackOf_9 ⟨Nat.le_of_ble_eq_true rfl, Nat.le_of_ble_eq_true rfl⟩) (fun ce q9 H locs hP hS h1 h2 h3 => ?_)
    exact z_xout ht hlk hP hS h1 h2 h3
  refine z_callv hS (va_runV (As := [.int (x2), .int (7)]) (rest := []) C (c_X3_checkWhat l G e15 _) (cwV 2 hts gX3_trackOf_X3_checkWhat rfl rfl rfl hv_X3_checkWhat ⟨Nat.le_of_ble_eq_true rfl, Nat.le_of_ble_eq_true rfl⟩) (z_preV Z hS hP (by decide) (z_E_90 _) rfl rfl) rfl rfl hl.1 rfl (lv_room (Nat.le_of_ble_eq_true rfl)) dX3_trackOf_9 ⟨Nat.zero_le _, Nat.zero_le _⟩) (fun H locs hP hS => ?_)
  refine lv_aload_n hx hb dX3_trackOf_12 rfl (lv_at hl 0 rfl) ?_
  refine z_get C Z hP (k := 90) (ci := 3) (j := 0) (N := 7) (v := .ref (G.2.1 (0))) (by decide) (z_E_90 _) rfl inX3_trackOf_X3 (by decide) wX3_trackOf_0 rfl dX3_trackOf_13 ?_
  refine lv_iload_n hx hb dX3_trackOf_16 rfl (lv_at hl 1 rfl) ?_
  refine lv_iload_n hx hb dX3_trackOf_17 rfl (lv_at hl 2 rfl) ?_
  obtain ⟨r16, m17, e18, h⟩ := zb_some h
  refine z_calli hS (va_runV (As := [.int (x1), .int (x2)]) (rest := []) C (c_X2_trackProperty l G e18 _) (cwV 2 hts gX3_trackOf_X2_trackProperty rfl rfl rfl hv_X2_trackProperty ⟨Nat.le_of_ble_eq_true rfl, Nat.le_of_ble_eq_true rfl⟩) (z_preV Z hS hP (by decide) (z_E_0 _) rfl rfl) rfl rfl hl.1 rfl (lv_room (Nat.le_of_ble_eq_true rfl)) dX3_trackOf_18 ⟨Nat.zero_le _, Nat.zero_le _⟩) (fun H locs hP hS => ?_)
  cases h
abbrev rmx_X3_cylinderOf : Room := { frames := 7, cells := 1, slots := 6, locals := 104 }
set_option maxHeartbeats 4000000 in
set_option maxRecDepth 100000 in
theorem x_X3_cylinderOf (l : Launch) (G : zG) (hst : l.stackTraces = false) {x1 : Int32} {x2 : Int32} {μ mu1 : Mm} {E : String} (h : f_X3_cylinderOf x1 x2 μ = some (.inl E, mu1)) (sz : Nat) : vx_Met l yX3_cylinderOf wsX3_cylinderOf rmx_X3_cylinderOf (z_Pre G μ [.ref (G.2.1 (90)), .int (x1), .int (x2)] sz) (z_Fi G sz) (z_XC G E mu1 sz) 1 6 (z_A G sz) := by
  refine z_startX (Qc := fun sz => z_Fi G sz) (XC := fun sz => z_XC G E mu1 sz) (cc := cX3_cylinderOf) (maxL := 3) (ret := (some .int)) (own := RX3) (by decide) rfl rfl (Nat.le_of_ble_eq_true rfl) (fun p e s m args below meth c C ht hlk Z hP ls hl => ?_) sz
  have hx := C.1
  have hb := C.2.1
  have hts := C.2.2.2.2
  have hS : va_S (z_A G s.heap.size) s.heap s.heap [] := va_S.rf
  have hl : lv_has ls 3 [(0, .ref (G.2.1 (90))), (1, .int (x1)), (2, .int (x2))] := hl
  unfold f_X3_cylinderOf at h
  refine lv_aload_n hx hb dX3_cylinderOf_0 rfl (lv_at hl 0 rfl) ?_
  refine lv_iload_n hx hb dX3_cylinderOf_1 rfl (lv_at hl 1 rfl) ?_
  rcases zbx_l h with h | ⟨r10, m11, e12, h⟩
  · refine z_xcallv hS (vx_runV (As := [.int (x1)]) (rest := []) C (x_X3_checkCylinder l G hst h _) (cwV 1 hts gX3_cylinderOf_X3_checkCylinder rfl rfl rfl hv_X3_checkCylinder ⟨Nat.le_of_ble_eq_true rfl, Nat.le_of_ble_eq_true rfl⟩) (z_preV Z hS hP (by decide) (z_E_90 _) rfl rfl) rfl rfl hl.1 rfl (lv_room (Nat.le_of_ble_eq_true rfl)) dX3_cylinderOf_2 ⟨Nat.le_of_ble_eq_true rfl, Nat.le_of_ble_eq_true rfl⟩) (fun ce q9 H locs hP hS h1 h2 h3 => ?_)
    exact z_xout ht hlk hP hS h1 h2 h3
  refine z_callv hS (va_runV (As := [.int (x1)]) (rest := []) C (c_X3_checkCylinder l G e12 _) (cwV 1 hts gX3_cylinderOf_X3_checkCylinder rfl rfl rfl hv_X3_checkCylinder ⟨Nat.le_of_ble_eq_true rfl, Nat.le_of_ble_eq_true rfl⟩) (z_preV Z hS hP (by decide) (z_E_90 _) rfl rfl) rfl rfl hl.1 rfl (lv_room (Nat.le_of_ble_eq_true rfl)) dX3_cylinderOf_2 ⟨Nat.zero_le _, Nat.zero_le _⟩) (fun H locs hP hS => ?_)
  refine lv_aload_n hx hb dX3_cylinderOf_5 rfl (lv_at hl 0 rfl) ?_
  refine lv_iload_n hx hb dX3_cylinderOf_6 rfl (lv_at hl 2 rfl) ?_
  refine lv_iconst (v := 5) hx hb dX3_cylinderOf_7 (by decide) ?_
  rcases zbx_l h with h | ⟨r13, m14, e15, h⟩
  · refine z_xcallv hS (vx_runV (As := [.int (x2), .int (5)]) (rest := []) C (x_X3_checkWhat l G hst h _) (cwV 2 hts gX3_cylinderOf_X3_checkWhat rfl rfl rfl hv_X3_checkWhat ⟨Nat.le_of_ble_eq_true rfl, Nat.le_of_ble_eq_true rfl⟩) (z_preV Z hS hP (by decide) (z_E_90 _) rfl rfl) rfl rfl hl.1 rfl (lv_room (Nat.le_of_ble_eq_true rfl)) dX3_cylinderOf_8 ⟨Nat.le_of_ble_eq_true rfl, Nat.le_of_ble_eq_true rfl⟩) (fun ce q9 H locs hP hS h1 h2 h3 => ?_)
    exact z_xout ht hlk hP hS h1 h2 h3
  refine z_callv hS (va_runV (As := [.int (x2), .int (5)]) (rest := []) C (c_X3_checkWhat l G e15 _) (cwV 2 hts gX3_cylinderOf_X3_checkWhat rfl rfl rfl hv_X3_checkWhat ⟨Nat.le_of_ble_eq_true rfl, Nat.le_of_ble_eq_true rfl⟩) (z_preV Z hS hP (by decide) (z_E_90 _) rfl rfl) rfl rfl hl.1 rfl (lv_room (Nat.le_of_ble_eq_true rfl)) dX3_cylinderOf_8 ⟨Nat.zero_le _, Nat.zero_le _⟩) (fun H locs hP hS => ?_)
  refine lv_aload_n hx hb dX3_cylinderOf_11 rfl (lv_at hl 0 rfl) ?_
  refine z_get C Z hP (k := 90) (ci := 3) (j := 0) (N := 7) (v := .ref (G.2.1 (0))) (by decide) (z_E_90 _) rfl inX3_cylinderOf_X3 (by decide) wX3_cylinderOf_0 rfl dX3_cylinderOf_12 ?_
  refine lv_iload_n hx hb dX3_cylinderOf_15 rfl (lv_at hl 1 rfl) ?_
  refine lv_iload_n hx hb dX3_cylinderOf_16 rfl (lv_at hl 2 rfl) ?_
  obtain ⟨r16, m17, e18, h⟩ := zb_some h
  refine z_calli hS (va_runV (As := [.int (x1), .int (x2)]) (rest := []) C (c_X2_cylinderProperty l G e18 _) (cwV 2 hts gX3_cylinderOf_X2_cylinderProperty rfl rfl rfl hv_X2_cylinderProperty ⟨Nat.le_of_ble_eq_true rfl, Nat.le_of_ble_eq_true rfl⟩) (z_preV Z hS hP (by decide) (z_E_0 _) rfl rfl) rfl rfl hl.1 rfl (lv_room (Nat.le_of_ble_eq_true rfl)) dX3_cylinderOf_17 ⟨Nat.zero_le _, Nat.zero_le _⟩) (fun H locs hP hS => ?_)
  cases h
abbrev rmx_X3_count : Room := { frames := 7, cells := 1, slots := 6, locals := 104 }
set_option maxHeartbeats 4000000 in
set_option maxRecDepth 100000 in
theorem x_X3_count (l : Launch) (G : zG) (hst : l.stackTraces = false) {x1 : Int32} {μ mu1 : Mm} {E : String} (h : f_X3_count x1 μ = some (.inl E, mu1)) (sz : Nat) : vx_Met l yX3_count wsX3_count rmx_X3_count (z_Pre G μ [.ref (G.2.1 (90)), .int (x1)] sz) (z_Fi G sz) (z_XC G E mu1 sz) 1 6 (z_A G sz) := by
  refine z_startX (Qc := fun sz => z_Fi G sz) (XC := fun sz => z_XC G E mu1 sz) (cc := cX3_count) (maxL := 2) (ret := (some .int)) (own := RX3) (by decide) rfl rfl (Nat.le_of_ble_eq_true rfl) (fun p e s m args below meth c C ht hlk Z hP ls hl => ?_) sz
  have hx := C.1
  have hb := C.2.1
  have hts := C.2.2.2.2
  have hS : va_S (z_A G s.heap.size) s.heap s.heap [] := va_S.rf
  have hl : lv_has ls 2 [(0, .ref (G.2.1 (90))), (1, .int (x1))] := hl
  unfold f_X3_count at h
  refine lv_aload_n hx hb dX3_count_0 rfl (lv_at hl 0 rfl) ?_
  refine lv_iload_n hx hb dX3_count_1 rfl (lv_at hl 1 rfl) ?_
  refine lv_bipush (v := 13) hx hb dX3_count_2 (by decide) ?_
  rcases zbx_l h with h | ⟨r8, m9, e10, h⟩
  · refine z_xcallv hS (vx_runV (As := [.int (x1), .int (13)]) (rest := []) C (x_X3_checkWhat l G hst h _) (cwV 2 hts gX3_count_X3_checkWhat rfl rfl rfl hv_X3_checkWhat ⟨Nat.le_of_ble_eq_true rfl, Nat.le_of_ble_eq_true rfl⟩) (z_preV Z hS hP (by decide) (z_E_90 _) rfl rfl) rfl rfl hl.1 rfl (lv_room (Nat.le_of_ble_eq_true rfl)) dX3_count_4 ⟨Nat.le_of_ble_eq_true rfl, Nat.le_of_ble_eq_true rfl⟩) (fun ce q9 H locs hP hS h1 h2 h3 => ?_)
    exact z_xout ht hlk hP hS h1 h2 h3
  refine z_callv hS (va_runV (As := [.int (x1), .int (13)]) (rest := []) C (c_X3_checkWhat l G e10 _) (cwV 2 hts gX3_count_X3_checkWhat rfl rfl rfl hv_X3_checkWhat ⟨Nat.le_of_ble_eq_true rfl, Nat.le_of_ble_eq_true rfl⟩) (z_preV Z hS hP (by decide) (z_E_90 _) rfl rfl) rfl rfl hl.1 rfl (lv_room (Nat.le_of_ble_eq_true rfl)) dX3_count_4 ⟨Nat.zero_le _, Nat.zero_le _⟩) (fun H locs hP hS => ?_)
  refine lv_iload_n hx hb dX3_count_7 rfl (lv_at hl 1 rfl) ?_
  refine lv_bipush (v := 12) hx hb dX3_count_8 (by decide) ?_
  refine lv_icmp_ne (tgt := 20) hx hb dX3_count_10 (by decide) (fun hc11 => ?_) (fun hc11 => ?_)
  · have h := z_in hc11 h
    refine lv_aload_n hx hb dX3_count_20 rfl (lv_at hl 0 rfl) ?_
    refine z_get C Z hP (k := 90) (ci := 3) (j := 0) (N := 7) (v := .ref (G.2.1 (0))) (by decide) (z_E_90 _) rfl inX3_count_X3 (by decide) wX3_count_0 rfl dX3_count_21 ?_
    refine lv_iload_n hx hb dX3_count_24 rfl (lv_at hl 1 rfl) ?_
    obtain ⟨r12, m13, e14, h⟩ := zb_some h
    refine z_calli hS (va_runV (As := [.int (x1)]) (rest := []) C (c_X2_number l G e14 _) (cwV 1 hts gX3_count_X2_number rfl rfl rfl hv_X2_number ⟨Nat.le_of_ble_eq_true rfl, Nat.le_of_ble_eq_true rfl⟩) (z_preV Z hS hP (by decide) (z_E_0 _) rfl rfl) rfl rfl hl.1 rfl (lv_room (Nat.le_of_ble_eq_true rfl)) dX3_count_25 ⟨Nat.zero_le _, Nat.zero_le _⟩) (fun H locs hP hS => ?_)
    cases h
  · have h := z_ip hc11 h
    refine lv_aload_n hx hb dX3_count_13 rfl (lv_at hl 0 rfl) ?_
    refine z_get C Z hP (k := 90) (ci := 3) (j := 4) (N := 7) (v := .int ((m9 90 4))) (by decide) (z_E_90 _) rfl inX3_count_X3 (by decide) wX3_count_2 rfl dX3_count_14 ?_
    refine lv_goto (tgt := 28) hx hb dX3_count_17 (by decide) ?_
    cases h
abbrev rmx_X3_whyNot : Room := { frames := 7, cells := 1, slots := 6, locals := 103 }
set_option maxHeartbeats 4000000 in
set_option maxRecDepth 100000 in
theorem x_X3_whyNot (l : Launch) (G : zG) (hst : l.stackTraces = false) {x1 : Int32} {x2 : Int32} {μ mu1 : Mm} {E : String} (h : f_X3_whyNot x1 x2 μ = some (.inl E, mu1)) (sz : Nat) : vx_Met l yX3_whyNot wsX3_whyNot rmx_X3_whyNot (z_Pre G μ [.ref (G.2.1 (90)), .int (x1), .int (x2)] sz) (z_Fi G sz) (z_XC G E mu1 sz) 1 6 (z_A G sz) := by
  refine z_startX (Qc := fun sz => z_Fi G sz) (XC := fun sz => z_XC G E mu1 sz) (cc := cX3_whyNot) (maxL := 3) (ret := (some .int)) (own := RX3) (by decide) rfl rfl (Nat.le_of_ble_eq_true rfl) (fun p e s m args below meth c C ht hlk Z hP ls hl => ?_) sz
  have hx := C.1
  have hb := C.2.1
  have hts := C.2.2.2.2
  have hS : va_S (z_A G s.heap.size) s.heap s.heap [] := va_S.rf
  have hl : lv_has ls 3 [(0, .ref (G.2.1 (90))), (1, .int (x1)), (2, .int (x2))] := hl
  unfold f_X3_whyNot at h
  refine lv_aload_n hx hb dX3_whyNot_0 rfl (lv_at hl 0 rfl) ?_
  refine lv_iload_n hx hb dX3_whyNot_1 rfl (lv_at hl 1 rfl) ?_
  rcases zbx_l h with h | ⟨r10, m11, e12, h⟩
  · refine z_xcallv hS (vx_runV (As := [.int (x1)]) (rest := []) C (x_X3_checkTrack l G hst h _) (cwV 1 hts gX3_whyNot_X3_checkTrack rfl rfl rfl hv_X3_checkTrack ⟨Nat.le_of_ble_eq_true rfl, Nat.le_of_ble_eq_true rfl⟩) (z_preV Z hS hP (by decide) (z_E_90 _) rfl rfl) rfl rfl hl.1 rfl (lv_room (Nat.le_of_ble_eq_true rfl)) dX3_whyNot_2 ⟨Nat.le_of_ble_eq_true rfl, Nat.le_of_ble_eq_true rfl⟩) (fun ce q9 H locs hP hS h1 h2 h3 => ?_)
    exact z_xout ht hlk hP hS h1 h2 h3
  refine z_callv hS (va_runV (As := [.int (x1)]) (rest := []) C (c_X3_checkTrack l G e12 _) (cwV 1 hts gX3_whyNot_X3_checkTrack rfl rfl rfl hv_X3_checkTrack ⟨Nat.le_of_ble_eq_true rfl, Nat.le_of_ble_eq_true rfl⟩) (z_preV Z hS hP (by decide) (z_E_90 _) rfl rfl) rfl rfl hl.1 rfl (lv_room (Nat.le_of_ble_eq_true rfl)) dX3_whyNot_2 ⟨Nat.zero_le _, Nat.zero_le _⟩) (fun H locs hP hS => ?_)
  refine lv_aload_n hx hb dX3_whyNot_5 rfl (lv_at hl 0 rfl) ?_
  refine lv_iload_n hx hb dX3_whyNot_6 rfl (lv_at hl 2 rfl) ?_
  rcases zbx_l h with h | ⟨r13, m14, e15, h⟩
  · refine z_xcallv hS (vx_runV (As := [.int (x2)]) (rest := []) C (x_X3_checkLoudness l G hst h _) (cwV 1 hts gX3_whyNot_X3_checkLoudness rfl rfl rfl hv_X3_checkLoudness ⟨Nat.le_of_ble_eq_true rfl, Nat.le_of_ble_eq_true rfl⟩) (z_preV Z hS hP (by decide) (z_E_90 _) rfl rfl) rfl rfl hl.1 rfl (lv_room (Nat.le_of_ble_eq_true rfl)) dX3_whyNot_7 ⟨Nat.le_of_ble_eq_true rfl, Nat.le_of_ble_eq_true rfl⟩) (fun ce q9 H locs hP hS h1 h2 h3 => ?_)
    exact z_xout ht hlk hP hS h1 h2 h3
  refine z_callv hS (va_runV (As := [.int (x2)]) (rest := []) C (c_X3_checkLoudness l G e15 _) (cwV 1 hts gX3_whyNot_X3_checkLoudness rfl rfl rfl hv_X3_checkLoudness ⟨Nat.le_of_ble_eq_true rfl, Nat.le_of_ble_eq_true rfl⟩) (z_preV Z hS hP (by decide) (z_E_90 _) rfl rfl) rfl rfl hl.1 rfl (lv_room (Nat.le_of_ble_eq_true rfl)) dX3_whyNot_7 ⟨Nat.zero_le _, Nat.zero_le _⟩) (fun H locs hP hS => ?_)
  refine lv_aload_n hx hb dX3_whyNot_10 rfl (lv_at hl 0 rfl) ?_
  refine z_get C Z hP (k := 90) (ci := 3) (j := 0) (N := 7) (v := .ref (G.2.1 (0))) (by decide) (z_E_90 _) rfl inX3_whyNot_X3 (by decide) wX3_whyNot_0 rfl dX3_whyNot_11 ?_
  refine lv_iload_n hx hb dX3_whyNot_14 rfl (lv_at hl 1 rfl) ?_
  refine lv_iload_n hx hb dX3_whyNot_15 rfl (lv_at hl 2 rfl) ?_
  obtain ⟨r16, m17, e18, h⟩ := zb_some h
  refine z_calli hS (va_runV (As := [.int (x1), .int (x2)]) (rest := []) C (c_X2_reasonNotToSpeak l G e18 _) (cwV 2 hts gX3_whyNot_X2_reasonNotToSpeak rfl rfl rfl hv_X2_reasonNotToSpeak ⟨Nat.le_of_ble_eq_true rfl, Nat.le_of_ble_eq_true rfl⟩) (z_preV Z hS hP (by decide) (z_E_0 _) rfl rfl) rfl rfl hl.1 rfl (lv_room (Nat.le_of_ble_eq_true rfl)) dX3_whyNot_16 ⟨Nat.zero_le _, Nat.zero_le _⟩) (fun H locs hP hS => ?_)
  cases h
abbrev rmx_X3_ifCopied : Room := { frames := 7, cells := 1, slots := 6, locals := 103 }
set_option maxHeartbeats 4000000 in
set_option maxRecDepth 100000 in
theorem x_X3_ifCopied (l : Launch) (G : zG) (hst : l.stackTraces = false) {x1 : Int32} {x2 : Int32} {x3 : Int32} {μ mu1 : Mm} {E : String} (h : f_X3_ifCopied x1 x2 x3 μ = some (.inl E, mu1)) (sz : Nat) : vx_Met l yX3_ifCopied wsX3_ifCopied rmx_X3_ifCopied (z_Pre G μ [.ref (G.2.1 (90)), .int (x1), .int (x2), .int (x3)] sz) (z_Fi G sz) (z_XC G E mu1 sz) 1 6 (z_A G sz) := by
  refine z_startX (Qc := fun sz => z_Fi G sz) (XC := fun sz => z_XC G E mu1 sz) (cc := cX3_ifCopied) (maxL := 5) (ret := (some .int)) (own := RX3) (by decide) rfl rfl (Nat.le_of_ble_eq_true rfl) (fun p e s m args below meth c C ht hlk Z hP ls hl => ?_) sz
  have hx := C.1
  have hb := C.2.1
  have hts := C.2.2.2.2
  have hS : va_S (z_A G s.heap.size) s.heap s.heap [] := va_S.rf
  have hl : lv_has ls 5 [(0, .ref (G.2.1 (90))), (1, .int (x1)), (2, .int (x2)), (3, .int (x3))] := hl
  unfold f_X3_ifCopied at h
  refine lv_aload_n hx hb dX3_ifCopied_0 rfl (lv_at hl 0 rfl) ?_
  refine lv_iload_n hx hb dX3_ifCopied_1 rfl (lv_at hl 1 rfl) ?_
  rcases zbx_l h with h | ⟨r17, m18, e19, h⟩
  · refine z_xcallv hS (vx_runV (As := [.int (x1)]) (rest := []) C (x_X3_checkTrack l G hst h _) (cwV 1 hts gX3_ifCopied_X3_checkTrack rfl rfl rfl hv_X3_checkTrack ⟨Nat.le_of_ble_eq_true rfl, Nat.le_of_ble_eq_true rfl⟩) (z_preV Z hS hP (by decide) (z_E_90 _) rfl rfl) rfl rfl hl.1 rfl (lv_room (Nat.le_of_ble_eq_true rfl)) dX3_ifCopied_2 ⟨Nat.le_of_ble_eq_true rfl, Nat.le_of_ble_eq_true rfl⟩) (fun ce q9 H locs hP hS h1 h2 h3 => ?_)
    exact z_xout ht hlk hP hS h1 h2 h3
  refine z_callv hS (va_runV (As := [.int (x1)]) (rest := []) C (c_X3_checkTrack l G e19 _) (cwV 1 hts gX3_ifCopied_X3_checkTrack rfl rfl rfl hv_X3_checkTrack ⟨Nat.le_of_ble_eq_true rfl, Nat.le_of_ble_eq_true rfl⟩) (z_preV Z hS hP (by decide) (z_E_90 _) rfl rfl) rfl rfl hl.1 rfl (lv_room (Nat.le_of_ble_eq_true rfl)) dX3_ifCopied_2 ⟨Nat.zero_le _, Nat.zero_le _⟩) (fun H locs hP hS => ?_)
  refine lv_aload_n hx hb dX3_ifCopied_5 rfl (lv_at hl 0 rfl) ?_
  refine lv_iload_n hx hb dX3_ifCopied_6 rfl (lv_at hl 2 rfl) ?_
  rcases zbx_l h with h | ⟨r20, m21, e22, h⟩
  · refine z_xcallv hS (vx_runV (As := [.int (x2)]) (rest := []) C (x_X3_checkTrack l G hst h _) (cwV 1 hts gX3_ifCopied_X3_checkTrack rfl rfl rfl hv_X3_checkTrack ⟨Nat.le_of_ble_eq_true rfl, Nat.le_of_ble_eq_true rfl⟩) (z_preV Z hS hP (by decide) (z_E_90 _) rfl rfl) rfl rfl hl.1 rfl (lv_room (Nat.le_of_ble_eq_true rfl)) dX3_ifCopied_7 ⟨Nat.le_of_ble_eq_true rfl, Nat.le_of_ble_eq_true rfl⟩) (fun ce q9 H locs hP hS h1 h2 h3 => ?_)
    exact z_xout ht hlk hP hS h1 h2 h3
  refine z_callv hS (va_runV (As := [.int (x2)]) (rest := []) C (c_X3_checkTrack l G e22 _) (cwV 1 hts gX3_ifCopied_X3_checkTrack rfl rfl rfl hv_X3_checkTrack ⟨Nat.le_of_ble_eq_true rfl, Nat.le_of_ble_eq_true rfl⟩) (z_preV Z hS hP (by decide) (z_E_90 _) rfl rfl) rfl rfl hl.1 rfl (lv_room (Nat.le_of_ble_eq_true rfl)) dX3_ifCopied_7 ⟨Nat.zero_le _, Nat.zero_le _⟩) (fun H locs hP hS => ?_)
  refine lv_aload_n hx hb dX3_ifCopied_10 rfl (lv_at hl 0 rfl) ?_
  refine lv_iload_n hx hb dX3_ifCopied_11 rfl (lv_at hl 3 rfl) ?_
  rcases zbx_l h with h | ⟨r23, m24, e25, h⟩
  · refine z_xcallv hS (vx_runV (As := [.int (x3)]) (rest := []) C (x_X3_checkLever l G hst h _) (cwV 1 hts gX3_ifCopied_X3_checkLever rfl rfl rfl hv_X3_checkLever ⟨Nat.le_of_ble_eq_true rfl, Nat.le_of_ble_eq_true rfl⟩) (z_preV Z hS hP (by decide) (z_E_90 _) rfl rfl) rfl rfl hl.1 rfl (lv_room (Nat.le_of_ble_eq_true rfl)) dX3_ifCopied_12 ⟨Nat.le_of_ble_eq_true rfl, Nat.le_of_ble_eq_true rfl⟩) (fun ce q9 H locs hP hS h1 h2 h3 => ?_)
    exact z_xout ht hlk hP hS h1 h2 h3
  refine z_callv hS (va_runV (As := [.int (x3)]) (rest := []) C (c_X3_checkLever l G e25 _) (cwV 1 hts gX3_ifCopied_X3_checkLever rfl rfl rfl hv_X3_checkLever ⟨Nat.le_of_ble_eq_true rfl, Nat.le_of_ble_eq_true rfl⟩) (z_preV Z hS hP (by decide) (z_E_90 _) rfl rfl) rfl rfl hl.1 rfl (lv_room (Nat.le_of_ble_eq_true rfl)) dX3_ifCopied_12 ⟨Nat.zero_le _, Nat.zero_le _⟩) (fun H locs hP hS => ?_)
  refine lv_aload_n hx hb dX3_ifCopied_15 rfl (lv_at hl 0 rfl) ?_
  refine z_get C Z hP (k := 90) (ci := 3) (j := 0) (N := 7) (v := .ref (G.2.1 (0))) (by decide) (z_E_90 _) rfl inX3_ifCopied_X3 (by decide) wX3_ifCopied_0 rfl dX3_ifCopied_16 ?_
  refine lv_iload_n hx hb dX3_ifCopied_19 rfl (lv_at hl 1 rfl) ?_
  refine lv_iload_n hx hb dX3_ifCopied_20 rfl (lv_at hl 2 rfl) ?_
  refine lv_iload_n hx hb dX3_ifCopied_21 rfl (lv_at hl 3 rfl) ?_
  obtain ⟨r26, m27, e28, h⟩ := zb_some h
  refine z_calli hS (va_runV (As := [.int (x1), .int (x2), .int (x3)]) (rest := []) C (c_X2_reasonNotToCopy l G e28 _) (cwV 3 hts gX3_ifCopied_X2_reasonNotToCopy rfl rfl rfl hv_X2_reasonNotToCopy ⟨Nat.le_of_ble_eq_true rfl, Nat.le_of_ble_eq_true rfl⟩) (z_preV Z hS hP (by decide) (z_E_0 _) rfl rfl) rfl rfl hl.1 rfl (lv_room (Nat.le_of_ble_eq_true rfl)) dX3_ifCopied_22 ⟨Nat.zero_le _, Nat.zero_le _⟩) (fun H locs hP hS => ?_)
  refine lv_istore (lv' := [(4, .int (r26)), (0, .ref (G.2.1 (90))), (1, .int (x1)), (2, .int (x2)), (3, .int (x3))]) hx hb dX3_ifCopied_25 hl (by decide) rfl (fun ls hl => ?_)
  refine lv_iload hx hb dX3_ifCopied_27 (lv_at hl 0 rfl) ?_
  refine lv_if_ne (tgt := 44) hx hb dX3_ifCopied_29 (by decide) (fun hc29 => ?_) (fun hc29 => ?_)
  · have h := z_in hc29 h
    refine lv_iload hx hb dX3_ifCopied_44 (lv_at hl 0 rfl) ?_
    refine lv_ineg hx hb dX3_ifCopied_46 ?_
    cases h
  · have h := z_ip hc29 h
    refine lv_aload_n hx hb dX3_ifCopied_32 rfl (lv_at hl 1 rfl) ?_
    refine z_get C Z hP (k := 90) (ci := 3) (j := 0) (N := 7) (v := .ref (G.2.1 (0))) (by decide) (z_E_90 _) rfl inX3_ifCopied_X3 (by decide) wX3_ifCopied_0 rfl dX3_ifCopied_33 ?_
    refine lv_iload_n hx hb dX3_ifCopied_36 rfl (lv_at hl 2 rfl) ?_
    refine lv_iload_n hx hb dX3_ifCopied_37 rfl (lv_at hl 4 rfl) ?_
    obtain ⟨r30, m31, e32, h⟩ := zb_some h
    refine z_calli hS (va_runV (As := [.int (x1), .int (x3)]) (rest := []) C (c_X2_clearnessIfCopied l G e32 _) (cwV 2 hts gX3_ifCopied_X2_clearnessIfCopied rfl rfl rfl hv_X2_clearnessIfCopied ⟨Nat.le_of_ble_eq_true rfl, Nat.le_of_ble_eq_true rfl⟩) (z_preV Z hS hP (by decide) (z_E_0 _) rfl rfl) rfl rfl hl.1 rfl (lv_room (Nat.le_of_ble_eq_true rfl)) dX3_ifCopied_38 ⟨Nat.zero_le _, Nat.zero_le _⟩) (fun H locs hP hS => ?_)
    refine lv_goto (tgt := 47) hx hb dX3_ifCopied_41 (by decide) ?_
    cases h
abbrev rmx_X3_chain : Room := { frames := 8, cells := 1, slots := 6, locals := 205 }
theorem xatX3_chain_a : ∀ w ∈ (vx_atS RX3 87 "java/lang/IllegalArgumentException" z_nm).filter goodWord, w ∈ wsX3_chain := fun _ h => List.mem_cons_of_mem _ (List.mem_append_left _ (List.mem_append_right _ h))
theorem wX3_chain_8 : Cond.classLink RX3 83 "java/lang/IllegalArgumentException" ∈ wsX3_chain := by decide +kernel
theorem wX3_chain_9 : Cond.initialized "java/lang/IllegalArgumentException" ∈ wsX3_chain := by decide +kernel
set_option maxHeartbeats 4000000 in
set_option maxRecDepth 100000 in
theorem x_X3_chain (l : Launch) (G : zG) (hst : l.stackTraces = false) {x1 : Int32} {x2 : Int32} {x3 : Int32} {μ mu1 : Mm} {E : String} (h : f_X3_chain x1 x2 x3 μ = some (.inl E, mu1)) (sz : Nat) : vx_Met l yX3_chain wsX3_chain rmx_X3_chain (z_Pre G μ [.ref (G.2.1 (90)), .int (x1), .int (x2), .int (x3)] sz) (z_Fi G sz) (z_XC G E mu1 sz) 1 6 (z_A G sz) := by
  refine z_startX (Qc := fun sz => z_Fi G sz) (XC := fun sz => z_XC G E mu1 sz) (cc := cX3_chain) (maxL := 6) (ret := (some .int)) (own := RX3) (by decide) rfl rfl (Nat.le_of_ble_eq_true rfl) (fun p e s m args below meth c C ht hlk Z hP ls hl => ?_) sz
  have hx := C.1
  have hb := C.2.1
  have hts := C.2.2.2.2
  have hS : va_S (z_A G s.heap.size) s.heap s.heap [] := va_S.rf
  have hl : lv_has ls 6 [(0, .ref (G.2.1 (90))), (1, .int (x1)), (2, .int (x2)), (3, .int (x3))] := hl
  unfold f_X3_chain at h
  refine lv_aload_n hx hb dX3_chain_0 rfl (lv_at hl 0 rfl) ?_
  refine lv_iload_n hx hb dX3_chain_1 rfl (lv_at hl 1 rfl) ?_
  rcases zbx_l h with h | ⟨r21, m22, e23, h⟩
  · refine z_xcallv hS (vx_runV (As := [.int (x1)]) (rest := []) C (x_X3_checkTrack l G hst h _) (cwV 1 hts gX3_chain_X3_checkTrack rfl rfl rfl hv_X3_checkTrack ⟨Nat.le_of_ble_eq_true rfl, Nat.le_of_ble_eq_true rfl⟩) (z_preV Z hS hP (by decide) (z_E_90 _) rfl rfl) rfl rfl hl.1 rfl (lv_room (Nat.le_of_ble_eq_true rfl)) dX3_chain_2 ⟨Nat.le_of_ble_eq_true rfl, Nat.le_of_ble_eq_true rfl⟩) (fun ce q9 H locs hP hS h1 h2 h3 => ?_)
    exact z_xout ht hlk hP hS h1 h2 h3
  refine z_callv hS (va_runV (As := [.int (x1)]) (rest := []) C (c_X3_checkTrack l G e23 _) (cwV 1 hts gX3_chain_X3_checkTrack rfl rfl rfl hv_X3_checkTrack ⟨Nat.le_of_ble_eq_true rfl, Nat.le_of_ble_eq_true rfl⟩) (z_preV Z hS hP (by decide) (z_E_90 _) rfl rfl) rfl rfl hl.1 rfl (lv_room (Nat.le_of_ble_eq_true rfl)) dX3_chain_2 ⟨Nat.zero_le _, Nat.zero_le _⟩) (fun H locs hP hS => ?_)
  refine lv_iload_n hx hb dX3_chain_5 rfl (lv_at hl 2 rfl) ?_
  refine lv_iconst (v := 1) hx hb dX3_chain_6 (by decide) ?_
  refine lv_icmp_lt (tgt := 15) hx hb dX3_chain_7 (by decide) (fun hc24 => ?_) (fun hc24 => ?_)
  · have h := z_ip hc24 h
    cases h
    exact z_throw C Z hst ht hlk hP hS hl.1 (text := "copies are 1 to 5") (by decide) wX3_chain_8 wX3_chain_9 (by decide) (by decide) xatX3_chain_a z_xB_a z_xG_a dX3_chain_15 dX3_chain_18 dX3_chain_19 dX3_chain_21 dX3_chain_24 (Nat.le_of_ble_eq_true rfl) (Nat.le_of_ble_eq_true rfl) (Nat.le_of_ble_eq_true rfl) (Nat.le_of_ble_eq_true rfl)
  · have h := z_in hc24 h
    refine lv_iload_n hx hb dX3_chain_10 rfl (lv_at hl 2 rfl) ?_
    refine lv_iconst (v := 5) hx hb dX3_chain_11 (by decide) ?_
    refine lv_icmp_le (tgt := 25) hx hb dX3_chain_12 (by decide) (fun hc25 => ?_) (fun hc25 => ?_)
    · have h := z_ip hc25 h
      refine lv_aload_n hx hb dX3_chain_25 rfl (lv_at hl 0 rfl) ?_
      refine lv_iload_n hx hb dX3_chain_26 rfl (lv_at hl 3 rfl) ?_
      refine lv_iconst (v := 2) hx hb dX3_chain_27 (by decide) ?_
      rcases zbx_l h with h | ⟨r26, m27, e28, h⟩
      · refine z_xcallv hS (vx_runV (As := [.int (x3), .int (2)]) (rest := []) C (x_X3_checkWhat l G hst h _) (cwV 2 hts gX3_chain_X3_checkWhat rfl rfl rfl hv_X3_checkWhat ⟨Nat.le_of_ble_eq_true rfl, Nat.le_of_ble_eq_true rfl⟩) (z_preV Z hS hP (by decide) (z_E_90 _) rfl rfl) rfl rfl hl.1 rfl (lv_room (Nat.le_of_ble_eq_true rfl)) dX3_chain_28 ⟨Nat.le_of_ble_eq_true rfl, Nat.le_of_ble_eq_true rfl⟩) (fun ce q9 H locs hP hS h1 h2 h3 => ?_)
        exact z_xout ht hlk hP hS h1 h2 h3
      refine z_callv hS (va_runV (As := [.int (x3), .int (2)]) (rest := []) C (c_X3_checkWhat l G e28 _) (cwV 2 hts gX3_chain_X3_checkWhat rfl rfl rfl hv_X3_checkWhat ⟨Nat.le_of_ble_eq_true rfl, Nat.le_of_ble_eq_true rfl⟩) (z_preV Z hS hP (by decide) (z_E_90 _) rfl rfl) rfl rfl hl.1 rfl (lv_room (Nat.le_of_ble_eq_true rfl)) dX3_chain_28 ⟨Nat.zero_le _, Nat.zero_le _⟩) (fun H locs hP hS => ?_)
      refine lv_aload_n hx hb dX3_chain_31 rfl (lv_at hl 0 rfl) ?_
      refine z_get C Z hP (k := 90) (ci := 3) (j := 0) (N := 7) (v := .ref (G.2.1 (0))) (by decide) (z_E_90 _) rfl inX3_chain_X3 (by decide) wX3_chain_0 rfl dX3_chain_32 ?_
      refine lv_iload_n hx hb dX3_chain_35 rfl (lv_at hl 1 rfl) ?_
      obtain ⟨r29, m30, e31, h⟩ := zb_some h
      refine z_calli hS (va_runV (As := [.int (x1)]) (rest := []) C (c_X2_isCut l G e31 _) (cwV 1 hts gX3_chain_X2_isCut rfl rfl rfl hv_X2_isCut ⟨Nat.le_of_ble_eq_true rfl, Nat.le_of_ble_eq_true rfl⟩) (z_preV Z hS hP (by decide) (z_E_0 _) rfl rfl) rfl rfl hl.1 rfl (lv_room (Nat.le_of_ble_eq_true rfl)) dX3_chain_36 ⟨Nat.zero_le _, Nat.zero_le _⟩) (fun H locs hP hS => ?_)
      refine lv_if_ne (tgt := 44) hx hb dX3_chain_39 (by decide) (fun hc32 => ?_) (fun hc32 => ?_)
      · have h := z_in hc32 h
        refine lv_aload_n hx hb dX3_chain_44 rfl (lv_at hl 0 rfl) ?_
        refine z_get C Z hP (k := 90) (ci := 3) (j := 0) (N := 7) (v := .ref (G.2.1 (0))) (by decide) (z_E_90 _) rfl inX3_chain_X3 (by decide) wX3_chain_0 rfl dX3_chain_45 ?_
        refine z_get C Z hP (k := 0) (ci := 2) (j := 0) (N := 19) (v := .ref (G.2.1 (1))) (by decide) (z_E_0 _) rfl inX3_chain_X2 (by decide) wX3_chain_2 rfl dX3_chain_48 ?_
        refine lv_iload_n hx hb dX3_chain_51 rfl (lv_at hl 1 rfl) ?_
        obtain ⟨hg33, h⟩ := z_g h
        refine z_iald C Z hP (k := 1) (n := 24) (j := (x1).toNatClampNeg) (by decide) (z_E_1 _) hg33 rfl dX3_chain_52 ?_
        refine lv_istore (lv' := [(4, .int ((m30 (1) ((x1).toNatClampNeg)))), (0, .ref (G.2.1 (90))), (1, .int (x1)), (2, .int (x2)), (3, .int (x3))]) hx hb dX3_chain_53 hl (by decide) rfl (fun ls hl => ?_)
        refine lv_aload_n hx hb dX3_chain_55 rfl (lv_at hl 1 rfl) ?_
        refine z_get C Z hP (k := 90) (ci := 3) (j := 0) (N := 7) (v := .ref (G.2.1 (0))) (by decide) (z_E_90 _) rfl inX3_chain_X3 (by decide) wX3_chain_0 rfl dX3_chain_56 ?_
        refine z_get C Z hP (k := 0) (ci := 2) (j := 1) (N := 19) (v := .ref (G.2.1 (2))) (by decide) (z_E_0 _) rfl inX3_chain_X2 (by decide) wX3_chain_4 rfl dX3_chain_59 ?_
        refine lv_iload_n hx hb dX3_chain_62 rfl (lv_at hl 2 rfl) ?_
        refine z_iald C Z hP (k := 2) (n := 24) (j := (x1).toNatClampNeg) (by decide) (z_E_2 _) hg33 rfl dX3_chain_63 ?_
        refine lv_istore (lv' := [(5, .int ((m30 (2) ((x1).toNatClampNeg)))), (4, .int ((m30 (1) ((x1).toNatClampNeg)))), (0, .ref (G.2.1 (90))), (1, .int (x1)), (2, .int (x2)), (3, .int (x3))]) hx hb dX3_chain_64 hl (by decide) rfl (fun ls hl => ?_)
        refine lv_iload_n hx hb dX3_chain_66 rfl (lv_at hl 5 rfl) ?_
        refine lv_if_ne (tgt := 90) hx hb dX3_chain_67 (by decide) (fun hc34 => ?_) (fun hc34 => ?_)
        · have h := z_in hc34 h
          refine lv_iload_n hx hb dX3_chain_90 rfl (lv_at hl 4 rfl) ?_
          refine lv_iload hx hb dX3_chain_91 (lv_at hl 1 rfl) ?_
          refine lv_iload hx hb dX3_chain_93 (lv_at hl 0 rfl) ?_
          refine lv_aload_n hx hb dX3_chain_95 rfl (lv_at hl 2 rfl) ?_
          refine z_get C Z hP (k := 90) (ci := 3) (j := 0) (N := 7) (v := .ref (G.2.1 (0))) (by decide) (z_E_90 _) rfl inX3_chain_X3 (by decide) wX3_chain_0 rfl dX3_chain_96 ?_
          refine z_get C Z hP (k := 0) (ci := 2) (j := 9) (N := 19) (v := .int ((m30 0 9))) (by decide) (z_E_0 _) rfl inX3_chain_X2 (by decide) wX3_chain_5 rfl dX3_chain_99 ?_
          obtain ⟨r35, m36, e37, h⟩ := zb_some h
          refine z_calli hS (va_runS (As := [.int (x2), .int ((m30 (1) ((x1).toNatClampNeg))), .int ((m30 (2) ((x1).toNatClampNeg))), .int ((m30 0 9))]) (rest := []) C (c_X3_clearestOfAllLevers_v5 l G e37 _) (va_cwS 4 hts gX3_chain_X3_clearestOfAllLevers rfl rfl rfl hd_X3_clearestOfAllLevers_v5 ⟨Nat.le_of_ble_eq_true rfl, Nat.le_of_ble_eq_true rfl⟩) (z_preS Z hS hP) rfl rfl hl.1 rfl (lv_room (Nat.le_of_ble_eq_true rfl)) dX3_chain_102 ⟨Nat.zero_le _, Nat.zero_le _⟩) (fun H locs hP hS => ?_)
          cases h
        · have h := z_ip hc34 h
          refine lv_aload_n hx hb dX3_chain_70 rfl (lv_at hl 2 rfl) ?_
          refine z_get C Z hP (k := 90) (ci := 3) (j := 6) (N := 7) (v := .ref (G.2.1 (96))) (by decide) (z_E_90 _) rfl inX3_chain_X3 (by decide) wX3_chain_6 rfl dX3_chain_71 ?_
          refine lv_iload_n hx hb dX3_chain_74 rfl (lv_at hl 4 rfl) ?_
          refine lv_iload hx hb dX3_chain_75 (lv_at hl 1 rfl) ?_
          refine lv_iload hx hb dX3_chain_77 (lv_at hl 0 rfl) ?_
          refine lv_aload_n hx hb dX3_chain_79 rfl (lv_at hl 2 rfl) ?_
          refine z_get C Z hP (k := 90) (ci := 3) (j := 0) (N := 7) (v := .ref (G.2.1 (0))) (by decide) (z_E_90 _) rfl inX3_chain_X3 (by decide) wX3_chain_0 rfl dX3_chain_80 ?_
          refine z_get C Z hP (k := 0) (ci := 2) (j := 9) (N := 19) (v := .int ((m30 0 9))) (by decide) (z_E_0 _) rfl inX3_chain_X2 (by decide) wX3_chain_5 rfl dX3_chain_83 ?_
          obtain ⟨r38, m39, e40, h⟩ := zb_some h
          refine z_calli hS (va_runV (As := [.int (x2), .int ((m30 (1) ((x1).toNatClampNeg))), .int ((m30 (2) ((x1).toNatClampNeg))), .int ((m30 0 9))]) (rest := []) C (c_X1_clearestAfter l G e40 _) (cwV 4 hts gX3_chain_X1_clearestAfter rfl rfl rfl hv_X1_clearestAfter ⟨Nat.le_of_ble_eq_true rfl, Nat.le_of_ble_eq_true rfl⟩) (z_preV Z hS hP (by decide) (z_E_96 _) rfl rfl) rfl rfl hl.1 rfl (lv_room (Nat.le_of_ble_eq_true rfl)) dX3_chain_86 ⟨Nat.zero_le _, Nat.zero_le _⟩) (fun H locs hP hS => ?_)
          cases h
      · have h := z_ip hc32 h
        refine lv_iconst (v := (-1)) hx hb dX3_chain_42 (by decide) ?_
        cases h
    · have h := z_in hc25 h
      cases h
      exact z_throw C Z hst ht hlk hP hS hl.1 (text := "copies are 1 to 5") (by decide) wX3_chain_8 wX3_chain_9 (by decide) (by decide) xatX3_chain_a z_xB_a z_xG_a dX3_chain_15 dX3_chain_18 dX3_chain_19 dX3_chain_21 dX3_chain_24 (Nat.le_of_ble_eq_true rfl) (Nat.le_of_ble_eq_true rfl) (Nat.le_of_ble_eq_true rfl) (Nat.le_of_ble_eq_true rfl)
abbrev rmx_X3_daughters : Room := { frames := 7, cells := 1, slots := 6, locals := 103 }
set_option maxHeartbeats 4000000 in
set_option maxRecDepth 100000 in
theorem x_X3_daughters (l : Launch) (G : zG) (hst : l.stackTraces = false) {x1 : Int32} {μ mu1 : Mm} {E : String} (h : f_X3_daughters x1 μ = some (.inl E, mu1)) (sz : Nat) : vx_Met l yX3_daughters wsX3_daughters rmx_X3_daughters (z_Pre G μ [.ref (G.2.1 (90)), .int (x1)] sz) (z_Fi G sz) (z_XC G E mu1 sz) 1 6 (z_A G sz) := by
  refine z_startX (Qc := fun sz => z_Fi G sz) (XC := fun sz => z_XC G E mu1 sz) (cc := cX3_daughters) (maxL := 2) (ret := (some .int)) (own := RX3) (by decide) rfl rfl (Nat.le_of_ble_eq_true rfl) (fun p e s m args below meth c C ht hlk Z hP ls hl => ?_) sz
  have hx := C.1
  have hb := C.2.1
  have hts := C.2.2.2.2
  have hS : va_S (z_A G s.heap.size) s.heap s.heap [] := va_S.rf
  have hl : lv_has ls 2 [(0, .ref (G.2.1 (90))), (1, .int (x1))] := hl
  unfold f_X3_daughters at h
  refine lv_aload_n hx hb dX3_daughters_0 rfl (lv_at hl 0 rfl) ?_
  refine lv_iload_n hx hb dX3_daughters_1 rfl (lv_at hl 1 rfl) ?_
  rcases zbx_l h with h | ⟨r7, m8, e9, h⟩
  · refine z_xcallv hS (vx_runV (As := [.int (x1)]) (rest := []) C (x_X3_checkTrack l G hst h _) (cwV 1 hts gX3_daughters_X3_checkTrack rfl rfl rfl hv_X3_checkTrack ⟨Nat.le_of_ble_eq_true rfl, Nat.le_of_ble_eq_true rfl⟩) (z_preV Z hS hP (by decide) (z_E_90 _) rfl rfl) rfl rfl hl.1 rfl (lv_room (Nat.le_of_ble_eq_true rfl)) dX3_daughters_2 ⟨Nat.le_of_ble_eq_true rfl, Nat.le_of_ble_eq_true rfl⟩) (fun ce q9 H locs hP hS h1 h2 h3 => ?_)
    exact z_xout ht hlk hP hS h1 h2 h3
  refine z_callv hS (va_runV (As := [.int (x1)]) (rest := []) C (c_X3_checkTrack l G e9 _) (cwV 1 hts gX3_daughters_X3_checkTrack rfl rfl rfl hv_X3_checkTrack ⟨Nat.le_of_ble_eq_true rfl, Nat.le_of_ble_eq_true rfl⟩) (z_preV Z hS hP (by decide) (z_E_90 _) rfl rfl) rfl rfl hl.1 rfl (lv_room (Nat.le_of_ble_eq_true rfl)) dX3_daughters_2 ⟨Nat.zero_le _, Nat.zero_le _⟩) (fun H locs hP hS => ?_)
  refine lv_aload_n hx hb dX3_daughters_5 rfl (lv_at hl 0 rfl) ?_
  refine z_get C Z hP (k := 90) (ci := 3) (j := 0) (N := 7) (v := .ref (G.2.1 (0))) (by decide) (z_E_90 _) rfl inX3_daughters_X3 (by decide) wX3_daughters_0 rfl dX3_daughters_6 ?_
  refine lv_iload_n hx hb dX3_daughters_9 rfl (lv_at hl 1 rfl) ?_
  obtain ⟨r10, m11, e12, h⟩ := zb_some h
  refine z_calli hS (va_runV (As := [.int (x1)]) (rest := []) C (c_X2_descendants l G e12 _) (cwV 1 hts gX3_daughters_X2_descendants rfl rfl rfl hv_X2_descendants ⟨Nat.le_of_ble_eq_true rfl, Nat.le_of_ble_eq_true rfl⟩) (z_preV Z hS hP (by decide) (z_E_0 _) rfl rfl) rfl rfl hl.1 rfl (lv_room (Nat.le_of_ble_eq_true rfl)) dX3_daughters_10 ⟨Nat.zero_le _, Nat.zero_le _⟩) (fun H locs hP hS => ?_)
  cases h
