abbrev rm_J3_checkIndex_8e157 : Room := { frames := 0, cells := 0, slots := 0, locals := 0 }
theorem hd_J3_checkIndex_8e157 : yJ3_checkIndex_8e157.cls ≠ "java/lang/invoke/MethodHandle" ∧ yJ3_checkIndex_8e157.cls ≠ "java/lang/invoke/VarHandle" ∧ (parseMethodDescriptor yJ3_checkIndex_8e157.desc).map (fun d => d.parameters.length) = some 3 := by decide +kernel
theorem c_J3_checkIndex_8e157 (l : Launch) (G : zG) {x0 x1 : Int32} {v : Value} {μ : Mm} (hv : v = .null ∨ ∃ t : Nat, v = .ref t) (h0 : ¬ x0 < 0) (h1 : x0 < x1) (sz : Nat) : Met l yJ3_checkIndex_8e157 wsJ3_checkIndex_8e157 rm_J3_checkIndex_8e157 (z_Pre G μ [.int x0, .int x1, v] sz) (z_Qi G x0 μ sz) 0 0 (z_A G sz) := by
  rcases hv with rfl | ⟨t, rfl⟩
  all_goals
    refine z_start (cc := cJ3_checkIndex_8e157) (maxL := 3) (ret := some .int) (own := RJ3) (by decide) rfl rfl (Nat.le_of_ble_eq_true rfl) (fun p e s m args below meth c C hr hlk Z hP ls hl => ?_) sz
    have hx := C.1
    have hb := C.2.1
    have hS : va_S (z_A G s.heap.size) s.heap s.heap [] := va_S.rf
    refine lv_iload_n hx hb dJ3_checkIndex_8e157_0 rfl (lv_at hl 0 rfl) ?_
    refine lv_if_lt (tgt := 9) hx hb dJ3_checkIndex_8e157_1 (by decide) (fun hc => absurd hc h0) (fun _ => ?_)
    refine lv_iload_n hx hb dJ3_checkIndex_8e157_4 rfl (lv_at hl 0 rfl) ?_
    refine lv_iload_n hx hb dJ3_checkIndex_8e157_5 rfl (lv_at hl 1 rfl) ?_
    refine lv_icmp_lt (tgt := 16) hx hb dJ3_checkIndex_8e157_6 (by decide) (fun _ => ?_) (fun hc => absurd h1 hc)
    refine lv_iload_n hx hb dJ3_checkIndex_8e157_16 rfl (lv_at hl 0 rfl) ?_
    exact z_reti C hr hlk hP hS dJ3_checkIndex_8e157_17
abbrev rm_J0_checkIndex_df160 : Room := { frames := 1, cells := 0, slots := 0, locals := 22 }
theorem hd_J0_checkIndex_df160 : yJ0_checkIndex_df160.cls ≠ "java/lang/invoke/MethodHandle" ∧ yJ0_checkIndex_df160.cls ≠ "java/lang/invoke/VarHandle" ∧ (parseMethodDescriptor yJ0_checkIndex_df160.desc).map (fun d => d.parameters.length) = some 2 := by decide +kernel
theorem wJ0ci : Cond.fieldLink RJ0 1053 "jdk/internal/util/Preconditions" "SIOOBE_FORMATTER" "Ljava/util/function/BiFunction;" ∈ wsJ0_checkIndex_df160 := by decide +kernel
theorem c_J0_checkIndex_df160 (l : Launch) (G : zG) {x0 x1 : Int32} {μ mu1 : Mm} {r : Unit} (h : f_J0_checkIndex_df160 x0 x1 μ = some (r, mu1)) (sz : Nat) : Met l yJ0_checkIndex_df160 wsJ0_checkIndex_df160 rm_J0_checkIndex_df160 (z_Pre G μ [.int x0, .int x1] sz) (z_Qv G r mu1 sz) 0 0 (z_A G sz) := by
  unfold f_J0_checkIndex_df160 at h
  obtain ⟨⟨h0, h1⟩, h⟩ := z_g h
  cases h
  refine z_start (cc := cJ0_checkIndex_df160) (maxL := 2) (ret := none) (own := RJ0) (by decide) rfl rfl (Nat.le_of_ble_eq_true rfl) (fun p e s m args below meth c C hr hlk Z hP ls hl => ?_) sz
  have hx := C.1
  have hb := C.2.1
  have hts := C.2.2.2.2
  have hS : va_S (z_A G s.heap.size) s.heap s.heap [] := va_S.rf
  refine lv_iload_n hx hb dJ0_checkIndex_df160_0 rfl (lv_at hl 0 rfl) ?_
  refine lv_iload_n hx hb dJ0_checkIndex_df160_1 rfl (lv_at hl 1 rfl) ?_
  obtain ⟨v, hv, hz⟩ : ∃ v : Value, (v = .null ∨ ∃ t : Nat, v = .ref t) ∧ va_Z "jdk/internal/util/Preconditions" "SIOOBE_FORMATTER" "Ljava/util/function/BiFunction;" v (z_A G s.heap.size) s s.heap := by
    rcases Z.2.2.2.2.2.2.2.2.2.2.2.1 with hz | ⟨t, hz⟩
    · exact ⟨_, Or.inl rfl, hz⟩
    · exact ⟨_, Or.inr ⟨t, rfl⟩, hz⟩
  refine va_gets hx hb hz hS C.2.2.2.1 (C.2.2.2.2 _ wJ0ci) (fun _ h => h) dJ0_checkIndex_df160_2 ?_
  refine z_calli hS (va_runS (As := [.int x0, .int x1, v]) (rest := []) C (c_J3_checkIndex_8e157 l G hv h0 h1 _) (va_cwS 3 hts gJ0_checkIndex_df160_J3_checkIndex_8e157 rfl rfl rfl hd_J3_checkIndex_8e157 ⟨Nat.le_of_ble_eq_true rfl, Nat.le_of_ble_eq_true rfl⟩) (z_preS Z hS hP) rfl rfl hl.1 rfl (lv_room (Nat.le_of_ble_eq_true rfl)) dJ0_checkIndex_df160_5 ⟨Nat.zero_le _, Nat.zero_le _⟩) (fun H locs hP hS => ?_)
  refine lv_pop hx hb dJ0_checkIndex_df160_8 rfl ?_
  exact z_retv C hr hlk hP hS dJ0_checkIndex_df160_9

abbrev rm_J0_coder_7d493 : Room := { frames := 0, cells := 0, slots := 0, locals := 0 }
theorem hd_J0_coder_7d493 : yJ0_coder_7d493.cls ≠ "java/lang/invoke/MethodHandle" ∧ yJ0_coder_7d493.cls ≠ "java/lang/invoke/VarHandle" ∧ (parseMethodDescriptor yJ0_coder_7d493.desc).map (fun d => d.parameters.length) = some 0 := by decide +kernel
theorem hv_J0_coder_7d493 : yJ0_coder_7d493.cls = RJ0 ∧ yJ0_coder_7d493.cls ≠ "java/lang/invoke/MethodHandle" ∧ yJ0_coder_7d493.cls ≠ "java/lang/invoke/VarHandle" ∧ (parseMethodDescriptor yJ0_coder_7d493.desc).map (fun d => d.parameters.length) = some 0 := ⟨rfl, hd_J0_coder_7d493⟩
theorem wJ0_coder_7d493_0 : Cond.fieldLink RJ0 38 "java/lang/String" "COMPACT_STRINGS" "Z" ∈ wsJ0_coder_7d493 := by decide +kernel
theorem wJ0_coder_7d493_1 : Cond.fieldLink RJ0 15 "java/lang/String" "coder" "B" ∈ wsJ0_coder_7d493 := by decide +kernel
set_option maxHeartbeats 4000000 in
set_option maxRecDepth 100000 in
theorem c_J0_coder_7d493 (l : Launch) (G : zG) {k0 : Nat} {μ mu1 : Mm} {r : Int32} (h : f_J0_coder_7d493 k0 μ = some (r, mu1)) (sz : Nat) : Met l yJ0_coder_7d493 wsJ0_coder_7d493 rm_J0_coder_7d493 (z_Pre G μ [.ref (G.2.2.2.1 (k0))] sz) (z_Qi G r mu1 sz) 0 0 (z_A G sz) := by
  refine z_start (cc := cJ0_coder_7d493) (maxL := 1) (ret := (some .byte)) (own := RJ0) (by decide) rfl rfl (Nat.le_of_ble_eq_true rfl) (fun p e s m args below meth c C hr hlk Z hP ls hl => ?_) sz
  have hx := C.1
  have hb := C.2.1
  have hts := C.2.2.2.2
  have hS : va_S (z_A G s.heap.size) s.heap s.heap [] := va_S.rf
  have hl : lv_has ls 1 [(0, .ref (G.2.2.2.1 (k0)))] := hl
  unfold f_J0_coder_7d493 at h
  refine va_gets hx hb Z.2.2.2.2.2.2.2.2.2.2.1 hS C.2.2.2.1 (C.2.2.2.2 _ wJ0_coder_7d493_0) (fun _ h => h) dJ0_coder_7d493_0 ?_
  refine lv_if_eq (tgt := 13) hx hb dJ0_coder_7d493_3 (by decide) (fun hc => absurd hc (by decide)) (fun _ => ?_)
  refine lv_aload_n hx hb dJ0_coder_7d493_6 rfl (lv_at hl 0 rfl) ?_
  obtain ⟨hg1, h⟩ := z_g h
  refine vk_getf hx hb (Z.2.2.2.2.2.2.2.2.2.1.1 k0 hg1).2.1 hS C.2.2.2.1 (C.2.2.2.2 _ wJ0_coder_7d493_1) (fun _ h => h) dJ0_coder_7d493_7 ?_
  refine lv_goto (tgt := 14) hx hb dJ0_coder_7d493_10 (by decide) ?_
  cases h
  exact z_retz C hr hlk rfl hP hS dJ0_coder_7d493_14
abbrev rm_J0_length_8abf5 : Room := { frames := 1, cells := 0, slots := 0, locals := 20 }
theorem hd_J0_length_8abf5 : yJ0_length_8abf5.cls ≠ "java/lang/invoke/MethodHandle" ∧ yJ0_length_8abf5.cls ≠ "java/lang/invoke/VarHandle" ∧ (parseMethodDescriptor yJ0_length_8abf5.desc).map (fun d => d.parameters.length) = some 0 := by decide +kernel
theorem hv_J0_length_8abf5 : yJ0_length_8abf5.cls = RJ0 ∧ yJ0_length_8abf5.cls ≠ "java/lang/invoke/MethodHandle" ∧ yJ0_length_8abf5.cls ≠ "java/lang/invoke/VarHandle" ∧ (parseMethodDescriptor yJ0_length_8abf5.desc).map (fun d => d.parameters.length) = some 0 := ⟨rfl, hd_J0_length_8abf5⟩
theorem wJ0_length_8abf5_0 : Cond.fieldLink RJ0 9 "java/lang/String" "value" "[B" ∈ wsJ0_length_8abf5 := by decide +kernel
set_option maxHeartbeats 4000000 in
set_option maxRecDepth 100000 in
theorem c_J0_length_8abf5 (l : Launch) (G : zG) {k0 : Nat} {μ mu1 : Mm} {r : Int32} (h : f_J0_length_8abf5 k0 μ = some (r, mu1)) (sz : Nat) : Met l yJ0_length_8abf5 wsJ0_length_8abf5 rm_J0_length_8abf5 (z_Pre G μ [.ref (G.2.2.2.1 (k0))] sz) (z_Qi G r mu1 sz) 0 0 (z_A G sz) := by
  refine z_start (cc := cJ0_length_8abf5) (maxL := 1) (ret := (some .int)) (own := RJ0) (by decide) rfl rfl (Nat.le_of_ble_eq_true rfl) (fun p e s m args below meth c C hr hlk Z hP ls hl => ?_) sz
  have hx := C.1
  have hb := C.2.1
  have hts := C.2.2.2.2
  have hS : va_S (z_A G s.heap.size) s.heap s.heap [] := va_S.rf
  have hl : lv_has ls 1 [(0, .ref (G.2.2.2.1 (k0)))] := hl
  unfold f_J0_length_8abf5 at h
  refine lv_aload_n hx hb dJ0_length_8abf5_0 rfl (lv_at hl 0 rfl) ?_
  obtain ⟨hg1, h⟩ := z_g h
  refine vk_getf hx hb (Z.2.2.2.2.2.2.2.2.2.1.1 k0 hg1).2.2.1 hS C.2.2.2.1 (C.2.2.2.2 _ wJ0_length_8abf5_0) (fun _ h => h) dJ0_length_8abf5_1 ?_
  refine va_tlen hx hb (Z.2.2.2.2.2.2.2.2.2.1.1 k0 hg1).2.2.2 hS (v := (nI (z_len.getD k0 0))) rfl dJ0_length_8abf5_4 ?_
  refine lv_aload_n hx hb dJ0_length_8abf5_5 rfl (lv_at hl 0 rfl) ?_
  obtain ⟨r2, m3, e4, h⟩ := zb_some h
  refine z_calli hS (va_runV (As := []) (rest := [.int ((nI (z_len.getD k0 0)))]) C (c_J0_coder_7d493 l G e4 _) (cwV 0 hts gJ0_length_8abf5_J0_coder_7d493 rfl rfl rfl hv_J0_coder_7d493 ⟨Nat.le_of_ble_eq_true rfl, Nat.le_of_ble_eq_true rfl⟩) (z_preStr Z hS hP hg1) rfl rfl hl.1 rfl (lv_room (Nat.le_of_ble_eq_true rfl)) dJ0_length_8abf5_6 ⟨Nat.zero_le _, Nat.zero_le _⟩) (fun H locs hP hS => ?_)
  refine lv_ishr hx hb dJ0_length_8abf5_9 ?_
  cases h
  exact z_reti C hr hlk hP hS dJ0_length_8abf5_10
abbrev rm_J0_isLatin1_aae02 : Room := { frames := 0, cells := 0, slots := 0, locals := 0 }
theorem hd_J0_isLatin1_aae02 : yJ0_isLatin1_aae02.cls ≠ "java/lang/invoke/MethodHandle" ∧ yJ0_isLatin1_aae02.cls ≠ "java/lang/invoke/VarHandle" ∧ (parseMethodDescriptor yJ0_isLatin1_aae02.desc).map (fun d => d.parameters.length) = some 0 := by decide +kernel
theorem hv_J0_isLatin1_aae02 : yJ0_isLatin1_aae02.cls = RJ0 ∧ yJ0_isLatin1_aae02.cls ≠ "java/lang/invoke/MethodHandle" ∧ yJ0_isLatin1_aae02.cls ≠ "java/lang/invoke/VarHandle" ∧ (parseMethodDescriptor yJ0_isLatin1_aae02.desc).map (fun d => d.parameters.length) = some 0 := ⟨rfl, hd_J0_isLatin1_aae02⟩
theorem wJ0_isLatin1_aae02_0 : Cond.fieldLink RJ0 38 "java/lang/String" "COMPACT_STRINGS" "Z" ∈ wsJ0_isLatin1_aae02 := by decide +kernel
theorem wJ0_isLatin1_aae02_1 : Cond.fieldLink RJ0 15 "java/lang/String" "coder" "B" ∈ wsJ0_isLatin1_aae02 := by decide +kernel
set_option maxHeartbeats 4000000 in
set_option maxRecDepth 100000 in
theorem c_J0_isLatin1_aae02 (l : Launch) (G : zG) {k0 : Nat} {μ mu1 : Mm} {r : Int32} (h : f_J0_isLatin1_aae02 k0 μ = some (r, mu1)) (sz : Nat) : Met l yJ0_isLatin1_aae02 wsJ0_isLatin1_aae02 rm_J0_isLatin1_aae02 (z_Pre G μ [.ref (G.2.2.2.1 (k0))] sz) (z_Qi G r mu1 sz) 0 0 (z_A G sz) := by
  refine z_start (cc := cJ0_isLatin1_aae02) (maxL := 1) (ret := (some .boolean)) (own := RJ0) (by decide) rfl rfl (Nat.le_of_ble_eq_true rfl) (fun p e s m args below meth c C hr hlk Z hP ls hl => ?_) sz
  have hx := C.1
  have hb := C.2.1
  have hts := C.2.2.2.2
  have hS : va_S (z_A G s.heap.size) s.heap s.heap [] := va_S.rf
  have hl : lv_has ls 1 [(0, .ref (G.2.2.2.1 (k0)))] := hl
  unfold f_J0_isLatin1_aae02 at h
  refine va_gets hx hb Z.2.2.2.2.2.2.2.2.2.2.1 hS C.2.2.2.1 (C.2.2.2.2 _ wJ0_isLatin1_aae02_0) (fun _ h => h) dJ0_isLatin1_aae02_0 ?_
  refine lv_if_eq (tgt := 17) hx hb dJ0_isLatin1_aae02_3 (by decide) (fun hc => absurd hc (by decide)) (fun _ => ?_)
  refine lv_aload_n hx hb dJ0_isLatin1_aae02_6 rfl (lv_at hl 0 rfl) ?_
  obtain ⟨hg1, h⟩ := z_g h
  refine vk_getf hx hb (Z.2.2.2.2.2.2.2.2.2.1.1 k0 hg1).2.1 hS C.2.2.2.1 (C.2.2.2.2 _ wJ0_isLatin1_aae02_1) (fun _ h => h) dJ0_isLatin1_aae02_7 ?_
  refine lv_if_ne (tgt := 17) hx hb dJ0_isLatin1_aae02_10 (by decide) (fun hc => absurd hc (by decide)) (fun _ => ?_)
  refine lv_iconst (v := 1) hx hb dJ0_isLatin1_aae02_13 (by decide) ?_
  refine lv_goto (tgt := 18) hx hb dJ0_isLatin1_aae02_14 (by decide) ?_
  cases h
  exact z_retz C hr hlk rfl hP hS dJ0_isLatin1_aae02_18
abbrev rm_J1_charAt_3b067 : Room := { frames := 2, cells := 0, slots := 0, locals := 43 }
theorem hd_J1_charAt_3b067 : yJ1_charAt_3b067.cls ≠ "java/lang/invoke/MethodHandle" ∧ yJ1_charAt_3b067.cls ≠ "java/lang/invoke/VarHandle" ∧ (parseMethodDescriptor yJ1_charAt_3b067.desc).map (fun d => d.parameters.length) = some 2 := by decide +kernel
theorem hv_J1_charAt_3b067 : yJ1_charAt_3b067.cls = RJ1 ∧ yJ1_charAt_3b067.cls ≠ "java/lang/invoke/MethodHandle" ∧ yJ1_charAt_3b067.cls ≠ "java/lang/invoke/VarHandle" ∧ (parseMethodDescriptor yJ1_charAt_3b067.desc).map (fun d => d.parameters.length) = some 2 := ⟨rfl, hd_J1_charAt_3b067⟩
set_option maxHeartbeats 4000000 in
set_option maxRecDepth 100000 in
theorem c_J1_charAt_3b067 (l : Launch) (G : zG) {x0 : Nat} {x1 : Int32} {μ mu1 : Mm} {r : Int32} (h : f_J1_charAt_3b067 x0 x1 μ = some (r, mu1)) (sz : Nat) : Met l yJ1_charAt_3b067 wsJ1_charAt_3b067 rm_J1_charAt_3b067 (z_Pre G μ [.ref (G.2.2.2.2 (x0)), .int (x1)] sz) (z_Qi G r mu1 sz) 0 0 (z_A G sz) := by
  refine z_start (cc := cJ1_charAt_3b067) (maxL := 2) (ret := (some .char)) (own := RJ1) (by decide) rfl rfl (Nat.le_of_ble_eq_true rfl) (fun p e s m args below meth c C hr hlk Z hP ls hl => ?_) sz
  have hx := C.1
  have hb := C.2.1
  have hts := C.2.2.2.2
  have hS : va_S (z_A G s.heap.size) s.heap s.heap [] := va_S.rf
  have hl : lv_has ls 2 [(0, .ref (G.2.2.2.2 (x0))), (1, .int (x1))] := hl
  unfold f_J1_charAt_3b067 at h
  refine lv_iload_n hx hb dJ1_charAt_3b067_0 rfl (lv_at hl 1 rfl) ?_
  refine lv_aload_n hx hb dJ1_charAt_3b067_1 rfl (lv_at hl 0 rfl) ?_
  obtain ⟨hg1, h⟩ := z_g h
  refine va_tlen hx hb (Z.2.2.2.2.2.2.2.2.2.1.1 x0 hg1).2.2.2 hS (v := (nI (z_len.getD x0 0))) rfl dJ1_charAt_3b067_2 ?_
  obtain ⟨r2, m3, e4, h⟩ := zb_some h
  refine z_callv hS (va_runS (As := [.int (x1), .int ((nI (z_len.getD x0 0)))]) (rest := []) C (c_J0_checkIndex_df160 l G e4 _) (va_cwS 2 hts gJ1_charAt_3b067_J0_checkIndex_df160 rfl rfl rfl hd_J0_checkIndex_df160 ⟨Nat.le_of_ble_eq_true rfl, Nat.le_of_ble_eq_true rfl⟩) (z_preS Z hS hP) rfl rfl hl.1 rfl (lv_room (Nat.le_of_ble_eq_true rfl)) dJ1_charAt_3b067_3 ⟨Nat.zero_le _, Nat.zero_le _⟩) (fun H locs hP hS => ?_)
  refine lv_aload_n hx hb dJ1_charAt_3b067_6 rfl (lv_at hl 0 rfl) ?_
  refine lv_iload_n hx hb dJ1_charAt_3b067_7 rfl (lv_at hl 1 rfl) ?_
  obtain ⟨hg5, h⟩ := z_g h
  refine va_tb hx hb (Z.2.2.2.2.2.2.2.2.2.1.1 x0 hg1).2.2.2 hS hg5 (v := .int ((z_byt.getD x0 []).getD (x1).toNatClampNeg 0)) rfl dJ1_charAt_3b067_8 ?_
  refine lv_sipush (v := 255) hx hb dJ1_charAt_3b067_9 (by decide) ?_
  refine lv_iand hx hb dJ1_charAt_3b067_12 ?_
  refine lv_i2c (v := ((((((z_byt.getD x0 []).getD (x1).toNatClampNeg 0) &&& 255)).toUInt32 % 65536).toInt32)) hx hb dJ1_charAt_3b067_13 rfl ?_
  obtain ⟨hg6, h⟩ := z_g h
  cases h
  exact z_retz C hr hlk hg6 hP hS dJ1_charAt_3b067_14
abbrev rm_J0_charAt_5068e : Room := { frames := 3, cells := 0, slots := 0, locals := 64 }
theorem hd_J0_charAt_5068e : yJ0_charAt_5068e.cls ≠ "java/lang/invoke/MethodHandle" ∧ yJ0_charAt_5068e.cls ≠ "java/lang/invoke/VarHandle" ∧ (parseMethodDescriptor yJ0_charAt_5068e.desc).map (fun d => d.parameters.length) = some 1 := by decide +kernel
theorem hv_J0_charAt_5068e : yJ0_charAt_5068e.cls = RJ0 ∧ yJ0_charAt_5068e.cls ≠ "java/lang/invoke/MethodHandle" ∧ yJ0_charAt_5068e.cls ≠ "java/lang/invoke/VarHandle" ∧ (parseMethodDescriptor yJ0_charAt_5068e.desc).map (fun d => d.parameters.length) = some 1 := ⟨rfl, hd_J0_charAt_5068e⟩
theorem wJ0_charAt_5068e_0 : Cond.fieldLink RJ0 9 "java/lang/String" "value" "[B" ∈ wsJ0_charAt_5068e := by decide +kernel
set_option maxHeartbeats 4000000 in
set_option maxRecDepth 100000 in
theorem c_J0_charAt_5068e (l : Launch) (G : zG) {k0 : Nat} {x1 : Int32} {μ mu1 : Mm} {r : Int32} (h : f_J0_charAt_5068e k0 x1 μ = some (r, mu1)) (sz : Nat) : Met l yJ0_charAt_5068e wsJ0_charAt_5068e rm_J0_charAt_5068e (z_Pre G μ [.ref (G.2.2.2.1 (k0)), .int (x1)] sz) (z_Qi G r mu1 sz) 0 0 (z_A G sz) := by
  refine z_start (cc := cJ0_charAt_5068e) (maxL := 2) (ret := (some .char)) (own := RJ0) (by decide) rfl rfl (Nat.le_of_ble_eq_true rfl) (fun p e s m args below meth c C hr hlk Z hP ls hl => ?_) sz
  have hx := C.1
  have hb := C.2.1
  have hts := C.2.2.2.2
  have hS : va_S (z_A G s.heap.size) s.heap s.heap [] := va_S.rf
  have hl : lv_has ls 2 [(0, .ref (G.2.2.2.1 (k0))), (1, .int (x1))] := hl
  unfold f_J0_charAt_5068e at h
  refine lv_aload_n hx hb dJ0_charAt_5068e_0 rfl (lv_at hl 0 rfl) ?_
  obtain ⟨r1, m2, e3, h⟩ := zb_some h
  obtain ⟨hg4, h⟩ := z_g h
  refine z_calli hS (va_runV (As := []) (rest := []) C (c_J0_isLatin1_aae02 l G e3 _) (cwV 0 hts gJ0_charAt_5068e_J0_isLatin1_aae02 rfl rfl rfl hv_J0_isLatin1_aae02 ⟨Nat.le_of_ble_eq_true rfl, Nat.le_of_ble_eq_true rfl⟩) (z_preStr Z hS hP hg4) rfl rfl hl.1 rfl (lv_room (Nat.le_of_ble_eq_true rfl)) dJ0_charAt_5068e_1 ⟨Nat.zero_le _, Nat.zero_le _⟩) (fun H locs hP hS => ?_)
  refine lv_if_eq (tgt := 16) hx hb dJ0_charAt_5068e_4 (by decide) (fun hc5 => ?_) (fun hc5 => ?_)
  · have h := z_ip hc5 h
    refine lv_aload_n hx hb dJ0_charAt_5068e_16 rfl (lv_at hl 0 rfl) ?_
    refine vk_getf hx hb (Z.2.2.2.2.2.2.2.2.2.1.1 k0 hg4).2.2.1 hS C.2.2.2.1 (C.2.2.2.2 _ wJ0_charAt_5068e_0) (fun _ h => h) dJ0_charAt_5068e_17 ?_
    refine lv_iload_n hx hb dJ0_charAt_5068e_20 rfl (lv_at hl 1 rfl) ?_
    cases h
  · have h := z_in hc5 h
    refine lv_aload_n hx hb dJ0_charAt_5068e_7 rfl (lv_at hl 0 rfl) ?_
    refine vk_getf hx hb (Z.2.2.2.2.2.2.2.2.2.1.1 k0 hg4).2.2.1 hS C.2.2.2.1 (C.2.2.2.2 _ wJ0_charAt_5068e_0) (fun _ h => h) dJ0_charAt_5068e_8 ?_
    refine lv_iload_n hx hb dJ0_charAt_5068e_11 rfl (lv_at hl 1 rfl) ?_
    obtain ⟨r6, m7, e8, h⟩ := zb_some h
    refine z_calli hS (va_runS (As := [.ref (G.2.2.2.2 (k0)), .int (x1)]) (rest := []) C (c_J1_charAt_3b067 l G e8 _) (va_cwS 2 hts gJ0_charAt_5068e_J1_charAt_3b067 rfl rfl rfl hd_J1_charAt_3b067 ⟨Nat.le_of_ble_eq_true rfl, Nat.le_of_ble_eq_true rfl⟩) (z_preS Z hS hP) rfl rfl hl.1 rfl (lv_room (Nat.le_of_ble_eq_true rfl)) dJ0_charAt_5068e_12 ⟨Nat.zero_le _, Nat.zero_le _⟩) (fun H locs hP hS => ?_)
    obtain ⟨hg9, h⟩ := z_g h
    cases h
    exact z_retz C hr hlk hg9 hP hS dJ0_charAt_5068e_15
abbrev rm_Jxe99ae_isNaN_b9ae7 : Room := { frames := 0, cells := 0, slots := 0, locals := 0 }
theorem hd_Jxe99ae_isNaN_b9ae7 : yJxe99ae_isNaN_b9ae7.cls ≠ "java/lang/invoke/MethodHandle" ∧ yJxe99ae_isNaN_b9ae7.cls ≠ "java/lang/invoke/VarHandle" ∧ (parseMethodDescriptor yJxe99ae_isNaN_b9ae7.desc).map (fun d => d.parameters.length) = some 1 := by decide +kernel
theorem hv_Jxe99ae_isNaN_b9ae7 : yJxe99ae_isNaN_b9ae7.cls = RJxe99ae ∧ yJxe99ae_isNaN_b9ae7.cls ≠ "java/lang/invoke/MethodHandle" ∧ yJxe99ae_isNaN_b9ae7.cls ≠ "java/lang/invoke/VarHandle" ∧ (parseMethodDescriptor yJxe99ae_isNaN_b9ae7.desc).map (fun d => d.parameters.length) = some 1 := ⟨rfl, hd_Jxe99ae_isNaN_b9ae7⟩
set_option maxHeartbeats 4000000 in
set_option maxRecDepth 100000 in
theorem c_Jxe99ae_isNaN_b9ae7 (l : Launch) (G : zG) {x0 : UInt64} {μ mu1 : Mm} {r : Int32} (h : f_Jxe99ae_isNaN_b9ae7 x0 μ = some (r, mu1)) (sz : Nat) : Met l yJxe99ae_isNaN_b9ae7 wsJxe99ae_isNaN_b9ae7 rm_Jxe99ae_isNaN_b9ae7 (z_Pre G μ [.double (x0)] sz) (z_Qi G r mu1 sz) 0 0 (z_A G sz) := by
  refine z_start (cc := cJxe99ae_isNaN_b9ae7) (maxL := 2) (ret := (some .boolean)) (own := RJxe99ae) (by decide) rfl rfl (Nat.le_of_ble_eq_true rfl) (fun p e s m args below meth c C hr hlk Z hP ls hl => ?_) sz
  have hx := C.1
  have hb := C.2.1
  have hts := C.2.2.2.2
  have hS : va_S (z_A G s.heap.size) s.heap s.heap [] := va_S.rf
  have hl : lv_has ls 2 [(0, .double (x0))] := hl
  unfold f_Jxe99ae_isNaN_b9ae7 at h
  refine lv_dload_n hx hb dJxe99ae_isNaN_b9ae7_0 rfl (lv_at hl 0 rfl) ?_
  refine lv_dload_n hx hb dJxe99ae_isNaN_b9ae7_1 rfl (lv_at hl 0 rfl) ?_
  refine lv_dcmp hx hb dJxe99ae_isNaN_b9ae7_2 ?_
  refine lv_if_eq (tgt := 10) hx hb dJxe99ae_isNaN_b9ae7_3 (by decide) (fun hc1 => ?_) (fun hc1 => ?_)
  · have h := z_ip hc1 h
    refine lv_iconst (v := 0) hx hb dJxe99ae_isNaN_b9ae7_10 (by decide) ?_
    cases h
    exact z_retz C hr hlk rfl hP hS dJxe99ae_isNaN_b9ae7_11
  · have h := z_in hc1 h
    refine lv_iconst (v := 1) hx hb dJxe99ae_isNaN_b9ae7_6 (by decide) ?_
    refine lv_goto (tgt := 11) hx hb dJxe99ae_isNaN_b9ae7_7 (by decide) ?_
    cases h
    exact z_retz C hr hlk rfl hP hS dJxe99ae_isNaN_b9ae7_11
abbrev rm_Jxe99ae_doubleToLongBits_ccdee : Room := { frames := 1, cells := 0, slots := 0, locals := 40 }
theorem hd_Jxe99ae_doubleToLongBits_ccdee : yJxe99ae_doubleToLongBits_ccdee.cls ≠ "java/lang/invoke/MethodHandle" ∧ yJxe99ae_doubleToLongBits_ccdee.cls ≠ "java/lang/invoke/VarHandle" ∧ (parseMethodDescriptor yJxe99ae_doubleToLongBits_ccdee.desc).map (fun d => d.parameters.length) = some 1 := by decide +kernel
theorem hv_Jxe99ae_doubleToLongBits_ccdee : yJxe99ae_doubleToLongBits_ccdee.cls = RJxe99ae ∧ yJxe99ae_doubleToLongBits_ccdee.cls ≠ "java/lang/invoke/MethodHandle" ∧ yJxe99ae_doubleToLongBits_ccdee.cls ≠ "java/lang/invoke/VarHandle" ∧ (parseMethodDescriptor yJxe99ae_doubleToLongBits_ccdee.desc).map (fun d => d.parameters.length) = some 1 := ⟨rfl, hd_Jxe99ae_doubleToLongBits_ccdee⟩
theorem wJxe99ae_doubleToLongBits_ccdee_0 : Cond.constantLong RJxe99ae 137 (9221120237041090560) ∈ wsJxe99ae_doubleToLongBits_ccdee := by decide +kernel
theorem wJxe99ae_doubleToLongBits_ccdee_1 : Cond.methodLink RJxe99ae 134 ⟨"java/lang/Double", "doubleToRawLongBits", "(D)J"⟩ ∈ wsJxe99ae_doubleToLongBits_ccdee := by decide +kernel
theorem wJxe99ae_doubleToLongBits_ccdee_2 : Cond.native ⟨"java/lang/Double", "doubleToRawLongBits", "(D)J"⟩ ∈ wsJxe99ae_doubleToLongBits_ccdee := by decide +kernel
theorem wJxe99ae_doubleToLongBits_ccdee_3 : Cond.static ⟨"java/lang/Double", "doubleToRawLongBits", "(D)J"⟩ ∈ wsJxe99ae_doubleToLongBits_ccdee := by decide +kernel
theorem wJxe99ae_doubleToLongBits_ccdee_4 : Cond.initialized "java/lang/Double" ∈ wsJxe99ae_doubleToLongBits_ccdee := by decide +kernel
set_option maxHeartbeats 4000000 in
set_option maxRecDepth 100000 in
theorem c_Jxe99ae_doubleToLongBits_ccdee (l : Launch) (G : zG) {x0 : UInt64} {μ mu1 : Mm} {r : Int64} (h : f_Jxe99ae_doubleToLongBits_ccdee x0 μ = some (r, mu1)) (sz : Nat) : Met l yJxe99ae_doubleToLongBits_ccdee wsJxe99ae_doubleToLongBits_ccdee rm_Jxe99ae_doubleToLongBits_ccdee (z_Pre G μ [.double (x0)] sz) (z_Ql G r mu1 sz) 0 0 (z_A G sz) := by
  refine z_start (cc := cJxe99ae_doubleToLongBits_ccdee) (maxL := 2) (ret := (some .long)) (own := RJxe99ae) (by decide) rfl rfl (Nat.le_of_ble_eq_true rfl) (fun p e s m args below meth c C hr hlk Z hP ls hl => ?_) sz
  have hx := C.1
  have hb := C.2.1
  have hts := C.2.2.2.2
  have hS : va_S (z_A G s.heap.size) s.heap s.heap [] := va_S.rf
  have hl : lv_has ls 2 [(0, .double (x0))] := hl
  unfold f_Jxe99ae_doubleToLongBits_ccdee at h
  refine lv_dload_n hx hb dJxe99ae_doubleToLongBits_ccdee_0 rfl (lv_at hl 0 rfl) ?_
  obtain ⟨r1, m2, e3, h⟩ := zb_some h
  refine z_calli hS (va_runS (As := [.double (x0)]) (rest := []) C (c_Jxe99ae_isNaN_b9ae7 l G e3 _) (va_cwS 1 hts gJxe99ae_doubleToLongBits_ccdee_Jxe99ae_isNaN_b9ae7 rfl rfl rfl hd_Jxe99ae_isNaN_b9ae7 ⟨Nat.le_of_ble_eq_true rfl, Nat.le_of_ble_eq_true rfl⟩) (z_preS Z hS hP) rfl rfl hl.1 rfl (lv_room (Nat.le_of_ble_eq_true rfl)) dJxe99ae_doubleToLongBits_ccdee_1 ⟨Nat.zero_le _, Nat.zero_le _⟩) (fun H locs hP hS => ?_)
  refine lv_if_ne (tgt := 12) hx hb dJxe99ae_doubleToLongBits_ccdee_4 (by decide) (fun hc4 => ?_) (fun hc4 => ?_)
  · have h := z_in hc4 h
    refine lv_ldc2 hx hb C.2.2.2.1 (C.2.2.2.2 _ wJxe99ae_doubleToLongBits_ccdee_0) dJxe99ae_doubleToLongBits_ccdee_12 ?_
    cases h
    exact z_retl C hr hlk hP hS dJxe99ae_doubleToLongBits_ccdee_15
  · have h := z_ip hc4 h
    refine lv_dload_n hx hb dJxe99ae_doubleToLongBits_ccdee_7 rfl (lv_at hl 0 rfl) ?_
    refine vn_d2l hx hb (C.2.2.1.trans hl.1.symm) C.2.2.2.1 (C.2.2.2.2 _ wJxe99ae_doubleToLongBits_ccdee_1) (C.2.2.2.2 _ wJxe99ae_doubleToLongBits_ccdee_2) (C.2.2.2.2 _ wJxe99ae_doubleToLongBits_ccdee_3) (C.2.2.2.2 _ wJxe99ae_doubleToLongBits_ccdee_4) (Nat.le_of_ble_eq_true rfl) (Nat.le_of_ble_eq_true rfl) dJxe99ae_doubleToLongBits_ccdee_8 ?_
    cases h
    exact z_retl C hr hlk hP hS dJxe99ae_doubleToLongBits_ccdee_11
abbrev rm_Jxf58ca_isNaN_12338 : Room := { frames := 0, cells := 0, slots := 0, locals := 0 }
theorem hd_Jxf58ca_isNaN_12338 : yJxf58ca_isNaN_12338.cls ≠ "java/lang/invoke/MethodHandle" ∧ yJxf58ca_isNaN_12338.cls ≠ "java/lang/invoke/VarHandle" ∧ (parseMethodDescriptor yJxf58ca_isNaN_12338.desc).map (fun d => d.parameters.length) = some 1 := by decide +kernel
theorem hv_Jxf58ca_isNaN_12338 : yJxf58ca_isNaN_12338.cls = RJxf58ca ∧ yJxf58ca_isNaN_12338.cls ≠ "java/lang/invoke/MethodHandle" ∧ yJxf58ca_isNaN_12338.cls ≠ "java/lang/invoke/VarHandle" ∧ (parseMethodDescriptor yJxf58ca_isNaN_12338.desc).map (fun d => d.parameters.length) = some 1 := ⟨rfl, hd_Jxf58ca_isNaN_12338⟩
set_option maxHeartbeats 4000000 in
set_option maxRecDepth 100000 in
theorem c_Jxf58ca_isNaN_12338 (l : Launch) (G : zG) {x0 : UInt32} {μ mu1 : Mm} {r : Int32} (h : f_Jxf58ca_isNaN_12338 x0 μ = some (r, mu1)) (sz : Nat) : Met l yJxf58ca_isNaN_12338 wsJxf58ca_isNaN_12338 rm_Jxf58ca_isNaN_12338 (z_Pre G μ [.float (x0)] sz) (z_Qi G r mu1 sz) 0 0 (z_A G sz) := by
  refine z_startF (cc := cJxf58ca_isNaN_12338) (maxL := 1) (ret := (some .boolean)) (own := RJxf58ca) (by decide +kernel) rfl rfl (Nat.le_of_ble_eq_true rfl) (fun p e s m args below meth c C hr hlk Z hP ls hl => ?_) sz
  have hx := C.1
  have hb := C.2.1
  have hts := C.2.2.2.2
  have hS : va_S (z_A G s.heap.size) s.heap s.heap [] := va_S.rf
  have hl : lv_has ls 1 [(0, .float (x0))] := hl
  unfold f_Jxf58ca_isNaN_12338 at h
  refine lv_fload_n hx hb dJxf58ca_isNaN_12338_0 rfl (lv_at hl 0 rfl) ?_
  refine lv_fload_n hx hb dJxf58ca_isNaN_12338_1 rfl (lv_at hl 0 rfl) ?_
  refine lv_fcmp hx hb dJxf58ca_isNaN_12338_2 ?_
  refine lv_if_eq (tgt := 10) hx hb dJxf58ca_isNaN_12338_3 (by decide) (fun hc1 => ?_) (fun hc1 => ?_)
  · have h := z_ip hc1 h
    refine lv_iconst (v := 0) hx hb dJxf58ca_isNaN_12338_10 (by decide) ?_
    cases h
    exact z_retz C hr hlk rfl hP hS dJxf58ca_isNaN_12338_11
  · have h := z_in hc1 h
    refine lv_iconst (v := 1) hx hb dJxf58ca_isNaN_12338_6 (by decide) ?_
    refine lv_goto (tgt := 11) hx hb dJxf58ca_isNaN_12338_7 (by decide) ?_
    cases h
    exact z_retz C hr hlk rfl hP hS dJxf58ca_isNaN_12338_11
abbrev rm_Jxf58ca_floatToIntBits_5c35a : Room := { frames := 1, cells := 0, slots := 0, locals := 40 }
theorem hd_Jxf58ca_floatToIntBits_5c35a : yJxf58ca_floatToIntBits_5c35a.cls ≠ "java/lang/invoke/MethodHandle" ∧ yJxf58ca_floatToIntBits_5c35a.cls ≠ "java/lang/invoke/VarHandle" ∧ (parseMethodDescriptor yJxf58ca_floatToIntBits_5c35a.desc).map (fun d => d.parameters.length) = some 1 := by decide +kernel
theorem hv_Jxf58ca_floatToIntBits_5c35a : yJxf58ca_floatToIntBits_5c35a.cls = RJxf58ca ∧ yJxf58ca_floatToIntBits_5c35a.cls ≠ "java/lang/invoke/MethodHandle" ∧ yJxf58ca_floatToIntBits_5c35a.cls ≠ "java/lang/invoke/VarHandle" ∧ (parseMethodDescriptor yJxf58ca_floatToIntBits_5c35a.desc).map (fun d => d.parameters.length) = some 1 := ⟨rfl, hd_Jxf58ca_floatToIntBits_5c35a⟩
theorem wJxf58ca_floatToIntBits_5c35a_0 : Cond.constant RJxf58ca 77 (2143289344) ∈ wsJxf58ca_floatToIntBits_5c35a := by decide +kernel
theorem wJxf58ca_floatToIntBits_5c35a_1 : Cond.methodLink RJxf58ca 74 ⟨"java/lang/Float", "floatToRawIntBits", "(F)I"⟩ ∈ wsJxf58ca_floatToIntBits_5c35a := by decide +kernel
theorem wJxf58ca_floatToIntBits_5c35a_2 : Cond.native ⟨"java/lang/Float", "floatToRawIntBits", "(F)I"⟩ ∈ wsJxf58ca_floatToIntBits_5c35a := by decide +kernel
theorem wJxf58ca_floatToIntBits_5c35a_3 : Cond.static ⟨"java/lang/Float", "floatToRawIntBits", "(F)I"⟩ ∈ wsJxf58ca_floatToIntBits_5c35a := by decide +kernel
theorem wJxf58ca_floatToIntBits_5c35a_4 : Cond.initialized "java/lang/Float" ∈ wsJxf58ca_floatToIntBits_5c35a := by decide +kernel
set_option maxHeartbeats 4000000 in
set_option maxRecDepth 100000 in
theorem c_Jxf58ca_floatToIntBits_5c35a (l : Launch) (G : zG) {x0 : UInt32} {μ mu1 : Mm} {r : Int32} (h : f_Jxf58ca_floatToIntBits_5c35a x0 μ = some (r, mu1)) (sz : Nat) : Met l yJxf58ca_floatToIntBits_5c35a wsJxf58ca_floatToIntBits_5c35a rm_Jxf58ca_floatToIntBits_5c35a (z_Pre G μ [.float (x0)] sz) (z_Qi G r mu1 sz) 0 0 (z_A G sz) := by
  refine z_startF (cc := cJxf58ca_floatToIntBits_5c35a) (maxL := 1) (ret := (some .int)) (own := RJxf58ca) (by decide +kernel) rfl rfl (Nat.le_of_ble_eq_true rfl) (fun p e s m args below meth c C hr hlk Z hP ls hl => ?_) sz
  have hx := C.1
  have hb := C.2.1
  have hts := C.2.2.2.2
  have hS : va_S (z_A G s.heap.size) s.heap s.heap [] := va_S.rf
  have hl : lv_has ls 1 [(0, .float (x0))] := hl
  unfold f_Jxf58ca_floatToIntBits_5c35a at h
  refine lv_fload_n hx hb dJxf58ca_floatToIntBits_5c35a_0 rfl (lv_at hl 0 rfl) ?_
  obtain ⟨r1, m2, e3, h⟩ := zb_some h
  refine z_calli hS (va_runS (As := [.float (x0)]) (rest := []) C (c_Jxf58ca_isNaN_12338 l G e3 _) (va_cwS 1 hts gJxf58ca_floatToIntBits_5c35a_Jxf58ca_isNaN_12338 rfl rfl rfl hd_Jxf58ca_isNaN_12338 ⟨Nat.le_of_ble_eq_true rfl, Nat.le_of_ble_eq_true rfl⟩) (z_preS Z hS hP) rfl rfl hl.1 rfl (lv_room (Nat.le_of_ble_eq_true rfl)) dJxf58ca_floatToIntBits_5c35a_1 ⟨Nat.zero_le _, Nat.zero_le _⟩) (fun H locs hP hS => ?_)
  refine lv_if_ne (tgt := 12) hx hb dJxf58ca_floatToIntBits_5c35a_4 (by decide) (fun hc4 => ?_) (fun hc4 => ?_)
  · have h := z_in hc4 h
    refine lv_ldc hx hb C.2.2.2.1 (C.2.2.2.2 _ wJxf58ca_floatToIntBits_5c35a_0) dJxf58ca_floatToIntBits_5c35a_12 ?_
    cases h
    exact z_reti C hr hlk hP hS dJxf58ca_floatToIntBits_5c35a_14
  · have h := z_ip hc4 h
    refine lv_fload_n hx hb dJxf58ca_floatToIntBits_5c35a_7 rfl (lv_at hl 0 rfl) ?_
    refine vn_f2i hx hb (C.2.2.1.trans hl.1.symm) C.2.2.2.1 (C.2.2.2.2 _ wJxf58ca_floatToIntBits_5c35a_1) (C.2.2.2.2 _ wJxf58ca_floatToIntBits_5c35a_2) (C.2.2.2.2 _ wJxf58ca_floatToIntBits_5c35a_3) (C.2.2.2.2 _ wJxf58ca_floatToIntBits_5c35a_4) (Nat.le_of_ble_eq_true rfl) (Nat.le_of_ble_eq_true rfl) dJxf58ca_floatToIntBits_5c35a_8 ?_
    cases h
    exact z_reti C hr hlk hP hS dJxf58ca_floatToIntBits_5c35a_11
