abbrev rm_L_act : Room := { frames := 6, cells := 0, slots := 0, locals := 137 }
theorem hd_L_act : yL_act.cls ≠ "java/lang/invoke/MethodHandle" ∧ yL_act.cls ≠ "java/lang/invoke/VarHandle" ∧ (parseMethodDescriptor yL_act.desc).map (fun d => d.parameters.length) = some 3 := by decide +kernel
theorem hv_L_act : yL_act.cls = RL ∧ yL_act.cls ≠ "java/lang/invoke/MethodHandle" ∧ yL_act.cls ≠ "java/lang/invoke/VarHandle" ∧ (parseMethodDescriptor yL_act.desc).map (fun d => d.parameters.length) = some 3 := ⟨rfl, hd_L_act⟩
set_option maxHeartbeats 8000000 in
set_option maxRecDepth 100000 in
theorem L_L_act_b96 {p : Program} {l : Launch} {e : Env} {s : State} {m : MethodId} {args : Array Value} {below : List Frame} {meth : Method} {c : Code} {G : zG} {r : Int32} {mu1 : Mm}  (C : CallFix p m c cL_act 5 s args wsL_act RL) (hr : meth.sig.returnType = (some .int)) (hlk : meth.locks = false) (Z : z_Z G (z_A G s.heap.size) s)  :
    ∀ (x2 : Int32) (x3 : Int32) (μ : Mm), f_L_act_b96  x2 x3 μ = some (r, mu1) → ∀ (H : Heap) (locs : List Loc), z_P G μ H → va_S (z_A G s.heap.size) s.heap H locs → ∀ ls : Array Slot, lv_has ls 5 [(0, .ref (G.2.1 (90))), (2, .int (x2)), (3, .int (x3))] → W p l e rm_L_act s m args below meth c H locs 0 0 (MQ below (z_Qi G r mu1 s.heap.size) args s 0 0 (z_A G s.heap.size)) (F0 m 96 ls []) := by
  have hx := C.1
  have hb := C.2.1
  have hts := C.2.2.2.2
  intro x2 x3 μ h H locs hP hS ls hl
  unfold f_L_act_b96 at h
  refine lv_aload_n hx hb dL_act_96 rfl (lv_at hl 0 rfl) ?_
  refine lv_iload_n hx hb dL_act_97 rfl (lv_at hl 2 rfl) ?_
  refine lv_iconst (v := 1) hx hb dL_act_98 (by decide) ?_
  refine lv_iload_n hx hb dL_act_99 rfl (lv_at hl 1 rfl) ?_
  refine lv_bipush (v := 9) hx hb dL_act_100 (by decide) ?_
  obtain ⟨r15, m16, e17, h⟩ := zb_some h
  refine z_calli hS (va_runS (As := [.int (x2), .int (9)]) (rest := [.int (1), .int (x3), .ref (G.2.1 (90))]) C (c_L_low l G e17 _) (va_cwS 2 hts gL_act_L_low rfl rfl rfl hd_L_low ⟨Nat.le_of_ble_eq_true rfl, Nat.le_of_ble_eq_true rfl⟩) (z_preS Z hS hP) rfl rfl hl.1 rfl (lv_room (Nat.le_of_ble_eq_true rfl)) dL_act_102 ⟨Nat.zero_le _, Nat.zero_le _⟩) (fun H locs hP hS => ?_)
  refine lv_iadd hx hb dL_act_105 ?_
  obtain ⟨r18, m19, e20, h⟩ := zb_some h
  refine z_calli hS (vx_runSW (As := [.ref (G.2.1 (90)), .int (x3), .int ((1 + r15))]) (rest := []) C (c_L_speak l G e20 _) (vx_cwSW 3 hts gL_act_L_speak rfl rfl rfl hd_L_speak ⟨Nat.le_of_ble_eq_true rfl, Nat.le_of_ble_eq_true rfl⟩) (z_preS Z hS hP) rfl rfl hl.1 rfl (lv_room (Nat.le_of_ble_eq_true rfl)) dL_act_106 ⟨Nat.zero_le _, Nat.zero_le _⟩) (fun H locs hP hS => ?_)
  cases h
  exact z_reti C hr hlk hP hS dL_act_109
set_option maxHeartbeats 8000000 in
set_option maxRecDepth 100000 in
theorem L_L_act_b110 {p : Program} {l : Launch} {e : Env} {s : State} {m : MethodId} {args : Array Value} {below : List Frame} {meth : Method} {c : Code} {G : zG} {r : Int32} {mu1 : Mm}  (C : CallFix p m c cL_act 5 s args wsL_act RL) (hr : meth.sig.returnType = (some .int)) (hlk : meth.locks = false) (Z : z_Z G (z_A G s.heap.size) s)  :
    ∀ (x2 : Int32) (x3 : Int32) (x4 : Int32) (μ : Mm), f_L_act_b110  x2 x3 x4 μ = some (r, mu1) → ∀ (H : Heap) (locs : List Loc), z_P G μ H → va_S (z_A G s.heap.size) s.heap H locs → ∀ ls : Array Slot, lv_has ls 5 [(0, .ref (G.2.1 (90))), (2, .int (x2)), (3, .int (x3)), (4, .int (x4))] → W p l e rm_L_act s m args below meth c H locs 0 0 (MQ below (z_Qi G r mu1 s.heap.size) args s 0 0 (z_A G s.heap.size)) (F0 m 110 ls []) := by
  have hx := C.1
  have hb := C.2.1
  have hts := C.2.2.2.2
  intro x2 x3 x4 μ h H locs hP hS ls hl
  unfold f_L_act_b110 at h
  refine lv_aload_n hx hb dL_act_110 rfl (lv_at hl 0 rfl) ?_
  refine lv_iload_n hx hb dL_act_111 rfl (lv_at hl 2 rfl) ?_
  refine lv_iload hx hb dL_act_112 (lv_at hl 3 rfl) ?_
  refine lv_iconst (v := 1) hx hb dL_act_114 (by decide) ?_
  refine lv_iload_n hx hb dL_act_115 rfl (lv_at hl 1 rfl) ?_
  refine lv_iconst (v := 3) hx hb dL_act_116 (by decide) ?_
  obtain ⟨r24, m25, e26, h⟩ := zb_some h
  refine z_calli hS (va_runS (As := [.int (x2), .int (3)]) (rest := [.int (1), .int (x4), .int (x3), .ref (G.2.1 (90))]) C (c_L_low l G e26 _) (va_cwS 2 hts gL_act_L_low rfl rfl rfl hd_L_low ⟨Nat.le_of_ble_eq_true rfl, Nat.le_of_ble_eq_true rfl⟩) (z_preS Z hS hP) rfl rfl hl.1 rfl (lv_room (Nat.le_of_ble_eq_true rfl)) dL_act_117 ⟨Nat.zero_le _, Nat.zero_le _⟩) (fun H locs hP hS => ?_)
  refine lv_iadd hx hb dL_act_120 ?_
  obtain ⟨r27, m28, e29, h⟩ := zb_some h
  refine z_calli hS (vx_runSW (As := [.ref (G.2.1 (90)), .int (x3), .int (x4), .int ((1 + r24))]) (rest := []) C (c_L_copy l G e29 _) (vx_cwSW 4 hts gL_act_L_copy rfl rfl rfl hd_L_copy ⟨Nat.le_of_ble_eq_true rfl, Nat.le_of_ble_eq_true rfl⟩) (z_preS Z hS hP) rfl rfl hl.1 rfl (lv_room (Nat.le_of_ble_eq_true rfl)) dL_act_121 ⟨Nat.zero_le _, Nat.zero_le _⟩) (fun H locs hP hS => ?_)
  cases h
  exact z_reti C hr hlk hP hS dL_act_124
set_option maxHeartbeats 8000000 in
set_option maxRecDepth 100000 in
theorem L_L_act_b21 {p : Program} {l : Launch} {e : Env} {s : State} {m : MethodId} {args : Array Value} {below : List Frame} {meth : Method} {c : Code} {G : zG} {r : Int32} {mu1 : Mm}  (C : CallFix p m c cL_act 5 s args wsL_act RL) (hr : meth.sig.returnType = (some .int)) (hlk : meth.locks = false) (Z : z_Z G (z_A G s.heap.size) s)  :
    ∀ (x1 : Int32) (x2 : Int32) (y0 : Int32) (y1 : Int32) (μ : Mm), f_L_act_b21  x1 x2 y0 y1 μ = some (r, mu1) → ∀ (H : Heap) (locs : List Loc), z_P G μ H → va_S (z_A G s.heap.size) s.heap H locs → ∀ ls : Array Slot, lv_has ls 5 [(0, .ref (G.2.1 (90))), (1, .int (x1)), (2, .int (x2))] → W p l e rm_L_act s m args below meth c H locs 0 0 (MQ below (z_Qi G r mu1 s.heap.size) args s 0 0 (z_A G s.heap.size)) (F0 m 21 ls [.int (y0), .int (y1)]) := by
  have hx := C.1
  have hb := C.2.1
  have hts := C.2.2.2.2
  intro x1 x2 y0 y1 μ h H locs hP hS ls hl
  unfold f_L_act_b21 at h
  obtain ⟨r5, m6, e7, h⟩ := zb_some h
  refine z_calli hS (va_runS (As := [.int (y1), .int (y0)]) (rest := []) C (c_L_low l G e7 _) (va_cwS 2 hts gL_act_L_low rfl rfl rfl hd_L_low ⟨Nat.le_of_ble_eq_true rfl, Nat.le_of_ble_eq_true rfl⟩) (z_preS Z hS hP) rfl rfl hl.1 rfl (lv_room (Nat.le_of_ble_eq_true rfl)) dL_act_21 ⟨Nat.zero_le _, Nat.zero_le _⟩) (fun H locs hP hS => ?_)
  refine lv_istore_n (lv' := [(3, .int (r5)), (0, .ref (G.2.1 (90))), (1, .int (x1)), (2, .int (x2))]) hx hb dL_act_24 rfl hl (by decide) rfl (fun ls hl => ?_)
  refine lv_iload_n hx hb dL_act_25 rfl (lv_at hl 2 rfl) ?_
  refine lv_bipush (v := 8) hx hb dL_act_26 (by decide) ?_
  refine lv_ishr hx hb dL_act_28 ?_
  refine lv_bipush (v := 24) hx hb dL_act_29 (by decide) ?_
  obtain ⟨r8, m9, e10, h⟩ := zb_some h
  refine z_calli hS (va_runS (As := [.int ((x1 >>> (8 &&& 31))), .int (24)]) (rest := []) C (c_L_low l G e10 _) (va_cwS 2 hts gL_act_L_low rfl rfl rfl hd_L_low ⟨Nat.le_of_ble_eq_true rfl, Nat.le_of_ble_eq_true rfl⟩) (z_preS Z hS hP) rfl rfl hl.1 rfl (lv_room (Nat.le_of_ble_eq_true rfl)) dL_act_31 ⟨Nat.zero_le _, Nat.zero_le _⟩) (fun H locs hP hS => ?_)
  refine lv_istore (lv' := [(4, .int (r8)), (3, .int (r5)), (0, .ref (G.2.1 (90))), (1, .int (x1)), (2, .int (x2))]) hx hb dL_act_34 hl (by decide) rfl (fun ls hl => ?_)
  refine lv_iload_n hx hb dL_act_36 rfl (lv_at hl 3 rfl) ?_
  refine lv_bipush (v := 13) hx hb dL_act_37 (by decide) ?_
  obtain ⟨r11, m12, e13, h⟩ := zb_some h
  refine z_calli hS (va_runS (As := [.int (x1), .int (13)]) (rest := []) C (c_L_low l G e13 _) (va_cwS 2 hts gL_act_L_low rfl rfl rfl hd_L_low ⟨Nat.le_of_ble_eq_true rfl, Nat.le_of_ble_eq_true rfl⟩) (z_preS Z hS hP) rfl rfl hl.1 rfl (lv_room (Nat.le_of_ble_eq_true rfl)) dL_act_39 ⟨Nat.zero_le _, Nat.zero_le _⟩) (fun H locs hP hS => ?_)
  by_cases hc14 : r11 = 0
  · have h := z_ip hc14 h
    refine lv_tableIn (tgt := 96) (off := 54) hx hb dL_act_42 (by rw [hc14]; decide) (by rw [hc14]; decide) (by rw [hc14]; rfl) (by decide) ?_
    exact L_L_act_b96 C hr hlk Z _ _ _ h _ _ hP hS ls (lv_sub hl [2, 4, 1] rfl)
  · have h := z_in hc14 h
    by_cases hc21 : r11 = 1
    · have h := z_ip hc21 h
      refine lv_tableIn (tgt := 96) (off := 54) hx hb dL_act_42 (by rw [hc21]; decide) (by rw [hc21]; decide) (by rw [hc21]; rfl) (by decide) ?_
      exact L_L_act_b96 C hr hlk Z _ _ _ h _ _ hP hS ls (lv_sub hl [2, 4, 1] rfl)
    · have h := z_in hc21 h
      by_cases hc22 : r11 = 2
      · have h := z_ip hc22 h
        refine lv_tableIn (tgt := 96) (off := 54) hx hb dL_act_42 (by rw [hc22]; decide) (by rw [hc22]; decide) (by rw [hc22]; rfl) (by decide) ?_
        exact L_L_act_b96 C hr hlk Z _ _ _ h _ _ hP hS ls (lv_sub hl [2, 4, 1] rfl)
      · have h := z_in hc22 h
        by_cases hc23 : r11 = 3
        · have h := z_ip hc23 h
          refine lv_tableIn (tgt := 110) (off := 68) hx hb dL_act_42 (by rw [hc23]; decide) (by rw [hc23]; decide) (by rw [hc23]; rfl) (by decide) ?_
          exact L_L_act_b110 C hr hlk Z _ _ _ _ h _ _ hP hS ls (lv_sub hl [2, 4, 1, 0] rfl)
        · have h := z_in hc23 h
          by_cases hc30 : r11 = 4
          · have h := z_ip hc30 h
            refine lv_tableIn (tgt := 110) (off := 68) hx hb dL_act_42 (by rw [hc30]; decide) (by rw [hc30]; decide) (by rw [hc30]; rfl) (by decide) ?_
            exact L_L_act_b110 C hr hlk Z _ _ _ _ h _ _ hP hS ls (lv_sub hl [2, 4, 1, 0] rfl)
          · have h := z_in hc30 h
            by_cases hc31 : r11 = 5
            · have h := z_ip hc31 h
              refine lv_tableIn (tgt := 110) (off := 68) hx hb dL_act_42 (by rw [hc31]; decide) (by rw [hc31]; decide) (by rw [hc31]; rfl) (by decide) ?_
              exact L_L_act_b110 C hr hlk Z _ _ _ _ h _ _ hP hS ls (lv_sub hl [2, 4, 1, 0] rfl)
            · have h := z_in hc31 h
              by_cases hc32 : r11 = 6
              · have h := z_ip hc32 h
                refine lv_tableIn (tgt := 110) (off := 68) hx hb dL_act_42 (by rw [hc32]; decide) (by rw [hc32]; decide) (by rw [hc32]; rfl) (by decide) ?_
                exact L_L_act_b110 C hr hlk Z _ _ _ _ h _ _ hP hS ls (lv_sub hl [2, 4, 1, 0] rfl)
              · have h := z_in hc32 h
                by_cases hc33 : r11 = 7
                · have h := z_ip hc33 h
                  refine lv_tableIn (tgt := 125) (off := 83) hx hb dL_act_42 (by rw [hc33]; decide) (by rw [hc33]; decide) (by rw [hc33]; rfl) (by decide) ?_
                  refine lv_aload_n hx hb dL_act_125 rfl (lv_at hl 2 rfl) ?_
                  refine lv_iload_n hx hb dL_act_126 rfl (lv_at hl 1 rfl) ?_
                  obtain ⟨r34, m35, e36, h⟩ := zb_some h
                  refine z_calli hS (vx_runSW (As := [.ref (G.2.1 (90)), .int (r5)]) (rest := []) C (c_L_play l G e36 _) (vx_cwSW 2 hts gL_act_L_play rfl rfl rfl hd_L_play ⟨Nat.le_of_ble_eq_true rfl, Nat.le_of_ble_eq_true rfl⟩) (z_preS Z hS hP) rfl rfl hl.1 rfl (lv_room (Nat.le_of_ble_eq_true rfl)) dL_act_127 ⟨Nat.zero_le _, Nat.zero_le _⟩) (fun H locs hP hS => ?_)
                  cases h
                  exact z_reti C hr hlk hP hS dL_act_130
                · have h := z_in hc33 h
                  by_cases hc37 : r11 = 8
                  · have h := z_ip hc37 h
                    refine lv_tableIn (tgt := 131) (off := 89) hx hb dL_act_42 (by rw [hc37]; decide) (by rw [hc37]; decide) (by rw [hc37]; rfl) (by decide) ?_
                    refine lv_iload_n hx hb dL_act_131 rfl (lv_at hl 4 rfl) ?_
                    refine lv_iconst (v := 2) hx hb dL_act_132 (by decide) ?_
                    obtain ⟨r38, m39, e40, h⟩ := zb_some h
                    refine z_calli hS (va_runS (As := [.int (x2), .int (2)]) (rest := []) C (c_L_low l G e40 _) (va_cwS 2 hts gL_act_L_low rfl rfl rfl hd_L_low ⟨Nat.le_of_ble_eq_true rfl, Nat.le_of_ble_eq_true rfl⟩) (z_preS Z hS hP) rfl rfl hl.1 rfl (lv_room (Nat.le_of_ble_eq_true rfl)) dL_act_133 ⟨Nat.zero_le _, Nat.zero_le _⟩) (fun H locs hP hS => ?_)
                    refine lv_if_ne (tgt := 154) hx hb dL_act_136 (by decide) (fun hc41 => ?_) (fun hc41 => ?_)
                    · have h := z_in hc41 h
                      refine lv_aload_n hx hb dL_act_154 rfl (lv_at hl 2 rfl) ?_
                      refine lv_iload_n hx hb dL_act_155 rfl (lv_at hl 4 rfl) ?_
                      refine lv_iconst (v := 1) hx hb dL_act_156 (by decide) ?_
                      refine lv_ishr hx hb dL_act_157 ?_
                      refine lv_bipush (v := 21) hx hb dL_act_158 (by decide) ?_
                      obtain ⟨r42, m43, e44, h⟩ := zb_some h
                      refine z_calli hS (va_runS (As := [.int ((x2 >>> (1 &&& 31))), .int (21)]) (rest := [.ref (G.2.1 (90))]) C (c_L_low l G e44 _) (va_cwS 2 hts gL_act_L_low rfl rfl rfl hd_L_low ⟨Nat.le_of_ble_eq_true rfl, Nat.le_of_ble_eq_true rfl⟩) (z_preS Z hS hP) rfl rfl hl.1 rfl (lv_room (Nat.le_of_ble_eq_true rfl)) dL_act_160 ⟨Nat.zero_le _, Nat.zero_le _⟩) (fun H locs hP hS => ?_)
                      obtain ⟨r45, m46, e47, h⟩ := zb_some h
                      refine z_calli hS (vx_runSW (As := [.ref (G.2.1 (90)), .int (r42)]) (rest := []) C (c_L_set l G e47 _) (vx_cwSW 2 hts gL_act_L_set rfl rfl rfl hd_L_set ⟨Nat.le_of_ble_eq_true rfl, Nat.le_of_ble_eq_true rfl⟩) (z_preS Z hS hP) rfl rfl hl.1 rfl (lv_room (Nat.le_of_ble_eq_true rfl)) dL_act_163 ⟨Nat.zero_le _, Nat.zero_le _⟩) (fun H locs hP hS => ?_)
                      cases h
                      exact z_reti C hr hlk hP hS dL_act_166
                    · have h := z_ip hc41 h
                      refine lv_aload_n hx hb dL_act_139 rfl (lv_at hl 2 rfl) ?_
                      refine lv_iload_n hx hb dL_act_140 rfl (lv_at hl 4 rfl) ?_
                      refine lv_iconst (v := 1) hx hb dL_act_141 (by decide) ?_
                      refine lv_ishr hx hb dL_act_142 ?_
                      refine lv_bipush (v := 6) hx hb dL_act_143 (by decide) ?_
                      obtain ⟨r48, m49, e50, h⟩ := zb_some h
                      refine z_calli hS (va_runS (As := [.int ((x2 >>> (1 &&& 31))), .int (6)]) (rest := [.ref (G.2.1 (90))]) C (c_L_low l G e50 _) (va_cwS 2 hts gL_act_L_low rfl rfl rfl hd_L_low ⟨Nat.le_of_ble_eq_true rfl, Nat.le_of_ble_eq_true rfl⟩) (z_preS Z hS hP) rfl rfl hl.1 rfl (lv_room (Nat.le_of_ble_eq_true rfl)) dL_act_145 ⟨Nat.zero_le _, Nat.zero_le _⟩) (fun H locs hP hS => ?_)
                      obtain ⟨r51, m52, e53, h⟩ := zb_some h
                      refine z_calli hS (vx_runSW (As := [.ref (G.2.1 (90)), .int (r48)]) (rest := []) C (c_L_shave l G e53 _) (vx_cwSW 2 hts gL_act_L_shave rfl rfl rfl hd_L_shave ⟨Nat.le_of_ble_eq_true rfl, Nat.le_of_ble_eq_true rfl⟩) (z_preS Z hS hP) rfl rfl hl.1 rfl (lv_room (Nat.le_of_ble_eq_true rfl)) dL_act_148 ⟨Nat.zero_le _, Nat.zero_le _⟩) (fun H locs hP hS => ?_)
                      refine lv_goto (tgt := 166) hx hb dL_act_151 (by decide) ?_
                      cases h
                      exact z_reti C hr hlk hP hS dL_act_166
                  · have h := z_in hc37 h
                    by_cases hc54 : r11 = 9
                    · have h := z_ip hc54 h
                      refine lv_tableIn (tgt := 167) (off := 125) hx hb dL_act_42 (by rw [hc54]; decide) (by rw [hc54]; decide) (by rw [hc54]; rfl) (by decide) ?_
                      refine lv_iload_n hx hb dL_act_167 rfl (lv_at hl 4 rfl) ?_
                      refine lv_iconst (v := 2) hx hb dL_act_168 (by decide) ?_
                      obtain ⟨r55, m56, e57, h⟩ := zb_some h
                      refine z_calli hS (va_runS (As := [.int (x2), .int (2)]) (rest := []) C (c_L_low l G e57 _) (va_cwS 2 hts gL_act_L_low rfl rfl rfl hd_L_low ⟨Nat.le_of_ble_eq_true rfl, Nat.le_of_ble_eq_true rfl⟩) (z_preS Z hS hP) rfl rfl hl.1 rfl (lv_room (Nat.le_of_ble_eq_true rfl)) dL_act_169 ⟨Nat.zero_le _, Nat.zero_le _⟩) (fun H locs hP hS => ?_)
                      refine lv_if_ne (tgt := 198) hx hb dL_act_172 (by decide) (fun hc58 => ?_) (fun hc58 => ?_)
                      · have h := z_in hc58 h
                        refine lv_aload_n hx hb dL_act_198 rfl (lv_at hl 2 rfl) ?_
                        obtain ⟨r59, m60, e61, h⟩ := zb_some h
                        refine z_calli hS (va_runV (As := []) (rest := []) C (c_X3_sharpen l G e61 _) (cwV 0 hts gL_act_X3_sharpen rfl rfl rfl hv_X3_sharpen ⟨Nat.le_of_ble_eq_true rfl, Nat.le_of_ble_eq_true rfl⟩) (z_preV Z hS hP (by decide) (z_E_90 _) rfl rfl) rfl rfl hl.1 rfl (lv_room (Nat.le_of_ble_eq_true rfl)) dL_act_199 ⟨Nat.zero_le _, Nat.zero_le _⟩) (fun H locs hP hS => ?_)
                        cases h
                        exact z_reti C hr hlk hP hS dL_act_202
                      · have h := z_ip hc58 h
                        refine lv_aload_n hx hb dL_act_175 rfl (lv_at hl 2 rfl) ?_
                        refine lv_iload_n hx hb dL_act_176 rfl (lv_at hl 4 rfl) ?_
                        refine lv_iconst (v := 1) hx hb dL_act_177 (by decide) ?_
                        refine lv_ishr hx hb dL_act_178 ?_
                        refine lv_bipush (v := 6) hx hb dL_act_179 (by decide) ?_
                        obtain ⟨r62, m63, e64, h⟩ := zb_some h
                        refine z_calli hS (va_runS (As := [.int ((x2 >>> (1 &&& 31))), .int (6)]) (rest := [.ref (G.2.1 (90))]) C (c_L_low l G e64 _) (va_cwS 2 hts gL_act_L_low rfl rfl rfl hd_L_low ⟨Nat.le_of_ble_eq_true rfl, Nat.le_of_ble_eq_true rfl⟩) (z_preS Z hS hP) rfl rfl hl.1 rfl (lv_room (Nat.le_of_ble_eq_true rfl)) dL_act_181 ⟨Nat.zero_le _, Nat.zero_le _⟩) (fun H locs hP hS => ?_)
                        refine lv_iload_n hx hb dL_act_184 rfl (lv_at hl 4 rfl) ?_
                        refine lv_iconst (v := 4) hx hb dL_act_185 (by decide) ?_
                        refine lv_ishr hx hb dL_act_186 ?_
                        refine lv_bipush (v := 50) hx hb dL_act_187 (by decide) ?_
                        obtain ⟨r65, m66, e67, h⟩ := zb_some h
                        refine z_calli hS (va_runS (As := [.int ((x2 >>> (4 &&& 31))), .int (50)]) (rest := [.int (r62), .ref (G.2.1 (90))]) C (c_L_low l G e67 _) (va_cwS 2 hts gL_act_L_low rfl rfl rfl hd_L_low ⟨Nat.le_of_ble_eq_true rfl, Nat.le_of_ble_eq_true rfl⟩) (z_preS Z hS hP) rfl rfl hl.1 rfl (lv_room (Nat.le_of_ble_eq_true rfl)) dL_act_189 ⟨Nat.zero_le _, Nat.zero_le _⟩) (fun H locs hP hS => ?_)
                        obtain ⟨r68, m69, e70, h⟩ := zb_some h
                        refine z_calli hS (vx_runSW (As := [.ref (G.2.1 (90)), .int (r62), .int (r65)]) (rest := []) C (c_L_renew l G e70 _) (vx_cwSW 3 hts gL_act_L_renew rfl rfl rfl hd_L_renew ⟨Nat.le_of_ble_eq_true rfl, Nat.le_of_ble_eq_true rfl⟩) (z_preS Z hS hP) rfl rfl hl.1 rfl (lv_room (Nat.le_of_ble_eq_true rfl)) dL_act_192 ⟨Nat.zero_le _, Nat.zero_le _⟩) (fun H locs hP hS => ?_)
                        refine lv_goto (tgt := 202) hx hb dL_act_195 (by decide) ?_
                        cases h
                        exact z_reti C hr hlk hP hS dL_act_202
                    · have h := z_in hc54 h
                      refine lv_tableOut (tgt := 203) hx hb dL_act_42 (by
                        have qhc14 : (r11).toInt ≠ 0 := fun q => hc14 (Int32.toInt_inj.mp (q.trans (by decide)))
                        have qhc21 : (r11).toInt ≠ 1 := fun q => hc21 (Int32.toInt_inj.mp (q.trans (by decide)))
                        have qhc22 : (r11).toInt ≠ 2 := fun q => hc22 (Int32.toInt_inj.mp (q.trans (by decide)))
                        have qhc23 : (r11).toInt ≠ 3 := fun q => hc23 (Int32.toInt_inj.mp (q.trans (by decide)))
                        have qhc30 : (r11).toInt ≠ 4 := fun q => hc30 (Int32.toInt_inj.mp (q.trans (by decide)))
                        have qhc31 : (r11).toInt ≠ 5 := fun q => hc31 (Int32.toInt_inj.mp (q.trans (by decide)))
                        have qhc32 : (r11).toInt ≠ 6 := fun q => hc32 (Int32.toInt_inj.mp (q.trans (by decide)))
                        have qhc33 : (r11).toInt ≠ 7 := fun q => hc33 (Int32.toInt_inj.mp (q.trans (by decide)))
                        have qhc37 : (r11).toInt ≠ 8 := fun q => hc37 (Int32.toInt_inj.mp (q.trans (by decide)))
                        have qhc54 : (r11).toInt ≠ 9 := fun q => hc54 (Int32.toInt_inj.mp (q.trans (by decide)))
                        omega) (by decide) ?_
                      refine lv_aload_n hx hb dL_act_203 rfl (lv_at hl 2 rfl) ?_
                      obtain ⟨r71, m72, e73, h⟩ := zb_some h
                      refine z_calli hS (va_runV (As := []) (rest := []) C (c_X3_wind l G e73 _) (cwV 0 hts gL_act_X3_wind rfl rfl rfl hv_X3_wind ⟨Nat.le_of_ble_eq_true rfl, Nat.le_of_ble_eq_true rfl⟩) (z_preV Z hS hP (by decide) (z_E_90 _) rfl rfl) rfl rfl hl.1 rfl (lv_room (Nat.le_of_ble_eq_true rfl)) dL_act_204 ⟨Nat.zero_le _, Nat.zero_le _⟩) (fun H locs hP hS => ?_)
                      cases h
                      exact z_reti C hr hlk hP hS dL_act_207
set_option maxHeartbeats 4000000 in
set_option maxRecDepth 100000 in
theorem c_L_act (l : Launch) (G : zG) {x1 : Int32} {x2 : Int32} {μ mu1 : Mm} {r : Int32} (h : f_L_act x1 x2 μ = some (r, mu1)) (sz : Nat) : Met l yL_act wsL_act rm_L_act (z_Pre G μ [.ref (G.2.1 (90)), .int (x1), .int (x2)] sz) (z_Qi G r mu1 sz) 0 0 (z_A G sz) := by
  refine z_start (cc := cL_act) (maxL := 5) (ret := (some .int)) (own := RL) (by decide) rfl rfl (Nat.le_of_ble_eq_true rfl) (fun p e s m args below meth c C hr hlk Z hP ls hl => ?_) sz
  have hx := C.1
  have hb := C.2.1
  have hts := C.2.2.2.2
  have hS : va_S (z_A G s.heap.size) s.heap s.heap [] := va_S.rf
  have hl : lv_has ls 5 [(0, .ref (G.2.1 (90))), (1, .int (x1)), (2, .int (x2))] := hl
  unfold f_L_act at h
  refine lv_iload_n hx hb dL_act_0 rfl (lv_at hl 1 rfl) ?_
  refine lv_iconst (v := 4) hx hb dL_act_1 (by decide) ?_
  refine lv_ishr hx hb dL_act_2 ?_
  refine lv_iload_n hx hb dL_act_3 rfl (lv_at hl 1 rfl) ?_
  refine lv_bipush (v := 12) hx hb dL_act_4 (by decide) ?_
  refine lv_ishr hx hb dL_act_6 ?_
  refine lv_iconst (v := 2) hx hb dL_act_7 (by decide) ?_
  obtain ⟨r1, m2, e3, h⟩ := zb_some h
  refine z_calli hS (va_runS (As := [.int ((x1 >>> (12 &&& 31))), .int (2)]) (rest := [.int ((x1 >>> (4 &&& 31)))]) C (c_L_low l G e3 _) (va_cwS 2 hts gL_act_L_low rfl rfl rfl hd_L_low ⟨Nat.le_of_ble_eq_true rfl, Nat.le_of_ble_eq_true rfl⟩) (z_preS Z hS hP) rfl rfl hl.1 rfl (lv_room (Nat.le_of_ble_eq_true rfl)) dL_act_8 ⟨Nat.zero_le _, Nat.zero_le _⟩) (fun H locs hP hS => ?_)
  refine lv_if_ne (tgt := 19) hx hb dL_act_11 (by decide) (fun hc4 => ?_) (fun hc4 => ?_)
  · have h := z_in hc4 h
    refine lv_bipush (v := 9) hx hb dL_act_19 (by decide) ?_
    exact L_L_act_b21 C hr hlk Z _ _ _ _ _ h _ _ hP hS ls (lv_sub hl [0, 1, 2] rfl)
  · have h := z_ip hc4 h
    refine lv_bipush (v := 24) hx hb dL_act_14 (by decide) ?_
    refine lv_goto (tgt := 21) hx hb dL_act_16 (by decide) ?_
    exact L_L_act_b21 C hr hlk Z _ _ _ _ _ h _ _ hP hS ls (lv_sub hl [0, 1, 2] rfl)
abbrev rm_L_track : Room := { frames := 10, cells := 0, slots := 0, locals := 254 }
theorem hd_L_track : yL_track.cls ≠ "java/lang/invoke/MethodHandle" ∧ yL_track.cls ≠ "java/lang/invoke/VarHandle" ∧ (parseMethodDescriptor yL_track.desc).map (fun d => d.parameters.length) = some 2 := by decide +kernel
theorem hv_L_track : yL_track.cls = RL ∧ yL_track.cls ≠ "java/lang/invoke/MethodHandle" ∧ yL_track.cls ≠ "java/lang/invoke/VarHandle" ∧ (parseMethodDescriptor yL_track.desc).map (fun d => d.parameters.length) = some 2 := ⟨rfl, hd_L_track⟩
set_option maxHeartbeats 8000000 in
set_option maxRecDepth 100000 in
theorem L_L_track_b238 {p : Program} {l : Launch} {e : Env} {s : State} {m : MethodId} {args : Array Value} {below : List Frame} {meth : Method} {c : Code} {G : zG} {r : Int32} {mu1 : Mm}  (C : CallFix p m c cL_track 10 s args wsL_track RL) (hr : meth.sig.returnType = (some .boolean)) (hlk : meth.locks = false) (Z : z_Z G (z_A G s.heap.size) s)  :
    ∀ (n : Nat) (x1 : Int32) (x7 : Int32) (x8 : Int32) (μ : Mm), f_L_track_b238  n x1 x7 x8 μ = some (r, mu1) → ∀ (H : Heap) (locs : List Loc), z_P G μ H → va_S (z_A G s.heap.size) s.heap H locs → ∀ ls : Array Slot, lv_has ls 10 [(0, .ref (G.2.1 (90))), (1, .int (x1)), (6, .int (1)), (7, .int (x7)), (8, .int (x8))] → W p l e rm_L_track s m args below meth c H locs 0 0 (MQ below (z_Qi G r mu1 s.heap.size) args s 0 0 (z_A G s.heap.size)) (F0 m 238 ls []) := by
  have hx := C.1
  have hb := C.2.1
  have hts := C.2.2.2.2
  intro n
  induction n with
  | zero =>
    intro x1 x7 x8 μ h
    rw [f_L_track_b238] at h
    cases h
  | succ n ih =>
    intro x1 x7 x8 μ h H locs hP hS ls hl
    rw [f_L_track_b238] at h
    refine lv_iload hx hb dL_track_238 (lv_at hl 4 rfl) ?_
    refine lv_bipush (v := 6) hx hb dL_track_240 (by decide) ?_
    refine lv_icmp_ge (tgt := 308) hx hb dL_track_242 (by decide) (fun hc49 => ?_) (fun hc49 => ?_)
    · have h := z_ip hc49 h
      refine lv_iload hx hb dL_track_308 (lv_at hl 2 rfl) ?_
      cases h
      exact z_retz C hr hlk rfl hP hS dL_track_310
    · have h := z_in hc49 h
      refine lv_iload hx hb dL_track_245 (lv_at hl 2 rfl) ?_
      refine lv_if_eq (tgt := 308) hx hb dL_track_247 (by decide) (fun hc => absurd hc (by decide)) (fun _ => ?_)
      refine lv_aload_n hx hb dL_track_250 rfl (lv_at hl 0 rfl) ?_
      refine lv_iload_n hx hb dL_track_251 rfl (lv_at hl 1 rfl) ?_
      refine lv_iload hx hb dL_track_252 (lv_at hl 4 rfl) ?_
      refine lv_iconst (v := 0) hx hb dL_track_254 (by decide) ?_
      obtain ⟨r50, m51, e52, h⟩ := zb_some h
      refine z_calli hS (vx_runSW (As := [.ref (G.2.1 (90)), .int (x1), .int (x8), .int (0)]) (rest := []) C (c_L_chain l G e52 _) (vx_cwSW 4 hts gL_track_L_chain rfl rfl rfl hd_L_chain ⟨Nat.le_of_ble_eq_true rfl, Nat.le_of_ble_eq_true rfl⟩) (z_preS Z hS hP) rfl rfl hl.1 rfl (lv_room (Nat.le_of_ble_eq_true rfl)) dL_track_255 ⟨Nat.zero_le _, Nat.zero_le _⟩) (fun H locs hP hS => ?_)
      refine lv_istore (lv' := [(9, .int (r50)), (0, .ref (G.2.1 (90))), (1, .int (x1)), (6, .int (1)), (7, .int (x7)), (8, .int (x8))]) hx hb dL_track_258 hl (by decide) rfl (fun ls hl => ?_)
      refine lv_iload hx hb dL_track_260 (lv_at hl 0 rfl) ?_
      refine lv_iload hx hb dL_track_262 (lv_at hl 4 rfl) ?_
      refine lv_icmp_gt (tgt := 295) hx hb dL_track_264 (by decide) (fun hc53 => ?_) (fun hc53 => ?_)
      · have h := z_ip hc53 h
        cases h
      · have h := z_in hc53 h
        refine lv_iload hx hb dL_track_267 (lv_at hl 0 rfl) ?_
        refine lv_if_lt (tgt := 295) hx hb dL_track_269 (by decide) (fun hc54 => ?_) (fun hc54 => ?_)
        · have h := z_ip hc54 h
          cases h
        · have h := z_in hc54 h
          refine lv_iload hx hb dL_track_272 (lv_at hl 5 rfl) ?_
          refine lv_iconst (v := 3) hx hb dL_track_274 (by decide) ?_
          refine lv_icmp_gt (tgt := 291) hx hb dL_track_275 (by decide) (fun hc55 => ?_) (fun hc55 => ?_)
          · have h := z_ip hc55 h
            refine lv_iconst (v := 1) hx hb dL_track_291 (by decide) ?_
            refine lv_goto (tgt := 296) hx hb dL_track_292 (by decide) ?_
            refine lv_istore (lv' := [(6, .int (1)), (9, .int (r50)), (0, .ref (G.2.1 (90))), (1, .int (x1)), (7, .int (x7)), (8, .int (x8))]) hx hb dL_track_296 hl (by decide) rfl (fun ls hl => ?_)
            refine lv_iload hx hb dL_track_298 (lv_at hl 1 rfl) ?_
            refine lv_istore (lv' := [(7, .int (r50)), (6, .int (1)), (9, .int (r50)), (0, .ref (G.2.1 (90))), (1, .int (x1)), (8, .int (x8))]) hx hb dL_track_300 hl (by decide) rfl (fun ls hl => ?_)
            refine lv_iinc (v := (x8 + 1)) (lv' := [(8, .int ((x8 + 1))), (7, .int (r50)), (6, .int (1)), (9, .int (r50)), (0, .ref (G.2.1 (90))), (1, .int (x1))]) hx hb dL_track_302 hl (k := 5) rfl rfl (by decide) rfl (fun ls hl => ?_)
            refine lv_goto (tgt := 238) hx hb dL_track_305 (by decide) ?_
            exact ih _ _ _ _ h _ _ hP hS ls (lv_sub hl [4, 5, 2, 1, 0] rfl)
          · have h := z_in hc55 h
            refine lv_iload hx hb dL_track_278 (lv_at hl 0 rfl) ?_
            refine lv_aload_n hx hb dL_track_280 rfl (lv_at hl 1 rfl) ?_
            refine lv_iload_n hx hb dL_track_281 rfl (lv_at hl 2 rfl) ?_
            refine lv_iload hx hb dL_track_282 (lv_at hl 5 rfl) ?_
            refine lv_iconst (v := 1) hx hb dL_track_284 (by decide) ?_
            obtain ⟨r56, m57, e58, h⟩ := zb_some h
            refine z_calli hS (vx_runSW (As := [.ref (G.2.1 (90)), .int (x1), .int (x8), .int (1)]) (rest := [.int (r50)]) C (c_L_chain l G e58 _) (vx_cwSW 4 hts gL_track_L_chain rfl rfl rfl hd_L_chain ⟨Nat.le_of_ble_eq_true rfl, Nat.le_of_ble_eq_true rfl⟩) (z_preS Z hS hP) rfl rfl hl.1 rfl (lv_room (Nat.le_of_ble_eq_true rfl)) dL_track_285 ⟨Nat.zero_le _, Nat.zero_le _⟩) (fun H locs hP hS => ?_)
            refine lv_icmp_ne (tgt := 295) hx hb dL_track_288 (by decide) (fun hc59 => ?_) (fun hc59 => ?_)
            · have h := z_in hc59 h
              cases h
            · have h := z_ip hc59 h
              refine lv_iconst (v := 1) hx hb dL_track_291 (by decide) ?_
              refine lv_goto (tgt := 296) hx hb dL_track_292 (by decide) ?_
              refine lv_istore (lv' := [(6, .int (1)), (9, .int (r50)), (0, .ref (G.2.1 (90))), (1, .int (x1)), (7, .int (x7)), (8, .int (x8))]) hx hb dL_track_296 hl (by decide) rfl (fun ls hl => ?_)
              refine lv_iload hx hb dL_track_298 (lv_at hl 1 rfl) ?_
              refine lv_istore (lv' := [(7, .int (r50)), (6, .int (1)), (9, .int (r50)), (0, .ref (G.2.1 (90))), (1, .int (x1)), (8, .int (x8))]) hx hb dL_track_300 hl (by decide) rfl (fun ls hl => ?_)
              refine lv_iinc (v := (x8 + 1)) (lv' := [(8, .int ((x8 + 1))), (7, .int (r50)), (6, .int (1)), (9, .int (r50)), (0, .ref (G.2.1 (90))), (1, .int (x1))]) hx hb dL_track_302 hl (k := 5) rfl rfl (by decide) rfl (fun ls hl => ?_)
              refine lv_goto (tgt := 238) hx hb dL_track_305 (by decide) ?_
              exact ih _ _ _ _ h _ _ hP hS ls (lv_sub hl [4, 5, 2, 1, 0] rfl)
set_option maxHeartbeats 8000000 in
set_option maxRecDepth 100000 in
theorem L_L_track_b202 {p : Program} {l : Launch} {e : Env} {s : State} {m : MethodId} {args : Array Value} {below : List Frame} {meth : Method} {c : Code} {G : zG} {r : Int32} {mu1 : Mm}  (C : CallFix p m c cL_track 10 s args wsL_track RL) (hr : meth.sig.returnType = (some .boolean)) (hlk : meth.locks = false) (Z : z_Z G (z_A G s.heap.size) s)  :
    ∀ (x1 : Int32) (x2 : Int32) (x3 : Int32) (μ : Mm), f_L_track_b202  x1 x2 x3 μ = some (r, mu1) → ∀ (H : Heap) (locs : List Loc), z_P G μ H → va_S (z_A G s.heap.size) s.heap H locs → ∀ ls : Array Slot, lv_has ls 10 [(0, .ref (G.2.1 (90))), (1, .int (x1)), (2, .int (x2)), (3, .int (x3))] → W p l e rm_L_track s m args below meth c H locs 0 0 (MQ below (z_Qi G r mu1 s.heap.size) args s 0 0 (z_A G s.heap.size)) (F0 m 202 ls []) := by
  have hx := C.1
  have hb := C.2.1
  have hts := C.2.2.2.2
  intro x1 x2 x3 μ h H locs hP hS ls hl
  unfold f_L_track_b202 at h
  refine lv_iload_n hx hb dL_track_202 rfl (lv_at hl 2 rfl) ?_
  refine lv_aload_n hx hb dL_track_203 rfl (lv_at hl 0 rfl) ?_
  refine lv_iload_n hx hb dL_track_204 rfl (lv_at hl 1 rfl) ?_
  refine lv_iconst (v := 4) hx hb dL_track_205 (by decide) ?_
  refine lv_idiv hx hb dL_track_206 (by decide) ?_
  refine lv_iconst (v := 0) hx hb dL_track_207 (by decide) ?_
  obtain ⟨r41, m42, e43, h⟩ := zb_some h
  refine z_calli hS (vx_runSW (As := [.ref (G.2.1 (90)), .int ((x1 / 4)), .int (0)]) (rest := [.int (x2)]) C (c_L_cylinderOf l G e43 _) (vx_cwSW 3 hts gL_track_L_cylinderOf rfl rfl rfl hd_L_cylinderOf ⟨Nat.le_of_ble_eq_true rfl, Nat.le_of_ble_eq_true rfl⟩) (z_preS Z hS hP) rfl rfl hl.1 rfl (lv_room (Nat.le_of_ble_eq_true rfl)) dL_track_208 ⟨Nat.zero_le _, Nat.zero_le _⟩) (fun H locs hP hS => ?_)
  refine lv_icmp_gt (tgt := 229) hx hb dL_track_211 (by decide) (fun hc44 => ?_) (fun hc44 => ?_)
  · have h := z_ip hc44 h
    cases h
  · have h := z_in hc44 h
    refine lv_aload_n hx hb dL_track_214 rfl (lv_at hl 0 rfl) ?_
    refine lv_iload_n hx hb dL_track_215 rfl (lv_at hl 1 rfl) ?_
    refine lv_bipush (v := 9) hx hb dL_track_216 (by decide) ?_
    obtain ⟨r45, m46, e47, h⟩ := zb_some h
    refine z_calli hS (vx_runSW (As := [.ref (G.2.1 (90)), .int (x1), .int (9)]) (rest := []) C (c_L_whyNot l G e47 _) (vx_cwSW 3 hts gL_track_L_whyNot rfl rfl rfl hd_L_whyNot ⟨Nat.le_of_ble_eq_true rfl, Nat.le_of_ble_eq_true rfl⟩) (z_preS Z hS hP) rfl rfl hl.1 rfl (lv_room (Nat.le_of_ble_eq_true rfl)) dL_track_218 ⟨Nat.zero_le _, Nat.zero_le _⟩) (fun H locs hP hS => ?_)
    refine lv_iconst (v := 1) hx hb dL_track_221 (by decide) ?_
    refine lv_icmp_ne (tgt := 229) hx hb dL_track_222 (by decide) (fun hc48 => ?_) (fun hc48 => ?_)
    · have h := z_in hc48 h
      cases h
    · have h := z_ip hc48 h
      refine lv_iconst (v := 1) hx hb dL_track_225 (by decide) ?_
      refine lv_goto (tgt := 230) hx hb dL_track_226 (by decide) ?_
      refine lv_istore (lv' := [(6, .int (1)), (0, .ref (G.2.1 (90))), (1, .int (x1)), (2, .int (x2)), (3, .int (x3))]) hx hb dL_track_230 hl (by decide) rfl (fun ls hl => ?_)
      refine lv_iload_n hx hb dL_track_232 rfl (lv_at hl 4 rfl) ?_
      refine lv_istore (lv' := [(7, .int (x3)), (6, .int (1)), (0, .ref (G.2.1 (90))), (1, .int (x1)), (2, .int (x2)), (3, .int (x3))]) hx hb dL_track_233 hl (by decide) rfl (fun ls hl => ?_)
      refine lv_iconst (v := 1) hx hb dL_track_235 (by decide) ?_
      refine lv_istore (lv' := [(8, .int (1)), (7, .int (x3)), (6, .int (1)), (0, .ref (G.2.1 (90))), (1, .int (x1)), (2, .int (x2)), (3, .int (x3))]) hx hb dL_track_236 hl (by decide) rfl (fun ls hl => ?_)
      exact L_L_track_b238 C hr hlk Z z_F _ _ _ _ h _ _ hP hS ls (lv_sub hl [3, 4, 2, 1, 0] rfl)
set_option maxHeartbeats 8000000 in
set_option maxRecDepth 100000 in
theorem L_L_track_b184 {p : Program} {l : Launch} {e : Env} {s : State} {m : MethodId} {args : Array Value} {below : List Frame} {meth : Method} {c : Code} {G : zG} {r : Int32} {mu1 : Mm}  (C : CallFix p m c cL_track 10 s args wsL_track RL) (hr : meth.sig.returnType = (some .boolean)) (hlk : meth.locks = false) (Z : z_Z G (z_A G s.heap.size) s)  :
    ∀ (x1 : Int32) (x2 : Int32) (x3 : Int32) (x4 : Int32) (y0 : Int32) (y1 : Int32) (μ : Mm), f_L_track_b184  x1 x2 x3 x4 y0 y1 μ = some (r, mu1) → ∀ (H : Heap) (locs : List Loc), z_P G μ H → va_S (z_A G s.heap.size) s.heap H locs → ∀ ls : Array Slot, lv_has ls 10 [(0, .ref (G.2.1 (90))), (1, .int (x1)), (2, .int (x2)), (3, .int (x3)), (4, .int (x4))] → W p l e rm_L_track s m args below meth c H locs 0 0 (MQ below (z_Qi G r mu1 s.heap.size) args s 0 0 (z_A G s.heap.size)) (F0 m 184 ls [.int (y0), .int (y1)]) := by
  have hx := C.1
  have hb := C.2.1
  have hts := C.2.2.2.2
  intro x1 x2 x3 x4 y0 y1 μ h H locs hP hS ls hl
  unfold f_L_track_b184 at h
  refine lv_icmp_ne (tgt := 229) hx hb dL_track_184 (by decide) (fun hc39 => ?_) (fun hc39 => ?_)
  · have h := z_in hc39 h
    cases h
  · have h := z_ip hc39 h
    refine lv_iload hx hb dL_track_187 (lv_at hl 4 rfl) ?_
    refine lv_if_lt (tgt := 202) hx hb dL_track_189 (by decide) (fun hc40 => ?_) (fun hc40 => ?_)
    · have h := z_ip hc40 h
      exact L_L_track_b202 C hr hlk Z _ _ _ _ h _ _ hP hS ls (lv_sub hl [0, 1, 2, 3] rfl)
    · have h := z_in hc40 h
      refine lv_iload hx hb dL_track_192 (lv_at hl 4 rfl) ?_
      refine lv_iconst (v := 4) hx hb dL_track_194 (by decide) ?_
      refine lv_idiv hx hb dL_track_195 (by decide) ?_
      refine lv_iload_n hx hb dL_track_196 rfl (lv_at hl 1 rfl) ?_
      refine lv_iconst (v := 4) hx hb dL_track_197 (by decide) ?_
      refine lv_idiv hx hb dL_track_198 (by decide) ?_
      refine lv_icmp_eq (tgt := 229) hx hb dL_track_199 (by decide) (fun hc60 => ?_) (fun hc60 => ?_)
      · have h := z_ip hc60 h
        cases h
      · have h := z_in hc60 h
        exact L_L_track_b202 C hr hlk Z _ _ _ _ h _ _ hP hS ls (lv_sub hl [0, 1, 2, 3] rfl)
set_option maxHeartbeats 8000000 in
set_option maxRecDepth 100000 in
theorem L_L_track_b13 {p : Program} {l : Launch} {e : Env} {s : State} {m : MethodId} {args : Array Value} {below : List Frame} {meth : Method} {c : Code} {G : zG} {r : Int32} {mu1 : Mm}  (C : CallFix p m c cL_track 10 s args wsL_track RL) (hr : meth.sig.returnType = (some .boolean)) (hlk : meth.locks = false) (Z : z_Z G (z_A G s.heap.size) s)  :
    ∀ (n : Nat) (x1 : Int32) (x3 : Int32) (μ : Mm), f_L_track_b13  n x1 x3 μ = some (r, mu1) → ∀ (H : Heap) (locs : List Loc), z_P G μ H → va_S (z_A G s.heap.size) s.heap H locs → ∀ ls : Array Slot, lv_has ls 10 [(0, .ref (G.2.1 (90))), (1, .int (x1)), (3, .int (x3))] → W p l e rm_L_track s m args below meth c H locs 0 0 (MQ below (z_Qi G r mu1 s.heap.size) args s 0 0 (z_A G s.heap.size)) (F0 m 13 ls []) := by
  have hx := C.1
  have hb := C.2.1
  have hts := C.2.2.2.2
  intro n
  induction n with
  | zero =>
    intro x1 x3 μ h
    rw [f_L_track_b13] at h
    cases h
  | succ n ih =>
    intro x1 x3 μ h H locs hP hS ls hl
    rw [f_L_track_b13] at h
    refine lv_iload_n hx hb dL_track_13 rfl (lv_at hl 2 rfl) ?_
    refine lv_bipush (v := 7) hx hb dL_track_14 (by decide) ?_
    refine lv_icmp_ge (tgt := 37) hx hb dL_track_16 (by decide) (fun hc62 => ?_) (fun hc62 => ?_)
    · have h := z_ip hc62 h
      refine lv_aload_n hx hb dL_track_37 rfl (lv_at hl 0 rfl) ?_
      refine lv_iload_n hx hb dL_track_38 rfl (lv_at hl 1 rfl) ?_
      refine lv_iconst (v := 1) hx hb dL_track_39 (by decide) ?_
      refine lv_iconst (v := 0) hx hb dL_track_40 (by decide) ?_
      obtain ⟨r63, m64, e65, h⟩ := zb_some h
      refine z_calli hS (vx_runSW (As := [.ref (G.2.1 (90)), .int (x1), .int (1), .int (0)]) (rest := []) C (c_L_chain l G e65 _) (vx_cwSW 4 hts gL_track_L_chain rfl rfl rfl hd_L_chain ⟨Nat.le_of_ble_eq_true rfl, Nat.le_of_ble_eq_true rfl⟩) (z_preS Z hS hP) rfl rfl hl.1 rfl (lv_room (Nat.le_of_ble_eq_true rfl)) dL_track_41 ⟨Nat.zero_le _, Nat.zero_le _⟩) (fun H locs hP hS => ?_)
      refine lv_iconst (v := (-1)) hx hb dL_track_44 (by decide) ?_
      refine lv_icmp_ne (tgt := 73) hx hb dL_track_45 (by decide) (fun hc66 => ?_) (fun hc66 => ?_)
      · have h := z_in hc66 h
        cases h
      · have h := z_ip hc66 h
        refine lv_aload_n hx hb dL_track_48 rfl (lv_at hl 0 rfl) ?_
        refine lv_iload_n hx hb dL_track_49 rfl (lv_at hl 1 rfl) ?_
        refine lv_iconst (v := 5) hx hb dL_track_50 (by decide) ?_
        refine lv_iconst (v := 1) hx hb dL_track_51 (by decide) ?_
        obtain ⟨r67, m68, e69, h⟩ := zb_some h
        refine z_calli hS (vx_runSW (As := [.ref (G.2.1 (90)), .int (x1), .int (5), .int (1)]) (rest := []) C (c_L_chain l G e69 _) (vx_cwSW 4 hts gL_track_L_chain rfl rfl rfl hd_L_chain ⟨Nat.le_of_ble_eq_true rfl, Nat.le_of_ble_eq_true rfl⟩) (z_preS Z hS hP) rfl rfl hl.1 rfl (lv_room (Nat.le_of_ble_eq_true rfl)) dL_track_52 ⟨Nat.zero_le _, Nat.zero_le _⟩) (fun H locs hP hS => ?_)
        refine lv_iconst (v := (-1)) hx hb dL_track_55 (by decide) ?_
        refine lv_icmp_ne (tgt := 73) hx hb dL_track_56 (by decide) (fun hc70 => ?_) (fun hc70 => ?_)
        · have h := z_in hc70 h
          cases h
        · have h := z_ip hc70 h
          refine lv_aload_n hx hb dL_track_59 rfl (lv_at hl 0 rfl) ?_
          refine lv_iload_n hx hb dL_track_60 rfl (lv_at hl 1 rfl) ?_
          refine lv_iconst (v := 1) hx hb dL_track_61 (by decide) ?_
          obtain ⟨r71, m72, e73, h⟩ := zb_some h
          refine z_calli hS (vx_runSW (As := [.ref (G.2.1 (90)), .int (x1), .int (1)]) (rest := []) C (c_L_whyNot l G e73 _) (vx_cwSW 3 hts gL_track_L_whyNot rfl rfl rfl hd_L_whyNot ⟨Nat.le_of_ble_eq_true rfl, Nat.le_of_ble_eq_true rfl⟩) (z_preS Z hS hP) rfl rfl hl.1 rfl (lv_room (Nat.le_of_ble_eq_true rfl)) dL_track_62 ⟨Nat.zero_le _, Nat.zero_le _⟩) (fun H locs hP hS => ?_)
          refine lv_iconst (v := 1) hx hb dL_track_65 (by decide) ?_
          refine lv_icmp_eq (tgt := 73) hx hb dL_track_66 (by decide) (fun hc74 => ?_) (fun hc74 => ?_)
          · have h := z_ip hc74 h
            cases h
          · have h := z_in hc74 h
            refine lv_iconst (v := 1) hx hb dL_track_69 (by decide) ?_
            refine lv_goto (tgt := 74) hx hb dL_track_70 (by decide) ?_
            cases h
            exact z_retz C hr hlk rfl hP hS dL_track_74
    · have h := z_in hc62 h
      refine lv_aload_n hx hb dL_track_19 rfl (lv_at hl 0 rfl) ?_
      refine lv_iload_n hx hb dL_track_20 rfl (lv_at hl 1 rfl) ?_
      refine lv_iload_n hx hb dL_track_21 rfl (lv_at hl 2 rfl) ?_
      obtain ⟨r75, m76, e77, h⟩ := zb_some h
      refine z_calli hS (vx_runSW (As := [.ref (G.2.1 (90)), .int (x1), .int (x3)]) (rest := []) C (c_L_trackOf l G e77 _) (vx_cwSW 3 hts gL_track_L_trackOf rfl rfl rfl hd_L_trackOf ⟨Nat.le_of_ble_eq_true rfl, Nat.le_of_ble_eq_true rfl⟩) (z_preS Z hS hP) rfl rfl hl.1 rfl (lv_room (Nat.le_of_ble_eq_true rfl)) dL_track_22 ⟨Nat.zero_le _, Nat.zero_le _⟩) (fun H locs hP hS => ?_)
      refine lv_iconst (v := (-1)) hx hb dL_track_25 (by decide) ?_
      refine lv_icmp_eq (tgt := 31) hx hb dL_track_26 (by decide) (fun hc78 => ?_) (fun hc78 => ?_)
      · have h := z_ip hc78 h
        refine lv_iinc (v := (x3 + 1)) (lv' := [(3, .int ((x3 + 1))), (0, .ref (G.2.1 (90))), (1, .int (x1))]) hx hb dL_track_31 hl (k := 2) rfl rfl (by decide) rfl (fun ls hl => ?_)
        refine lv_goto (tgt := 13) hx hb dL_track_34 (by decide) ?_
        exact ih _ _ _ h _ _ hP hS ls (lv_sub hl [1, 2, 0] rfl)
      · have h := z_in hc78 h
        cases h
set_option maxHeartbeats 4000000 in
set_option maxRecDepth 100000 in
theorem c_L_track (l : Launch) (G : zG) {x1 : Int32} {μ mu1 : Mm} {r : Int32} (h : f_L_track x1 μ = some (r, mu1)) (sz : Nat) : Met l yL_track wsL_track rm_L_track (z_Pre G μ [.ref (G.2.1 (90)), .int (x1)] sz) (z_Qi G r mu1 sz) 0 0 (z_A G sz) := by
  refine z_start (cc := cL_track) (maxL := 10) (ret := (some .boolean)) (own := RL) (by decide) rfl rfl (Nat.le_of_ble_eq_true rfl) (fun p e s m args below meth c C hr hlk Z hP ls hl => ?_) sz
  have hx := C.1
  have hb := C.2.1
  have hts := C.2.2.2.2
  have hS : va_S (z_A G s.heap.size) s.heap s.heap [] := va_S.rf
  have hl : lv_has ls 10 [(0, .ref (G.2.1 (90))), (1, .int (x1))] := hl
  unfold f_L_track at h
  refine lv_aload_n hx hb dL_track_0 rfl (lv_at hl 0 rfl) ?_
  refine lv_iload_n hx hb dL_track_1 rfl (lv_at hl 1 rfl) ?_
  refine lv_iconst (v := 0) hx hb dL_track_2 (by decide) ?_
  obtain ⟨r1, m2, e3, h⟩ := zb_some h
  refine z_calli hS (vx_runSW (As := [.ref (G.2.1 (90)), .int (x1), .int (0)]) (rest := []) C (c_L_trackOf l G e3 _) (vx_cwSW 3 hts gL_track_L_trackOf rfl rfl rfl hd_L_trackOf ⟨Nat.le_of_ble_eq_true rfl, Nat.le_of_ble_eq_true rfl⟩) (z_preS Z hS hP) rfl rfl hl.1 rfl (lv_room (Nat.le_of_ble_eq_true rfl)) dL_track_3 ⟨Nat.zero_le _, Nat.zero_le _⟩) (fun H locs hP hS => ?_)
  refine lv_istore_n (lv' := [(2, .int (r1)), (0, .ref (G.2.1 (90))), (1, .int (x1))]) hx hb dL_track_6 rfl hl (by decide) rfl (fun ls hl => ?_)
  refine lv_iload_n hx hb dL_track_7 rfl (lv_at hl 0 rfl) ?_
  refine lv_if_ne (tgt := 75) hx hb dL_track_8 (by decide) (fun hc4 => ?_) (fun hc4 => ?_)
  · have h := z_in hc4 h
    refine lv_aload_n hx hb dL_track_75 rfl (lv_at hl 1 rfl) ?_
    refine lv_iload_n hx hb dL_track_76 rfl (lv_at hl 2 rfl) ?_
    refine lv_iconst (v := 1) hx hb dL_track_77 (by decide) ?_
    obtain ⟨r5, m6, e7, h⟩ := zb_some h
    refine z_calli hS (vx_runSW (As := [.ref (G.2.1 (90)), .int (x1), .int (1)]) (rest := []) C (c_L_trackOf l G e7 _) (vx_cwSW 3 hts gL_track_L_trackOf rfl rfl rfl hd_L_trackOf ⟨Nat.le_of_ble_eq_true rfl, Nat.le_of_ble_eq_true rfl⟩) (z_preS Z hS hP) rfl rfl hl.1 rfl (lv_room (Nat.le_of_ble_eq_true rfl)) dL_track_78 ⟨Nat.zero_le _, Nat.zero_le _⟩) (fun H locs hP hS => ?_)
    refine lv_istore_n (lv' := [(3, .int (r5)), (2, .int (r1)), (0, .ref (G.2.1 (90))), (1, .int (x1))]) hx hb dL_track_81 rfl hl (by decide) rfl (fun ls hl => ?_)
    refine lv_aload_n hx hb dL_track_82 rfl (lv_at hl 2 rfl) ?_
    refine lv_iload_n hx hb dL_track_83 rfl (lv_at hl 3 rfl) ?_
    refine lv_iconst (v := 4) hx hb dL_track_84 (by decide) ?_
    obtain ⟨r8, m9, e10, h⟩ := zb_some h
    refine z_calli hS (vx_runSW (As := [.ref (G.2.1 (90)), .int (x1), .int (4)]) (rest := []) C (c_L_trackOf l G e10 _) (vx_cwSW 3 hts gL_track_L_trackOf rfl rfl rfl hd_L_trackOf ⟨Nat.le_of_ble_eq_true rfl, Nat.le_of_ble_eq_true rfl⟩) (z_preS Z hS hP) rfl rfl hl.1 rfl (lv_room (Nat.le_of_ble_eq_true rfl)) dL_track_85 ⟨Nat.zero_le _, Nat.zero_le _⟩) (fun H locs hP hS => ?_)
    refine lv_istore (lv' := [(4, .int (r8)), (3, .int (r5)), (2, .int (r1)), (0, .ref (G.2.1 (90))), (1, .int (x1))]) hx hb dL_track_88 hl (by decide) rfl (fun ls hl => ?_)
    refine lv_aload_n hx hb dL_track_90 rfl (lv_at hl 3 rfl) ?_
    refine lv_iload_n hx hb dL_track_91 rfl (lv_at hl 4 rfl) ?_
    refine lv_iconst (v := 3) hx hb dL_track_92 (by decide) ?_
    obtain ⟨r11, m12, e13, h⟩ := zb_some h
    refine z_calli hS (vx_runSW (As := [.ref (G.2.1 (90)), .int (x1), .int (3)]) (rest := []) C (c_L_trackOf l G e13 _) (vx_cwSW 3 hts gL_track_L_trackOf rfl rfl rfl hd_L_trackOf ⟨Nat.le_of_ble_eq_true rfl, Nat.le_of_ble_eq_true rfl⟩) (z_preS Z hS hP) rfl rfl hl.1 rfl (lv_room (Nat.le_of_ble_eq_true rfl)) dL_track_93 ⟨Nat.zero_le _, Nat.zero_le _⟩) (fun H locs hP hS => ?_)
    refine lv_istore (lv' := [(5, .int (r11)), (4, .int (r8)), (3, .int (r5)), (2, .int (r1)), (0, .ref (G.2.1 (90))), (1, .int (x1))]) hx hb dL_track_96 hl (by decide) rfl (fun ls hl => ?_)
    refine lv_iload_n hx hb dL_track_98 rfl (lv_at hl 3 rfl) ?_
    refine lv_if_le (tgt := 229) hx hb dL_track_99 (by decide) (fun hc14 => ?_) (fun hc14 => ?_)
    · have h := z_ip hc14 h
      cases h
    · have h := z_in hc14 h
      refine lv_iload_n hx hb dL_track_102 rfl (lv_at hl 3 rfl) ?_
      refine lv_bipush (v := 10) hx hb dL_track_103 (by decide) ?_
      refine lv_icmp_ge (tgt := 229) hx hb dL_track_105 (by decide) (fun hc15 => ?_) (fun hc15 => ?_)
      · have h := z_ip hc15 h
        cases h
      · have h := z_in hc15 h
        refine lv_iload_n hx hb dL_track_108 rfl (lv_at hl 2 rfl) ?_
        refine lv_if_lt (tgt := 229) hx hb dL_track_109 (by decide) (fun hc16 => ?_) (fun hc16 => ?_)
        · have h := z_ip hc16 h
          cases h
        · have h := z_in hc16 h
          refine lv_iload_n hx hb dL_track_112 rfl (lv_at hl 2 rfl) ?_
          refine lv_aload_n hx hb dL_track_113 rfl (lv_at hl 4 rfl) ?_
          refine lv_iload_n hx hb dL_track_114 rfl (lv_at hl 5 rfl) ?_
          refine lv_iconst (v := 5) hx hb dL_track_115 (by decide) ?_
          obtain ⟨r17, m18, e19, h⟩ := zb_some h
          refine z_calli hS (vx_runSW (As := [.ref (G.2.1 (90)), .int (x1), .int (5)]) (rest := [.int (r5)]) C (c_L_trackOf l G e19 _) (vx_cwSW 3 hts gL_track_L_trackOf rfl rfl rfl hd_L_trackOf ⟨Nat.le_of_ble_eq_true rfl, Nat.le_of_ble_eq_true rfl⟩) (z_preS Z hS hP) rfl rfl hl.1 rfl (lv_room (Nat.le_of_ble_eq_true rfl)) dL_track_116 ⟨Nat.zero_le _, Nat.zero_le _⟩) (fun H locs hP hS => ?_)
          refine lv_icmp_gt (tgt := 229) hx hb dL_track_119 (by decide) (fun hc20 => ?_) (fun hc20 => ?_)
          · have h := z_ip hc20 h
            cases h
          · have h := z_in hc20 h
            refine lv_aload_n hx hb dL_track_122 rfl (lv_at hl 4 rfl) ?_
            refine lv_iload_n hx hb dL_track_123 rfl (lv_at hl 5 rfl) ?_
            refine lv_iconst (v := 5) hx hb dL_track_124 (by decide) ?_
            obtain ⟨r21, m22, e23, h⟩ := zb_some h
            refine z_calli hS (vx_runSW (As := [.ref (G.2.1 (90)), .int (x1), .int (5)]) (rest := []) C (c_L_trackOf l G e23 _) (vx_cwSW 3 hts gL_track_L_trackOf rfl rfl rfl hd_L_trackOf ⟨Nat.le_of_ble_eq_true rfl, Nat.le_of_ble_eq_true rfl⟩) (z_preS Z hS hP) rfl rfl hl.1 rfl (lv_room (Nat.le_of_ble_eq_true rfl)) dL_track_125 ⟨Nat.zero_le _, Nat.zero_le _⟩) (fun H locs hP hS => ?_)
            refine lv_bipush (v := 100) hx hb dL_track_128 (by decide) ?_
            refine lv_icmp_gt (tgt := 229) hx hb dL_track_130 (by decide) (fun hc24 => ?_) (fun hc24 => ?_)
            · have h := z_ip hc24 h
              cases h
            · have h := z_in hc24 h
              refine lv_aload_n hx hb dL_track_133 rfl (lv_at hl 4 rfl) ?_
              refine lv_iload_n hx hb dL_track_134 rfl (lv_at hl 5 rfl) ?_
              refine lv_iconst (v := 2) hx hb dL_track_135 (by decide) ?_
              obtain ⟨r25, m26, e27, h⟩ := zb_some h
              refine z_calli hS (vx_runSW (As := [.ref (G.2.1 (90)), .int (x1), .int (2)]) (rest := []) C (c_L_trackOf l G e27 _) (vx_cwSW 3 hts gL_track_L_trackOf rfl rfl rfl hd_L_trackOf ⟨Nat.le_of_ble_eq_true rfl, Nat.le_of_ble_eq_true rfl⟩) (z_preS Z hS hP) rfl rfl hl.1 rfl (lv_room (Nat.le_of_ble_eq_true rfl)) dL_track_136 ⟨Nat.zero_le _, Nat.zero_le _⟩) (fun H locs hP hS => ?_)
              refine lv_if_lt (tgt := 229) hx hb dL_track_139 (by decide) (fun hc28 => ?_) (fun hc28 => ?_)
              · have h := z_ip hc28 h
                cases h
              · have h := z_in hc28 h
                refine lv_aload_n hx hb dL_track_142 rfl (lv_at hl 4 rfl) ?_
                refine lv_iload_n hx hb dL_track_143 rfl (lv_at hl 5 rfl) ?_
                refine lv_iconst (v := 2) hx hb dL_track_144 (by decide) ?_
                obtain ⟨r29, m30, e31, h⟩ := zb_some h
                refine z_calli hS (vx_runSW (As := [.ref (G.2.1 (90)), .int (x1), .int (2)]) (rest := []) C (c_L_trackOf l G e31 _) (vx_cwSW 3 hts gL_track_L_trackOf rfl rfl rfl hd_L_trackOf ⟨Nat.le_of_ble_eq_true rfl, Nat.le_of_ble_eq_true rfl⟩) (z_preS Z hS hP) rfl rfl hl.1 rfl (lv_room (Nat.le_of_ble_eq_true rfl)) dL_track_145 ⟨Nat.zero_le _, Nat.zero_le _⟩) (fun H locs hP hS => ?_)
                refine lv_bipush (v := 20) hx hb dL_track_148 (by decide) ?_
                refine lv_icmp_gt (tgt := 229) hx hb dL_track_150 (by decide) (fun hc32 => ?_) (fun hc32 => ?_)
                · have h := z_ip hc32 h
                  cases h
                · have h := z_in hc32 h
                  refine lv_aload_n hx hb dL_track_153 rfl (lv_at hl 4 rfl) ?_
                  refine lv_iload_n hx hb dL_track_154 rfl (lv_at hl 5 rfl) ?_
                  refine lv_bipush (v := 6) hx hb dL_track_155 (by decide) ?_
                  obtain ⟨r33, m34, e35, h⟩ := zb_some h
                  refine z_calli hS (vx_runSW (As := [.ref (G.2.1 (90)), .int (x1), .int (6)]) (rest := []) C (c_L_trackOf l G e35 _) (vx_cwSW 3 hts gL_track_L_trackOf rfl rfl rfl hd_L_trackOf ⟨Nat.le_of_ble_eq_true rfl, Nat.le_of_ble_eq_true rfl⟩) (z_preS Z hS hP) rfl rfl hl.1 rfl (lv_room (Nat.le_of_ble_eq_true rfl)) dL_track_157 ⟨Nat.zero_le _, Nat.zero_le _⟩) (fun H locs hP hS => ?_)
                  refine lv_if_lt (tgt := 229) hx hb dL_track_160 (by decide) (fun hc36 => ?_) (fun hc36 => ?_)
                  · have h := z_ip hc36 h
                    cases h
                  · have h := z_in hc36 h
                    refine lv_iload hx hb dL_track_163 (lv_at hl 0 rfl) ?_
                    refine lv_if_ne (tgt := 172) hx hb dL_track_165 (by decide) (fun hc37 => ?_) (fun hc37 => ?_)
                    · have h := z_in hc37 h
                      refine lv_iconst (v := 0) hx hb dL_track_172 (by decide) ?_
                      refine lv_iload hx hb dL_track_173 (lv_at hl 1 rfl) ?_
                      refine lv_iconst (v := (-1)) hx hb dL_track_175 (by decide) ?_
                      refine lv_icmp_ne (tgt := 183) hx hb dL_track_176 (by decide) (fun hc38 => ?_) (fun hc38 => ?_)
                      · have h := z_in hc38 h
                        refine lv_iconst (v := 0) hx hb dL_track_183 (by decide) ?_
                        exact L_L_track_b184 C hr hlk Z _ _ _ _ _ _ _ h _ _ hP hS ls (lv_sub hl [4, 5, 3, 2, 1] rfl)
                      · have h := z_ip hc38 h
                        refine lv_iconst (v := 1) hx hb dL_track_179 (by decide) ?_
                        refine lv_goto (tgt := 184) hx hb dL_track_180 (by decide) ?_
                        exact L_L_track_b184 C hr hlk Z _ _ _ _ _ _ _ h _ _ hP hS ls (lv_sub hl [4, 5, 3, 2, 1] rfl)
                    · have h := z_ip hc37 h
                      refine lv_iconst (v := 1) hx hb dL_track_168 (by decide) ?_
                      refine lv_goto (tgt := 173) hx hb dL_track_169 (by decide) ?_
                      refine lv_iload hx hb dL_track_173 (lv_at hl 1 rfl) ?_
                      refine lv_iconst (v := (-1)) hx hb dL_track_175 (by decide) ?_
                      refine lv_icmp_ne (tgt := 183) hx hb dL_track_176 (by decide) (fun hc61 => ?_) (fun hc61 => ?_)
                      · have h := z_in hc61 h
                        refine lv_iconst (v := 0) hx hb dL_track_183 (by decide) ?_
                        exact L_L_track_b184 C hr hlk Z _ _ _ _ _ _ _ h _ _ hP hS ls (lv_sub hl [4, 5, 3, 2, 1] rfl)
                      · have h := z_ip hc61 h
                        refine lv_iconst (v := 1) hx hb dL_track_179 (by decide) ?_
                        refine lv_goto (tgt := 184) hx hb dL_track_180 (by decide) ?_
                        exact L_L_track_b184 C hr hlk Z _ _ _ _ _ _ _ h _ _ hP hS ls (lv_sub hl [4, 5, 3, 2, 1] rfl)
  · have h := z_ip hc4 h
    refine lv_iconst (v := 1) hx hb dL_track_11 (by decide) ?_
    refine lv_istore_n (lv' := [(3, .int (1)), (2, .int (r1)), (0, .ref (G.2.1 (90))), (1, .int (x1))]) hx hb dL_track_12 rfl hl (by decide) rfl (fun ls hl => ?_)
    exact L_L_track_b13 C hr hlk Z z_F _ _ _ h _ _ hP hS ls (lv_sub hl [2, 3, 0] rfl)
abbrev rm_L_print : Room := { frames := 6, cells := 0, slots := 0, locals := 131 }
theorem hd_L_print : yL_print.cls ≠ "java/lang/invoke/MethodHandle" ∧ yL_print.cls ≠ "java/lang/invoke/VarHandle" ∧ (parseMethodDescriptor yL_print.desc).map (fun d => d.parameters.length) = some 1 := by decide +kernel
theorem hv_L_print : yL_print.cls = RL ∧ yL_print.cls ≠ "java/lang/invoke/MethodHandle" ∧ yL_print.cls ≠ "java/lang/invoke/VarHandle" ∧ (parseMethodDescriptor yL_print.desc).map (fun d => d.parameters.length) = some 1 := ⟨rfl, hd_L_print⟩
theorem wL_print_0 : Cond.constantLong RL 122 (31) ∈ wsL_print := by decide +kernel
theorem wL_print_1 : Cond.constantLong RL 124 (100) ∈ wsL_print := by decide +kernel
set_option maxHeartbeats 8000000 in
set_option maxRecDepth 100000 in
theorem L_L_print_b70 {p : Program} {l : Launch} {e : Env} {s : State} {m : MethodId} {args : Array Value} {below : List Frame} {meth : Method} {c : Code} {G : zG} {r : Int64} {mu1 : Mm}  (C : CallFix p m c cL_print 4 s args wsL_print RL) (hr : meth.sig.returnType = (some .long)) (hlk : meth.locks = false) (Z : z_Z G (z_A G s.heap.size) s)  :
    ∀ (n : Nat) (x1 : Int64) (x3 : Int32) (μ : Mm), f_L_print_b70  n x1 x3 μ = some (r, mu1) → ∀ (H : Heap) (locs : List Loc), z_P G μ H → va_S (z_A G s.heap.size) s.heap H locs → ∀ ls : Array Slot, lv_has ls 4 [(0, .ref (G.2.1 (90))), (1, .long (x1)), (3, .int (x3))] → W p l e rm_L_print s m args below meth c H locs 0 0 (MQ below (z_Ql G r mu1 s.heap.size) args s 0 0 (z_A G s.heap.size)) (F0 m 70 ls []) := by
  have hx := C.1
  have hb := C.2.1
  have hts := C.2.2.2.2
  intro n
  induction n with
  | zero =>
    intro x1 x3 μ h
    rw [f_L_print_b70] at h
    cases h
  | succ n ih =>
    intro x1 x3 μ h H locs hP hS ls hl
    rw [f_L_print_b70] at h
    refine lv_iload_n hx hb dL_print_70 rfl (lv_at hl 2 rfl) ?_
    refine lv_bipush (v := 6) hx hb dL_print_71 (by decide) ?_
    refine lv_icmp_ge (tgt := 108) hx hb dL_print_73 (by decide) (fun hc6 => ?_) (fun hc6 => ?_)
    · have h := z_ip hc6 h
      refine lv_lload_n hx hb dL_print_108 rfl (lv_at hl 1 rfl) ?_
      cases h
      exact z_retl C hr hlk hP hS dL_print_109
    · have h := z_in hc6 h
      refine lv_ldc2 hx hb C.2.2.2.1 (C.2.2.2.2 _ wL_print_0) dL_print_76 ?_
      refine lv_lload_n hx hb dL_print_79 rfl (lv_at hl 1 rfl) ?_
      refine lv_lmul hx hb dL_print_80 ?_
      refine lv_ldc2 hx hb C.2.2.2.1 (C.2.2.2.2 _ wL_print_1) dL_print_81 ?_
      refine lv_aload_n hx hb dL_print_84 rfl (lv_at hl 0 rfl) ?_
      refine lv_iload_n hx hb dL_print_85 rfl (lv_at hl 2 rfl) ?_
      refine lv_iconst (v := 0) hx hb dL_print_86 (by decide) ?_
      obtain ⟨r7, m8, e9, h⟩ := zb_some h
      refine z_calli hS (vx_runSW (As := [.ref (G.2.1 (90)), .int (x3), .int (0)]) (rest := [.long ((100 : Int64)), .long (((31 : Int64) * x1))]) C (c_L_cylinderOf l G e9 _) (vx_cwSW 3 hts gL_print_L_cylinderOf rfl rfl rfl hd_L_cylinderOf ⟨Nat.le_of_ble_eq_true rfl, Nat.le_of_ble_eq_true rfl⟩) (z_preS Z hS hP) rfl rfl hl.1 rfl (lv_room (Nat.le_of_ble_eq_true rfl)) dL_print_87 ⟨Nat.zero_le _, Nat.zero_le _⟩) (fun H locs hP hS => ?_)
      refine lv_i2l (v := ((r7).toInt64)) hx hb dL_print_90 rfl ?_
      refine lv_lmul hx hb dL_print_91 ?_
      refine lv_ladd hx hb dL_print_92 ?_
      refine lv_aload_n hx hb dL_print_93 rfl (lv_at hl 0 rfl) ?_
      refine lv_iload_n hx hb dL_print_94 rfl (lv_at hl 2 rfl) ?_
      refine lv_iconst (v := 4) hx hb dL_print_95 (by decide) ?_
      obtain ⟨r10, m11, e12, h⟩ := zb_some h
      refine z_calli hS (vx_runSW (As := [.ref (G.2.1 (90)), .int (x3), .int (4)]) (rest := [.long ((((31 : Int64) * x1) + ((100 : Int64) * ((r7).toInt64))))]) C (c_L_cylinderOf l G e12 _) (vx_cwSW 3 hts gL_print_L_cylinderOf rfl rfl rfl hd_L_cylinderOf ⟨Nat.le_of_ble_eq_true rfl, Nat.le_of_ble_eq_true rfl⟩) (z_preS Z hS hP) rfl rfl hl.1 rfl (lv_room (Nat.le_of_ble_eq_true rfl)) dL_print_96 ⟨Nat.zero_le _, Nat.zero_le _⟩) (fun H locs hP hS => ?_)
      refine lv_i2l (v := ((r10).toInt64)) hx hb dL_print_99 rfl ?_
      refine lv_ladd hx hb dL_print_100 ?_
      refine lv_lstore_n (lv' := [(1, .long (((((31 : Int64) * x1) + ((100 : Int64) * ((r7).toInt64))) + ((r10).toInt64)))), (0, .ref (G.2.1 (90))), (3, .int (x3))]) hx hb dL_print_101 rfl hl (by decide) rfl (fun ls hl => ?_)
      refine lv_iinc (v := (x3 + 1)) (lv' := [(3, .int ((x3 + 1))), (1, .long (((((31 : Int64) * x1) + ((100 : Int64) * ((r7).toInt64))) + ((r10).toInt64)))), (0, .ref (G.2.1 (90)))]) hx hb dL_print_102 hl (k := 2) rfl rfl (by decide) rfl (fun ls hl => ?_)
      refine lv_goto (tgt := 70) hx hb dL_print_105 (by decide) ?_
      exact ih _ _ _ h _ _ hP hS ls (lv_sub hl [2, 1, 0] rfl)
set_option maxHeartbeats 8000000 in
set_option maxRecDepth 100000 in
theorem L_L_print_b35 {p : Program} {l : Launch} {e : Env} {s : State} {m : MethodId} {args : Array Value} {below : List Frame} {meth : Method} {c : Code} {G : zG} {r : Int64} {mu1 : Mm}  (C : CallFix p m c cL_print 4 s args wsL_print RL) (hr : meth.sig.returnType = (some .long)) (hlk : meth.locks = false) (Z : z_Z G (z_A G s.heap.size) s)  :
    ∀ (n : Nat) (x1 : Int64) (x3 : Int32) (μ : Mm), f_L_print_b35  n x1 x3 μ = some (r, mu1) → ∀ (H : Heap) (locs : List Loc), z_P G μ H → va_S (z_A G s.heap.size) s.heap H locs → ∀ ls : Array Slot, lv_has ls 4 [(0, .ref (G.2.1 (90))), (1, .long (x1)), (3, .int (x3))] → W p l e rm_L_print s m args below meth c H locs 0 0 (MQ below (z_Ql G r mu1 s.heap.size) args s 0 0 (z_A G s.heap.size)) (F0 m 35 ls []) := by
  have hx := C.1
  have hb := C.2.1
  have hts := C.2.2.2.2
  intro n
  induction n with
  | zero =>
    intro x1 x3 μ h
    rw [f_L_print_b35] at h
    cases h
  | succ n ih =>
    intro x1 x3 μ h H locs hP hS ls hl
    rw [f_L_print_b35] at h
    refine lv_iload_n hx hb dL_print_35 rfl (lv_at hl 2 rfl) ?_
    refine lv_sipush (v := 168) hx hb dL_print_36 (by decide) ?_
    refine lv_icmp_ge (tgt := 68) hx hb dL_print_39 (by decide) (fun hc5 => ?_) (fun hc5 => ?_)
    · have h := z_ip hc5 h
      refine lv_iconst (v := 0) hx hb dL_print_68 (by decide) ?_
      refine lv_istore_n (lv' := [(3, .int (0)), (0, .ref (G.2.1 (90))), (1, .long (x1))]) hx hb dL_print_69 rfl hl (by decide) rfl (fun ls hl => ?_)
      exact L_L_print_b70 C hr hlk Z z_F _ _ _ h _ _ hP hS ls (lv_sub hl [1, 2, 0] rfl)
    · have h := z_in hc5 h
      refine lv_ldc2 hx hb C.2.2.2.1 (C.2.2.2.2 _ wL_print_0) dL_print_42 ?_
      refine lv_lload_n hx hb dL_print_45 rfl (lv_at hl 1 rfl) ?_
      refine lv_lmul hx hb dL_print_46 ?_
      refine lv_aload_n hx hb dL_print_47 rfl (lv_at hl 0 rfl) ?_
      refine lv_iload_n hx hb dL_print_48 rfl (lv_at hl 2 rfl) ?_
      refine lv_bipush (v := 7) hx hb dL_print_49 (by decide) ?_
      refine lv_idiv hx hb dL_print_51 (by decide) ?_
      refine lv_iload_n hx hb dL_print_52 rfl (lv_at hl 2 rfl) ?_
      refine lv_bipush (v := 7) hx hb dL_print_53 (by decide) ?_
      refine lv_irem hx hb dL_print_55 (by decide) ?_
      obtain ⟨r13, m14, e15, h⟩ := zb_some h
      refine z_calli hS (vx_runSW (As := [.ref (G.2.1 (90)), .int ((x3 / 7)), .int ((x3 - x3 / 7 * 7))]) (rest := [.long (((31 : Int64) * x1))]) C (c_L_trackOf l G e15 _) (vx_cwSW 3 hts gL_print_L_trackOf rfl rfl rfl hd_L_trackOf ⟨Nat.le_of_ble_eq_true rfl, Nat.le_of_ble_eq_true rfl⟩) (z_preS Z hS hP) rfl rfl hl.1 rfl (lv_room (Nat.le_of_ble_eq_true rfl)) dL_print_56 ⟨Nat.zero_le _, Nat.zero_le _⟩) (fun H locs hP hS => ?_)
      refine lv_i2l (v := ((r13).toInt64)) hx hb dL_print_59 rfl ?_
      refine lv_ladd hx hb dL_print_60 ?_
      refine lv_lstore_n (lv' := [(1, .long ((((31 : Int64) * x1) + ((r13).toInt64)))), (0, .ref (G.2.1 (90))), (3, .int (x3))]) hx hb dL_print_61 rfl hl (by decide) rfl (fun ls hl => ?_)
      refine lv_iinc (v := (x3 + 1)) (lv' := [(3, .int ((x3 + 1))), (1, .long ((((31 : Int64) * x1) + ((r13).toInt64)))), (0, .ref (G.2.1 (90)))]) hx hb dL_print_62 hl (k := 2) rfl rfl (by decide) rfl (fun ls hl => ?_)
      refine lv_goto (tgt := 35) hx hb dL_print_65 (by decide) ?_
      exact ih _ _ _ h _ _ hP hS ls (lv_sub hl [2, 1, 0] rfl)
set_option maxHeartbeats 8000000 in
set_option maxRecDepth 100000 in
theorem L_L_print_b8 {p : Program} {l : Launch} {e : Env} {s : State} {m : MethodId} {args : Array Value} {below : List Frame} {meth : Method} {c : Code} {G : zG} {r : Int64} {mu1 : Mm}  (C : CallFix p m c cL_print 4 s args wsL_print RL) (hr : meth.sig.returnType = (some .long)) (hlk : meth.locks = false) (Z : z_Z G (z_A G s.heap.size) s)  :
    ∀ (n : Nat) (x1 : Int64) (x3 : Int32) (μ : Mm), f_L_print_b8  n x1 x3 μ = some (r, mu1) → ∀ (H : Heap) (locs : List Loc), z_P G μ H → va_S (z_A G s.heap.size) s.heap H locs → ∀ ls : Array Slot, lv_has ls 4 [(0, .ref (G.2.1 (90))), (1, .long (x1)), (3, .int (x3))] → W p l e rm_L_print s m args below meth c H locs 0 0 (MQ below (z_Ql G r mu1 s.heap.size) args s 0 0 (z_A G s.heap.size)) (F0 m 8 ls []) := by
  have hx := C.1
  have hb := C.2.1
  have hts := C.2.2.2.2
  intro n
  induction n with
  | zero =>
    intro x1 x3 μ h
    rw [f_L_print_b8] at h
    cases h
  | succ n ih =>
    intro x1 x3 μ h H locs hP hS ls hl
    rw [f_L_print_b8] at h
    refine lv_iload_n hx hb dL_print_8 rfl (lv_at hl 2 rfl) ?_
    refine lv_bipush (v := 12) hx hb dL_print_9 (by decide) ?_
    refine lv_icmp_ge (tgt := 33) hx hb dL_print_11 (by decide) (fun hc4 => ?_) (fun hc4 => ?_)
    · have h := z_ip hc4 h
      refine lv_iconst (v := 0) hx hb dL_print_33 (by decide) ?_
      refine lv_istore_n (lv' := [(3, .int (0)), (0, .ref (G.2.1 (90))), (1, .long (x1))]) hx hb dL_print_34 rfl hl (by decide) rfl (fun ls hl => ?_)
      exact L_L_print_b35 C hr hlk Z z_F _ _ _ h _ _ hP hS ls (lv_sub hl [1, 2, 0] rfl)
    · have h := z_in hc4 h
      refine lv_ldc2 hx hb C.2.2.2.1 (C.2.2.2.2 _ wL_print_0) dL_print_14 ?_
      refine lv_lload_n hx hb dL_print_17 rfl (lv_at hl 1 rfl) ?_
      refine lv_lmul hx hb dL_print_18 ?_
      refine lv_aload_n hx hb dL_print_19 rfl (lv_at hl 0 rfl) ?_
      refine lv_iload_n hx hb dL_print_20 rfl (lv_at hl 2 rfl) ?_
      obtain ⟨r16, m17, e18, h⟩ := zb_some h
      refine z_calli hS (vx_runSW (As := [.ref (G.2.1 (90)), .int (x3)]) (rest := [.long (((31 : Int64) * x1))]) C (c_L_count l G e18 _) (vx_cwSW 2 hts gL_print_L_count rfl rfl rfl hd_L_count ⟨Nat.le_of_ble_eq_true rfl, Nat.le_of_ble_eq_true rfl⟩) (z_preS Z hS hP) rfl rfl hl.1 rfl (lv_room (Nat.le_of_ble_eq_true rfl)) dL_print_21 ⟨Nat.zero_le _, Nat.zero_le _⟩) (fun H locs hP hS => ?_)
      refine lv_i2l (v := ((r16).toInt64)) hx hb dL_print_24 rfl ?_
      refine lv_ladd hx hb dL_print_25 ?_
      refine lv_lstore_n (lv' := [(1, .long ((((31 : Int64) * x1) + ((r16).toInt64)))), (0, .ref (G.2.1 (90))), (3, .int (x3))]) hx hb dL_print_26 rfl hl (by decide) rfl (fun ls hl => ?_)
      refine lv_iinc (v := (x3 + 1)) (lv' := [(3, .int ((x3 + 1))), (1, .long ((((31 : Int64) * x1) + ((r16).toInt64)))), (0, .ref (G.2.1 (90)))]) hx hb dL_print_27 hl (k := 2) rfl rfl (by decide) rfl (fun ls hl => ?_)
      refine lv_goto (tgt := 8) hx hb dL_print_30 (by decide) ?_
      exact ih _ _ _ h _ _ hP hS ls (lv_sub hl [2, 1, 0] rfl)
set_option maxHeartbeats 4000000 in
set_option maxRecDepth 100000 in
theorem c_L_print (l : Launch) (G : zG) {μ mu1 : Mm} {r : Int64} (h : f_L_print μ = some (r, mu1)) (sz : Nat) : Met l yL_print wsL_print rm_L_print (z_Pre G μ [.ref (G.2.1 (90))] sz) (z_Ql G r mu1 sz) 0 0 (z_A G sz) := by
  refine z_start (cc := cL_print) (maxL := 4) (ret := (some .long)) (own := RL) (by decide) rfl rfl (Nat.le_of_ble_eq_true rfl) (fun p e s m args below meth c C hr hlk Z hP ls hl => ?_) sz
  have hx := C.1
  have hb := C.2.1
  have hts := C.2.2.2.2
  have hS : va_S (z_A G s.heap.size) s.heap s.heap [] := va_S.rf
  have hl : lv_has ls 4 [(0, .ref (G.2.1 (90)))] := hl
  unfold f_L_print at h
  refine lv_aload_n hx hb dL_print_0 rfl (lv_at hl 0 rfl) ?_
  obtain ⟨r1, m2, e3, h⟩ := zb_some h
  refine z_calli hS (va_runV (As := []) (rest := []) C (c_X3_setting l G e3 _) (cwV 0 hts gL_print_X3_setting rfl rfl rfl hv_X3_setting ⟨Nat.le_of_ble_eq_true rfl, Nat.le_of_ble_eq_true rfl⟩) (z_preV Z hS hP (by decide) (z_E_90 _) rfl rfl) rfl rfl hl.1 rfl (lv_room (Nat.le_of_ble_eq_true rfl)) dL_print_1 ⟨Nat.zero_le _, Nat.zero_le _⟩) (fun H locs hP hS => ?_)
  refine lv_i2l (v := ((r1).toInt64)) hx hb dL_print_4 rfl ?_
  refine lv_lstore_n (lv' := [(1, .long (((r1).toInt64))), (0, .ref (G.2.1 (90)))]) hx hb dL_print_5 rfl hl (by decide) rfl (fun ls hl => ?_)
  refine lv_iconst (v := 0) hx hb dL_print_6 (by decide) ?_
  refine lv_istore_n (lv' := [(3, .int (0)), (1, .long (((r1).toInt64))), (0, .ref (G.2.1 (90)))]) hx hb dL_print_7 rfl hl (by decide) rfl (fun ls hl => ?_)
  exact L_L_print_b8 C hr hlk Z z_F _ _ _ h _ _ hP hS ls (lv_sub hl [2, 1, 0] rfl)
