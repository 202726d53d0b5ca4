abbrev rm_L_copies : Room := { frames := 7, cells := 0, slots := 0, locals := 154 }
theorem hd_L_copies : yL_copies.cls ≠ "java/lang/invoke/MethodHandle" ∧ yL_copies.cls ≠ "java/lang/invoke/VarHandle" ∧ (parseMethodDescriptor yL_copies.desc).map (fun d => d.parameters.length) = some 4 := by decide +kernel
theorem hv_L_copies : yL_copies.cls = RL ∧ yL_copies.cls ≠ "java/lang/invoke/MethodHandle" ∧ yL_copies.cls ≠ "java/lang/invoke/VarHandle" ∧ (parseMethodDescriptor yL_copies.desc).map (fun d => d.parameters.length) = some 4 := ⟨rfl, hd_L_copies⟩
set_option maxHeartbeats 8000000 in
set_option maxRecDepth 100000 in
theorem L_L_copies_b195 {p : Program} {l : Launch} {e : Env} {s : State} {m : MethodId} {args : Array Value} {below : List Frame} {meth : Method} {c : Code} {G : zG} {r : Int32} {mu1 : Mm}  (C : CallFix p m c cL_copies 12 s args wsL_copies RL) (hr : meth.sig.returnType = (some .boolean)) (hlk : meth.locks = false) (Z : z_Z G (z_A G s.heap.size) s)  :
    ∀ (x8 : Int64) (μ : Mm), f_L_copies_b195  x8 μ = some (r, mu1) → ∀ (H : Heap) (locs : List Loc), z_P G μ H → va_S (z_A G s.heap.size) s.heap H locs → ∀ ls : Array Slot, lv_has ls 12 [(0, .ref (G.2.1 (90))), (8, .long (x8)), (11, .int (1))] → W p l e rm_L_copies s m args below meth c H locs 0 0 (MQ below (z_Qi G r mu1 s.heap.size) args s 0 0 (z_A G s.heap.size)) (F0 m 195 ls []) := by
  have hx := C.1
  have hb := C.2.1
  have hts := C.2.2.2.2
  intro x8 μ h H locs hP hS ls hl
  unfold f_L_copies_b195 at h
  refine lv_iload hx hb dL_copies_195 (lv_at hl 2 rfl) ?_
  refine lv_if_eq (tgt := 221) hx hb dL_copies_197 (by decide) (fun hc => absurd hc (by decide)) (fun _ => ?_)
  refine lv_aload_n hx hb dL_copies_200 rfl (lv_at hl 0 rfl) ?_
  obtain ⟨r30, m31, e32, h⟩ := zb_some h
  refine z_calli hS (vx_runSW (As := [.ref (G.2.1 (90))]) (rest := []) C (c_L_undo l G e32 _) (vx_cwSW 1 hts gL_copies_L_undo rfl rfl rfl hd_L_undo ⟨Nat.le_of_ble_eq_true rfl, Nat.le_of_ble_eq_true rfl⟩) (z_preS Z hS hP) rfl rfl hl.1 rfl (lv_room (Nat.le_of_ble_eq_true rfl)) dL_copies_201 ⟨Nat.zero_le _, Nat.zero_le _⟩) (fun H locs hP hS => ?_)
  refine lv_if_lt (tgt := 221) hx hb dL_copies_204 (by decide) (fun hc33 => ?_) (fun hc33 => ?_)
  · have h := z_ip hc33 h
    cases h
  · have h := z_in hc33 h
    refine lv_aload_n hx hb dL_copies_207 rfl (lv_at hl 0 rfl) ?_
    obtain ⟨r34, m35, e36, h⟩ := zb_some h
    refine z_calll hS (va_runS (As := [.ref (G.2.1 (90))]) (rest := []) C (c_L_print l G e36 _) (va_cwS 1 hts gL_copies_L_print rfl rfl rfl hd_L_print ⟨Nat.le_of_ble_eq_true rfl, Nat.le_of_ble_eq_true rfl⟩) (z_preS Z hS hP) rfl rfl hl.1 rfl (lv_room (Nat.le_of_ble_eq_true rfl)) dL_copies_208 ⟨Nat.zero_le _, Nat.zero_le _⟩) (fun H locs hP hS => ?_)
    refine lv_lload hx hb dL_copies_211 (lv_at hl 1 rfl) ?_
    refine W.lcmp hx hb dL_copies_213 ?_
    refine lv_if_ne (tgt := 221) hx hb dL_copies_214 (by decide) (fun hc37 => ?_) (fun hc37 => ?_)
    · have h := z_in hc37 h
      cases h
    · have h := z_ip hc37 h
      refine lv_iconst (v := 1) hx hb dL_copies_217 (by decide) ?_
      refine lv_goto (tgt := 222) hx hb dL_copies_218 (by decide) ?_
      cases h
      exact z_retz C hr hlk rfl hP hS dL_copies_222
set_option maxHeartbeats 4000000 in
set_option maxRecDepth 100000 in
theorem c_L_copies (l : Launch) (G : zG) {x1 : Int32} {x2 : Int32} {x3 : Int32} {μ mu1 : Mm} {r : Int32} (h : f_L_copies x1 x2 x3 μ = some (r, mu1)) (sz : Nat) : Met l yL_copies wsL_copies rm_L_copies (z_Pre G μ [.ref (G.2.1 (90)), .int (x1), .int (x2), .int (x3)] sz) (z_Qi G r mu1 sz) 0 0 (z_A G sz) := by
  refine z_start (cc := cL_copies) (maxL := 12) (ret := (some .boolean)) (own := RL) (by decide) rfl rfl (Nat.le_of_ble_eq_true rfl) (fun p e s m args below meth c C hr hlk Z hP ls hl => ?_) sz
  have hx := C.1
  have hb := C.2.1
  have hts := C.2.2.2.2
  have hS : va_S (z_A G s.heap.size) s.heap s.heap [] := va_S.rf
  have hl : lv_has ls 12 [(0, .ref (G.2.1 (90))), (1, .int (x1)), (2, .int (x2)), (3, .int (x3))] := hl
  unfold f_L_copies at h
  refine lv_aload_n hx hb dL_copies_0 rfl (lv_at hl 0 rfl) ?_
  refine lv_iload_n hx hb dL_copies_1 rfl (lv_at hl 1 rfl) ?_
  refine lv_iload_n hx hb dL_copies_2 rfl (lv_at hl 2 rfl) ?_
  refine lv_iload_n hx hb dL_copies_3 rfl (lv_at hl 3 rfl) ?_
  obtain ⟨r1, m2, e3, h⟩ := zb_some h
  refine z_calli hS (vx_runSW (As := [.ref (G.2.1 (90)), .int (x1), .int (x2), .int (x3)]) (rest := []) C (c_L_ifCopied l G e3 _) (vx_cwSW 4 hts gL_copies_L_ifCopied rfl rfl rfl hd_L_ifCopied ⟨Nat.le_of_ble_eq_true rfl, Nat.le_of_ble_eq_true rfl⟩) (z_preS Z hS hP) rfl rfl hl.1 rfl (lv_room (Nat.le_of_ble_eq_true rfl)) dL_copies_4 ⟨Nat.zero_le _, Nat.zero_le _⟩) (fun H locs hP hS => ?_)
  refine lv_istore (lv' := [(4, .int (r1)), (0, .ref (G.2.1 (90))), (1, .int (x1)), (2, .int (x2)), (3, .int (x3))]) hx hb dL_copies_7 hl (by decide) rfl (fun ls hl => ?_)
  refine lv_aload_n hx hb dL_copies_9 rfl (lv_at hl 1 rfl) ?_
  refine lv_iload_n hx hb dL_copies_10 rfl (lv_at hl 2 rfl) ?_
  obtain ⟨r4, m5, e6, h⟩ := zb_some h
  refine z_calli hS (vx_runSW (As := [.ref (G.2.1 (90)), .int (x1)]) (rest := []) C (c_L_daughters l G e6 _) (vx_cwSW 2 hts gL_copies_L_daughters rfl rfl rfl hd_L_daughters ⟨Nat.le_of_ble_eq_true rfl, Nat.le_of_ble_eq_true rfl⟩) (z_preS Z hS hP) rfl rfl hl.1 rfl (lv_room (Nat.le_of_ble_eq_true rfl)) dL_copies_11 ⟨Nat.zero_le _, Nat.zero_le _⟩) (fun H locs hP hS => ?_)
  refine lv_istore (lv' := [(5, .int (r4)), (4, .int (r1)), (0, .ref (G.2.1 (90))), (1, .int (x1)), (2, .int (x2)), (3, .int (x3))]) hx hb dL_copies_14 hl (by decide) rfl (fun ls hl => ?_)
  refine lv_aload_n hx hb dL_copies_16 rfl (lv_at hl 2 rfl) ?_
  refine lv_bipush (v := 11) hx hb dL_copies_17 (by decide) ?_
  obtain ⟨r7, m8, e9, h⟩ := zb_some h
  refine z_calli hS (vx_runSW (As := [.ref (G.2.1 (90)), .int (11)]) (rest := []) C (c_L_count l G e9 _) (vx_cwSW 2 hts gL_copies_L_count rfl rfl rfl hd_L_count ⟨Nat.le_of_ble_eq_true rfl, Nat.le_of_ble_eq_true rfl⟩) (z_preS Z hS hP) rfl rfl hl.1 rfl (lv_room (Nat.le_of_ble_eq_true rfl)) dL_copies_19 ⟨Nat.zero_le _, Nat.zero_le _⟩) (fun H locs hP hS => ?_)
  refine lv_istore (lv' := [(6, .int (r7)), (5, .int (r4)), (4, .int (r1)), (0, .ref (G.2.1 (90))), (1, .int (x1)), (2, .int (x2)), (3, .int (x3))]) hx hb dL_copies_22 hl (by decide) rfl (fun ls hl => ?_)
  refine lv_aload_n hx hb dL_copies_24 rfl (lv_at hl 3 rfl) ?_
  refine lv_iconst (v := 5) hx hb dL_copies_25 (by decide) ?_
  obtain ⟨r10, m11, e12, h⟩ := zb_some h
  refine z_calli hS (vx_runSW (As := [.ref (G.2.1 (90)), .int (5)]) (rest := []) C (c_L_count l G e12 _) (vx_cwSW 2 hts gL_copies_L_count rfl rfl rfl hd_L_count ⟨Nat.le_of_ble_eq_true rfl, Nat.le_of_ble_eq_true rfl⟩) (z_preS Z hS hP) rfl rfl hl.1 rfl (lv_room (Nat.le_of_ble_eq_true rfl)) dL_copies_26 ⟨Nat.zero_le _, Nat.zero_le _⟩) (fun H locs hP hS => ?_)
  refine lv_istore (lv' := [(7, .int (r10)), (6, .int (r7)), (5, .int (r4)), (4, .int (r1)), (0, .ref (G.2.1 (90))), (1, .int (x1)), (2, .int (x2)), (3, .int (x3))]) hx hb dL_copies_29 hl (by decide) rfl (fun ls hl => ?_)
  refine lv_aload_n hx hb dL_copies_31 rfl (lv_at hl 4 rfl) ?_
  obtain ⟨r13, m14, e15, h⟩ := zb_some h
  refine z_calll hS (va_runS (As := [.ref (G.2.1 (90))]) (rest := []) C (c_L_print l G e15 _) (va_cwS 1 hts gL_copies_L_print rfl rfl rfl hd_L_print ⟨Nat.le_of_ble_eq_true rfl, Nat.le_of_ble_eq_true rfl⟩) (z_preS Z hS hP) rfl rfl hl.1 rfl (lv_room (Nat.le_of_ble_eq_true rfl)) dL_copies_32 ⟨Nat.zero_le _, Nat.zero_le _⟩) (fun H locs hP hS => ?_)
  refine lv_lstore (lv' := [(8, .long (r13)), (7, .int (r10)), (6, .int (r7)), (5, .int (r4)), (4, .int (r1)), (0, .ref (G.2.1 (90))), (1, .int (x1)), (2, .int (x2)), (3, .int (x3))]) hx hb dL_copies_35 hl (by decide) rfl (fun ls hl => ?_)
  refine lv_aload_n hx hb dL_copies_37 rfl (lv_at hl 5 rfl) ?_
  refine lv_iload_n hx hb dL_copies_38 rfl (lv_at hl 6 rfl) ?_
  refine lv_iload_n hx hb dL_copies_39 rfl (lv_at hl 7 rfl) ?_
  refine lv_iload_n hx hb dL_copies_40 rfl (lv_at hl 8 rfl) ?_
  obtain ⟨r16, m17, e18, h⟩ := zb_some h
  refine z_calli hS (vx_runSW (As := [.ref (G.2.1 (90)), .int (x1), .int (x2), .int (x3)]) (rest := []) C (c_L_copy l G e18 _) (vx_cwSW 4 hts gL_copies_L_copy rfl rfl rfl hd_L_copy ⟨Nat.le_of_ble_eq_true rfl, Nat.le_of_ble_eq_true rfl⟩) (z_preS Z hS hP) rfl rfl hl.1 rfl (lv_room (Nat.le_of_ble_eq_true rfl)) dL_copies_41 ⟨Nat.zero_le _, Nat.zero_le _⟩) (fun H locs hP hS => ?_)
  refine lv_istore (lv' := [(10, .int (r16)), (8, .long (r13)), (7, .int (r10)), (6, .int (r7)), (5, .int (r4)), (4, .int (r1)), (0, .ref (G.2.1 (90))), (1, .int (x1)), (2, .int (x2)), (3, .int (x3))]) hx hb dL_copies_44 hl (by decide) rfl (fun ls hl => ?_)
  refine lv_iconst (v := 1) hx hb dL_copies_46 (by decide) ?_
  refine lv_istore (lv' := [(11, .int (1)), (10, .int (r16)), (8, .long (r13)), (7, .int (r10)), (6, .int (r7)), (5, .int (r4)), (4, .int (r1)), (0, .ref (G.2.1 (90))), (1, .int (x1)), (2, .int (x2)), (3, .int (x3))]) hx hb dL_copies_47 hl (by decide) rfl (fun ls hl => ?_)
  refine lv_iload hx hb dL_copies_49 (lv_at hl 1 rfl) ?_
  refine lv_if_ne (tgt := 152) hx hb dL_copies_51 (by decide) (fun hc19 => ?_) (fun hc19 => ?_)
  · have h := z_in hc19 h
    refine lv_iload hx hb dL_copies_152 (lv_at hl 6 rfl) ?_
    refine lv_if_ge (tgt := 192) hx hb dL_copies_154 (by decide) (fun hc20 => ?_) (fun hc20 => ?_)
    · have h := z_ip hc20 h
      cases h
    · have h := z_in hc20 h
      refine lv_iload hx hb dL_copies_157 (lv_at hl 1 rfl) ?_
      refine lv_iload hx hb dL_copies_159 (lv_at hl 6 rfl) ?_
      refine lv_ineg hx hb dL_copies_161 ?_
      refine lv_icmp_ne (tgt := 192) hx hb dL_copies_162 (by decide) (fun hc21 => ?_) (fun hc21 => ?_)
      · have h := z_in hc21 h
        cases h
      · have h := z_ip hc21 h
        refine lv_aload_n hx hb dL_copies_165 rfl (lv_at hl 7 rfl) ?_
        refine lv_bipush (v := 11) hx hb dL_copies_166 (by decide) ?_
        obtain ⟨r22, m23, e24, h⟩ := zb_some h
        refine z_calli hS (vx_runSW (As := [.ref (G.2.1 (90)), .int (11)]) (rest := []) C (c_L_count l G e24 _) (vx_cwSW 2 hts gL_copies_L_count rfl rfl rfl hd_L_count ⟨Nat.le_of_ble_eq_true rfl, Nat.le_of_ble_eq_true rfl⟩) (z_preS Z hS hP) rfl rfl hl.1 rfl (lv_room (Nat.le_of_ble_eq_true rfl)) dL_copies_168 ⟨Nat.zero_le _, Nat.zero_le _⟩) (fun H locs hP hS => ?_)
        refine lv_iload hx hb dL_copies_171 (lv_at hl 4 rfl) ?_
        refine lv_iconst (v := 1) hx hb dL_copies_173 (by decide) ?_
        refine lv_iadd hx hb dL_copies_174 ?_
        refine lv_icmp_ne (tgt := 192) hx hb dL_copies_175 (by decide) (fun hc25 => ?_) (fun hc25 => ?_)
        · have h := z_in hc25 h
          cases h
        · have h := z_ip hc25 h
          refine lv_aload_n hx hb dL_copies_178 rfl (lv_at hl 7 rfl) ?_
          refine lv_iconst (v := 5) hx hb dL_copies_179 (by decide) ?_
          obtain ⟨r26, m27, e28, h⟩ := zb_some h
          refine z_calli hS (vx_runSW (As := [.ref (G.2.1 (90)), .int (5)]) (rest := []) C (c_L_count l G e28 _) (vx_cwSW 2 hts gL_copies_L_count rfl rfl rfl hd_L_count ⟨Nat.le_of_ble_eq_true rfl, Nat.le_of_ble_eq_true rfl⟩) (z_preS Z hS hP) rfl rfl hl.1 rfl (lv_room (Nat.le_of_ble_eq_true rfl)) dL_copies_180 ⟨Nat.zero_le _, Nat.zero_le _⟩) (fun H locs hP hS => ?_)
          refine lv_iload hx hb dL_copies_183 (lv_at hl 3 rfl) ?_
          refine lv_icmp_ne (tgt := 192) hx hb dL_copies_185 (by decide) (fun hc29 => ?_) (fun hc29 => ?_)
          · have h := z_in hc29 h
            cases h
          · have h := z_ip hc29 h
            refine lv_iconst (v := 1) hx hb dL_copies_188 (by decide) ?_
            refine lv_goto (tgt := 193) hx hb dL_copies_189 (by decide) ?_
            refine lv_istore (lv' := [(11, .int (1)), (10, .int (r16)), (8, .long (r13)), (7, .int (r10)), (6, .int (r7)), (5, .int (r4)), (4, .int (r1)), (0, .ref (G.2.1 (90))), (1, .int (x1)), (2, .int (x2)), (3, .int (x3))]) hx hb dL_copies_193 hl (by decide) rfl (fun ls hl => ?_)
            exact L_L_copies_b195 C hr hlk Z _ _ h _ _ hP hS ls (lv_sub hl [7, 2, 0] rfl)
  · have h := z_ip hc19 h
    refine lv_iload hx hb dL_copies_54 (lv_at hl 6 rfl) ?_
    refine lv_if_lt (tgt := 146) hx hb dL_copies_56 (by decide) (fun hc38 => ?_) (fun hc38 => ?_)
    · have h := z_ip hc38 h
      cases h
    · have h := z_in hc38 h
      refine lv_aload_n hx hb dL_copies_59 rfl (lv_at hl 7 rfl) ?_
      refine lv_iload_n hx hb dL_copies_60 rfl (lv_at hl 9 rfl) ?_
      refine lv_iconst (v := 1) hx hb dL_copies_61 (by decide) ?_
      obtain ⟨r39, m40, e41, h⟩ := zb_some h
      refine z_calli hS (vx_runSW (As := [.ref (G.2.1 (90)), .int (x2), .int (1)]) (rest := []) C (c_L_trackOf l G e41 _) (vx_cwSW 3 hts gL_copies_L_trackOf rfl rfl rfl hd_L_trackOf ⟨Nat.le_of_ble_eq_true rfl, Nat.le_of_ble_eq_true rfl⟩) (z_preS Z hS hP) rfl rfl hl.1 rfl (lv_room (Nat.le_of_ble_eq_true rfl)) dL_copies_62 ⟨Nat.zero_le _, Nat.zero_le _⟩) (fun H locs hP hS => ?_)
      refine lv_iload hx hb dL_copies_65 (lv_at hl 6 rfl) ?_
      refine lv_icmp_ne (tgt := 146) hx hb dL_copies_67 (by decide) (fun hc42 => ?_) (fun hc42 => ?_)
      · have h := z_in hc42 h
        cases h
      · have h := z_ip hc42 h
        refine lv_aload_n hx hb dL_copies_70 rfl (lv_at hl 7 rfl) ?_
        refine lv_iload_n hx hb dL_copies_71 rfl (lv_at hl 9 rfl) ?_
        refine lv_iconst (v := 4) hx hb dL_copies_72 (by decide) ?_
        obtain ⟨r43, m44, e45, h⟩ := zb_some h
        refine z_calli hS (vx_runSW (As := [.ref (G.2.1 (90)), .int (x2), .int (4)]) (rest := []) C (c_L_trackOf l G e45 _) (vx_cwSW 3 hts gL_copies_L_trackOf rfl rfl rfl hd_L_trackOf ⟨Nat.le_of_ble_eq_true rfl, Nat.le_of_ble_eq_true rfl⟩) (z_preS Z hS hP) rfl rfl hl.1 rfl (lv_room (Nat.le_of_ble_eq_true rfl)) dL_copies_73 ⟨Nat.zero_le _, Nat.zero_le _⟩) (fun H locs hP hS => ?_)
        refine lv_iload_n hx hb dL_copies_76 rfl (lv_at hl 8 rfl) ?_
        refine lv_icmp_ne (tgt := 146) hx hb dL_copies_77 (by decide) (fun hc46 => ?_) (fun hc46 => ?_)
        · have h := z_in hc46 h
          cases h
        · have h := z_ip hc46 h
          refine lv_aload_n hx hb dL_copies_80 rfl (lv_at hl 7 rfl) ?_
          refine lv_iload_n hx hb dL_copies_81 rfl (lv_at hl 9 rfl) ?_
          refine lv_iconst (v := 3) hx hb dL_copies_82 (by decide) ?_
          obtain ⟨r47, m48, e49, h⟩ := zb_some h
          refine z_calli hS (vx_runSW (As := [.ref (G.2.1 (90)), .int (x2), .int (3)]) (rest := []) C (c_L_trackOf l G e49 _) (vx_cwSW 3 hts gL_copies_L_trackOf rfl rfl rfl hd_L_trackOf ⟨Nat.le_of_ble_eq_true rfl, Nat.le_of_ble_eq_true rfl⟩) (z_preS Z hS hP) rfl rfl hl.1 rfl (lv_room (Nat.le_of_ble_eq_true rfl)) dL_copies_83 ⟨Nat.zero_le _, Nat.zero_le _⟩) (fun H locs hP hS => ?_)
          refine lv_aload_n hx hb dL_copies_86 rfl (lv_at hl 7 rfl) ?_
          refine lv_iload_n hx hb dL_copies_87 rfl (lv_at hl 8 rfl) ?_
          refine lv_iconst (v := 3) hx hb dL_copies_88 (by decide) ?_
          obtain ⟨r50, m51, e52, h⟩ := zb_some h
          refine z_calli hS (vx_runSW (As := [.ref (G.2.1 (90)), .int (x1), .int (3)]) (rest := [.int (r47)]) C (c_L_trackOf l G e52 _) (vx_cwSW 3 hts gL_copies_L_trackOf rfl rfl rfl hd_L_trackOf ⟨Nat.le_of_ble_eq_true rfl, Nat.le_of_ble_eq_true rfl⟩) (z_preS Z hS hP) rfl rfl hl.1 rfl (lv_room (Nat.le_of_ble_eq_true rfl)) dL_copies_89 ⟨Nat.zero_le _, Nat.zero_le _⟩) (fun H locs hP hS => ?_)
          refine lv_iconst (v := 1) hx hb dL_copies_92 (by decide) ?_
          refine lv_iadd hx hb dL_copies_93 ?_
          refine lv_icmp_ne (tgt := 146) hx hb dL_copies_94 (by decide) (fun hc53 => ?_) (fun hc53 => ?_)
          · have h := z_in hc53 h
            cases h
          · have h := z_ip hc53 h
            refine lv_aload_n hx hb dL_copies_97 rfl (lv_at hl 7 rfl) ?_
            refine lv_iconst (v := 5) hx hb dL_copies_98 (by decide) ?_
            obtain ⟨r54, m55, e56, h⟩ := zb_some h
            refine z_calli hS (vx_runSW (As := [.ref (G.2.1 (90)), .int (5)]) (rest := []) C (c_L_count l G e56 _) (vx_cwSW 2 hts gL_copies_L_count rfl rfl rfl hd_L_count ⟨Nat.le_of_ble_eq_true rfl, Nat.le_of_ble_eq_true rfl⟩) (z_preS Z hS hP) rfl rfl hl.1 rfl (lv_room (Nat.le_of_ble_eq_true rfl)) dL_copies_99 ⟨Nat.zero_le _, Nat.zero_le _⟩) (fun H locs hP hS => ?_)
            refine lv_iload hx hb dL_copies_102 (lv_at hl 3 rfl) ?_
            refine lv_iconst (v := 1) hx hb dL_copies_104 (by decide) ?_
            refine lv_iadd hx hb dL_copies_105 ?_
            refine lv_icmp_ne (tgt := 146) hx hb dL_copies_106 (by decide) (fun hc57 => ?_) (fun hc57 => ?_)
            · have h := z_in hc57 h
              cases h
            · have h := z_ip hc57 h
              refine lv_aload_n hx hb dL_copies_109 rfl (lv_at hl 7 rfl) ?_
              refine lv_bipush (v := 11) hx hb dL_copies_110 (by decide) ?_
              obtain ⟨r58, m59, e60, h⟩ := zb_some h
              refine z_calli hS (vx_runSW (As := [.ref (G.2.1 (90)), .int (11)]) (rest := []) C (c_L_count l G e60 _) (vx_cwSW 2 hts gL_copies_L_count rfl rfl rfl hd_L_count ⟨Nat.le_of_ble_eq_true rfl, Nat.le_of_ble_eq_true rfl⟩) (z_preS Z hS hP) rfl rfl hl.1 rfl (lv_room (Nat.le_of_ble_eq_true rfl)) dL_copies_112 ⟨Nat.zero_le _, Nat.zero_le _⟩) (fun H locs hP hS => ?_)
              refine lv_iload hx hb dL_copies_115 (lv_at hl 4 rfl) ?_
              refine lv_icmp_ne (tgt := 146) hx hb dL_copies_117 (by decide) (fun hc61 => ?_) (fun hc61 => ?_)
              · have h := z_in hc61 h
                cases h
              · have h := z_ip hc61 h
                refine lv_aload_n hx hb dL_copies_120 rfl (lv_at hl 7 rfl) ?_
                refine lv_iload_n hx hb dL_copies_121 rfl (lv_at hl 8 rfl) ?_
                obtain ⟨r62, m63, e64, h⟩ := zb_some h
                refine z_calli hS (vx_runSW (As := [.ref (G.2.1 (90)), .int (x1)]) (rest := []) C (c_L_daughters l G e64 _) (vx_cwSW 2 hts gL_copies_L_daughters rfl rfl rfl hd_L_daughters ⟨Nat.le_of_ble_eq_true rfl, Nat.le_of_ble_eq_true rfl⟩) (z_preS Z hS hP) rfl rfl hl.1 rfl (lv_room (Nat.le_of_ble_eq_true rfl)) dL_copies_122 ⟨Nat.zero_le _, Nat.zero_le _⟩) (fun H locs hP hS => ?_)
                refine lv_iload hx hb dL_copies_125 (lv_at hl 5 rfl) ?_
                refine lv_iconst (v := 1) hx hb dL_copies_127 (by decide) ?_
                refine lv_isub hx hb dL_copies_128 ?_
                refine lv_icmp_le (tgt := 146) hx hb dL_copies_129 (by decide) (fun hc65 => ?_) (fun hc65 => ?_)
                · have h := z_ip hc65 h
                  cases h
                · have h := z_in hc65 h
                  refine lv_aload_n hx hb dL_copies_132 rfl (lv_at hl 7 rfl) ?_
                  refine lv_iload_n hx hb dL_copies_133 rfl (lv_at hl 9 rfl) ?_
                  refine lv_bipush (v := 6) hx hb dL_copies_134 (by decide) ?_
                  obtain ⟨r66, m67, e68, h⟩ := zb_some h
                  refine z_calli hS (vx_runSW (As := [.ref (G.2.1 (90)), .int (x2), .int (6)]) (rest := []) C (c_L_trackOf l G e68 _) (vx_cwSW 3 hts gL_copies_L_trackOf rfl rfl rfl hd_L_trackOf ⟨Nat.le_of_ble_eq_true rfl, Nat.le_of_ble_eq_true rfl⟩) (z_preS Z hS hP) rfl rfl hl.1 rfl (lv_room (Nat.le_of_ble_eq_true rfl)) dL_copies_136 ⟨Nat.zero_le _, Nat.zero_le _⟩) (fun H locs hP hS => ?_)
                  refine lv_if_ne (tgt := 146) hx hb dL_copies_139 (by decide) (fun hc69 => ?_) (fun hc69 => ?_)
                  · have h := z_in hc69 h
                    cases h
                  · have h := z_ip hc69 h
                    refine lv_iconst (v := 1) hx hb dL_copies_142 (by decide) ?_
                    refine lv_goto (tgt := 147) hx hb dL_copies_143 (by decide) ?_
                    refine lv_istore (lv' := [(11, .int (1)), (10, .int (r16)), (8, .long (r13)), (7, .int (r10)), (6, .int (r7)), (5, .int (r4)), (4, .int (r1)), (0, .ref (G.2.1 (90))), (1, .int (x1)), (2, .int (x2)), (3, .int (x3))]) hx hb dL_copies_147 hl (by decide) rfl (fun ls hl => ?_)
                    refine lv_goto (tgt := 195) hx hb dL_copies_149 (by decide) ?_
                    exact L_L_copies_b195 C hr hlk Z _ _ h _ _ hP hS ls (lv_sub hl [7, 2, 0] rfl)
abbrev rm_L_speaks : Room := { frames := 7, cells := 0, slots := 0, locals := 154 }
theorem hd_L_speaks : yL_speaks.cls ≠ "java/lang/invoke/MethodHandle" ∧ yL_speaks.cls ≠ "java/lang/invoke/VarHandle" ∧ (parseMethodDescriptor yL_speaks.desc).map (fun d => d.parameters.length) = some 3 := by decide +kernel
theorem hv_L_speaks : yL_speaks.cls = RL ∧ yL_speaks.cls ≠ "java/lang/invoke/MethodHandle" ∧ yL_speaks.cls ≠ "java/lang/invoke/VarHandle" ∧ (parseMethodDescriptor yL_speaks.desc).map (fun d => d.parameters.length) = some 3 := ⟨rfl, hd_L_speaks⟩
set_option maxHeartbeats 8000000 in
set_option maxRecDepth 100000 in
theorem L_L_speaks_b93 {p : Program} {l : Launch} {e : Env} {s : State} {m : MethodId} {args : Array Value} {below : List Frame} {meth : Method} {c : Code} {G : zG} {r : Int32} {mu1 : Mm}  (C : CallFix p m c cL_speaks 8 s args wsL_speaks RL) (hr : meth.sig.returnType = (some .boolean)) (hlk : meth.locks = false) (Z : z_Z G (z_A G s.heap.size) s)  :
    ∀ (x4 : Int64) (μ : Mm), f_L_speaks_b93  x4 μ = some (r, mu1) → ∀ (H : Heap) (locs : List Loc), z_P G μ H → va_S (z_A G s.heap.size) s.heap H locs → ∀ ls : Array Slot, lv_has ls 8 [(0, .ref (G.2.1 (90))), (4, .long (x4))] → W p l e rm_L_speaks s m args below meth c H locs 0 0 (MQ below (z_Qi G r mu1 s.heap.size) args s 0 0 (z_A G s.heap.size)) (F0 m 93 ls []) := by
  have hx := C.1
  have hb := C.2.1
  have hts := C.2.2.2.2
  intro x4 μ h H locs hP hS ls hl
  unfold f_L_speaks_b93 at h
  refine lv_iconst (v := 1) hx hb dL_speaks_93 (by decide) ?_
  refine lv_goto (tgt := 98) hx hb dL_speaks_94 (by decide) ?_
  refine lv_istore (lv' := [(7, .int (1)), (0, .ref (G.2.1 (90))), (4, .long (x4))]) hx hb dL_speaks_98 hl (by decide) rfl (fun ls hl => ?_)
  refine lv_iload hx hb dL_speaks_100 (lv_at hl 0 rfl) ?_
  refine lv_if_eq (tgt := 126) hx hb dL_speaks_102 (by decide) (fun hc => absurd hc (by decide)) (fun _ => ?_)
  refine lv_aload_n hx hb dL_speaks_105 rfl (lv_at hl 1 rfl) ?_
  obtain ⟨r31, m32, e33, h⟩ := zb_some h
  refine z_calli hS (vx_runSW (As := [.ref (G.2.1 (90))]) (rest := []) C (c_L_undo l G e33 _) (vx_cwSW 1 hts gL_speaks_L_undo rfl rfl rfl hd_L_undo ⟨Nat.le_of_ble_eq_true rfl, Nat.le_of_ble_eq_true rfl⟩) (z_preS Z hS hP) rfl rfl hl.1 rfl (lv_room (Nat.le_of_ble_eq_true rfl)) dL_speaks_106 ⟨Nat.zero_le _, Nat.zero_le _⟩) (fun H locs hP hS => ?_)
  refine lv_if_lt (tgt := 126) hx hb dL_speaks_109 (by decide) (fun hc34 => ?_) (fun hc34 => ?_)
  · have h := z_ip hc34 h
    cases h
  · have h := z_in hc34 h
    refine lv_aload_n hx hb dL_speaks_112 rfl (lv_at hl 1 rfl) ?_
    obtain ⟨r35, m36, e37, h⟩ := zb_some h
    refine z_calll hS (va_runS (As := [.ref (G.2.1 (90))]) (rest := []) C (c_L_print l G e37 _) (va_cwS 1 hts gL_speaks_L_print rfl rfl rfl hd_L_print ⟨Nat.le_of_ble_eq_true rfl, Nat.le_of_ble_eq_true rfl⟩) (z_preS Z hS hP) rfl rfl hl.1 rfl (lv_room (Nat.le_of_ble_eq_true rfl)) dL_speaks_113 ⟨Nat.zero_le _, Nat.zero_le _⟩) (fun H locs hP hS => ?_)
    refine lv_lload hx hb dL_speaks_116 (lv_at hl 2 rfl) ?_
    refine W.lcmp hx hb dL_speaks_118 ?_
    refine lv_if_ne (tgt := 126) hx hb dL_speaks_119 (by decide) (fun hc38 => ?_) (fun hc38 => ?_)
    · have h := z_in hc38 h
      cases h
    · have h := z_ip hc38 h
      refine lv_iconst (v := 1) hx hb dL_speaks_122 (by decide) ?_
      refine lv_goto (tgt := 127) hx hb dL_speaks_123 (by decide) ?_
      cases h
      exact z_retz C hr hlk rfl hP hS dL_speaks_127
set_option maxHeartbeats 4000000 in
set_option maxRecDepth 100000 in
theorem c_L_speaks (l : Launch) (G : zG) {x1 : Int32} {x2 : Int32} {μ mu1 : Mm} {r : Int32} (h : f_L_speaks x1 x2 μ = some (r, mu1)) (sz : Nat) : Met l yL_speaks wsL_speaks rm_L_speaks (z_Pre G μ [.ref (G.2.1 (90)), .int (x1), .int (x2)] sz) (z_Qi G r mu1 sz) 0 0 (z_A G sz) := by
  refine z_start (cc := cL_speaks) (maxL := 8) (ret := (some .boolean)) (own := RL) (by decide) rfl rfl (Nat.le_of_ble_eq_true rfl) (fun p e s m args below meth c C hr hlk Z hP ls hl => ?_) sz
  have hx := C.1
  have hb := C.2.1
  have hts := C.2.2.2.2
  have hS : va_S (z_A G s.heap.size) s.heap s.heap [] := va_S.rf
  have hl : lv_has ls 8 [(0, .ref (G.2.1 (90))), (1, .int (x1)), (2, .int (x2))] := hl
  unfold f_L_speaks at h
  refine lv_aload_n hx hb dL_speaks_0 rfl (lv_at hl 0 rfl) ?_
  refine lv_iload_n hx hb dL_speaks_1 rfl (lv_at hl 1 rfl) ?_
  refine lv_iload_n hx hb dL_speaks_2 rfl (lv_at hl 2 rfl) ?_
  obtain ⟨r1, m2, e3, h⟩ := zb_some h
  refine z_calli hS (vx_runSW (As := [.ref (G.2.1 (90)), .int (x1), .int (x2)]) (rest := []) C (c_L_whyNot l G e3 _) (vx_cwSW 3 hts gL_speaks_L_whyNot rfl rfl rfl hd_L_whyNot ⟨Nat.le_of_ble_eq_true rfl, Nat.le_of_ble_eq_true rfl⟩) (z_preS Z hS hP) rfl rfl hl.1 rfl (lv_room (Nat.le_of_ble_eq_true rfl)) dL_speaks_3 ⟨Nat.zero_le _, Nat.zero_le _⟩) (fun H locs hP hS => ?_)
  refine lv_istore_n (lv' := [(3, .int (r1)), (0, .ref (G.2.1 (90))), (1, .int (x1)), (2, .int (x2))]) hx hb dL_speaks_6 rfl hl (by decide) rfl (fun ls hl => ?_)
  refine lv_aload_n hx hb dL_speaks_7 rfl (lv_at hl 1 rfl) ?_
  obtain ⟨r4, m5, e6, h⟩ := zb_some h
  refine z_calll hS (va_runS (As := [.ref (G.2.1 (90))]) (rest := []) C (c_L_print l G e6 _) (va_cwS 1 hts gL_speaks_L_print rfl rfl rfl hd_L_print ⟨Nat.le_of_ble_eq_true rfl, Nat.le_of_ble_eq_true rfl⟩) (z_preS Z hS hP) rfl rfl hl.1 rfl (lv_room (Nat.le_of_ble_eq_true rfl)) dL_speaks_8 ⟨Nat.zero_le _, Nat.zero_le _⟩) (fun H locs hP hS => ?_)
  refine lv_lstore (lv' := [(4, .long (r4)), (3, .int (r1)), (0, .ref (G.2.1 (90))), (1, .int (x1)), (2, .int (x2))]) hx hb dL_speaks_11 hl (by decide) rfl (fun ls hl => ?_)
  refine lv_aload_n hx hb dL_speaks_13 rfl (lv_at hl 2 rfl) ?_
  refine lv_iconst (v := 1) hx hb dL_speaks_14 (by decide) ?_
  obtain ⟨r7, m8, e9, h⟩ := zb_some h
  refine z_calli hS (vx_runSW (As := [.ref (G.2.1 (90)), .int (1)]) (rest := []) C (c_L_count l G e9 _) (vx_cwSW 2 hts gL_speaks_L_count rfl rfl rfl hd_L_count ⟨Nat.le_of_ble_eq_true rfl, Nat.le_of_ble_eq_true rfl⟩) (z_preS Z hS hP) rfl rfl hl.1 rfl (lv_room (Nat.le_of_ble_eq_true rfl)) dL_speaks_15 ⟨Nat.zero_le _, Nat.zero_le _⟩) (fun H locs hP hS => ?_)
  refine lv_istore (lv' := [(6, .int (r7)), (4, .long (r4)), (3, .int (r1)), (0, .ref (G.2.1 (90))), (1, .int (x1)), (2, .int (x2))]) hx hb dL_speaks_18 hl (by decide) rfl (fun ls hl => ?_)
  refine lv_aload_n hx hb dL_speaks_20 rfl (lv_at hl 3 rfl) ?_
  refine lv_iload_n hx hb dL_speaks_21 rfl (lv_at hl 4 rfl) ?_
  refine lv_iload_n hx hb dL_speaks_22 rfl (lv_at hl 5 rfl) ?_
  obtain ⟨r10, m11, e12, h⟩ := zb_some h
  refine z_calli hS (vx_runSW (As := [.ref (G.2.1 (90)), .int (x1), .int (x2)]) (rest := []) C (c_L_speak l G e12 _) (vx_cwSW 3 hts gL_speaks_L_speak rfl rfl rfl hd_L_speak ⟨Nat.le_of_ble_eq_true rfl, Nat.le_of_ble_eq_true rfl⟩) (z_preS Z hS hP) rfl rfl hl.1 rfl (lv_room (Nat.le_of_ble_eq_true rfl)) dL_speaks_23 ⟨Nat.zero_le _, Nat.zero_le _⟩) (fun H locs hP hS => ?_)
  refine lv_iload_n hx hb dL_speaks_26 rfl (lv_at hl 2 rfl) ?_
  refine lv_icmp_ne (tgt := 97) hx hb dL_speaks_27 (by decide) (fun hc13 => ?_) (fun hc13 => ?_)
  · have h := z_in hc13 h
    cases h
  · have h := z_ip hc13 h
    refine lv_iload_n hx hb dL_speaks_30 rfl (lv_at hl 2 rfl) ?_
    refine lv_if_le (tgt := 51) hx hb dL_speaks_31 (by decide) (fun hc14 => ?_) (fun hc14 => ?_)
    · have h := z_ip hc14 h
      refine lv_aload_n hx hb dL_speaks_51 rfl (lv_at hl 3 rfl) ?_
      refine lv_iload_n hx hb dL_speaks_52 rfl (lv_at hl 4 rfl) ?_
      refine lv_iconst (v := 0) hx hb dL_speaks_53 (by decide) ?_
      obtain ⟨r15, m16, e17, h⟩ := zb_some h
      refine z_calli hS (vx_runSW (As := [.ref (G.2.1 (90)), .int (x1), .int (0)]) (rest := []) C (c_L_trackOf l G e17 _) (vx_cwSW 3 hts gL_speaks_L_trackOf rfl rfl rfl hd_L_trackOf ⟨Nat.le_of_ble_eq_true rfl, Nat.le_of_ble_eq_true rfl⟩) (z_preS Z hS hP) rfl rfl hl.1 rfl (lv_room (Nat.le_of_ble_eq_true rfl)) dL_speaks_54 ⟨Nat.zero_le _, Nat.zero_le _⟩) (fun H locs hP hS => ?_)
      refine lv_iload_n hx hb dL_speaks_57 rfl (lv_at hl 5 rfl) ?_
      refine lv_icmp_ne (tgt := 97) hx hb dL_speaks_58 (by decide) (fun hc18 => ?_) (fun hc18 => ?_)
      · have h := z_in hc18 h
        cases h
      · have h := z_ip hc18 h
        refine lv_aload_n hx hb dL_speaks_61 rfl (lv_at hl 3 rfl) ?_
        refine lv_iload_n hx hb dL_speaks_62 rfl (lv_at hl 4 rfl) ?_
        refine lv_iconst (v := 3) hx hb dL_speaks_63 (by decide) ?_
        obtain ⟨r19, m20, e21, h⟩ := zb_some h
        refine z_calli hS (vx_runSW (As := [.ref (G.2.1 (90)), .int (x1), .int (3)]) (rest := []) C (c_L_trackOf l G e21 _) (vx_cwSW 3 hts gL_speaks_L_trackOf rfl rfl rfl hd_L_trackOf ⟨Nat.le_of_ble_eq_true rfl, Nat.le_of_ble_eq_true rfl⟩) (z_preS Z hS hP) rfl rfl hl.1 rfl (lv_room (Nat.le_of_ble_eq_true rfl)) dL_speaks_64 ⟨Nat.zero_le _, Nat.zero_le _⟩) (fun H locs hP hS => ?_)
        refine lv_if_ne (tgt := 97) hx hb dL_speaks_67 (by decide) (fun hc22 => ?_) (fun hc22 => ?_)
        · have h := z_in hc22 h
          cases h
        · have h := z_ip hc22 h
          refine lv_aload_n hx hb dL_speaks_70 rfl (lv_at hl 3 rfl) ?_
          refine lv_iconst (v := 1) hx hb dL_speaks_71 (by decide) ?_
          obtain ⟨r23, m24, e25, h⟩ := zb_some h
          refine z_calli hS (vx_runSW (As := [.ref (G.2.1 (90)), .int (1)]) (rest := []) C (c_L_count l G e25 _) (vx_cwSW 2 hts gL_speaks_L_count rfl rfl rfl hd_L_count ⟨Nat.le_of_ble_eq_true rfl, Nat.le_of_ble_eq_true rfl⟩) (z_preS Z hS hP) rfl rfl hl.1 rfl (lv_room (Nat.le_of_ble_eq_true rfl)) dL_speaks_72 ⟨Nat.zero_le _, Nat.zero_le _⟩) (fun H locs hP hS => ?_)
          refine lv_iload hx hb dL_speaks_75 (lv_at hl 0 rfl) ?_
          refine lv_bipush (v := 10) hx hb dL_speaks_77 (by decide) ?_
          refine lv_isub hx hb dL_speaks_79 ?_
          refine lv_icmp_ne (tgt := 97) hx hb dL_speaks_80 (by decide) (fun hc26 => ?_) (fun hc26 => ?_)
          · have h := z_in hc26 h
            cases h
          · have h := z_ip hc26 h
            refine lv_aload_n hx hb dL_speaks_83 rfl (lv_at hl 3 rfl) ?_
            refine lv_iload_n hx hb dL_speaks_84 rfl (lv_at hl 4 rfl) ?_
            refine lv_iload_n hx hb dL_speaks_85 rfl (lv_at hl 5 rfl) ?_
            obtain ⟨r27, m28, e29, h⟩ := zb_some h
            refine z_calli hS (vx_runSW (As := [.ref (G.2.1 (90)), .int (x1), .int (x2)]) (rest := []) C (c_L_whyNot l G e29 _) (vx_cwSW 3 hts gL_speaks_L_whyNot rfl rfl rfl hd_L_whyNot ⟨Nat.le_of_ble_eq_true rfl, Nat.le_of_ble_eq_true rfl⟩) (z_preS Z hS hP) rfl rfl hl.1 rfl (lv_room (Nat.le_of_ble_eq_true rfl)) dL_speaks_86 ⟨Nat.zero_le _, Nat.zero_le _⟩) (fun H locs hP hS => ?_)
            refine lv_iconst (v := 1) hx hb dL_speaks_89 (by decide) ?_
            refine lv_icmp_ne (tgt := 97) hx hb dL_speaks_90 (by decide) (fun hc30 => ?_) (fun hc30 => ?_)
            · have h := z_in hc30 h
              cases h
            · have h := z_ip hc30 h
              exact L_L_speaks_b93 C hr hlk Z _ _ h _ _ hP hS ls (lv_sub hl [3, 1] rfl)
    · have h := z_in hc14 h
      refine lv_aload_n hx hb dL_speaks_34 rfl (lv_at hl 3 rfl) ?_
      refine lv_iload_n hx hb dL_speaks_35 rfl (lv_at hl 4 rfl) ?_
      refine lv_iconst (v := 0) hx hb dL_speaks_36 (by decide) ?_
      obtain ⟨r39, m40, e41, h⟩ := zb_some h
      refine z_calli hS (vx_runSW (As := [.ref (G.2.1 (90)), .int (x1), .int (0)]) (rest := []) C (c_L_trackOf l G e41 _) (vx_cwSW 3 hts gL_speaks_L_trackOf rfl rfl rfl hd_L_trackOf ⟨Nat.le_of_ble_eq_true rfl, Nat.le_of_ble_eq_true rfl⟩) (z_preS Z hS hP) rfl rfl hl.1 rfl (lv_room (Nat.le_of_ble_eq_true rfl)) dL_speaks_37 ⟨Nat.zero_le _, Nat.zero_le _⟩) (fun H locs hP hS => ?_)
      refine lv_if_eq (tgt := 93) hx hb dL_speaks_40 (by decide) (fun hc42 => ?_) (fun hc42 => ?_)
      · have h := z_ip hc42 h
        exact L_L_speaks_b93 C hr hlk Z _ _ h _ _ hP hS ls (lv_sub hl [3, 1] rfl)
      · have h := z_in hc42 h
        refine lv_iload_n hx hb dL_speaks_43 rfl (lv_at hl 2 rfl) ?_
        refine lv_iconst (v := 1) hx hb dL_speaks_44 (by decide) ?_
        refine lv_icmp_ne (tgt := 97) hx hb dL_speaks_45 (by decide) (fun hc43 => ?_) (fun hc43 => ?_)
        · have h := z_in hc43 h
          cases h
        · have h := z_ip hc43 h
          refine lv_goto (tgt := 93) hx hb dL_speaks_48 (by decide) ?_
          exact L_L_speaks_b93 C hr hlk Z _ _ h _ _ hP hS ls (lv_sub hl [3, 1] rfl)
abbrev rm_L_steps : Room := { frames := 10, cells := 0, slots := 0, locals := 254 }
theorem hd_L_steps : yL_steps.cls ≠ "java/lang/invoke/MethodHandle" ∧ yL_steps.cls ≠ "java/lang/invoke/VarHandle" ∧ (parseMethodDescriptor yL_steps.desc).map (fun d => d.parameters.length) = some 2 := by decide +kernel
theorem hv_L_steps : yL_steps.cls = RL ∧ yL_steps.cls ≠ "java/lang/invoke/MethodHandle" ∧ yL_steps.cls ≠ "java/lang/invoke/VarHandle" ∧ (parseMethodDescriptor yL_steps.desc).map (fun d => d.parameters.length) = some 2 := ⟨rfl, hd_L_steps⟩
set_option maxHeartbeats 8000000 in
set_option maxRecDepth 100000 in
theorem L_L_steps_b45 {p : Program} {l : Launch} {e : Env} {s : State} {m : MethodId} {args : Array Value} {below : List Frame} {meth : Method} {c : Code} {G : zG} {r : Int32} {mu1 : Mm}  (C : CallFix p m c cL_steps 11 s args wsL_steps RL) (hr : meth.sig.returnType = (some .boolean)) (hlk : meth.locks = false) (Z : z_Z G (z_A G s.heap.size) s)  :
    ∀ (n : Nat) (x1 : Int32) (x2 : Int32) (x3 : Int64) (x5 : Int32) (x6 : Int32) (x7 : Int32) (x8 : Int32) (x9 : Int32) (μ : Mm), f_L_steps_b45  n x1 x2 x3 x5 x6 x7 x8 x9 μ = some (r, mu1) → ∀ (H : Heap) (locs : List Loc), z_P G μ H → va_S (z_A G s.heap.size) s.heap H locs → ∀ ls : Array Slot, lv_has ls 11 [(0, .ref (G.2.1 (90))), (1, .int (x1)), (2, .int (x2)), (3, .long (x3)), (5, .int (x5)), (6, .int (x6)), (7, .int (x7)), (8, .int (x8)), (9, .int (x9))] → W p l e rm_L_steps s m args below meth c H locs 0 0 (MQ below (z_Qi G r mu1 s.heap.size) args s 0 0 (z_A G s.heap.size)) (F0 m 45 ls []) := by
  have hx := C.1
  have hb := C.2.1
  have hts := C.2.2.2.2
  intro n
  induction n with
  | zero =>
    intro x1 x2 x3 x5 x6 x7 x8 x9 μ h
    rw [f_L_steps_b45] at h
    cases h
  | succ n ih =>
    intro x1 x2 x3 x5 x6 x7 x8 x9 μ h H locs hP hS ls hl
    rw [f_L_steps_b45] at h
    refine lv_iload hx hb dL_steps_45 (lv_at hl 8 rfl) ?_
    refine lv_iconst (v := 4) hx hb dL_steps_47 (by decide) ?_
    refine lv_icmp_ge (tgt := 86) hx hb dL_steps_48 (by decide) (fun hc13 => ?_) (fun hc13 => ?_)
    · have h := z_ip hc13 h
      refine lv_iload hx hb dL_steps_86 (lv_at hl 5 rfl) ?_
      refine lv_if_lt (tgt := 106) hx hb dL_steps_88 (by decide) (fun hc14 => ?_) (fun hc14 => ?_)
      · have h := z_ip hc14 h
        cases h
      · have h := z_in hc14 h
        refine lv_iload hx hb dL_steps_91 (lv_at hl 6 rfl) ?_
        refine lv_if_lt (tgt := 106) hx hb dL_steps_93 (by decide) (fun hc15 => ?_) (fun hc15 => ?_)
        · have h := z_ip hc15 h
          cases h
        · have h := z_in hc15 h
          refine lv_iload hx hb dL_steps_96 (lv_at hl 7 rfl) ?_
          refine lv_iload_n hx hb dL_steps_98 rfl (lv_at hl 2 rfl) ?_
          refine lv_icmp_ne (tgt := 106) hx hb dL_steps_99 (by decide) (fun hc16 => ?_) (fun hc16 => ?_)
          · have h := z_in hc16 h
            cases h
          · have h := z_ip hc16 h
            refine lv_iconst (v := 1) hx hb dL_steps_102 (by decide) ?_
            refine lv_goto (tgt := 107) hx hb dL_steps_103 (by decide) ?_
            refine lv_istore (lv' := [(9, .int (1)), (0, .ref (G.2.1 (90))), (1, .int (x1)), (2, .int (x2)), (3, .long (x3)), (5, .int (x5)), (6, .int (x6)), (7, .int (x7)), (8, .int (x8))]) hx hb dL_steps_107 hl (by decide) rfl (fun ls hl => ?_)
            refine lv_iload hx hb dL_steps_109 (lv_at hl 0 rfl) ?_
            refine lv_if_eq (tgt := 141) hx hb dL_steps_111 (by decide) (fun hc => absurd hc (by decide)) (fun _ => ?_)
            refine lv_aload_n hx hb dL_steps_114 rfl (lv_at hl 1 rfl) ?_
            obtain ⟨r17, m18, e19, h⟩ := zb_some h
            refine z_calli hS (vx_runSW (As := [.ref (G.2.1 (90))]) (rest := []) C (c_L_undo l G e19 _) (vx_cwSW 1 hts gL_steps_L_undo rfl rfl rfl hd_L_undo ⟨Nat.le_of_ble_eq_true rfl, Nat.le_of_ble_eq_true rfl⟩) (z_preS Z hS hP) rfl rfl hl.1 rfl (lv_room (Nat.le_of_ble_eq_true rfl)) dL_steps_115 ⟨Nat.zero_le _, Nat.zero_le _⟩) (fun H locs hP hS => ?_)
            refine lv_if_lt (tgt := 141) hx hb dL_steps_118 (by decide) (fun hc20 => ?_) (fun hc20 => ?_)
            · have h := z_ip hc20 h
              cases h
            · have h := z_in hc20 h
              refine lv_aload_n hx hb dL_steps_121 rfl (lv_at hl 1 rfl) ?_
              obtain ⟨r21, m22, e23, h⟩ := zb_some h
              refine z_calli hS (vx_runSW (As := [.ref (G.2.1 (90))]) (rest := []) C (c_L_undo l G e23 _) (vx_cwSW 1 hts gL_steps_L_undo rfl rfl rfl hd_L_undo ⟨Nat.le_of_ble_eq_true rfl, Nat.le_of_ble_eq_true rfl⟩) (z_preS Z hS hP) rfl rfl hl.1 rfl (lv_room (Nat.le_of_ble_eq_true rfl)) dL_steps_122 ⟨Nat.zero_le _, Nat.zero_le _⟩) (fun H locs hP hS => ?_)
              refine lv_if_lt (tgt := 141) hx hb dL_steps_125 (by decide) (fun hc24 => ?_) (fun hc24 => ?_)
              · have h := z_ip hc24 h
                cases h
              · have h := z_in hc24 h
                refine lv_aload_n hx hb dL_steps_128 rfl (lv_at hl 1 rfl) ?_
                obtain ⟨r25, m26, e27, h⟩ := zb_some h
                refine z_calll hS (va_runS (As := [.ref (G.2.1 (90))]) (rest := []) C (c_L_print l G e27 _) (va_cwS 1 hts gL_steps_L_print rfl rfl rfl hd_L_print ⟨Nat.le_of_ble_eq_true rfl, Nat.le_of_ble_eq_true rfl⟩) (z_preS Z hS hP) rfl rfl hl.1 rfl (lv_room (Nat.le_of_ble_eq_true rfl)) dL_steps_129 ⟨Nat.zero_le _, Nat.zero_le _⟩) (fun H locs hP hS => ?_)
                refine lv_lload_n hx hb dL_steps_132 rfl (lv_at hl 4 rfl) ?_
                refine W.lcmp hx hb dL_steps_133 ?_
                refine lv_if_ne (tgt := 141) hx hb dL_steps_134 (by decide) (fun hc28 => ?_) (fun hc28 => ?_)
                · have h := z_in hc28 h
                  cases h
                · have h := z_ip hc28 h
                  refine lv_iconst (v := 1) hx hb dL_steps_137 (by decide) ?_
                  refine lv_goto (tgt := 142) hx hb dL_steps_138 (by decide) ?_
                  cases h
                  exact z_retz C hr hlk rfl hP hS dL_steps_142
    · have h := z_in hc13 h
      refine lv_aload_n hx hb dL_steps_51 rfl (lv_at hl 0 rfl) ?_
      refine lv_iload_n hx hb dL_steps_52 rfl (lv_at hl 1 rfl) ?_
      refine lv_iconst (v := 4) hx hb dL_steps_53 (by decide) ?_
      refine lv_iload hx hb dL_steps_54 (lv_at hl 4 rfl) ?_
      refine lv_imul hx hb dL_steps_56 ?_
      refine lv_iload hx hb dL_steps_57 (lv_at hl 8 rfl) ?_
      obtain ⟨r29, m30, e31, h⟩ := zb_some h
      refine z_calli hS (vx_runSW (As := [.ref (G.2.1 (90)), .int (x1), .int ((4 * x5)), .int (x9)]) (rest := []) C (c_L_ifCopied l G e31 _) (vx_cwSW 4 hts gL_steps_L_ifCopied rfl rfl rfl hd_L_ifCopied ⟨Nat.le_of_ble_eq_true rfl, Nat.le_of_ble_eq_true rfl⟩) (z_preS Z hS hP) rfl rfl hl.1 rfl (lv_room (Nat.le_of_ble_eq_true rfl)) dL_steps_59 ⟨Nat.zero_le _, Nat.zero_le _⟩) (fun H locs hP hS => ?_)
      refine lv_istore (lv' := [(10, .int (r29)), (0, .ref (G.2.1 (90))), (1, .int (x1)), (2, .int (x2)), (3, .long (x3)), (5, .int (x5)), (6, .int (x6)), (7, .int (x7)), (8, .int (x8)), (9, .int (x9))]) hx hb dL_steps_62 hl (by decide) rfl (fun ls hl => ?_)
      refine lv_iload hx hb dL_steps_64 (lv_at hl 0 rfl) ?_
      refine lv_iload hx hb dL_steps_66 (lv_at hl 8 rfl) ?_
      refine lv_icmp_le (tgt := 76) hx hb dL_steps_68 (by decide) (fun hc32 => ?_) (fun hc32 => ?_)
      · have h := z_ip hc32 h
        refine lv_iload hx hb dL_steps_76 (lv_at hl 8 rfl) ?_
        refine lv_istore (lv' := [(8, .int (x8)), (10, .int (r29)), (0, .ref (G.2.1 (90))), (1, .int (x1)), (2, .int (x2)), (3, .long (x3)), (5, .int (x5)), (6, .int (x6)), (7, .int (x7)), (9, .int (x9))]) hx hb dL_steps_78 hl (by decide) rfl (fun ls hl => ?_)
        refine lv_iinc (v := (x9 + 1)) (lv' := [(9, .int ((x9 + 1))), (8, .int (x8)), (10, .int (r29)), (0, .ref (G.2.1 (90))), (1, .int (x1)), (2, .int (x2)), (3, .long (x3)), (5, .int (x5)), (6, .int (x6)), (7, .int (x7))]) hx hb dL_steps_80 hl (k := 9) rfl rfl (by decide) rfl (fun ls hl => ?_)
        refine lv_goto (tgt := 45) hx hb dL_steps_83 (by decide) ?_
        exact ih _ _ _ _ _ _ _ _ _ h _ _ hP hS ls (lv_sub hl [3, 4, 5, 6, 7, 8, 9, 1, 0] rfl)
      · have h := z_in hc32 h
        refine lv_iload hx hb dL_steps_71 (lv_at hl 0 rfl) ?_
        refine lv_goto (tgt := 78) hx hb dL_steps_73 (by decide) ?_
        refine lv_istore (lv' := [(8, .int (r29)), (10, .int (r29)), (0, .ref (G.2.1 (90))), (1, .int (x1)), (2, .int (x2)), (3, .long (x3)), (5, .int (x5)), (6, .int (x6)), (7, .int (x7)), (9, .int (x9))]) hx hb dL_steps_78 hl (by decide) rfl (fun ls hl => ?_)
        refine lv_iinc (v := (x9 + 1)) (lv' := [(9, .int ((x9 + 1))), (8, .int (r29)), (10, .int (r29)), (0, .ref (G.2.1 (90))), (1, .int (x1)), (2, .int (x2)), (3, .long (x3)), (5, .int (x5)), (6, .int (x6)), (7, .int (x7))]) hx hb dL_steps_80 hl (k := 9) rfl rfl (by decide) rfl (fun ls hl => ?_)
        refine lv_goto (tgt := 45) hx hb dL_steps_83 (by decide) ?_
        exact ih _ _ _ _ _ _ _ _ _ h _ _ hP hS ls (lv_sub hl [3, 4, 5, 6, 7, 8, 9, 1, 0] rfl)
set_option maxHeartbeats 4000000 in
set_option maxRecDepth 100000 in
theorem c_L_steps (l : Launch) (G : zG) {x1 : Int32} {μ mu1 : Mm} {r : Int32} (h : f_L_steps x1 μ = some (r, mu1)) (sz : Nat) : Met l yL_steps wsL_steps rm_L_steps (z_Pre G μ [.ref (G.2.1 (90)), .int (x1)] sz) (z_Qi G r mu1 sz) 0 0 (z_A G sz) := by
  refine z_start (cc := cL_steps) (maxL := 11) (ret := (some .boolean)) (own := RL) (by decide) rfl rfl (Nat.le_of_ble_eq_true rfl) (fun p e s m args below meth c C hr hlk Z hP ls hl => ?_) sz
  have hx := C.1
  have hb := C.2.1
  have hts := C.2.2.2.2
  have hS : va_S (z_A G s.heap.size) s.heap s.heap [] := va_S.rf
  have hl : lv_has ls 11 [(0, .ref (G.2.1 (90))), (1, .int (x1))] := hl
  unfold f_L_steps at h
  refine lv_aload_n hx hb dL_steps_0 rfl (lv_at hl 0 rfl) ?_
  refine lv_iload_n hx hb dL_steps_1 rfl (lv_at hl 1 rfl) ?_
  refine lv_iconst (v := 1) hx hb dL_steps_2 (by decide) ?_
  refine lv_iconst (v := 1) hx hb dL_steps_3 (by decide) ?_
  obtain ⟨r1, m2, e3, h⟩ := zb_some h
  refine z_calli hS (vx_runSW (As := [.ref (G.2.1 (90)), .int (x1), .int (1), .int (1)]) (rest := []) C (c_L_chain l G e3 _) (vx_cwSW 4 hts gL_steps_L_chain rfl rfl rfl hd_L_chain ⟨Nat.le_of_ble_eq_true rfl, Nat.le_of_ble_eq_true rfl⟩) (z_preS Z hS hP) rfl rfl hl.1 rfl (lv_room (Nat.le_of_ble_eq_true rfl)) dL_steps_4 ⟨Nat.zero_le _, Nat.zero_le _⟩) (fun H locs hP hS => ?_)
  refine lv_istore_n (lv' := [(2, .int (r1)), (0, .ref (G.2.1 (90))), (1, .int (x1))]) hx hb dL_steps_7 rfl hl (by decide) rfl (fun ls hl => ?_)
  refine lv_aload_n hx hb dL_steps_8 rfl (lv_at hl 1 rfl) ?_
  obtain ⟨r4, m5, e6, h⟩ := zb_some h
  refine z_calll hS (va_runS (As := [.ref (G.2.1 (90))]) (rest := []) C (c_L_print l G e6 _) (va_cwS 1 hts gL_steps_L_print rfl rfl rfl hd_L_print ⟨Nat.le_of_ble_eq_true rfl, Nat.le_of_ble_eq_true rfl⟩) (z_preS Z hS hP) rfl rfl hl.1 rfl (lv_room (Nat.le_of_ble_eq_true rfl)) dL_steps_9 ⟨Nat.zero_le _, Nat.zero_le _⟩) (fun H locs hP hS => ?_)
  refine lv_lstore_n (lv' := [(3, .long (r4)), (2, .int (r1)), (0, .ref (G.2.1 (90))), (1, .int (x1))]) hx hb dL_steps_12 rfl hl (by decide) rfl (fun ls hl => ?_)
  refine lv_iload_n hx hb dL_steps_13 rfl (lv_at hl 3 rfl) ?_
  refine lv_iconst (v := 4) hx hb dL_steps_14 (by decide) ?_
  refine lv_idiv hx hb dL_steps_15 (by decide) ?_
  refine lv_iconst (v := 1) hx hb dL_steps_16 (by decide) ?_
  refine lv_iadd hx hb dL_steps_17 ?_
  refine lv_bipush (v := 6) hx hb dL_steps_18 (by decide) ?_
  refine lv_irem hx hb dL_steps_20 (by decide) ?_
  refine lv_istore (lv' := [(5, .int ((((x1 / 4) + 1) - ((x1 / 4) + 1) / 6 * 6))), (3, .long (r4)), (2, .int (r1)), (0, .ref (G.2.1 (90))), (1, .int (x1))]) hx hb dL_steps_21 hl (by decide) rfl (fun ls hl => ?_)
  refine lv_aload_n hx hb dL_steps_23 rfl (lv_at hl 3 rfl) ?_
  refine lv_iload hx hb dL_steps_24 (lv_at hl 0 rfl) ?_
  refine lv_bipush (v := 100) hx hb dL_steps_26 (by decide) ?_
  obtain ⟨r7, m8, e9, h⟩ := zb_some h
  refine z_calli hS (vx_runSW (As := [.ref (G.2.1 (90)), .int ((((x1 / 4) + 1) - ((x1 / 4) + 1) / 6 * 6)), .int (100)]) (rest := []) C (c_L_renew l G e9 _) (vx_cwSW 3 hts gL_steps_L_renew rfl rfl rfl hd_L_renew ⟨Nat.le_of_ble_eq_true rfl, Nat.le_of_ble_eq_true rfl⟩) (z_preS Z hS hP) rfl rfl hl.1 rfl (lv_room (Nat.le_of_ble_eq_true rfl)) dL_steps_28 ⟨Nat.zero_le _, Nat.zero_le _⟩) (fun H locs hP hS => ?_)
  refine lv_istore (lv' := [(6, .int (r7)), (5, .int ((((x1 / 4) + 1) - ((x1 / 4) + 1) / 6 * 6))), (3, .long (r4)), (2, .int (r1)), (0, .ref (G.2.1 (90))), (1, .int (x1))]) hx hb dL_steps_31 hl (by decide) rfl (fun ls hl => ?_)
  refine lv_aload_n hx hb dL_steps_33 rfl (lv_at hl 4 rfl) ?_
  obtain ⟨r10, m11, e12, h⟩ := zb_some h
  refine z_calli hS (va_runV (As := []) (rest := []) C (c_X3_wind l G e12 _) (cwV 0 hts gL_steps_X3_wind rfl rfl rfl hv_X3_wind ⟨Nat.le_of_ble_eq_true rfl, Nat.le_of_ble_eq_true rfl⟩) (z_preV Z hS hP (by decide) (z_E_90 _) rfl rfl) rfl rfl hl.1 rfl (lv_room (Nat.le_of_ble_eq_true rfl)) dL_steps_34 ⟨Nat.zero_le _, Nat.zero_le _⟩) (fun H locs hP hS => ?_)
  refine lv_istore (lv' := [(7, .int (r10)), (6, .int (r7)), (5, .int ((((x1 / 4) + 1) - ((x1 / 4) + 1) / 6 * 6))), (3, .long (r4)), (2, .int (r1)), (0, .ref (G.2.1 (90))), (1, .int (x1))]) hx hb dL_steps_37 hl (by decide) rfl (fun ls hl => ?_)
  refine lv_iconst (v := (-1)) hx hb dL_steps_39 (by decide) ?_
  refine lv_istore (lv' := [(8, .int ((-1))), (7, .int (r10)), (6, .int (r7)), (5, .int ((((x1 / 4) + 1) - ((x1 / 4) + 1) / 6 * 6))), (3, .long (r4)), (2, .int (r1)), (0, .ref (G.2.1 (90))), (1, .int (x1))]) hx hb dL_steps_40 hl (by decide) rfl (fun ls hl => ?_)
  refine lv_iconst (v := 1) hx hb dL_steps_42 (by decide) ?_
  refine lv_istore (lv' := [(9, .int (1)), (8, .int ((-1))), (7, .int (r10)), (6, .int (r7)), (5, .int ((((x1 / 4) + 1) - ((x1 / 4) + 1) / 6 * 6))), (3, .long (r4)), (2, .int (r1)), (0, .ref (G.2.1 (90))), (1, .int (x1))]) hx hb dL_steps_43 hl (by decide) rfl (fun ls hl => ?_)
  exact L_L_steps_b45 C hr hlk Z z_F _ _ _ _ _ _ _ _ _ h _ _ hP hS ls (lv_sub hl [7, 8, 6, 5, 4, 3, 2, 1, 0] rfl)
abbrev rm_L_shaves : Room := { frames := 7, cells := 0, slots := 0, locals := 154 }
theorem hd_L_shaves : yL_shaves.cls ≠ "java/lang/invoke/MethodHandle" ∧ yL_shaves.cls ≠ "java/lang/invoke/VarHandle" ∧ (parseMethodDescriptor yL_shaves.desc).map (fun d => d.parameters.length) = some 2 := by decide +kernel
theorem hv_L_shaves : yL_shaves.cls = RL ∧ yL_shaves.cls ≠ "java/lang/invoke/MethodHandle" ∧ yL_shaves.cls ≠ "java/lang/invoke/VarHandle" ∧ (parseMethodDescriptor yL_shaves.desc).map (fun d => d.parameters.length) = some 2 := ⟨rfl, hd_L_shaves⟩
set_option maxHeartbeats 8000000 in
set_option maxRecDepth 100000 in
theorem L_L_shaves_b46 {p : Program} {l : Launch} {e : Env} {s : State} {m : MethodId} {args : Array Value} {below : List Frame} {meth : Method} {c : Code} {G : zG} {r : Int32} {mu1 : Mm}  (C : CallFix p m c cL_shaves 9 s args wsL_shaves RL) (hr : meth.sig.returnType = (some .boolean)) (hlk : meth.locks = false) (Z : z_Z G (z_A G s.heap.size) s)  :
    ∀ (x1 : Int32) (x2 : Int32) (x3 : Int32) (x4 : Int32) (x5 : Int64) (y0 : Int32) (y1 : Int32) (μ : Mm), f_L_shaves_b46  x1 x2 x3 x4 x5 y0 y1 μ = some (r, mu1) → ∀ (H : Heap) (locs : List Loc), z_P G μ H → va_S (z_A G s.heap.size) s.heap H locs → ∀ ls : Array Slot, lv_has ls 9 [(0, .ref (G.2.1 (90))), (1, .int (x1)), (2, .int (x2)), (3, .int (x3)), (4, .int (x4)), (5, .long (x5))] → W p l e rm_L_shaves s m args below meth c H locs 0 0 (MQ below (z_Qi G r mu1 s.heap.size) args s 0 0 (z_A G s.heap.size)) (F0 m 46 ls [.int (y0), .int (y1)]) := by
  have hx := C.1
  have hb := C.2.1
  have hts := C.2.2.2.2
  intro x1 x2 x3 x4 x5 y0 y1 μ h H locs hP hS ls hl
  unfold f_L_shaves_b46 at h
  refine lv_icmp_ne (tgt := 87) hx hb dL_shaves_46 (by decide) (fun hc17 => ?_) (fun hc17 => ?_)
  · have h := z_in hc17 h
    cases h
  · have h := z_ip hc17 h
    refine lv_aload_n hx hb dL_shaves_49 rfl (lv_at hl 0 rfl) ?_
    refine lv_iload_n hx hb dL_shaves_50 rfl (lv_at hl 1 rfl) ?_
    refine lv_iconst (v := 0) hx hb dL_shaves_51 (by decide) ?_
    obtain ⟨r18, m19, e20, h⟩ := zb_some h
    refine z_calli hS (vx_runSW (As := [.ref (G.2.1 (90)), .int (x1), .int (0)]) (rest := []) C (c_L_cylinderOf l G e20 _) (vx_cwSW 3 hts gL_shaves_L_cylinderOf rfl rfl rfl hd_L_cylinderOf ⟨Nat.le_of_ble_eq_true rfl, Nat.le_of_ble_eq_true rfl⟩) (z_preS Z hS hP) rfl rfl hl.1 rfl (lv_room (Nat.le_of_ble_eq_true rfl)) dL_shaves_52 ⟨Nat.zero_le _, Nat.zero_le _⟩) (fun H locs hP hS => ?_)
    refine lv_iload_n hx hb dL_shaves_55 rfl (lv_at hl 3 rfl) ?_
    refine lv_iload_n hx hb dL_shaves_56 rfl (lv_at hl 2 rfl) ?_
    refine lv_isub hx hb dL_shaves_57 ?_
    refine lv_icmp_ne (tgt := 87) hx hb dL_shaves_58 (by decide) (fun hc21 => ?_) (fun hc21 => ?_)
    · have h := z_in hc21 h
      cases h
    · have h := z_ip hc21 h
      refine lv_aload_n hx hb dL_shaves_61 rfl (lv_at hl 0 rfl) ?_
      refine lv_bipush (v := 8) hx hb dL_shaves_62 (by decide) ?_
      obtain ⟨r22, m23, e24, h⟩ := zb_some h
      refine z_calli hS (vx_runSW (As := [.ref (G.2.1 (90)), .int (8)]) (rest := []) C (c_L_count l G e24 _) (vx_cwSW 2 hts gL_shaves_L_count rfl rfl rfl hd_L_count ⟨Nat.le_of_ble_eq_true rfl, Nat.le_of_ble_eq_true rfl⟩) (z_preS Z hS hP) rfl rfl hl.1 rfl (lv_room (Nat.le_of_ble_eq_true rfl)) dL_shaves_64 ⟨Nat.zero_le _, Nat.zero_le _⟩) (fun H locs hP hS => ?_)
      refine lv_iload hx hb dL_shaves_67 (lv_at hl 4 rfl) ?_
      refine lv_iload_n hx hb dL_shaves_69 rfl (lv_at hl 2 rfl) ?_
      refine lv_iadd hx hb dL_shaves_70 ?_
      refine lv_icmp_ne (tgt := 87) hx hb dL_shaves_71 (by decide) (fun hc25 => ?_) (fun hc25 => ?_)
      · have h := z_in hc25 h
        cases h
      · have h := z_ip hc25 h
        refine lv_aload_n hx hb dL_shaves_74 rfl (lv_at hl 0 rfl) ?_
        refine lv_iload_n hx hb dL_shaves_75 rfl (lv_at hl 1 rfl) ?_
        refine lv_iconst (v := 1) hx hb dL_shaves_76 (by decide) ?_
        obtain ⟨r26, m27, e28, h⟩ := zb_some h
        refine z_calli hS (vx_runSW (As := [.ref (G.2.1 (90)), .int (x1), .int (1)]) (rest := []) C (c_L_cylinderOf l G e28 _) (vx_cwSW 3 hts gL_shaves_L_cylinderOf rfl rfl rfl hd_L_cylinderOf ⟨Nat.le_of_ble_eq_true rfl, Nat.le_of_ble_eq_true rfl⟩) (z_preS Z hS hP) rfl rfl hl.1 rfl (lv_room (Nat.le_of_ble_eq_true rfl)) dL_shaves_77 ⟨Nat.zero_le _, Nat.zero_le _⟩) (fun H locs hP hS => ?_)
        refine lv_if_ne (tgt := 87) hx hb dL_shaves_80 (by decide) (fun hc29 => ?_) (fun hc29 => ?_)
        · have h := z_in hc29 h
          cases h
        · have h := z_ip hc29 h
          refine lv_iconst (v := 1) hx hb dL_shaves_83 (by decide) ?_
          refine lv_goto (tgt := 88) hx hb dL_shaves_84 (by decide) ?_
          refine lv_istore (lv' := [(8, .int (1)), (0, .ref (G.2.1 (90))), (1, .int (x1)), (2, .int (x2)), (3, .int (x3)), (4, .int (x4)), (5, .long (x5))]) hx hb dL_shaves_88 hl (by decide) rfl (fun ls hl => ?_)
          refine lv_iload hx hb dL_shaves_90 (lv_at hl 0 rfl) ?_
          refine lv_if_eq (tgt := 116) hx hb dL_shaves_92 (by decide) (fun hc => absurd hc (by decide)) (fun _ => ?_)
          refine lv_aload_n hx hb dL_shaves_95 rfl (lv_at hl 1 rfl) ?_
          obtain ⟨r30, m31, e32, h⟩ := zb_some h
          refine z_calli hS (vx_runSW (As := [.ref (G.2.1 (90))]) (rest := []) C (c_L_undo l G e32 _) (vx_cwSW 1 hts gL_shaves_L_undo rfl rfl rfl hd_L_undo ⟨Nat.le_of_ble_eq_true rfl, Nat.le_of_ble_eq_true rfl⟩) (z_preS Z hS hP) rfl rfl hl.1 rfl (lv_room (Nat.le_of_ble_eq_true rfl)) dL_shaves_96 ⟨Nat.zero_le _, Nat.zero_le _⟩) (fun H locs hP hS => ?_)
          refine lv_if_lt (tgt := 116) hx hb dL_shaves_99 (by decide) (fun hc33 => ?_) (fun hc33 => ?_)
          · have h := z_ip hc33 h
            cases h
          · have h := z_in hc33 h
            refine lv_aload_n hx hb dL_shaves_102 rfl (lv_at hl 1 rfl) ?_
            obtain ⟨r34, m35, e36, h⟩ := zb_some h
            refine z_calll hS (va_runS (As := [.ref (G.2.1 (90))]) (rest := []) C (c_L_print l G e36 _) (va_cwS 1 hts gL_shaves_L_print rfl rfl rfl hd_L_print ⟨Nat.le_of_ble_eq_true rfl, Nat.le_of_ble_eq_true rfl⟩) (z_preS Z hS hP) rfl rfl hl.1 rfl (lv_room (Nat.le_of_ble_eq_true rfl)) dL_shaves_103 ⟨Nat.zero_le _, Nat.zero_le _⟩) (fun H locs hP hS => ?_)
            refine lv_lload hx hb dL_shaves_106 (lv_at hl 6 rfl) ?_
            refine W.lcmp hx hb dL_shaves_108 ?_
            refine lv_if_ne (tgt := 116) hx hb dL_shaves_109 (by decide) (fun hc37 => ?_) (fun hc37 => ?_)
            · have h := z_in hc37 h
              cases h
            · have h := z_ip hc37 h
              refine lv_iconst (v := 1) hx hb dL_shaves_112 (by decide) ?_
              refine lv_goto (tgt := 117) hx hb dL_shaves_113 (by decide) ?_
              cases h
              exact z_retz C hr hlk rfl hP hS dL_shaves_117
set_option maxHeartbeats 4000000 in
set_option maxRecDepth 100000 in
theorem c_L_shaves (l : Launch) (G : zG) {x1 : Int32} {μ mu1 : Mm} {r : Int32} (h : f_L_shaves x1 μ = some (r, mu1)) (sz : Nat) : Met l yL_shaves wsL_shaves rm_L_shaves (z_Pre G μ [.ref (G.2.1 (90)), .int (x1)] sz) (z_Qi G r mu1 sz) 0 0 (z_A G sz) := by
  refine z_start (cc := cL_shaves) (maxL := 9) (ret := (some .boolean)) (own := RL) (by decide) rfl rfl (Nat.le_of_ble_eq_true rfl) (fun p e s m args below meth c C hr hlk Z hP ls hl => ?_) sz
  have hx := C.1
  have hb := C.2.1
  have hts := C.2.2.2.2
  have hS : va_S (z_A G s.heap.size) s.heap s.heap [] := va_S.rf
  have hl : lv_has ls 9 [(0, .ref (G.2.1 (90))), (1, .int (x1))] := hl
  unfold f_L_shaves at h
  refine lv_aload_n hx hb dL_shaves_0 rfl (lv_at hl 0 rfl) ?_
  refine lv_iload_n hx hb dL_shaves_1 rfl (lv_at hl 1 rfl) ?_
  refine lv_iconst (v := 2) hx hb dL_shaves_2 (by decide) ?_
  obtain ⟨r1, m2, e3, h⟩ := zb_some h
  refine z_calli hS (vx_runSW (As := [.ref (G.2.1 (90)), .int (x1), .int (2)]) (rest := []) C (c_L_cylinderOf l G e3 _) (vx_cwSW 3 hts gL_shaves_L_cylinderOf rfl rfl rfl hd_L_cylinderOf ⟨Nat.le_of_ble_eq_true rfl, Nat.le_of_ble_eq_true rfl⟩) (z_preS Z hS hP) rfl rfl hl.1 rfl (lv_room (Nat.le_of_ble_eq_true rfl)) dL_shaves_3 ⟨Nat.zero_le _, Nat.zero_le _⟩) (fun H locs hP hS => ?_)
  refine lv_istore_n (lv' := [(2, .int (r1)), (0, .ref (G.2.1 (90))), (1, .int (x1))]) hx hb dL_shaves_6 rfl hl (by decide) rfl (fun ls hl => ?_)
  refine lv_aload_n hx hb dL_shaves_7 rfl (lv_at hl 1 rfl) ?_
  refine lv_iload_n hx hb dL_shaves_8 rfl (lv_at hl 2 rfl) ?_
  refine lv_iconst (v := 0) hx hb dL_shaves_9 (by decide) ?_
  obtain ⟨r4, m5, e6, h⟩ := zb_some h
  refine z_calli hS (vx_runSW (As := [.ref (G.2.1 (90)), .int (x1), .int (0)]) (rest := []) C (c_L_cylinderOf l G e6 _) (vx_cwSW 3 hts gL_shaves_L_cylinderOf rfl rfl rfl hd_L_cylinderOf ⟨Nat.le_of_ble_eq_true rfl, Nat.le_of_ble_eq_true rfl⟩) (z_preS Z hS hP) rfl rfl hl.1 rfl (lv_room (Nat.le_of_ble_eq_true rfl)) dL_shaves_10 ⟨Nat.zero_le _, Nat.zero_le _⟩) (fun H locs hP hS => ?_)
  refine lv_istore_n (lv' := [(3, .int (r4)), (2, .int (r1)), (0, .ref (G.2.1 (90))), (1, .int (x1))]) hx hb dL_shaves_13 rfl hl (by decide) rfl (fun ls hl => ?_)
  refine lv_aload_n hx hb dL_shaves_14 rfl (lv_at hl 2 rfl) ?_
  refine lv_bipush (v := 8) hx hb dL_shaves_15 (by decide) ?_
  obtain ⟨r7, m8, e9, h⟩ := zb_some h
  refine z_calli hS (vx_runSW (As := [.ref (G.2.1 (90)), .int (8)]) (rest := []) C (c_L_count l G e9 _) (vx_cwSW 2 hts gL_shaves_L_count rfl rfl rfl hd_L_count ⟨Nat.le_of_ble_eq_true rfl, Nat.le_of_ble_eq_true rfl⟩) (z_preS Z hS hP) rfl rfl hl.1 rfl (lv_room (Nat.le_of_ble_eq_true rfl)) dL_shaves_17 ⟨Nat.zero_le _, Nat.zero_le _⟩) (fun H locs hP hS => ?_)
  refine lv_istore (lv' := [(4, .int (r7)), (3, .int (r4)), (2, .int (r1)), (0, .ref (G.2.1 (90))), (1, .int (x1))]) hx hb dL_shaves_20 hl (by decide) rfl (fun ls hl => ?_)
  refine lv_aload_n hx hb dL_shaves_22 rfl (lv_at hl 3 rfl) ?_
  obtain ⟨r10, m11, e12, h⟩ := zb_some h
  refine z_calll hS (va_runS (As := [.ref (G.2.1 (90))]) (rest := []) C (c_L_print l G e12 _) (va_cwS 1 hts gL_shaves_L_print rfl rfl rfl hd_L_print ⟨Nat.le_of_ble_eq_true rfl, Nat.le_of_ble_eq_true rfl⟩) (z_preS Z hS hP) rfl rfl hl.1 rfl (lv_room (Nat.le_of_ble_eq_true rfl)) dL_shaves_23 ⟨Nat.zero_le _, Nat.zero_le _⟩) (fun H locs hP hS => ?_)
  refine lv_lstore (lv' := [(5, .long (r10)), (4, .int (r7)), (3, .int (r4)), (2, .int (r1)), (0, .ref (G.2.1 (90))), (1, .int (x1))]) hx hb dL_shaves_26 hl (by decide) rfl (fun ls hl => ?_)
  refine lv_aload_n hx hb dL_shaves_28 rfl (lv_at hl 4 rfl) ?_
  refine lv_iload_n hx hb dL_shaves_29 rfl (lv_at hl 5 rfl) ?_
  obtain ⟨r13, m14, e15, h⟩ := zb_some h
  refine z_calli hS (vx_runSW (As := [.ref (G.2.1 (90)), .int (x1)]) (rest := []) C (c_L_shave l G e15 _) (vx_cwSW 2 hts gL_shaves_L_shave rfl rfl rfl hd_L_shave ⟨Nat.le_of_ble_eq_true rfl, Nat.le_of_ble_eq_true rfl⟩) (z_preS Z hS hP) rfl rfl hl.1 rfl (lv_room (Nat.le_of_ble_eq_true rfl)) dL_shaves_30 ⟨Nat.zero_le _, Nat.zero_le _⟩) (fun H locs hP hS => ?_)
  refine lv_istore (lv' := [(7, .int (r13)), (5, .long (r10)), (4, .int (r7)), (3, .int (r4)), (2, .int (r1)), (0, .ref (G.2.1 (90))), (1, .int (x1))]) hx hb dL_shaves_33 hl (by decide) rfl (fun ls hl => ?_)
  refine lv_iload hx hb dL_shaves_35 (lv_at hl 0 rfl) ?_
  refine lv_iload_n hx hb dL_shaves_37 rfl (lv_at hl 4 rfl) ?_
  refine lv_if_ne (tgt := 45) hx hb dL_shaves_38 (by decide) (fun hc16 => ?_) (fun hc16 => ?_)
  · have h := z_in hc16 h
    refine lv_iload_n hx hb dL_shaves_45 rfl (lv_at hl 4 rfl) ?_
    exact L_L_shaves_b46 C hr hlk Z _ _ _ _ _ _ _ _ h _ _ hP hS ls (lv_sub hl [5, 6, 4, 3, 2, 1] rfl)
  · have h := z_ip hc16 h
    refine lv_iconst (v := (-1)) hx hb dL_shaves_41 (by decide) ?_
    refine lv_goto (tgt := 46) hx hb dL_shaves_42 (by decide) ?_
    exact L_L_shaves_b46 C hr hlk Z _ _ _ _ _ _ _ _ h _ _ hP hS ls (lv_sub hl [5, 6, 4, 3, 2, 1] rfl)
