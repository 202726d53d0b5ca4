abbrev rm_L_hangs : Room := { frames := 11, cells := 0, slots := 0, locals := 283 }
theorem hd_L_hangs : yL_hangs.cls ≠ "java/lang/invoke/MethodHandle" ∧ yL_hangs.cls ≠ "java/lang/invoke/VarHandle" ∧ (parseMethodDescriptor yL_hangs.desc).map (fun d => d.parameters.length) = some 1 := by decide +kernel
theorem hv_L_hangs : yL_hangs.cls = RL ∧ yL_hangs.cls ≠ "java/lang/invoke/MethodHandle" ∧ yL_hangs.cls ≠ "java/lang/invoke/VarHandle" ∧ (parseMethodDescriptor yL_hangs.desc).map (fun d => d.parameters.length) = some 1 := ⟨rfl, hd_L_hangs⟩
set_option maxHeartbeats 8000000 in
set_option maxRecDepth 100000 in
theorem L_L_hangs_b634 {p : Program} {l : Launch} {e : Env} {s : State} {m : MethodId} {args : Array Value} {below : List Frame} {meth : Method} {c : Code} {G : zG} {r : Int32} {mu1 : Mm}  (C : CallFix p m c cL_hangs 11 s args wsL_hangs RL) (hr : meth.sig.returnType = (some .boolean)) (hlk : meth.locks = false) (Z : z_Z G (z_A G s.heap.size) s)  :
    ∀ (x1 : Int32) (x4 : Int32) (y0 : UInt32) (y1 : UInt32) (μ : Mm), f_L_hangs_b634  x1 x4 y0 y1 μ = some (r, mu1) → ∀ (H : Heap) (locs : List Loc), z_P G μ H → va_S (z_A G s.heap.size) s.heap H locs → ∀ ls : Array Slot, lv_has ls 11 [(0, .ref (G.2.1 (90))), (1, .int (x1)), (4, .int (x4))] → W p l e rm_L_hangs s m args below meth c H locs 0 0 (MQ below (z_Qi G r mu1 s.heap.size) args s 0 0 (z_A G s.heap.size)) (F0 m 634 ls [.float (y0), .float (y1)]) := by
  have hx := C.1
  have hb := C.2.1
  have hts := C.2.2.2.2
  intro x1 x4 y0 y1 μ h H locs hP hS ls hl
  unfold f_L_hangs_b634 at h
  refine lv_fcmp hx hb dL_hangs_634 ?_
  refine lv_if_ne (tgt := 667) hx hb dL_hangs_635 (by decide) (fun hc67 => ?_) (fun hc67 => ?_)
  · have h := z_in hc67 h
    cases h
  · have h := z_ip hc67 h
    refine lv_aload_n hx hb dL_hangs_638 rfl (lv_at hl 0 rfl) ?_
    obtain ⟨r68, m69, e70, h⟩ := zb_some h
    refine z_calld hS (va_runV (As := []) (rest := []) C (c_X3_clearShare l G e70 _) (cwV 0 hts gL_hangs_X3_clearShare rfl rfl rfl hv_X3_clearShare ⟨Nat.le_of_ble_eq_true rfl, Nat.le_of_ble_eq_true rfl⟩) (z_preV Z hS hP (by decide) (z_E_90 _) rfl rfl) rfl rfl hl.1 rfl (lv_room (Nat.le_of_ble_eq_true rfl)) dL_hangs_639 ⟨Nat.zero_le _, Nat.zero_le _⟩) (fun H locs hP hS => ?_)
    refine lv_iload_n hx hb dL_hangs_642 rfl (lv_at hl 1 rfl) ?_
    refine lv_if_ne (tgt := 650) hx hb dL_hangs_643 (by decide) (fun hc71 => ?_) (fun hc71 => ?_)
    · have h := z_in hc71 h
      refine lv_iload hx hb dL_hangs_650 (lv_at hl 2 rfl) ?_
      refine lv_i2d hx hb dL_hangs_652 ?_
      refine lv_bipush (v := 100) hx hb dL_hangs_653 (by decide) ?_
      refine lv_iload_n hx hb dL_hangs_655 rfl (lv_at hl 1 rfl) ?_
      refine lv_imul hx hb dL_hangs_656 ?_
      refine lv_i2d hx hb dL_hangs_657 ?_
      obtain ⟨hg72, h⟩ := z_g h
      refine lv_ddiv hx hb dL_hangs_658 hg72 ?_
      refine lv_dcmp hx hb dL_hangs_659 ?_
      refine lv_if_ne (tgt := 667) hx hb dL_hangs_660 (by decide) (fun hc73 => ?_) (fun hc73 => ?_)
      · have h := z_in hc73 h
        cases h
      · have h := z_ip hc73 h
        refine lv_iconst (v := 1) hx hb dL_hangs_663 (by decide) ?_
        refine lv_goto (tgt := 668) hx hb dL_hangs_664 (by decide) ?_
        cases h
        exact z_retz C hr hlk rfl hP hS dL_hangs_668
    · have h := z_ip hc71 h
      refine lv_dconst0 hx hb dL_hangs_646 ?_
      refine lv_goto (tgt := 659) hx hb dL_hangs_647 (by decide) ?_
      refine lv_dcmp hx hb dL_hangs_659 ?_
      refine lv_if_ne (tgt := 667) hx hb dL_hangs_660 (by decide) (fun hc74 => ?_) (fun hc74 => ?_)
      · have h := z_in hc74 h
        cases h
      · have h := z_ip hc74 h
        refine lv_iconst (v := 1) hx hb dL_hangs_663 (by decide) ?_
        refine lv_goto (tgt := 668) hx hb dL_hangs_664 (by decide) ?_
        cases h
        exact z_retz C hr hlk rfl hP hS dL_hangs_668
set_option maxHeartbeats 8000000 in
set_option maxRecDepth 100000 in
theorem L_L_hangs_b602 {p : Program} {l : Launch} {e : Env} {s : State} {m : MethodId} {args : Array Value} {below : List Frame} {meth : Method} {c : Code} {G : zG} {r : Int32} {mu1 : Mm}  (C : CallFix p m c cL_hangs 11 s args wsL_hangs RL) (hr : meth.sig.returnType = (some .boolean)) (hlk : meth.locks = false) (Z : z_Z G (z_A G s.heap.size) s)  :
    ∀ (x1 : Int32) (x3 : Int32) (x4 : Int32) (y0 : Int32) (y1 : Int32) (μ : Mm), f_L_hangs_b602  x1 x3 x4 y0 y1 μ = some (r, mu1) → ∀ (H : Heap) (locs : List Loc), z_P G μ H → va_S (z_A G s.heap.size) s.heap H locs → ∀ ls : Array Slot, lv_has ls 11 [(0, .ref (G.2.1 (90))), (1, .int (x1)), (3, .int (x3)), (4, .int (x4))] → W p l e rm_L_hangs s m args below meth c H locs 0 0 (MQ below (z_Qi G r mu1 s.heap.size) args s 0 0 (z_A G s.heap.size)) (F0 m 602 ls [.int (y0), .int (y1)]) := by
  have hx := C.1
  have hb := C.2.1
  have hts := C.2.2.2.2
  intro x1 x3 x4 y0 y1 μ h H locs hP hS ls hl
  unfold f_L_hangs_b602 at h
  refine lv_icmp_ne (tgt := 609) hx hb dL_hangs_602 (by decide) (fun hc61 => ?_) (fun hc61 => ?_)
  · have h := z_in hc61 h
    cases h
  · have h := z_ip hc61 h
    refine lv_iconst (v := 1) hx hb dL_hangs_605 (by decide) ?_
    refine lv_goto (tgt := 610) hx hb dL_hangs_606 (by decide) ?_
    refine lv_istore (lv' := [(8, .int (1)), (0, .ref (G.2.1 (90))), (1, .int (x1)), (3, .int (x3)), (4, .int (x4))]) hx hb dL_hangs_610 hl (by decide) rfl (fun ls hl => ?_)
    refine lv_iload hx hb dL_hangs_612 (lv_at hl 0 rfl) ?_
    refine lv_if_eq (tgt := 667) hx hb dL_hangs_614 (by decide) (fun hc => absurd hc (by decide)) (fun _ => ?_)
    refine lv_aload_n hx hb dL_hangs_617 rfl (lv_at hl 1 rfl) ?_
    obtain ⟨r62, m63, e64, h⟩ := zb_some h
    refine z_callf hS (va_runV (As := []) (rest := []) C (c_X3_meanDepth l G e64 _) (cwV 0 hts gL_hangs_X3_meanDepth rfl rfl rfl hv_X3_meanDepth ⟨Nat.le_of_ble_eq_true rfl, Nat.le_of_ble_eq_true rfl⟩) (z_preV Z hS hP (by decide) (z_E_90 _) rfl rfl) rfl rfl hl.1 rfl (lv_room (Nat.le_of_ble_eq_true rfl)) dL_hangs_618 ⟨Nat.zero_le _, Nat.zero_le _⟩) (fun H locs hP hS => ?_)
    refine lv_iload_n hx hb dL_hangs_621 rfl (lv_at hl 2 rfl) ?_
    refine lv_if_ne (tgt := 629) hx hb dL_hangs_622 (by decide) (fun hc65 => ?_) (fun hc65 => ?_)
    · have h := z_in hc65 h
      refine lv_iload_n hx hb dL_hangs_629 rfl (lv_at hl 3 rfl) ?_
      refine lv_i2f hx hb dL_hangs_630 ?_
      refine lv_iload_n hx hb dL_hangs_631 rfl (lv_at hl 2 rfl) ?_
      refine lv_i2f hx hb dL_hangs_632 ?_
      obtain ⟨hg66, h⟩ := z_g h
      refine lv_fdiv hx hb dL_hangs_633 hg66 ?_
      exact L_L_hangs_b634 C hr hlk Z _ _ _ _ _ h _ _ hP hS ls (lv_sub hl [1, 2, 4] rfl)
    · have h := z_ip hc65 h
      refine lv_fconst0 hx hb dL_hangs_625 ?_
      refine lv_goto (tgt := 634) hx hb dL_hangs_626 (by decide) ?_
      exact L_L_hangs_b634 C hr hlk Z _ _ _ _ _ h _ _ hP hS ls (lv_sub hl [1, 2, 4] rfl)
set_option maxHeartbeats 8000000 in
set_option maxRecDepth 100000 in
theorem L_L_hangs_b525 {p : Program} {l : Launch} {e : Env} {s : State} {m : MethodId} {args : Array Value} {below : List Frame} {meth : Method} {c : Code} {G : zG} {r : Int32} {mu1 : Mm}  (C : CallFix p m c cL_hangs 11 s args wsL_hangs RL) (hr : meth.sig.returnType = (some .boolean)) (hlk : meth.locks = false) (Z : z_Z G (z_A G s.heap.size) s)  :
    ∀ (x1 : Int32) (x3 : Int32) (x4 : Int32) (μ : Mm), f_L_hangs_b525  x1 x3 x4 μ = some (r, mu1) → ∀ (H : Heap) (locs : List Loc), z_P G μ H → va_S (z_A G s.heap.size) s.heap H locs → ∀ ls : Array Slot, lv_has ls 11 [(0, .ref (G.2.1 (90))), (1, .int (x1)), (3, .int (x3)), (4, .int (x4))] → W p l e rm_L_hangs s m args below meth c H locs 0 0 (MQ below (z_Qi G r mu1 s.heap.size) args s 0 0 (z_A G s.heap.size)) (F0 m 525 ls []) := by
  have hx := C.1
  have hb := C.2.1
  have hts := C.2.2.2.2
  intro x1 x3 x4 μ h H locs hP hS ls hl
  unfold f_L_hangs_b525 at h
  refine lv_iconst (v := 1) hx hb dL_hangs_525 (by decide) ?_
  refine lv_goto (tgt := 530) hx hb dL_hangs_526 (by decide) ?_
  refine lv_istore (lv' := [(8, .int (1)), (0, .ref (G.2.1 (90))), (1, .int (x1)), (3, .int (x3)), (4, .int (x4))]) hx hb dL_hangs_530 hl (by decide) rfl (fun ls hl => ?_)
  refine lv_iload hx hb dL_hangs_532 (lv_at hl 0 rfl) ?_
  refine lv_if_eq (tgt := 609) hx hb dL_hangs_534 (by decide) (fun hc => absurd hc (by decide)) (fun _ => ?_)
  refine lv_aload_n hx hb dL_hangs_537 rfl (lv_at hl 1 rfl) ?_
  refine lv_iconst (v := 0) hx hb dL_hangs_538 (by decide) ?_
  obtain ⟨r38, m39, e40, h⟩ := zb_some h
  refine z_calli hS (vx_runSW (As := [.ref (G.2.1 (90)), .int (0)]) (rest := []) C (c_L_count l G e40 _) (vx_cwSW 2 hts gL_hangs_L_count rfl rfl rfl hd_L_count ⟨Nat.le_of_ble_eq_true rfl, Nat.le_of_ble_eq_true rfl⟩) (z_preS Z hS hP) rfl rfl hl.1 rfl (lv_room (Nat.le_of_ble_eq_true rfl)) dL_hangs_539 ⟨Nat.zero_le _, Nat.zero_le _⟩) (fun H locs hP hS => ?_)
  refine lv_if_lt (tgt := 609) hx hb dL_hangs_542 (by decide) (fun hc41 => ?_) (fun hc41 => ?_)
  · have h := z_ip hc41 h
    cases h
  · have h := z_in hc41 h
    refine lv_aload_n hx hb dL_hangs_545 rfl (lv_at hl 1 rfl) ?_
    refine lv_iconst (v := 0) hx hb dL_hangs_546 (by decide) ?_
    obtain ⟨r42, m43, e44, h⟩ := zb_some h
    refine z_calli hS (vx_runSW (As := [.ref (G.2.1 (90)), .int (0)]) (rest := []) C (c_L_count l G e44 _) (vx_cwSW 2 hts gL_hangs_L_count rfl rfl rfl hd_L_count ⟨Nat.le_of_ble_eq_true rfl, Nat.le_of_ble_eq_true rfl⟩) (z_preS Z hS hP) rfl rfl hl.1 rfl (lv_room (Nat.le_of_ble_eq_true rfl)) dL_hangs_547 ⟨Nat.zero_le _, Nat.zero_le _⟩) (fun H locs hP hS => ?_)
    refine lv_bipush (v := 100) hx hb dL_hangs_550 (by decide) ?_
    refine lv_icmp_gt (tgt := 609) hx hb dL_hangs_552 (by decide) (fun hc45 => ?_) (fun hc45 => ?_)
    · have h := z_ip hc45 h
      cases h
    · have h := z_in hc45 h
      refine lv_aload_n hx hb dL_hangs_555 rfl (lv_at hl 1 rfl) ?_
      refine lv_iconst (v := 1) hx hb dL_hangs_556 (by decide) ?_
      obtain ⟨r46, m47, e48, h⟩ := zb_some h
      refine z_calli hS (vx_runSW (As := [.ref (G.2.1 (90)), .int (1)]) (rest := []) C (c_L_count l G e48 _) (vx_cwSW 2 hts gL_hangs_L_count rfl rfl rfl hd_L_count ⟨Nat.le_of_ble_eq_true rfl, Nat.le_of_ble_eq_true rfl⟩) (z_preS Z hS hP) rfl rfl hl.1 rfl (lv_room (Nat.le_of_ble_eq_true rfl)) dL_hangs_557 ⟨Nat.zero_le _, Nat.zero_le _⟩) (fun H locs hP hS => ?_)
      refine lv_if_lt (tgt := 609) hx hb dL_hangs_560 (by decide) (fun hc49 => ?_) (fun hc49 => ?_)
      · have h := z_ip hc49 h
        cases h
      · have h := z_in hc49 h
        refine lv_aload_n hx hb dL_hangs_563 rfl (lv_at hl 1 rfl) ?_
        refine lv_iconst (v := 1) hx hb dL_hangs_564 (by decide) ?_
        obtain ⟨r50, m51, e52, h⟩ := zb_some h
        refine z_calli hS (vx_runSW (As := [.ref (G.2.1 (90)), .int (1)]) (rest := []) C (c_L_count l G e52 _) (vx_cwSW 2 hts gL_hangs_L_count rfl rfl rfl hd_L_count ⟨Nat.le_of_ble_eq_true rfl, Nat.le_of_ble_eq_true rfl⟩) (z_preS Z hS hP) rfl rfl hl.1 rfl (lv_room (Nat.le_of_ble_eq_true rfl)) dL_hangs_565 ⟨Nat.zero_le _, Nat.zero_le _⟩) (fun H locs hP hS => ?_)
        refine lv_bipush (v := 100) hx hb dL_hangs_568 (by decide) ?_
        refine lv_icmp_gt (tgt := 609) hx hb dL_hangs_570 (by decide) (fun hc53 => ?_) (fun hc53 => ?_)
        · have h := z_ip hc53 h
          cases h
        · have h := z_in hc53 h
          refine lv_aload_n hx hb dL_hangs_573 rfl (lv_at hl 1 rfl) ?_
          refine lv_iconst (v := 2) hx hb dL_hangs_574 (by decide) ?_
          obtain ⟨r54, m55, e56, h⟩ := zb_some h
          refine z_calli hS (vx_runSW (As := [.ref (G.2.1 (90)), .int (2)]) (rest := []) C (c_L_count l G e56 _) (vx_cwSW 2 hts gL_hangs_L_count rfl rfl rfl hd_L_count ⟨Nat.le_of_ble_eq_true rfl, Nat.le_of_ble_eq_true rfl⟩) (z_preS Z hS hP) rfl rfl hl.1 rfl (lv_room (Nat.le_of_ble_eq_true rfl)) dL_hangs_575 ⟨Nat.zero_le _, Nat.zero_le _⟩) (fun H locs hP hS => ?_)
          refine lv_aload_n hx hb dL_hangs_578 rfl (lv_at hl 1 rfl) ?_
          refine lv_iconst (v := 1) hx hb dL_hangs_579 (by decide) ?_
          obtain ⟨r57, m58, e59, h⟩ := zb_some h
          refine z_calli hS (vx_runSW (As := [.ref (G.2.1 (90)), .int (1)]) (rest := [.int (r54)]) C (c_L_count l G e59 _) (vx_cwSW 2 hts gL_hangs_L_count rfl rfl rfl hd_L_count ⟨Nat.le_of_ble_eq_true rfl, Nat.le_of_ble_eq_true rfl⟩) (z_preS Z hS hP) rfl rfl hl.1 rfl (lv_room (Nat.le_of_ble_eq_true rfl)) dL_hangs_580 ⟨Nat.zero_le _, Nat.zero_le _⟩) (fun H locs hP hS => ?_)
          refine lv_bipush (v := 50) hx hb dL_hangs_583 (by decide) ?_
          refine lv_icmp_ge (tgt := 601) hx hb dL_hangs_585 (by decide) (fun hc60 => ?_) (fun hc60 => ?_)
          · have h := z_ip hc60 h
            refine lv_iconst (v := 0) hx hb dL_hangs_601 (by decide) ?_
            exact L_L_hangs_b602 C hr hlk Z _ _ _ _ _ _ h _ _ hP hS ls (lv_sub hl [1, 2, 3, 4] rfl)
          · have h := z_in hc60 h
            refine lv_bipush (v := 50) hx hb dL_hangs_588 (by decide) ?_
            refine lv_aload_n hx hb dL_hangs_590 rfl (lv_at hl 1 rfl) ?_
            refine lv_iconst (v := 1) hx hb dL_hangs_591 (by decide) ?_
            obtain ⟨r75, m76, e77, h⟩ := zb_some h
            refine z_calli hS (vx_runSW (As := [.ref (G.2.1 (90)), .int (1)]) (rest := [.int (50), .int (r54)]) C (c_L_count l G e77 _) (vx_cwSW 2 hts gL_hangs_L_count rfl rfl rfl hd_L_count ⟨Nat.le_of_ble_eq_true rfl, Nat.le_of_ble_eq_true rfl⟩) (z_preS Z hS hP) rfl rfl hl.1 rfl (lv_room (Nat.le_of_ble_eq_true rfl)) dL_hangs_592 ⟨Nat.zero_le _, Nat.zero_le _⟩) (fun H locs hP hS => ?_)
            refine lv_isub hx hb dL_hangs_595 ?_
            refine lv_iconst (v := 5) hx hb dL_hangs_596 (by decide) ?_
            refine lv_idiv hx hb dL_hangs_597 (by decide) ?_
            refine lv_goto (tgt := 602) hx hb dL_hangs_598 (by decide) ?_
            exact L_L_hangs_b602 C hr hlk Z _ _ _ _ _ _ h _ _ hP hS ls (lv_sub hl [1, 2, 3, 4] rfl)
set_option maxHeartbeats 8000000 in
set_option maxRecDepth 100000 in
theorem L_L_hangs_b505 {p : Program} {l : Launch} {e : Env} {s : State} {m : MethodId} {args : Array Value} {below : List Frame} {meth : Method} {c : Code} {G : zG} {r : Int32} {mu1 : Mm}  (C : CallFix p m c cL_hangs 11 s args wsL_hangs RL) (hr : meth.sig.returnType = (some .boolean)) (hlk : meth.locks = false) (Z : z_Z G (z_A G s.heap.size) s)  :
    ∀ (x1 : Int32) (x3 : Int32) (x4 : Int32) (x6 : Int32) (x7 : Int32) (y0 : Int32) (y1 : Int32) (μ : Mm), f_L_hangs_b505  x1 x3 x4 x6 x7 y0 y1 μ = some (r, mu1) → ∀ (H : Heap) (locs : List Loc), z_P G μ H → va_S (z_A G s.heap.size) s.heap H locs → ∀ ls : Array Slot, lv_has ls 11 [(0, .ref (G.2.1 (90))), (1, .int (x1)), (3, .int (x3)), (4, .int (x4)), (6, .int (x6)), (7, .int (x7))] → W p l e rm_L_hangs s m args below meth c H locs 0 0 (MQ below (z_Qi G r mu1 s.heap.size) args s 0 0 (z_A G s.heap.size)) (F0 m 505 ls [.int (y0), .int (y1)]) := by
  have hx := C.1
  have hb := C.2.1
  have hts := C.2.2.2.2
  intro x1 x3 x4 x6 x7 y0 y1 μ h H locs hP hS ls hl
  unfold f_L_hangs_b505 at h
  refine lv_icmp_ne (tgt := 529) hx hb dL_hangs_505 (by decide) (fun hc36 => ?_) (fun hc36 => ?_)
  · have h := z_in hc36 h
    cases h
  · have h := z_ip hc36 h
    refine lv_iload hx hb dL_hangs_508 (lv_at hl 5 rfl) ?_
    refine lv_if_lt (tgt := 525) hx hb dL_hangs_510 (by decide) (fun hc37 => ?_) (fun hc37 => ?_)
    · have h := z_ip hc37 h
      exact L_L_hangs_b525 C hr hlk Z _ _ _ _ h _ _ hP hS ls (lv_sub hl [0, 1, 2, 3] rfl)
    · have h := z_in hc37 h
      refine lv_aload_n hx hb dL_hangs_513 rfl (lv_at hl 0 rfl) ?_
      refine lv_iload hx hb dL_hangs_514 (lv_at hl 5 rfl) ?_
      refine lv_iconst (v := 1) hx hb dL_hangs_516 (by decide) ?_
      obtain ⟨r78, m79, e80, h⟩ := zb_some h
      refine z_calli hS (vx_runSW (As := [.ref (G.2.1 (90)), .int (x7), .int (1)]) (rest := []) C (c_L_trackOf l G e80 _) (vx_cwSW 3 hts gL_hangs_L_trackOf rfl rfl rfl hd_L_trackOf ⟨Nat.le_of_ble_eq_true rfl, Nat.le_of_ble_eq_true rfl⟩) (z_preS Z hS hP) rfl rfl hl.1 rfl (lv_room (Nat.le_of_ble_eq_true rfl)) dL_hangs_517 ⟨Nat.zero_le _, Nat.zero_le _⟩) (fun H locs hP hS => ?_)
      refine lv_iload hx hb dL_hangs_520 (lv_at hl 4 rfl) ?_
      refine lv_icmp_ne (tgt := 529) hx hb dL_hangs_522 (by decide) (fun hc81 => ?_) (fun hc81 => ?_)
      · have h := z_in hc81 h
        cases h
      · have h := z_ip hc81 h
        exact L_L_hangs_b525 C hr hlk Z _ _ _ _ h _ _ hP hS ls (lv_sub hl [0, 1, 2, 3] rfl)
set_option maxHeartbeats 8000000 in
set_option maxRecDepth 100000 in
theorem L_L_hangs_b396 {p : Program} {l : Launch} {e : Env} {s : State} {m : MethodId} {args : Array Value} {below : List Frame} {meth : Method} {c : Code} {G : zG} {r : Int32} {mu1 : Mm} {ag223 : Int32 → Int32 → Int32 → Int32 → Int32 → Int32 → Mm → Option (Int32 × Mm)} (C : CallFix p m c cL_hangs 11 s args wsL_hangs RL) (hr : meth.sig.returnType = (some .boolean)) (hlk : meth.locks = false) (Z : z_Z G (z_A G s.heap.size) s) (hag223 : ∀ (x1 : Int32) (x2 : Int32) (x3 : Int32) (x4 : Int32) (x6 : Int32) (x7 : Int32) (μ : Mm), ag223 x1 x2 x3 x4 x6 x7 μ = some (r, mu1) → ∀ (H : Heap) (locs : List Loc), z_P G μ H → va_S (z_A G s.heap.size) s.heap H locs → ∀ ls : Array Slot, lv_has ls 11 [(0, .ref (G.2.1 (90))), (1, .int (x1)), (2, .int (x2)), (3, .int (x3)), (4, .int (x4)), (6, .int (x6)), (7, .int (x7))] → W p l e rm_L_hangs s m args below meth c H locs 0 0 (MQ below (z_Qi G r mu1 s.heap.size) args s 0 0 (z_A G s.heap.size)) (F0 m 223 ls [])) :
    ∀ (x1 : Int32) (x2 : Int32) (x3 : Int32) (x4 : Int32) (x6 : Int32) (x7 : Int32) (x9 : Int32) (μ : Mm), f_L_hangs_b396 ag223 x1 x2 x3 x4 x6 x7 x9 μ = some (r, mu1) → ∀ (H : Heap) (locs : List Loc), z_P G μ H → va_S (z_A G s.heap.size) s.heap H locs → ∀ ls : Array Slot, lv_has ls 11 [(0, .ref (G.2.1 (90))), (1, .int (x1)), (2, .int (x2)), (3, .int (x3)), (4, .int (x4)), (6, .int (x6)), (7, .int (x7)), (9, .int (x9))] → W p l e rm_L_hangs s m args below meth c H locs 0 0 (MQ below (z_Qi G r mu1 s.heap.size) args s 0 0 (z_A G s.heap.size)) (F0 m 396 ls []) := by
  have hx := C.1
  have hb := C.2.1
  have hts := C.2.2.2.2
  intro x1 x2 x3 x4 x6 x7 x9 μ h H locs hP hS ls hl
  unfold f_L_hangs_b396 at h
  refine lv_iload hx hb dL_hangs_396 (lv_at hl 7 rfl) ?_
  refine lv_aload_n hx hb dL_hangs_398 rfl (lv_at hl 0 rfl) ?_
  refine lv_iload hx hb dL_hangs_399 (lv_at hl 6 rfl) ?_
  refine lv_iconst (v := 0) hx hb dL_hangs_401 (by decide) ?_
  obtain ⟨r102, m103, e104, h⟩ := zb_some h
  refine z_calli hS (vx_runSW (As := [.ref (G.2.1 (90)), .int (x7), .int (0)]) (rest := [.int (x9)]) C (c_L_cylinderOf l G e104 _) (vx_cwSW 3 hts gL_hangs_L_cylinderOf rfl rfl rfl hd_L_cylinderOf ⟨Nat.le_of_ble_eq_true rfl, Nat.le_of_ble_eq_true rfl⟩) (z_preS Z hS hP) rfl rfl hl.1 rfl (lv_room (Nat.le_of_ble_eq_true rfl)) dL_hangs_402 ⟨Nat.zero_le _, Nat.zero_le _⟩) (fun H locs hP hS => ?_)
  refine lv_icmp_le (tgt := 410) hx hb dL_hangs_405 (by decide) (fun hc105 => ?_) (fun hc105 => ?_)
  · have h := z_ip hc105 h
    refine lv_iinc (v := (x7 + 1)) (lv' := [(7, .int ((x7 + 1))), (0, .ref (G.2.1 (90))), (1, .int (x1)), (2, .int (x2)), (3, .int (x3)), (4, .int (x4)), (6, .int (x6)), (9, .int (x9))]) hx hb dL_hangs_410 hl (k := 6) rfl rfl (by decide) rfl (fun ls hl => ?_)
    refine lv_goto (tgt := 223) hx hb dL_hangs_413 (by decide) ?_
    exact hag223 _ _ _ _ _ _ _ h _ _ hP hS ls (lv_sub hl [1, 2, 3, 4, 5, 6, 0] rfl)
  · have h := z_in hc105 h
    cases h
set_option maxHeartbeats 8000000 in
set_option maxRecDepth 100000 in
theorem L_L_hangs_b369 {p : Program} {l : Launch} {e : Env} {s : State} {m : MethodId} {args : Array Value} {below : List Frame} {meth : Method} {c : Code} {G : zG} {r : Int32} {mu1 : Mm} {ag223 : Int32 → Int32 → Int32 → Int32 → Int32 → Int32 → Mm → Option (Int32 × Mm)} (C : CallFix p m c cL_hangs 11 s args wsL_hangs RL) (hr : meth.sig.returnType = (some .boolean)) (hlk : meth.locks = false) (Z : z_Z G (z_A G s.heap.size) s) (hag223 : ∀ (x1 : Int32) (x2 : Int32) (x3 : Int32) (x4 : Int32) (x6 : Int32) (x7 : Int32) (μ : Mm), ag223 x1 x2 x3 x4 x6 x7 μ = some (r, mu1) → ∀ (H : Heap) (locs : List Loc), z_P G μ H → va_S (z_A G s.heap.size) s.heap H locs → ∀ ls : Array Slot, lv_has ls 11 [(0, .ref (G.2.1 (90))), (1, .int (x1)), (2, .int (x2)), (3, .int (x3)), (4, .int (x4)), (6, .int (x6)), (7, .int (x7))] → W p l e rm_L_hangs s m args below meth c H locs 0 0 (MQ below (z_Qi G r mu1 s.heap.size) args s 0 0 (z_A G s.heap.size)) (F0 m 223 ls [])) :
    ∀ (x1 : Int32) (x2 : Int32) (x3 : Int32) (x4 : Int32) (x6 : Int32) (x7 : Int32) (x9 : Int32) (x10 : Int32) (y0 : Int32) (y1 : Int32) (μ : Mm), f_L_hangs_b369 ag223 x1 x2 x3 x4 x6 x7 x9 x10 y0 y1 μ = some (r, mu1) → ∀ (H : Heap) (locs : List Loc), z_P G μ H → va_S (z_A G s.heap.size) s.heap H locs → ∀ ls : Array Slot, lv_has ls 11 [(0, .ref (G.2.1 (90))), (1, .int (x1)), (2, .int (x2)), (3, .int (x3)), (4, .int (x4)), (6, .int (x6)), (7, .int (x7)), (9, .int (x9)), (10, .int (x10))] → W p l e rm_L_hangs s m args below meth c H locs 0 0 (MQ below (z_Qi G r mu1 s.heap.size) args s 0 0 (z_A G s.heap.size)) (F0 m 369 ls [.int (y0), .int (y1)]) := by
  have hx := C.1
  have hb := C.2.1
  have hts := C.2.2.2.2
  intro x1 x2 x3 x4 x6 x7 x9 x10 y0 y1 μ h H locs hP hS ls hl
  unfold f_L_hangs_b369 at h
  refine lv_icmp_ne (tgt := 408) hx hb dL_hangs_369 (by decide) (fun hc100 => ?_) (fun hc100 => ?_)
  · have h := z_in hc100 h
    cases h
  · have h := z_ip hc100 h
    refine lv_iload hx hb dL_hangs_372 (lv_at hl 8 rfl) ?_
    refine lv_if_lt (tgt := 396) hx hb dL_hangs_374 (by decide) (fun hc101 => ?_) (fun hc101 => ?_)
    · have h := z_ip hc101 h
      exact L_L_hangs_b396 C hr hlk Z hag223 _ _ _ _ _ _ _ _ h _ _ hP hS ls (lv_sub hl [0, 1, 2, 3, 4, 5, 6, 7] rfl)
    · have h := z_in hc101 h
      refine lv_iload hx hb dL_hangs_377 (lv_at hl 8 rfl) ?_
      refine lv_iconst (v := 4) hx hb dL_hangs_379 (by decide) ?_
      refine lv_idiv hx hb dL_hangs_380 (by decide) ?_
      refine lv_iload hx hb dL_hangs_381 (lv_at hl 6 rfl) ?_
      refine lv_icmp_ne (tgt := 408) hx hb dL_hangs_383 (by decide) (fun hc106 => ?_) (fun hc106 => ?_)
      · have h := z_in hc106 h
        cases h
      · have h := z_ip hc106 h
        refine lv_aload_n hx hb dL_hangs_386 rfl (lv_at hl 0 rfl) ?_
        refine lv_iload hx hb dL_hangs_387 (lv_at hl 8 rfl) ?_
        refine lv_iconst (v := 0) hx hb dL_hangs_389 (by decide) ?_
        obtain ⟨r107, m108, e109, h⟩ := zb_some h
        refine z_calli hS (vx_runSW (As := [.ref (G.2.1 (90)), .int (x10), .int (0)]) (rest := []) C (c_L_trackOf l G e109 _) (vx_cwSW 3 hts gL_hangs_L_trackOf rfl rfl rfl hd_L_trackOf ⟨Nat.le_of_ble_eq_true rfl, Nat.le_of_ble_eq_true rfl⟩) (z_preS Z hS hP) rfl rfl hl.1 rfl (lv_room (Nat.le_of_ble_eq_true rfl)) dL_hangs_390 ⟨Nat.zero_le _, Nat.zero_le _⟩) (fun H locs hP hS => ?_)
        refine lv_if_eq (tgt := 408) hx hb dL_hangs_393 (by decide) (fun hc110 => ?_) (fun hc110 => ?_)
        · have h := z_ip hc110 h
          cases h
        · have h := z_in hc110 h
          exact L_L_hangs_b396 C hr hlk Z hag223 _ _ _ _ _ _ _ _ h _ _ hP hS ls (lv_sub hl [0, 1, 2, 3, 4, 5, 6, 7] rfl)
set_option maxHeartbeats 8000000 in
set_option maxRecDepth 100000 in
theorem L_L_hangs_b270 {p : Program} {l : Launch} {e : Env} {s : State} {m : MethodId} {args : Array Value} {below : List Frame} {meth : Method} {c : Code} {G : zG} {r : Int32} {mu1 : Mm} {ag223 : Int32 → Int32 → Int32 → Int32 → Int32 → Int32 → Mm → Option (Int32 × Mm)} {ag242 : Int32 → Int32 → Int32 → Int32 → Int32 → Int32 → Int32 → Int32 → Int32 → Mm → Option (Int32 × Mm)} (C : CallFix p m c cL_hangs 11 s args wsL_hangs RL) (hr : meth.sig.returnType = (some .boolean)) (hlk : meth.locks = false) (Z : z_Z G (z_A G s.heap.size) s) (hag223 : ∀ (x1 : Int32) (x2 : Int32) (x3 : Int32) (x4 : Int32) (x6 : Int32) (x7 : Int32) (μ : Mm), ag223 x1 x2 x3 x4 x6 x7 μ = some (r, mu1) → ∀ (H : Heap) (locs : List Loc), z_P G μ H → va_S (z_A G s.heap.size) s.heap H locs → ∀ ls : Array Slot, lv_has ls 11 [(0, .ref (G.2.1 (90))), (1, .int (x1)), (2, .int (x2)), (3, .int (x3)), (4, .int (x4)), (6, .int (x6)), (7, .int (x7))] → W p l e rm_L_hangs s m args below meth c H locs 0 0 (MQ below (z_Qi G r mu1 s.heap.size) args s 0 0 (z_A G s.heap.size)) (F0 m 223 ls [])) (hag242 : ∀ (x1 : Int32) (x2 : Int32) (x3 : Int32) (x4 : Int32) (x6 : Int32) (x7 : Int32) (x8 : Int32) (x9 : Int32) (x10 : Int32) (μ : Mm), ag242 x1 x2 x3 x4 x6 x7 x8 x9 x10 μ = some (r, mu1) → ∀ (H : Heap) (locs : List Loc), z_P G μ H → va_S (z_A G s.heap.size) s.heap H locs → ∀ ls : Array Slot, lv_has ls 11 [(0, .ref (G.2.1 (90))), (1, .int (x1)), (2, .int (x2)), (3, .int (x3)), (4, .int (x4)), (6, .int (x6)), (7, .int (x7)), (8, .int (x8)), (9, .int (x9)), (10, .int (x10))] → W p l e rm_L_hangs s m args below meth c H locs 0 0 (MQ below (z_Qi G r mu1 s.heap.size) args s 0 0 (z_A G s.heap.size)) (F0 m 242 ls [])) :
    ∀ (x1 : Int32) (x2 : Int32) (x3 : Int32) (x4 : Int32) (x6 : Int32) (x7 : Int32) (x9 : Int32) (x10 : Int32) (y0 : Int32) (y1 : Int32) (μ : Mm), f_L_hangs_b270 ag223 ag242 x1 x2 x3 x4 x6 x7 x9 x10 y0 y1 μ = some (r, mu1) → ∀ (H : Heap) (locs : List Loc), z_P G μ H → va_S (z_A G s.heap.size) s.heap H locs → ∀ ls : Array Slot, lv_has ls 11 [(0, .ref (G.2.1 (90))), (1, .int (x1)), (2, .int (x2)), (3, .int (x3)), (4, .int (x4)), (6, .int (x6)), (7, .int (x7)), (9, .int (x9)), (10, .int (x10))] → W p l e rm_L_hangs s m args below meth c H locs 0 0 (MQ below (z_Qi G r mu1 s.heap.size) args s 0 0 (z_A G s.heap.size)) (F0 m 270 ls [.int (y0), .int (y1)]) := by
  have hx := C.1
  have hb := C.2.1
  have hts := C.2.2.2.2
  intro x1 x2 x3 x4 x6 x7 x9 x10 y0 y1 μ h H locs hP hS ls hl
  unfold f_L_hangs_b270 at h
  refine lv_iadd hx hb dL_hangs_270 ?_
  refine lv_istore (lv' := [(8, .int ((y1 + y0))), (0, .ref (G.2.1 (90))), (1, .int (x1)), (2, .int (x2)), (3, .int (x3)), (4, .int (x4)), (6, .int (x6)), (7, .int (x7)), (9, .int (x9)), (10, .int (x10))]) hx hb dL_hangs_271 hl (by decide) rfl (fun ls hl => ?_)
  refine lv_aload_n hx hb dL_hangs_273 rfl (lv_at hl 1 rfl) ?_
  refine lv_iload hx hb dL_hangs_274 (lv_at hl 9 rfl) ?_
  refine lv_iconst (v := 0) hx hb dL_hangs_276 (by decide) ?_
  obtain ⟨r116, m117, e118, h⟩ := zb_some h
  refine z_calli hS (vx_runSW (As := [.ref (G.2.1 (90)), .int (x10), .int (0)]) (rest := []) C (c_L_trackOf l G e118 _) (vx_cwSW 3 hts gL_hangs_L_trackOf rfl rfl rfl hd_L_trackOf ⟨Nat.le_of_ble_eq_true rfl, Nat.le_of_ble_eq_true rfl⟩) (z_preS Z hS hP) rfl rfl hl.1 rfl (lv_room (Nat.le_of_ble_eq_true rfl)) dL_hangs_277 ⟨Nat.zero_le _, Nat.zero_le _⟩) (fun H locs hP hS => ?_)
  refine lv_iload hx hb dL_hangs_280 (lv_at hl 8 rfl) ?_
  refine lv_icmp_le (tgt := 295) hx hb dL_hangs_282 (by decide) (fun hc119 => ?_) (fun hc119 => ?_)
  · have h := z_ip hc119 h
    refine lv_iload hx hb dL_hangs_295 (lv_at hl 8 rfl) ?_
    refine lv_istore (lv' := [(9, .int (x9)), (8, .int ((y1 + y0))), (0, .ref (G.2.1 (90))), (1, .int (x1)), (2, .int (x2)), (3, .int (x3)), (4, .int (x4)), (6, .int (x6)), (7, .int (x7)), (10, .int (x10))]) hx hb dL_hangs_297 hl (by decide) rfl (fun ls hl => ?_)
    refine lv_iinc (v := (x10 + 1)) (lv' := [(10, .int ((x10 + 1))), (9, .int (x9)), (8, .int ((y1 + y0))), (0, .ref (G.2.1 (90))), (1, .int (x1)), (2, .int (x2)), (3, .int (x3)), (4, .int (x4)), (6, .int (x6)), (7, .int (x7))]) hx hb dL_hangs_299 hl (k := 9) rfl rfl (by decide) rfl (fun ls hl => ?_)
    refine lv_goto (tgt := 242) hx hb dL_hangs_302 (by decide) ?_
    exact hag242 _ _ _ _ _ _ _ _ _ _ h _ _ hP hS ls (lv_sub hl [3, 4, 5, 6, 7, 8, 9, 2, 1, 0] rfl)
  · have h := z_in hc119 h
    refine lv_aload_n hx hb dL_hangs_285 rfl (lv_at hl 1 rfl) ?_
    refine lv_iload hx hb dL_hangs_286 (lv_at hl 9 rfl) ?_
    refine lv_iconst (v := 0) hx hb dL_hangs_288 (by decide) ?_
    obtain ⟨r120, m121, e122, h⟩ := zb_some h
    refine z_calli hS (vx_runSW (As := [.ref (G.2.1 (90)), .int (x10), .int (0)]) (rest := []) C (c_L_trackOf l G e122 _) (vx_cwSW 3 hts gL_hangs_L_trackOf rfl rfl rfl hd_L_trackOf ⟨Nat.le_of_ble_eq_true rfl, Nat.le_of_ble_eq_true rfl⟩) (z_preS Z hS hP) rfl rfl hl.1 rfl (lv_room (Nat.le_of_ble_eq_true rfl)) dL_hangs_289 ⟨Nat.zero_le _, Nat.zero_le _⟩) (fun H locs hP hS => ?_)
    refine lv_goto (tgt := 297) hx hb dL_hangs_292 (by decide) ?_
    refine lv_istore (lv' := [(9, .int (r120)), (8, .int ((y1 + y0))), (0, .ref (G.2.1 (90))), (1, .int (x1)), (2, .int (x2)), (3, .int (x3)), (4, .int (x4)), (6, .int (x6)), (7, .int (x7)), (10, .int (x10))]) hx hb dL_hangs_297 hl (by decide) rfl (fun ls hl => ?_)
    refine lv_iinc (v := (x10 + 1)) (lv' := [(10, .int ((x10 + 1))), (9, .int (r120)), (8, .int ((y1 + y0))), (0, .ref (G.2.1 (90))), (1, .int (x1)), (2, .int (x2)), (3, .int (x3)), (4, .int (x4)), (6, .int (x6)), (7, .int (x7))]) hx hb dL_hangs_299 hl (k := 9) rfl rfl (by decide) rfl (fun ls hl => ?_)
    refine lv_goto (tgt := 242) hx hb dL_hangs_302 (by decide) ?_
    exact hag242 _ _ _ _ _ _ _ _ _ _ h _ _ hP hS ls (lv_sub hl [3, 4, 5, 6, 7, 8, 9, 2, 1, 0] rfl)
set_option maxHeartbeats 8000000 in
set_option maxRecDepth 100000 in
theorem L_L_hangs_b242 {p : Program} {l : Launch} {e : Env} {s : State} {m : MethodId} {args : Array Value} {below : List Frame} {meth : Method} {c : Code} {G : zG} {r : Int32} {mu1 : Mm} {ag223 : Int32 → Int32 → Int32 → Int32 → Int32 → Int32 → Mm → Option (Int32 × Mm)} (C : CallFix p m c cL_hangs 11 s args wsL_hangs RL) (hr : meth.sig.returnType = (some .boolean)) (hlk : meth.locks = false) (Z : z_Z G (z_A G s.heap.size) s) (hag223 : ∀ (x1 : Int32) (x2 : Int32) (x3 : Int32) (x4 : Int32) (x6 : Int32) (x7 : Int32) (μ : Mm), ag223 x1 x2 x3 x4 x6 x7 μ = some (r, mu1) → ∀ (H : Heap) (locs : List Loc), z_P G μ H → va_S (z_A G s.heap.size) s.heap H locs → ∀ ls : Array Slot, lv_has ls 11 [(0, .ref (G.2.1 (90))), (1, .int (x1)), (2, .int (x2)), (3, .int (x3)), (4, .int (x4)), (6, .int (x6)), (7, .int (x7))] → W p l e rm_L_hangs s m args below meth c H locs 0 0 (MQ below (z_Qi G r mu1 s.heap.size) args s 0 0 (z_A G s.heap.size)) (F0 m 223 ls [])) :
    ∀ (n : Nat) (x1 : Int32) (x2 : Int32) (x3 : Int32) (x4 : Int32) (x6 : Int32) (x7 : Int32) (x8 : Int32) (x9 : Int32) (x10 : Int32) (μ : Mm), f_L_hangs_b242 ag223 n x1 x2 x3 x4 x6 x7 x8 x9 x10 μ = some (r, mu1) → ∀ (H : Heap) (locs : List Loc), z_P G μ H → va_S (z_A G s.heap.size) s.heap H locs → ∀ ls : Array Slot, lv_has ls 11 [(0, .ref (G.2.1 (90))), (1, .int (x1)), (2, .int (x2)), (3, .int (x3)), (4, .int (x4)), (6, .int (x6)), (7, .int (x7)), (8, .int (x8)), (9, .int (x9)), (10, .int (x10))] → W p l e rm_L_hangs s m args below meth c H locs 0 0 (MQ below (z_Qi G r mu1 s.heap.size) args s 0 0 (z_A G s.heap.size)) (F0 m 242 ls []) := by
  have hx := C.1
  have hb := C.2.1
  have hts := C.2.2.2.2
  intro n
  induction n with
  | zero =>
    intro x1 x2 x3 x4 x6 x7 x8 x9 x10 μ h
    rw [f_L_hangs_b242] at h
    cases h
  | succ n ih =>
    intro x1 x2 x3 x4 x6 x7 x8 x9 x10 μ h H locs hP hS ls hl
    rw [f_L_hangs_b242] at h
    refine lv_iload hx hb dL_hangs_242 (lv_at hl 9 rfl) ?_
    refine lv_iconst (v := 4) hx hb dL_hangs_244 (by decide) ?_
    refine lv_iload hx hb dL_hangs_245 (lv_at hl 6 rfl) ?_
    refine lv_imul hx hb dL_hangs_247 ?_
    refine lv_iconst (v := 4) hx hb dL_hangs_248 (by decide) ?_
    refine lv_iadd hx hb dL_hangs_249 ?_
    refine lv_icmp_ge (tgt := 305) hx hb dL_hangs_250 (by decide) (fun hc83 => ?_) (fun hc83 => ?_)
    · have h := z_ip hc83 h
      refine lv_aload_n hx hb dL_hangs_305 rfl (lv_at hl 0 rfl) ?_
      refine lv_iload hx hb dL_hangs_306 (lv_at hl 6 rfl) ?_
      refine lv_iconst (v := 3) hx hb dL_hangs_308 (by decide) ?_
      obtain ⟨r84, m85, e86, h⟩ := zb_some h
      refine z_calli hS (vx_runSW (As := [.ref (G.2.1 (90)), .int (x7), .int (3)]) (rest := []) C (c_L_cylinderOf l G e86 _) (vx_cwSW 3 hts gL_hangs_L_cylinderOf rfl rfl rfl hd_L_cylinderOf ⟨Nat.le_of_ble_eq_true rfl, Nat.le_of_ble_eq_true rfl⟩) (z_preS Z hS hP) rfl rfl hl.1 rfl (lv_room (Nat.le_of_ble_eq_true rfl)) dL_hangs_309 ⟨Nat.zero_le _, Nat.zero_le _⟩) (fun H locs hP hS => ?_)
      refine lv_istore (lv' := [(10, .int (r84)), (0, .ref (G.2.1 (90))), (1, .int (x1)), (2, .int (x2)), (3, .int (x3)), (4, .int (x4)), (6, .int (x6)), (7, .int (x7)), (8, .int (x8)), (9, .int (x9))]) hx hb dL_hangs_312 hl (by decide) rfl (fun ls hl => ?_)
      refine lv_iload_n hx hb dL_hangs_314 rfl (lv_at hl 3 rfl) ?_
      refine lv_aload_n hx hb dL_hangs_315 rfl (lv_at hl 1 rfl) ?_
      refine lv_iload hx hb dL_hangs_316 (lv_at hl 7 rfl) ?_
      refine lv_iconst (v := 0) hx hb dL_hangs_318 (by decide) ?_
      obtain ⟨r87, m88, e89, h⟩ := zb_some h
      refine z_calli hS (vx_runSW (As := [.ref (G.2.1 (90)), .int (x7), .int (0)]) (rest := [.int (x2)]) C (c_L_cylinderOf l G e89 _) (vx_cwSW 3 hts gL_hangs_L_cylinderOf rfl rfl rfl hd_L_cylinderOf ⟨Nat.le_of_ble_eq_true rfl, Nat.le_of_ble_eq_true rfl⟩) (z_preS Z hS hP) rfl rfl hl.1 rfl (lv_room (Nat.le_of_ble_eq_true rfl)) dL_hangs_319 ⟨Nat.zero_le _, Nat.zero_le _⟩) (fun H locs hP hS => ?_)
      refine lv_iadd hx hb dL_hangs_322 ?_
      refine lv_istore_n (lv' := [(2, .int ((x2 + r87))), (10, .int (r84)), (0, .ref (G.2.1 (90))), (1, .int (x1)), (3, .int (x3)), (4, .int (x4)), (6, .int (x6)), (7, .int (x7)), (8, .int (x8)), (9, .int (x9))]) hx hb dL_hangs_323 rfl hl (by decide) rfl (fun ls hl => ?_)
      refine lv_aload_n hx hb dL_hangs_324 rfl (lv_at hl 2 rfl) ?_
      refine lv_iload hx hb dL_hangs_325 (lv_at hl 7 rfl) ?_
      refine lv_iconst (v := 1) hx hb dL_hangs_327 (by decide) ?_
      obtain ⟨r90, m91, e92, h⟩ := zb_some h
      refine z_calli hS (vx_runSW (As := [.ref (G.2.1 (90)), .int (x7), .int (1)]) (rest := []) C (c_L_cylinderOf l G e92 _) (vx_cwSW 3 hts gL_hangs_L_cylinderOf rfl rfl rfl hd_L_cylinderOf ⟨Nat.le_of_ble_eq_true rfl, Nat.le_of_ble_eq_true rfl⟩) (z_preS Z hS hP) rfl rfl hl.1 rfl (lv_room (Nat.le_of_ble_eq_true rfl)) dL_hangs_328 ⟨Nat.zero_le _, Nat.zero_le _⟩) (fun H locs hP hS => ?_)
      refine lv_iload hx hb dL_hangs_331 (lv_at hl 8 rfl) ?_
      refine lv_icmp_ne (tgt := 408) hx hb dL_hangs_333 (by decide) (fun hc93 => ?_) (fun hc93 => ?_)
      · have h := z_in hc93 h
        cases h
      · have h := z_ip hc93 h
        refine lv_aload_n hx hb dL_hangs_336 rfl (lv_at hl 2 rfl) ?_
        refine lv_iload hx hb dL_hangs_337 (lv_at hl 7 rfl) ?_
        refine lv_iconst (v := 2) hx hb dL_hangs_339 (by decide) ?_
        obtain ⟨r94, m95, e96, h⟩ := zb_some h
        refine z_calli hS (vx_runSW (As := [.ref (G.2.1 (90)), .int (x7), .int (2)]) (rest := []) C (c_L_cylinderOf l G e96 _) (vx_cwSW 3 hts gL_hangs_L_cylinderOf rfl rfl rfl hd_L_cylinderOf ⟨Nat.le_of_ble_eq_true rfl, Nat.le_of_ble_eq_true rfl⟩) (z_preS Z hS hP) rfl rfl hl.1 rfl (lv_room (Nat.le_of_ble_eq_true rfl)) dL_hangs_340 ⟨Nat.zero_le _, Nat.zero_le _⟩) (fun H locs hP hS => ?_)
        refine lv_iload hx hb dL_hangs_343 (lv_at hl 9 rfl) ?_
        refine lv_icmp_ne (tgt := 408) hx hb dL_hangs_345 (by decide) (fun hc97 => ?_) (fun hc97 => ?_)
        · have h := z_in hc97 h
          cases h
        · have h := z_ip hc97 h
          refine lv_iload hx hb dL_hangs_348 (lv_at hl 1 rfl) ?_
          refine lv_iconst (v := (-1)) hx hb dL_hangs_350 (by decide) ?_
          refine lv_icmp_ne (tgt := 358) hx hb dL_hangs_351 (by decide) (fun hc98 => ?_) (fun hc98 => ?_)
          · have h := z_in hc98 h
            refine lv_iconst (v := 0) hx hb dL_hangs_358 (by decide) ?_
            refine lv_iload hx hb dL_hangs_359 (lv_at hl 8 rfl) ?_
            refine lv_if_ne (tgt := 368) hx hb dL_hangs_361 (by decide) (fun hc99 => ?_) (fun hc99 => ?_)
            · have h := z_in hc99 h
              refine lv_iconst (v := 0) hx hb dL_hangs_368 (by decide) ?_
              exact L_L_hangs_b369 C hr hlk Z hag223 _ _ _ _ _ _ _ _ _ _ _ h _ _ hP hS ls (lv_sub hl [2, 3, 0, 4, 5, 6, 7, 9, 1] rfl)
            · have h := z_ip hc99 h
              refine lv_iconst (v := 1) hx hb dL_hangs_364 (by decide) ?_
              refine lv_goto (tgt := 369) hx hb dL_hangs_365 (by decide) ?_
              exact L_L_hangs_b369 C hr hlk Z hag223 _ _ _ _ _ _ _ _ _ _ _ h _ _ hP hS ls (lv_sub hl [2, 3, 0, 4, 5, 6, 7, 9, 1] rfl)
          · have h := z_ip hc98 h
            refine lv_iconst (v := 1) hx hb dL_hangs_354 (by decide) ?_
            refine lv_goto (tgt := 359) hx hb dL_hangs_355 (by decide) ?_
            refine lv_iload hx hb dL_hangs_359 (lv_at hl 8 rfl) ?_
            refine lv_if_ne (tgt := 368) hx hb dL_hangs_361 (by decide) (fun hc111 => ?_) (fun hc111 => ?_)
            · have h := z_in hc111 h
              refine lv_iconst (v := 0) hx hb dL_hangs_368 (by decide) ?_
              exact L_L_hangs_b369 C hr hlk Z hag223 _ _ _ _ _ _ _ _ _ _ _ h _ _ hP hS ls (lv_sub hl [2, 3, 0, 4, 5, 6, 7, 9, 1] rfl)
            · have h := z_ip hc111 h
              refine lv_iconst (v := 1) hx hb dL_hangs_364 (by decide) ?_
              refine lv_goto (tgt := 369) hx hb dL_hangs_365 (by decide) ?_
              exact L_L_hangs_b369 C hr hlk Z hag223 _ _ _ _ _ _ _ _ _ _ _ h _ _ hP hS ls (lv_sub hl [2, 3, 0, 4, 5, 6, 7, 9, 1] rfl)
    · have h := z_in hc83 h
      refine lv_iload hx hb dL_hangs_253 (lv_at hl 7 rfl) ?_
      refine lv_aload_n hx hb dL_hangs_255 rfl (lv_at hl 0 rfl) ?_
      refine lv_iload hx hb dL_hangs_256 (lv_at hl 9 rfl) ?_
      refine lv_iconst (v := 0) hx hb dL_hangs_258 (by decide) ?_
      obtain ⟨r112, m113, e114, h⟩ := zb_some h
      refine z_calli hS (vx_runSW (As := [.ref (G.2.1 (90)), .int (x10), .int (0)]) (rest := [.int (x8)]) C (c_L_trackOf l G e114 _) (vx_cwSW 3 hts gL_hangs_L_trackOf rfl rfl rfl hd_L_trackOf ⟨Nat.le_of_ble_eq_true rfl, Nat.le_of_ble_eq_true rfl⟩) (z_preS Z hS hP) rfl rfl hl.1 rfl (lv_room (Nat.le_of_ble_eq_true rfl)) dL_hangs_259 ⟨Nat.zero_le _, Nat.zero_le _⟩) (fun H locs hP hS => ?_)
      refine lv_if_le (tgt := 269) hx hb dL_hangs_262 (by decide) (fun hc115 => ?_) (fun hc115 => ?_)
      · have h := z_ip hc115 h
        refine lv_iconst (v := 0) hx hb dL_hangs_269 (by decide) ?_
        exact L_L_hangs_b270 C hr hlk Z hag223 ih _ _ _ _ _ _ _ _ _ _ _ h _ _ hP hS ls (lv_sub hl [0, 1, 2, 3, 4, 5, 6, 8, 9] rfl)
      · have h := z_in hc115 h
        refine lv_iconst (v := 1) hx hb dL_hangs_265 (by decide) ?_
        refine lv_goto (tgt := 270) hx hb dL_hangs_266 (by decide) ?_
        exact L_L_hangs_b270 C hr hlk Z hag223 ih _ _ _ _ _ _ _ _ _ _ _ h _ _ hP hS ls (lv_sub hl [0, 1, 2, 3, 4, 5, 6, 8, 9] rfl)
set_option maxHeartbeats 8000000 in
set_option maxRecDepth 100000 in
theorem L_L_hangs_b223 {p : Program} {l : Launch} {e : Env} {s : State} {m : MethodId} {args : Array Value} {below : List Frame} {meth : Method} {c : Code} {G : zG} {r : Int32} {mu1 : Mm}  (C : CallFix p m c cL_hangs 11 s args wsL_hangs RL) (hr : meth.sig.returnType = (some .boolean)) (hlk : meth.locks = false) (Z : z_Z G (z_A G s.heap.size) s)  :
    ∀ (n : Nat) (x1 : Int32) (x2 : Int32) (x3 : Int32) (x4 : Int32) (x6 : Int32) (x7 : Int32) (μ : Mm), f_L_hangs_b223  n x1 x2 x3 x4 x6 x7 μ = some (r, mu1) → ∀ (H : Heap) (locs : List Loc), z_P G μ H → va_S (z_A G s.heap.size) s.heap H locs → ∀ ls : Array Slot, lv_has ls 11 [(0, .ref (G.2.1 (90))), (1, .int (x1)), (2, .int (x2)), (3, .int (x3)), (4, .int (x4)), (6, .int (x6)), (7, .int (x7))] → W p l e rm_L_hangs s m args below meth c H locs 0 0 (MQ below (z_Qi G r mu1 s.heap.size) args s 0 0 (z_A G s.heap.size)) (F0 m 223 ls []) := by
  have hx := C.1
  have hb := C.2.1
  have hts := C.2.2.2.2
  intro n
  induction n with
  | zero =>
    intro x1 x2 x3 x4 x6 x7 μ h
    rw [f_L_hangs_b223] at h
    cases h
  | succ n ih =>
    intro x1 x2 x3 x4 x6 x7 μ h H locs hP hS ls hl
    rw [f_L_hangs_b223] at h
    refine lv_iload hx hb dL_hangs_223 (lv_at hl 6 rfl) ?_
    refine lv_bipush (v := 6) hx hb dL_hangs_225 (by decide) ?_
    refine lv_icmp_ge (tgt := 416) hx hb dL_hangs_227 (by decide) (fun hc2 => ?_) (fun hc2 => ?_)
    · have h := z_ip hc2 h
      refine lv_aload_n hx hb dL_hangs_416 rfl (lv_at hl 0 rfl) ?_
      obtain ⟨r3, m4, e5, h⟩ := zb_some h
      refine z_calli hS (va_runV (As := []) (rest := []) C (c_X3_clearest l G e5 _) (cwV 0 hts gL_hangs_X3_clearest rfl rfl rfl hv_X3_clearest ⟨Nat.le_of_ble_eq_true rfl, Nat.le_of_ble_eq_true rfl⟩) (z_preV Z hS hP (by decide) (z_E_90 _) rfl rfl) rfl rfl hl.1 rfl (lv_room (Nat.le_of_ble_eq_true rfl)) dL_hangs_417 ⟨Nat.zero_le _, Nat.zero_le _⟩) (fun H locs hP hS => ?_)
      refine lv_istore (lv' := [(7, .int (r3)), (0, .ref (G.2.1 (90))), (1, .int (x1)), (2, .int (x2)), (3, .int (x3)), (4, .int (x4)), (6, .int (x6))]) hx hb dL_hangs_420 hl (by decide) rfl (fun ls hl => ?_)
      refine lv_aload_n hx hb dL_hangs_422 rfl (lv_at hl 1 rfl) ?_
      refine lv_iconst (v := 3) hx hb dL_hangs_423 (by decide) ?_
      obtain ⟨r6, m7, e8, h⟩ := zb_some h
      refine z_calli hS (vx_runSW (As := [.ref (G.2.1 (90)), .int (3)]) (rest := []) C (c_L_count l G e8 _) (vx_cwSW 2 hts gL_hangs_L_count rfl rfl rfl hd_L_count ⟨Nat.le_of_ble_eq_true rfl, Nat.le_of_ble_eq_true rfl⟩) (z_preS Z hS hP) rfl rfl hl.1 rfl (lv_room (Nat.le_of_ble_eq_true rfl)) dL_hangs_424 ⟨Nat.zero_le _, Nat.zero_le _⟩) (fun H locs hP hS => ?_)
      refine lv_iload_n hx hb dL_hangs_427 rfl (lv_at hl 2 rfl) ?_
      refine lv_icmp_ne (tgt := 529) hx hb dL_hangs_428 (by decide) (fun hc9 => ?_) (fun hc9 => ?_)
      · have h := z_in hc9 h
        cases h
      · have h := z_ip hc9 h
        refine lv_aload_n hx hb dL_hangs_431 rfl (lv_at hl 1 rfl) ?_
        refine lv_bipush (v := 7) hx hb dL_hangs_432 (by decide) ?_
        obtain ⟨r10, m11, e12, h⟩ := zb_some h
        refine z_calli hS (vx_runSW (As := [.ref (G.2.1 (90)), .int (7)]) (rest := []) C (c_L_count l G e12 _) (vx_cwSW 2 hts gL_hangs_L_count rfl rfl rfl hd_L_count ⟨Nat.le_of_ble_eq_true rfl, Nat.le_of_ble_eq_true rfl⟩) (z_preS Z hS hP) rfl rfl hl.1 rfl (lv_room (Nat.le_of_ble_eq_true rfl)) dL_hangs_434 ⟨Nat.zero_le _, Nat.zero_le _⟩) (fun H locs hP hS => ?_)
        refine lv_iload_n hx hb dL_hangs_437 rfl (lv_at hl 3 rfl) ?_
        refine lv_icmp_ne (tgt := 529) hx hb dL_hangs_438 (by decide) (fun hc13 => ?_) (fun hc13 => ?_)
        · have h := z_in hc13 h
          cases h
        · have h := z_ip hc13 h
          refine lv_aload_n hx hb dL_hangs_441 rfl (lv_at hl 1 rfl) ?_
          refine lv_bipush (v := 7) hx hb dL_hangs_442 (by decide) ?_
          obtain ⟨r14, m15, e16, h⟩ := zb_some h
          refine z_calli hS (vx_runSW (As := [.ref (G.2.1 (90)), .int (7)]) (rest := []) C (c_L_count l G e16 _) (vx_cwSW 2 hts gL_hangs_L_count rfl rfl rfl hd_L_count ⟨Nat.le_of_ble_eq_true rfl, Nat.le_of_ble_eq_true rfl⟩) (z_preS Z hS hP) rfl rfl hl.1 rfl (lv_room (Nat.le_of_ble_eq_true rfl)) dL_hangs_444 ⟨Nat.zero_le _, Nat.zero_le _⟩) (fun H locs hP hS => ?_)
          refine lv_aload_n hx hb dL_hangs_447 rfl (lv_at hl 1 rfl) ?_
          refine lv_bipush (v := 8) hx hb dL_hangs_448 (by decide) ?_
          obtain ⟨r17, m18, e19, h⟩ := zb_some h
          refine z_calli hS (vx_runSW (As := [.ref (G.2.1 (90)), .int (8)]) (rest := [.int (r14)]) C (c_L_count l G e19 _) (vx_cwSW 2 hts gL_hangs_L_count rfl rfl rfl hd_L_count ⟨Nat.le_of_ble_eq_true rfl, Nat.le_of_ble_eq_true rfl⟩) (z_preS Z hS hP) rfl rfl hl.1 rfl (lv_room (Nat.le_of_ble_eq_true rfl)) dL_hangs_450 ⟨Nat.zero_le _, Nat.zero_le _⟩) (fun H locs hP hS => ?_)
          refine lv_iadd hx hb dL_hangs_453 ?_
          refine lv_aload_n hx hb dL_hangs_454 rfl (lv_at hl 1 rfl) ?_
          refine lv_bipush (v := 10) hx hb dL_hangs_455 (by decide) ?_
          obtain ⟨r20, m21, e22, h⟩ := zb_some h
          refine z_calli hS (vx_runSW (As := [.ref (G.2.1 (90)), .int (10)]) (rest := [.int ((r14 + r17))]) C (c_L_count l G e22 _) (vx_cwSW 2 hts gL_hangs_L_count rfl rfl rfl hd_L_count ⟨Nat.le_of_ble_eq_true rfl, Nat.le_of_ble_eq_true rfl⟩) (z_preS Z hS hP) rfl rfl hl.1 rfl (lv_room (Nat.le_of_ble_eq_true rfl)) dL_hangs_457 ⟨Nat.zero_le _, Nat.zero_le _⟩) (fun H locs hP hS => ?_)
          refine lv_iadd hx hb dL_hangs_460 ?_
          refine lv_aload_n hx hb dL_hangs_461 rfl (lv_at hl 1 rfl) ?_
          refine lv_bipush (v := 9) hx hb dL_hangs_462 (by decide) ?_
          obtain ⟨r23, m24, e25, h⟩ := zb_some h
          refine z_calli hS (vx_runSW (As := [.ref (G.2.1 (90)), .int (9)]) (rest := [.int (((r14 + r17) + r20))]) C (c_L_count l G e25 _) (vx_cwSW 2 hts gL_hangs_L_count rfl rfl rfl hd_L_count ⟨Nat.le_of_ble_eq_true rfl, Nat.le_of_ble_eq_true rfl⟩) (z_preS Z hS hP) rfl rfl hl.1 rfl (lv_room (Nat.le_of_ble_eq_true rfl)) dL_hangs_464 ⟨Nat.zero_le _, Nat.zero_le _⟩) (fun H locs hP hS => ?_)
          refine lv_icmp_ne (tgt := 529) hx hb dL_hangs_467 (by decide) (fun hc26 => ?_) (fun hc26 => ?_)
          · have h := z_in hc26 h
            cases h
          · have h := z_ip hc26 h
            refine lv_aload_n hx hb dL_hangs_470 rfl (lv_at hl 1 rfl) ?_
            refine lv_iconst (v := 4) hx hb dL_hangs_471 (by decide) ?_
            obtain ⟨r27, m28, e29, h⟩ := zb_some h
            refine z_calli hS (vx_runSW (As := [.ref (G.2.1 (90)), .int (4)]) (rest := []) C (c_L_count l G e29 _) (vx_cwSW 2 hts gL_hangs_L_count rfl rfl rfl hd_L_count ⟨Nat.le_of_ble_eq_true rfl, Nat.le_of_ble_eq_true rfl⟩) (z_preS Z hS hP) rfl rfl hl.1 rfl (lv_room (Nat.le_of_ble_eq_true rfl)) dL_hangs_472 ⟨Nat.zero_le _, Nat.zero_le _⟩) (fun H locs hP hS => ?_)
            refine lv_aload_n hx hb dL_hangs_475 rfl (lv_at hl 1 rfl) ?_
            refine lv_iconst (v := 5) hx hb dL_hangs_476 (by decide) ?_
            obtain ⟨r30, m31, e32, h⟩ := zb_some h
            refine z_calli hS (vx_runSW (As := [.ref (G.2.1 (90)), .int (5)]) (rest := [.int (r27)]) C (c_L_count l G e32 _) (vx_cwSW 2 hts gL_hangs_L_count rfl rfl rfl hd_L_count ⟨Nat.le_of_ble_eq_true rfl, Nat.le_of_ble_eq_true rfl⟩) (z_preS Z hS hP) rfl rfl hl.1 rfl (lv_room (Nat.le_of_ble_eq_true rfl)) dL_hangs_477 ⟨Nat.zero_le _, Nat.zero_le _⟩) (fun H locs hP hS => ?_)
            refine lv_iadd hx hb dL_hangs_480 ?_
            refine lv_iload_n hx hb dL_hangs_481 rfl (lv_at hl 2 rfl) ?_
            refine lv_icmp_lt (tgt := 529) hx hb dL_hangs_482 (by decide) (fun hc33 => ?_) (fun hc33 => ?_)
            · have h := z_ip hc33 h
              cases h
            · have h := z_in hc33 h
              refine lv_iload hx hb dL_hangs_485 (lv_at hl 0 rfl) ?_
              refine lv_iconst (v := (-1)) hx hb dL_hangs_487 (by decide) ?_
              refine lv_icmp_ne (tgt := 495) hx hb dL_hangs_488 (by decide) (fun hc34 => ?_) (fun hc34 => ?_)
              · have h := z_in hc34 h
                refine lv_iconst (v := 0) hx hb dL_hangs_495 (by decide) ?_
                refine lv_iload_n hx hb dL_hangs_496 rfl (lv_at hl 2 rfl) ?_
                refine lv_if_ne (tgt := 504) hx hb dL_hangs_497 (by decide) (fun hc35 => ?_) (fun hc35 => ?_)
                · have h := z_in hc35 h
                  refine lv_iconst (v := 0) hx hb dL_hangs_504 (by decide) ?_
                  exact L_L_hangs_b505 C hr hlk Z _ _ _ _ _ _ _ _ h _ _ hP hS ls (lv_sub hl [1, 2, 4, 5, 6, 0] rfl)
                · have h := z_ip hc35 h
                  refine lv_iconst (v := 1) hx hb dL_hangs_500 (by decide) ?_
                  refine lv_goto (tgt := 505) hx hb dL_hangs_501 (by decide) ?_
                  exact L_L_hangs_b505 C hr hlk Z _ _ _ _ _ _ _ _ h _ _ hP hS ls (lv_sub hl [1, 2, 4, 5, 6, 0] rfl)
              · have h := z_ip hc34 h
                refine lv_iconst (v := 1) hx hb dL_hangs_491 (by decide) ?_
                refine lv_goto (tgt := 496) hx hb dL_hangs_492 (by decide) ?_
                refine lv_iload_n hx hb dL_hangs_496 rfl (lv_at hl 2 rfl) ?_
                refine lv_if_ne (tgt := 504) hx hb dL_hangs_497 (by decide) (fun hc82 => ?_) (fun hc82 => ?_)
                · have h := z_in hc82 h
                  refine lv_iconst (v := 0) hx hb dL_hangs_504 (by decide) ?_
                  exact L_L_hangs_b505 C hr hlk Z _ _ _ _ _ _ _ _ h _ _ hP hS ls (lv_sub hl [1, 2, 4, 5, 6, 0] rfl)
                · have h := z_ip hc82 h
                  refine lv_iconst (v := 1) hx hb dL_hangs_500 (by decide) ?_
                  refine lv_goto (tgt := 505) hx hb dL_hangs_501 (by decide) ?_
                  exact L_L_hangs_b505 C hr hlk Z _ _ _ _ _ _ _ _ h _ _ hP hS ls (lv_sub hl [1, 2, 4, 5, 6, 0] rfl)
    · have h := z_in hc2 h
      refine lv_iconst (v := 0) hx hb dL_hangs_230 (by decide) ?_
      refine lv_istore (lv' := [(8, .int (0)), (0, .ref (G.2.1 (90))), (1, .int (x1)), (2, .int (x2)), (3, .int (x3)), (4, .int (x4)), (6, .int (x6)), (7, .int (x7))]) hx hb dL_hangs_231 hl (by decide) rfl (fun ls hl => ?_)
      refine lv_iconst (v := 0) hx hb dL_hangs_233 (by decide) ?_
      refine lv_istore (lv' := [(9, .int (0)), (8, .int (0)), (0, .ref (G.2.1 (90))), (1, .int (x1)), (2, .int (x2)), (3, .int (x3)), (4, .int (x4)), (6, .int (x6)), (7, .int (x7))]) hx hb dL_hangs_234 hl (by decide) rfl (fun ls hl => ?_)
      refine lv_iconst (v := 4) hx hb dL_hangs_236 (by decide) ?_
      refine lv_iload hx hb dL_hangs_237 (lv_at hl 8 rfl) ?_
      refine lv_imul hx hb dL_hangs_239 ?_
      refine lv_istore (lv' := [(10, .int ((4 * x7))), (9, .int (0)), (8, .int (0)), (0, .ref (G.2.1 (90))), (1, .int (x1)), (2, .int (x2)), (3, .int (x3)), (4, .int (x4)), (6, .int (x6)), (7, .int (x7))]) hx hb dL_hangs_240 hl (by decide) rfl (fun ls hl => ?_)
      exact L_L_hangs_b242 C hr hlk Z ih z_F _ _ _ _ _ _ _ _ _ _ h _ _ hP hS ls (lv_sub hl [3, 4, 5, 6, 7, 8, 9, 2, 1, 0] rfl)
set_option maxHeartbeats 8000000 in
set_option maxRecDepth 100000 in
theorem L_L_hangs_b201 {p : Program} {l : Launch} {e : Env} {s : State} {m : MethodId} {args : Array Value} {below : List Frame} {meth : Method} {c : Code} {G : zG} {r : Int32} {mu1 : Mm} {ag18 : Int32 → Int32 → Int32 → Int32 → Int32 → Int32 → Mm → Option (Int32 × Mm)} (C : CallFix p m c cL_hangs 11 s args wsL_hangs RL) (hr : meth.sig.returnType = (some .boolean)) (hlk : meth.locks = false) (Z : z_Z G (z_A G s.heap.size) s) (hag18 : ∀ (x1 : Int32) (x2 : Int32) (x3 : Int32) (x4 : Int32) (x6 : Int32) (x7 : Int32) (μ : Mm), ag18 x1 x2 x3 x4 x6 x7 μ = some (r, mu1) → ∀ (H : Heap) (locs : List Loc), z_P G μ H → va_S (z_A G s.heap.size) s.heap H locs → ∀ ls : Array Slot, lv_has ls 11 [(0, .ref (G.2.1 (90))), (1, .int (x1)), (2, .int (x2)), (3, .int (x3)), (4, .int (x4)), (6, .int (x6)), (7, .int (x7))] → W p l e rm_L_hangs s m args below meth c H locs 0 0 (MQ below (z_Qi G r mu1 s.heap.size) args s 0 0 (z_A G s.heap.size)) (F0 m 18 ls [])) :
    ∀ (x1 : Int32) (x2 : Int32) (x3 : Int32) (x4 : Int32) (x6 : Int32) (x7 : Int32) (μ : Mm), f_L_hangs_b201 ag18 x1 x2 x3 x4 x6 x7 μ = some (r, mu1) → ∀ (H : Heap) (locs : List Loc), z_P G μ H → va_S (z_A G s.heap.size) s.heap H locs → ∀ ls : Array Slot, lv_has ls 11 [(0, .ref (G.2.1 (90))), (1, .int (x1)), (2, .int (x2)), (3, .int (x3)), (4, .int (x4)), (6, .int (x6)), (7, .int (x7))] → W p l e rm_L_hangs s m args below meth c H locs 0 0 (MQ below (z_Qi G r mu1 s.heap.size) args s 0 0 (z_A G s.heap.size)) (F0 m 201 ls []) := by
  have hx := C.1
  have hb := C.2.1
  have hts := C.2.2.2.2
  intro x1 x2 x3 x4 x6 x7 μ h H locs hP hS ls hl
  unfold f_L_hangs_b201 at h
  refine lv_aload_n hx hb dL_hangs_201 rfl (lv_at hl 0 rfl) ?_
  refine lv_iload hx hb dL_hangs_202 (lv_at hl 6 rfl) ?_
  obtain ⟨r142, m143, e144, h⟩ := zb_some h
  refine z_calli hS (vx_runSW (As := [.ref (G.2.1 (90)), .int (x7)]) (rest := []) C (c_L_daughters l G e144 _) (vx_cwSW 2 hts gL_hangs_L_daughters rfl rfl rfl hd_L_daughters ⟨Nat.le_of_ble_eq_true rfl, Nat.le_of_ble_eq_true rfl⟩) (z_preS Z hS hP) rfl rfl hl.1 rfl (lv_room (Nat.le_of_ble_eq_true rfl)) dL_hangs_204 ⟨Nat.zero_le _, Nat.zero_le _⟩) (fun H locs hP hS => ?_)
  refine lv_bipush (v := 23) hx hb dL_hangs_207 (by decide) ?_
  refine lv_icmp_le (tgt := 214) hx hb dL_hangs_209 (by decide) (fun hc145 => ?_) (fun hc145 => ?_)
  · have h := z_ip hc145 h
    refine lv_iinc (v := (x7 + 1)) (lv' := [(7, .int ((x7 + 1))), (0, .ref (G.2.1 (90))), (1, .int (x1)), (2, .int (x2)), (3, .int (x3)), (4, .int (x4)), (6, .int (x6))]) hx hb dL_hangs_214 hl (k := 6) rfl rfl (by decide) rfl (fun ls hl => ?_)
    refine lv_goto (tgt := 18) hx hb dL_hangs_217 (by decide) ?_
    exact hag18 _ _ _ _ _ _ _ h _ _ hP hS ls (lv_sub hl [1, 2, 3, 4, 5, 6, 0] rfl)
  · have h := z_in hc145 h
    cases h
set_option maxHeartbeats 8000000 in
set_option maxRecDepth 100000 in
theorem L_L_hangs_b134 {p : Program} {l : Launch} {e : Env} {s : State} {m : MethodId} {args : Array Value} {below : List Frame} {meth : Method} {c : Code} {G : zG} {r : Int32} {mu1 : Mm} {ag18 : Int32 → Int32 → Int32 → Int32 → Int32 → Int32 → Mm → Option (Int32 × Mm)} (C : CallFix p m c cL_hangs 11 s args wsL_hangs RL) (hr : meth.sig.returnType = (some .boolean)) (hlk : meth.locks = false) (Z : z_Z G (z_A G s.heap.size) s) (hag18 : ∀ (x1 : Int32) (x2 : Int32) (x3 : Int32) (x4 : Int32) (x6 : Int32) (x7 : Int32) (μ : Mm), ag18 x1 x2 x3 x4 x6 x7 μ = some (r, mu1) → ∀ (H : Heap) (locs : List Loc), z_P G μ H → va_S (z_A G s.heap.size) s.heap H locs → ∀ ls : Array Slot, lv_has ls 11 [(0, .ref (G.2.1 (90))), (1, .int (x1)), (2, .int (x2)), (3, .int (x3)), (4, .int (x4)), (6, .int (x6)), (7, .int (x7))] → W p l e rm_L_hangs s m args below meth c H locs 0 0 (MQ below (z_Qi G r mu1 s.heap.size) args s 0 0 (z_A G s.heap.size)) (F0 m 18 ls [])) :
    ∀ (n : Nat) (x1 : Int32) (x2 : Int32) (x3 : Int32) (x4 : Int32) (x6 : Int32) (x7 : Int32) (x9 : Int32) (x10 : Int32) (μ : Mm), f_L_hangs_b134 ag18 n x1 x2 x3 x4 x6 x7 x9 x10 μ = some (r, mu1) → ∀ (H : Heap) (locs : List Loc), z_P G μ H → va_S (z_A G s.heap.size) s.heap H locs → ∀ ls : Array Slot, lv_has ls 11 [(0, .ref (G.2.1 (90))), (1, .int (x1)), (2, .int (x2)), (3, .int (x3)), (4, .int (x4)), (6, .int (x6)), (7, .int (x7)), (9, .int (x9)), (10, .int (x10))] → W p l e rm_L_hangs s m args below meth c H locs 0 0 (MQ below (z_Qi G r mu1 s.heap.size) args s 0 0 (z_A G s.heap.size)) (F0 m 134 ls []) := by
  have hx := C.1
  have hb := C.2.1
  have hts := C.2.2.2.2
  intro n
  induction n with
  | zero =>
    intro x1 x2 x3 x4 x6 x7 x9 x10 μ h
    rw [f_L_hangs_b134] at h
    cases h
  | succ n ih =>
    intro x1 x2 x3 x4 x6 x7 x9 x10 μ h H locs hP hS ls hl
    rw [f_L_hangs_b134] at h
    refine lv_iload hx hb dL_hangs_134 (lv_at hl 8 rfl) ?_
    refine lv_bipush (v := 24) hx hb dL_hangs_136 (by decide) ?_
    refine lv_icmp_ge (tgt := 176) hx hb dL_hangs_138 (by decide) (fun hc136 => ?_) (fun hc136 => ?_)
    · have h := z_ip hc136 h
      refine lv_aload_n hx hb dL_hangs_176 rfl (lv_at hl 0 rfl) ?_
      refine lv_iload hx hb dL_hangs_177 (lv_at hl 6 rfl) ?_
      obtain ⟨r137, m138, e139, h⟩ := zb_some h
      refine z_calli hS (vx_runSW (As := [.ref (G.2.1 (90)), .int (x7)]) (rest := []) C (c_L_daughters l G e139 _) (vx_cwSW 2 hts gL_hangs_L_daughters rfl rfl rfl hd_L_daughters ⟨Nat.le_of_ble_eq_true rfl, Nat.le_of_ble_eq_true rfl⟩) (z_preS Z hS hP) rfl rfl hl.1 rfl (lv_room (Nat.le_of_ble_eq_true rfl)) dL_hangs_179 ⟨Nat.zero_le _, Nat.zero_le _⟩) (fun H locs hP hS => ?_)
      refine lv_iload hx hb dL_hangs_182 (lv_at hl 7 rfl) ?_
      refine lv_icmp_lt (tgt := 212) hx hb dL_hangs_184 (by decide) (fun hc140 => ?_) (fun hc140 => ?_)
      · have h := z_ip hc140 h
        cases h
      · have h := z_in hc140 h
        refine lv_iload hx hb dL_hangs_187 (lv_at hl 7 rfl) ?_
        refine lv_if_ne (tgt := 201) hx hb dL_hangs_189 (by decide) (fun hc141 => ?_) (fun hc141 => ?_)
        · have h := z_in hc141 h
          exact L_L_hangs_b201 C hr hlk Z hag18 _ _ _ _ _ _ _ h _ _ hP hS ls (lv_sub hl [0, 1, 2, 3, 4, 5, 6] rfl)
        · have h := z_ip hc141 h
          refine lv_aload_n hx hb dL_hangs_192 rfl (lv_at hl 0 rfl) ?_
          refine lv_iload hx hb dL_hangs_193 (lv_at hl 6 rfl) ?_
          obtain ⟨r146, m147, e148, h⟩ := zb_some h
          refine z_calli hS (vx_runSW (As := [.ref (G.2.1 (90)), .int (x7)]) (rest := []) C (c_L_daughters l G e148 _) (vx_cwSW 2 hts gL_hangs_L_daughters rfl rfl rfl hd_L_daughters ⟨Nat.le_of_ble_eq_true rfl, Nat.le_of_ble_eq_true rfl⟩) (z_preS Z hS hP) rfl rfl hl.1 rfl (lv_room (Nat.le_of_ble_eq_true rfl)) dL_hangs_195 ⟨Nat.zero_le _, Nat.zero_le _⟩) (fun H locs hP hS => ?_)
          refine lv_if_ne (tgt := 212) hx hb dL_hangs_198 (by decide) (fun hc149 => ?_) (fun hc149 => ?_)
          · have h := z_in hc149 h
            cases h
          · have h := z_ip hc149 h
            exact L_L_hangs_b201 C hr hlk Z hag18 _ _ _ _ _ _ _ h _ _ hP hS ls (lv_sub hl [0, 1, 2, 3, 4, 5, 6] rfl)
    · have h := z_in hc136 h
      refine lv_iload hx hb dL_hangs_141 (lv_at hl 7 rfl) ?_
      refine lv_iload hx hb dL_hangs_143 (lv_at hl 8 rfl) ?_
      refine lv_iload hx hb dL_hangs_145 (lv_at hl 6 rfl) ?_
      refine lv_icmp_eq (tgt := 166) hx hb dL_hangs_147 (by decide) (fun hc150 => ?_) (fun hc150 => ?_)
      · have h := z_ip hc150 h
        refine lv_iconst (v := 0) hx hb dL_hangs_166 (by decide) ?_
        refine lv_iadd hx hb dL_hangs_167 ?_
        refine lv_istore (lv' := [(9, .int ((x9 + 0))), (0, .ref (G.2.1 (90))), (1, .int (x1)), (2, .int (x2)), (3, .int (x3)), (4, .int (x4)), (6, .int (x6)), (7, .int (x7)), (10, .int (x10))]) hx hb dL_hangs_168 hl (by decide) rfl (fun ls hl => ?_)
        refine lv_iinc (v := (x10 + 1)) (lv' := [(10, .int ((x10 + 1))), (9, .int ((x9 + 0))), (0, .ref (G.2.1 (90))), (1, .int (x1)), (2, .int (x2)), (3, .int (x3)), (4, .int (x4)), (6, .int (x6)), (7, .int (x7))]) hx hb dL_hangs_170 hl (k := 8) rfl rfl (by decide) rfl (fun ls hl => ?_)
        refine lv_goto (tgt := 134) hx hb dL_hangs_173 (by decide) ?_
        exact ih _ _ _ _ _ _ _ _ _ h _ _ hP hS ls (lv_sub hl [2, 3, 4, 5, 6, 7, 8, 1, 0] rfl)
      · have h := z_in hc150 h
        refine lv_aload_n hx hb dL_hangs_150 rfl (lv_at hl 0 rfl) ?_
        refine lv_iload hx hb dL_hangs_151 (lv_at hl 8 rfl) ?_
        refine lv_iconst (v := 4) hx hb dL_hangs_153 (by decide) ?_
        obtain ⟨r151, m152, e153, h⟩ := zb_some h
        refine z_calli hS (vx_runSW (As := [.ref (G.2.1 (90)), .int (x10), .int (4)]) (rest := [.int (x9)]) C (c_L_trackOf l G e153 _) (vx_cwSW 3 hts gL_hangs_L_trackOf rfl rfl rfl hd_L_trackOf ⟨Nat.le_of_ble_eq_true rfl, Nat.le_of_ble_eq_true rfl⟩) (z_preS Z hS hP) rfl rfl hl.1 rfl (lv_room (Nat.le_of_ble_eq_true rfl)) dL_hangs_154 ⟨Nat.zero_le _, Nat.zero_le _⟩) (fun H locs hP hS => ?_)
        refine lv_iload hx hb dL_hangs_157 (lv_at hl 6 rfl) ?_
        refine lv_icmp_ne (tgt := 166) hx hb dL_hangs_159 (by decide) (fun hc154 => ?_) (fun hc154 => ?_)
        · have h := z_in hc154 h
          refine lv_iconst (v := 0) hx hb dL_hangs_166 (by decide) ?_
          refine lv_iadd hx hb dL_hangs_167 ?_
          refine lv_istore (lv' := [(9, .int ((x9 + 0))), (0, .ref (G.2.1 (90))), (1, .int (x1)), (2, .int (x2)), (3, .int (x3)), (4, .int (x4)), (6, .int (x6)), (7, .int (x7)), (10, .int (x10))]) hx hb dL_hangs_168 hl (by decide) rfl (fun ls hl => ?_)
          refine lv_iinc (v := (x10 + 1)) (lv' := [(10, .int ((x10 + 1))), (9, .int ((x9 + 0))), (0, .ref (G.2.1 (90))), (1, .int (x1)), (2, .int (x2)), (3, .int (x3)), (4, .int (x4)), (6, .int (x6)), (7, .int (x7))]) hx hb dL_hangs_170 hl (k := 8) rfl rfl (by decide) rfl (fun ls hl => ?_)
          refine lv_goto (tgt := 134) hx hb dL_hangs_173 (by decide) ?_
          exact ih _ _ _ _ _ _ _ _ _ h _ _ hP hS ls (lv_sub hl [2, 3, 4, 5, 6, 7, 8, 1, 0] rfl)
        · have h := z_ip hc154 h
          refine lv_iconst (v := 1) hx hb dL_hangs_162 (by decide) ?_
          refine lv_goto (tgt := 167) hx hb dL_hangs_163 (by decide) ?_
          refine lv_iadd hx hb dL_hangs_167 ?_
          refine lv_istore (lv' := [(9, .int ((x9 + 1))), (0, .ref (G.2.1 (90))), (1, .int (x1)), (2, .int (x2)), (3, .int (x3)), (4, .int (x4)), (6, .int (x6)), (7, .int (x7)), (10, .int (x10))]) hx hb dL_hangs_168 hl (by decide) rfl (fun ls hl => ?_)
          refine lv_iinc (v := (x10 + 1)) (lv' := [(10, .int ((x10 + 1))), (9, .int ((x9 + 1))), (0, .ref (G.2.1 (90))), (1, .int (x1)), (2, .int (x2)), (3, .int (x3)), (4, .int (x4)), (6, .int (x6)), (7, .int (x7))]) hx hb dL_hangs_170 hl (k := 8) rfl rfl (by decide) rfl (fun ls hl => ?_)
          refine lv_goto (tgt := 134) hx hb dL_hangs_173 (by decide) ?_
          exact ih _ _ _ _ _ _ _ _ _ h _ _ hP hS ls (lv_sub hl [2, 3, 4, 5, 6, 7, 8, 1, 0] rfl)
set_option maxHeartbeats 8000000 in
set_option maxRecDepth 100000 in
theorem L_L_hangs_b94 {p : Program} {l : Launch} {e : Env} {s : State} {m : MethodId} {args : Array Value} {below : List Frame} {meth : Method} {c : Code} {G : zG} {r : Int32} {mu1 : Mm} {ag18 : Int32 → Int32 → Int32 → Int32 → Int32 → Int32 → Mm → Option (Int32 × Mm)} (C : CallFix p m c cL_hangs 11 s args wsL_hangs RL) (hr : meth.sig.returnType = (some .boolean)) (hlk : meth.locks = false) (Z : z_Z G (z_A G s.heap.size) s) (hag18 : ∀ (x1 : Int32) (x2 : Int32) (x3 : Int32) (x4 : Int32) (x6 : Int32) (x7 : Int32) (μ : Mm), ag18 x1 x2 x3 x4 x6 x7 μ = some (r, mu1) → ∀ (H : Heap) (locs : List Loc), z_P G μ H → va_S (z_A G s.heap.size) s.heap H locs → ∀ ls : Array Slot, lv_has ls 11 [(0, .ref (G.2.1 (90))), (1, .int (x1)), (2, .int (x2)), (3, .int (x3)), (4, .int (x4)), (6, .int (x6)), (7, .int (x7))] → W p l e rm_L_hangs s m args below meth c H locs 0 0 (MQ below (z_Qi G r mu1 s.heap.size) args s 0 0 (z_A G s.heap.size)) (F0 m 18 ls [])) :
    ∀ (x1 : Int32) (x2 : Int32) (x3 : Int32) (x6 : Int32) (x7 : Int32) (x8 : Int32) (y0 : Int32) (y1 : Int32) (μ : Mm), f_L_hangs_b94 ag18 x1 x2 x3 x6 x7 x8 y0 y1 μ = some (r, mu1) → ∀ (H : Heap) (locs : List Loc), z_P G μ H → va_S (z_A G s.heap.size) s.heap H locs → ∀ ls : Array Slot, lv_has ls 11 [(0, .ref (G.2.1 (90))), (1, .int (x1)), (2, .int (x2)), (3, .int (x3)), (6, .int (x6)), (7, .int (x7)), (8, .int (x8))] → W p l e rm_L_hangs s m args below meth c H locs 0 0 (MQ below (z_Qi G r mu1 s.heap.size) args s 0 0 (z_A G s.heap.size)) (F0 m 94 ls [.int (y0), .int (y1)]) := by
  have hx := C.1
  have hb := C.2.1
  have hts := C.2.2.2.2
  intro x1 x2 x3 x6 x7 x8 y0 y1 μ h H locs hP hS ls hl
  unfold f_L_hangs_b94 at h
  refine lv_iadd hx hb dL_hangs_94 ?_
  refine lv_istore (lv' := [(4, .int ((y1 + y0))), (0, .ref (G.2.1 (90))), (1, .int (x1)), (2, .int (x2)), (3, .int (x3)), (6, .int (x6)), (7, .int (x7)), (8, .int (x8))]) hx hb dL_hangs_95 hl (by decide) rfl (fun ls hl => ?_)
  refine lv_iload hx hb dL_hangs_97 (lv_at hl 7 rfl) ?_
  refine lv_if_eq (tgt := 124) hx hb dL_hangs_99 (by decide) (fun hc135 => ?_) (fun hc135 => ?_)
  · have h := z_ip hc135 h
    refine lv_iload hx hb dL_hangs_124 (lv_at hl 5 rfl) ?_
    refine lv_istore (lv' := [(6, .int (x6)), (4, .int ((y1 + y0))), (0, .ref (G.2.1 (90))), (1, .int (x1)), (2, .int (x2)), (3, .int (x3)), (7, .int (x7)), (8, .int (x8))]) hx hb dL_hangs_126 hl (by decide) rfl (fun ls hl => ?_)
    refine lv_iconst (v := 0) hx hb dL_hangs_128 (by decide) ?_
    refine lv_istore (lv' := [(9, .int (0)), (6, .int (x6)), (4, .int ((y1 + y0))), (0, .ref (G.2.1 (90))), (1, .int (x1)), (2, .int (x2)), (3, .int (x3)), (7, .int (x7)), (8, .int (x8))]) hx hb dL_hangs_129 hl (by decide) rfl (fun ls hl => ?_)
    refine lv_iconst (v := 0) hx hb dL_hangs_131 (by decide) ?_
    refine lv_istore (lv' := [(10, .int (0)), (9, .int (0)), (6, .int (x6)), (4, .int ((y1 + y0))), (0, .ref (G.2.1 (90))), (1, .int (x1)), (2, .int (x2)), (3, .int (x3)), (7, .int (x7)), (8, .int (x8))]) hx hb dL_hangs_132 hl (by decide) rfl (fun ls hl => ?_)
    exact L_L_hangs_b134 C hr hlk Z hag18 z_F _ _ _ _ _ _ _ _ _ h _ _ hP hS ls (lv_sub hl [4, 5, 6, 7, 3, 2, 8, 1, 0] rfl)
  · have h := z_in hc135 h
    refine lv_aload_n hx hb dL_hangs_102 rfl (lv_at hl 1 rfl) ?_
    refine lv_iload hx hb dL_hangs_103 (lv_at hl 6 rfl) ?_
    refine lv_iconst (v := 1) hx hb dL_hangs_105 (by decide) ?_
    obtain ⟨r155, m156, e157, h⟩ := zb_some h
    refine z_calli hS (vx_runSW (As := [.ref (G.2.1 (90)), .int (x7), .int (1)]) (rest := []) C (c_L_trackOf l G e157 _) (vx_cwSW 3 hts gL_hangs_L_trackOf rfl rfl rfl hd_L_trackOf ⟨Nat.le_of_ble_eq_true rfl, Nat.le_of_ble_eq_true rfl⟩) (z_preS Z hS hP) rfl rfl hl.1 rfl (lv_room (Nat.le_of_ble_eq_true rfl)) dL_hangs_106 ⟨Nat.zero_le _, Nat.zero_le _⟩) (fun H locs hP hS => ?_)
    refine lv_iload hx hb dL_hangs_109 (lv_at hl 5 rfl) ?_
    refine lv_icmp_le (tgt := 124) hx hb dL_hangs_111 (by decide) (fun hc158 => ?_) (fun hc158 => ?_)
    · have h := z_ip hc158 h
      refine lv_iload hx hb dL_hangs_124 (lv_at hl 5 rfl) ?_
      refine lv_istore (lv' := [(6, .int (x6)), (4, .int ((y1 + y0))), (0, .ref (G.2.1 (90))), (1, .int (x1)), (2, .int (x2)), (3, .int (x3)), (7, .int (x7)), (8, .int (x8))]) hx hb dL_hangs_126 hl (by decide) rfl (fun ls hl => ?_)
      refine lv_iconst (v := 0) hx hb dL_hangs_128 (by decide) ?_
      refine lv_istore (lv' := [(9, .int (0)), (6, .int (x6)), (4, .int ((y1 + y0))), (0, .ref (G.2.1 (90))), (1, .int (x1)), (2, .int (x2)), (3, .int (x3)), (7, .int (x7)), (8, .int (x8))]) hx hb dL_hangs_129 hl (by decide) rfl (fun ls hl => ?_)
      refine lv_iconst (v := 0) hx hb dL_hangs_131 (by decide) ?_
      refine lv_istore (lv' := [(10, .int (0)), (9, .int (0)), (6, .int (x6)), (4, .int ((y1 + y0))), (0, .ref (G.2.1 (90))), (1, .int (x1)), (2, .int (x2)), (3, .int (x3)), (7, .int (x7)), (8, .int (x8))]) hx hb dL_hangs_132 hl (by decide) rfl (fun ls hl => ?_)
      exact L_L_hangs_b134 C hr hlk Z hag18 z_F _ _ _ _ _ _ _ _ _ h _ _ hP hS ls (lv_sub hl [4, 5, 6, 7, 3, 2, 8, 1, 0] rfl)
    · have h := z_in hc158 h
      refine lv_aload_n hx hb dL_hangs_114 rfl (lv_at hl 1 rfl) ?_
      refine lv_iload hx hb dL_hangs_115 (lv_at hl 6 rfl) ?_
      refine lv_iconst (v := 1) hx hb dL_hangs_117 (by decide) ?_
      obtain ⟨r159, m160, e161, h⟩ := zb_some h
      refine z_calli hS (vx_runSW (As := [.ref (G.2.1 (90)), .int (x7), .int (1)]) (rest := []) C (c_L_trackOf l G e161 _) (vx_cwSW 3 hts gL_hangs_L_trackOf rfl rfl rfl hd_L_trackOf ⟨Nat.le_of_ble_eq_true rfl, Nat.le_of_ble_eq_true rfl⟩) (z_preS Z hS hP) rfl rfl hl.1 rfl (lv_room (Nat.le_of_ble_eq_true rfl)) dL_hangs_118 ⟨Nat.zero_le _, Nat.zero_le _⟩) (fun H locs hP hS => ?_)
      refine lv_goto (tgt := 126) hx hb dL_hangs_121 (by decide) ?_
      refine lv_istore (lv' := [(6, .int (r159)), (4, .int ((y1 + y0))), (0, .ref (G.2.1 (90))), (1, .int (x1)), (2, .int (x2)), (3, .int (x3)), (7, .int (x7)), (8, .int (x8))]) hx hb dL_hangs_126 hl (by decide) rfl (fun ls hl => ?_)
      refine lv_iconst (v := 0) hx hb dL_hangs_128 (by decide) ?_
      refine lv_istore (lv' := [(9, .int (0)), (6, .int (r159)), (4, .int ((y1 + y0))), (0, .ref (G.2.1 (90))), (1, .int (x1)), (2, .int (x2)), (3, .int (x3)), (7, .int (x7)), (8, .int (x8))]) hx hb dL_hangs_129 hl (by decide) rfl (fun ls hl => ?_)
      refine lv_iconst (v := 0) hx hb dL_hangs_131 (by decide) ?_
      refine lv_istore (lv' := [(10, .int (0)), (9, .int (0)), (6, .int (r159)), (4, .int ((y1 + y0))), (0, .ref (G.2.1 (90))), (1, .int (x1)), (2, .int (x2)), (3, .int (x3)), (7, .int (x7)), (8, .int (x8))]) hx hb dL_hangs_132 hl (by decide) rfl (fun ls hl => ?_)
      exact L_L_hangs_b134 C hr hlk Z hag18 z_F _ _ _ _ _ _ _ _ _ h _ _ hP hS ls (lv_sub hl [4, 5, 6, 7, 3, 2, 8, 1, 0] rfl)
set_option maxHeartbeats 8000000 in
set_option maxRecDepth 100000 in
theorem L_L_hangs_b64 {p : Program} {l : Launch} {e : Env} {s : State} {m : MethodId} {args : Array Value} {below : List Frame} {meth : Method} {c : Code} {G : zG} {r : Int32} {mu1 : Mm} {ag18 : Int32 → Int32 → Int32 → Int32 → Int32 → Int32 → Mm → Option (Int32 × Mm)} (C : CallFix p m c cL_hangs 11 s args wsL_hangs RL) (hr : meth.sig.returnType = (some .boolean)) (hlk : meth.locks = false) (Z : z_Z G (z_A G s.heap.size) s) (hag18 : ∀ (x1 : Int32) (x2 : Int32) (x3 : Int32) (x4 : Int32) (x6 : Int32) (x7 : Int32) (μ : Mm), ag18 x1 x2 x3 x4 x6 x7 μ = some (r, mu1) → ∀ (H : Heap) (locs : List Loc), z_P G μ H → va_S (z_A G s.heap.size) s.heap H locs → ∀ ls : Array Slot, lv_has ls 11 [(0, .ref (G.2.1 (90))), (1, .int (x1)), (2, .int (x2)), (3, .int (x3)), (4, .int (x4)), (6, .int (x6)), (7, .int (x7))] → W p l e rm_L_hangs s m args below meth c H locs 0 0 (MQ below (z_Qi G r mu1 s.heap.size) args s 0 0 (z_A G s.heap.size)) (F0 m 18 ls [])) :
    ∀ (x2 : Int32) (x3 : Int32) (x4 : Int32) (x6 : Int32) (x7 : Int32) (x8 : Int32) (y0 : Int32) (y1 : Int32) (μ : Mm), f_L_hangs_b64 ag18 x2 x3 x4 x6 x7 x8 y0 y1 μ = some (r, mu1) → ∀ (H : Heap) (locs : List Loc), z_P G μ H → va_S (z_A G s.heap.size) s.heap H locs → ∀ ls : Array Slot, lv_has ls 11 [(0, .ref (G.2.1 (90))), (2, .int (x2)), (3, .int (x3)), (4, .int (x4)), (6, .int (x6)), (7, .int (x7)), (8, .int (x8))] → W p l e rm_L_hangs s m args below meth c H locs 0 0 (MQ below (z_Qi G r mu1 s.heap.size) args s 0 0 (z_A G s.heap.size)) (F0 m 64 ls [.int (y0), .int (y1)]) := by
  have hx := C.1
  have hb := C.2.1
  have hts := C.2.2.2.2
  intro x2 x3 x4 x6 x7 x8 y0 y1 μ h H locs hP hS ls hl
  unfold f_L_hangs_b64 at h
  refine lv_iadd hx hb dL_hangs_64 ?_
  refine lv_istore_n (lv' := [(1, .int ((y1 + y0))), (0, .ref (G.2.1 (90))), (2, .int (x2)), (3, .int (x3)), (4, .int (x4)), (6, .int (x6)), (7, .int (x7)), (8, .int (x8))]) hx hb dL_hangs_65 rfl hl (by decide) rfl (fun ls hl => ?_)
  refine lv_iload_n hx hb dL_hangs_66 rfl (lv_at hl 3 rfl) ?_
  refine lv_aload_n hx hb dL_hangs_67 rfl (lv_at hl 1 rfl) ?_
  refine lv_iload hx hb dL_hangs_68 (lv_at hl 6 rfl) ?_
  refine lv_iconst (v := 0) hx hb dL_hangs_70 (by decide) ?_
  obtain ⟨r131, m132, e133, h⟩ := zb_some h
  refine z_calli hS (vx_runSW (As := [.ref (G.2.1 (90)), .int (x7), .int (0)]) (rest := [.int (x3)]) C (c_L_trackOf l G e133 _) (vx_cwSW 3 hts gL_hangs_L_trackOf rfl rfl rfl hd_L_trackOf ⟨Nat.le_of_ble_eq_true rfl, Nat.le_of_ble_eq_true rfl⟩) (z_preS Z hS hP) rfl rfl hl.1 rfl (lv_room (Nat.le_of_ble_eq_true rfl)) dL_hangs_71 ⟨Nat.zero_le _, Nat.zero_le _⟩) (fun H locs hP hS => ?_)
  refine lv_iadd hx hb dL_hangs_74 ?_
  refine lv_istore_n (lv' := [(3, .int ((x3 + r131))), (1, .int ((y1 + y0))), (0, .ref (G.2.1 (90))), (2, .int (x2)), (4, .int (x4)), (6, .int (x6)), (7, .int (x7)), (8, .int (x8))]) hx hb dL_hangs_75 rfl hl (by decide) rfl (fun ls hl => ?_)
  refine lv_iload hx hb dL_hangs_76 (lv_at hl 4 rfl) ?_
  refine lv_iload hx hb dL_hangs_78 (lv_at hl 7 rfl) ?_
  refine lv_if_eq (tgt := 93) hx hb dL_hangs_80 (by decide) (fun hc134 => ?_) (fun hc134 => ?_)
  · have h := z_ip hc134 h
    refine lv_iconst (v := 0) hx hb dL_hangs_93 (by decide) ?_
    exact L_L_hangs_b94 C hr hlk Z hag18 _ _ _ _ _ _ _ _ _ h _ _ hP hS ls (lv_sub hl [2, 1, 3, 0, 5, 6, 7] rfl)
  · have h := z_in hc134 h
    refine lv_aload_n hx hb dL_hangs_83 rfl (lv_at hl 2 rfl) ?_
    refine lv_iload hx hb dL_hangs_84 (lv_at hl 6 rfl) ?_
    refine lv_iconst (v := 1) hx hb dL_hangs_86 (by decide) ?_
    obtain ⟨r162, m163, e164, h⟩ := zb_some h
    refine z_calli hS (vx_runSW (As := [.ref (G.2.1 (90)), .int (x7), .int (1)]) (rest := [.int (x4)]) C (c_L_trackOf l G e164 _) (vx_cwSW 3 hts gL_hangs_L_trackOf rfl rfl rfl hd_L_trackOf ⟨Nat.le_of_ble_eq_true rfl, Nat.le_of_ble_eq_true rfl⟩) (z_preS Z hS hP) rfl rfl hl.1 rfl (lv_room (Nat.le_of_ble_eq_true rfl)) dL_hangs_87 ⟨Nat.zero_le _, Nat.zero_le _⟩) (fun H locs hP hS => ?_)
    refine lv_goto (tgt := 94) hx hb dL_hangs_90 (by decide) ?_
    exact L_L_hangs_b94 C hr hlk Z hag18 _ _ _ _ _ _ _ _ _ h _ _ hP hS ls (lv_sub hl [2, 1, 3, 0, 5, 6, 7] rfl)
set_option maxHeartbeats 8000000 in
set_option maxRecDepth 100000 in
theorem L_L_hangs_b18 {p : Program} {l : Launch} {e : Env} {s : State} {m : MethodId} {args : Array Value} {below : List Frame} {meth : Method} {c : Code} {G : zG} {r : Int32} {mu1 : Mm}  (C : CallFix p m c cL_hangs 11 s args wsL_hangs RL) (hr : meth.sig.returnType = (some .boolean)) (hlk : meth.locks = false) (Z : z_Z G (z_A G s.heap.size) s)  :
    ∀ (n : Nat) (x1 : Int32) (x2 : Int32) (x3 : Int32) (x4 : Int32) (x6 : Int32) (x7 : Int32) (μ : Mm), f_L_hangs_b18  n x1 x2 x3 x4 x6 x7 μ = some (r, mu1) → ∀ (H : Heap) (locs : List Loc), z_P G μ H → va_S (z_A G s.heap.size) s.heap H locs → ∀ ls : Array Slot, lv_has ls 11 [(0, .ref (G.2.1 (90))), (1, .int (x1)), (2, .int (x2)), (3, .int (x3)), (4, .int (x4)), (6, .int (x6)), (7, .int (x7))] → W p l e rm_L_hangs s m args below meth c H locs 0 0 (MQ below (z_Qi G r mu1 s.heap.size) args s 0 0 (z_A G s.heap.size)) (F0 m 18 ls []) := by
  have hx := C.1
  have hb := C.2.1
  have hts := C.2.2.2.2
  intro n
  induction n with
  | zero =>
    intro x1 x2 x3 x4 x6 x7 μ h
    rw [f_L_hangs_b18] at h
    cases h
  | succ n ih =>
    intro x1 x2 x3 x4 x6 x7 μ h H locs hP hS ls hl
    rw [f_L_hangs_b18] at h
    refine lv_iload hx hb dL_hangs_18 (lv_at hl 6 rfl) ?_
    refine lv_bipush (v := 24) hx hb dL_hangs_20 (by decide) ?_
    refine lv_icmp_ge (tgt := 220) hx hb dL_hangs_22 (by decide) (fun hc1 => ?_) (fun hc1 => ?_)
    · have h := z_ip hc1 h
      refine lv_iconst (v := 0) hx hb dL_hangs_220 (by decide) ?_
      refine lv_istore (lv' := [(7, .int (0)), (0, .ref (G.2.1 (90))), (1, .int (x1)), (2, .int (x2)), (3, .int (x3)), (4, .int (x4)), (6, .int (x6))]) hx hb dL_hangs_221 hl (by decide) rfl (fun ls hl => ?_)
      exact L_L_hangs_b223 C hr hlk Z z_F _ _ _ _ _ _ _ h _ _ hP hS ls (lv_sub hl [1, 2, 3, 4, 5, 6, 0] rfl)
    · have h := z_in hc1 h
      refine lv_aload_n hx hb dL_hangs_25 rfl (lv_at hl 0 rfl) ?_
      refine lv_iload hx hb dL_hangs_26 (lv_at hl 6 rfl) ?_
      obtain ⟨r123, m124, e125, h⟩ := zb_some h
      refine z_calli hS (va_runS (As := [.ref (G.2.1 (90)), .int (x7)]) (rest := []) C (c_L_track l G e125 _) (va_cwS 2 hts gL_hangs_L_track rfl rfl rfl hd_L_track ⟨Nat.le_of_ble_eq_true rfl, Nat.le_of_ble_eq_true rfl⟩) (z_preS Z hS hP) rfl rfl hl.1 rfl (lv_room (Nat.le_of_ble_eq_true rfl)) dL_hangs_28 ⟨Nat.zero_le _, Nat.zero_le _⟩) (fun H locs hP hS => ?_)
      refine lv_if_ne (tgt := 36) hx hb dL_hangs_31 (by decide) (fun hc126 => ?_) (fun hc126 => ?_)
      · have h := z_in hc126 h
        refine lv_aload_n hx hb dL_hangs_36 rfl (lv_at hl 0 rfl) ?_
        refine lv_iload hx hb dL_hangs_37 (lv_at hl 6 rfl) ?_
        refine lv_iconst (v := 0) hx hb dL_hangs_39 (by decide) ?_
        obtain ⟨r127, m128, e129, h⟩ := zb_some h
        refine z_calli hS (vx_runSW (As := [.ref (G.2.1 (90)), .int (x7), .int (0)]) (rest := []) C (c_L_trackOf l G e129 _) (vx_cwSW 3 hts gL_hangs_L_trackOf rfl rfl rfl hd_L_trackOf ⟨Nat.le_of_ble_eq_true rfl, Nat.le_of_ble_eq_true rfl⟩) (z_preS Z hS hP) rfl rfl hl.1 rfl (lv_room (Nat.le_of_ble_eq_true rfl)) dL_hangs_40 ⟨Nat.zero_le _, Nat.zero_le _⟩) (fun H locs hP hS => ?_)
        refine lv_if_le (tgt := 50) hx hb dL_hangs_43 (by decide) (fun hc130 => ?_) (fun hc130 => ?_)
        · have h := z_ip hc130 h
          refine lv_iconst (v := 0) hx hb dL_hangs_50 (by decide) ?_
          refine lv_istore (lv' := [(8, .int (0)), (0, .ref (G.2.1 (90))), (1, .int (x1)), (2, .int (x2)), (3, .int (x3)), (4, .int (x4)), (6, .int (x6)), (7, .int (x7))]) hx hb dL_hangs_51 hl (by decide) rfl (fun ls hl => ?_)
          refine lv_iload_n hx hb dL_hangs_53 rfl (lv_at hl 2 rfl) ?_
          refine lv_iload hx hb dL_hangs_54 (lv_at hl 0 rfl) ?_
          refine lv_if_eq (tgt := 63) hx hb dL_hangs_56 (by decide) (fun _ => ?_) (fun hc => absurd hc (by decide))
          refine lv_iconst (v := 0) hx hb dL_hangs_63 (by decide) ?_
          exact L_L_hangs_b64 C hr hlk Z ih _ _ _ _ _ _ _ _ _ h _ _ hP hS ls (lv_sub hl [1, 3, 4, 5, 6, 7, 0] rfl)
        · have h := z_in hc130 h
          refine lv_iconst (v := 1) hx hb dL_hangs_46 (by decide) ?_
          refine lv_goto (tgt := 51) hx hb dL_hangs_47 (by decide) ?_
          refine lv_istore (lv' := [(8, .int (1)), (0, .ref (G.2.1 (90))), (1, .int (x1)), (2, .int (x2)), (3, .int (x3)), (4, .int (x4)), (6, .int (x6)), (7, .int (x7))]) hx hb dL_hangs_51 hl (by decide) rfl (fun ls hl => ?_)
          refine lv_iload_n hx hb dL_hangs_53 rfl (lv_at hl 2 rfl) ?_
          refine lv_iload hx hb dL_hangs_54 (lv_at hl 0 rfl) ?_
          refine lv_if_eq (tgt := 63) hx hb dL_hangs_56 (by decide) (fun hc => absurd hc (by decide)) (fun _ => ?_)
          refine lv_iconst (v := 1) hx hb dL_hangs_59 (by decide) ?_
          refine lv_goto (tgt := 64) hx hb dL_hangs_60 (by decide) ?_
          exact L_L_hangs_b64 C hr hlk Z ih _ _ _ _ _ _ _ _ _ h _ _ hP hS ls (lv_sub hl [1, 3, 4, 5, 6, 7, 0] rfl)
      · have h := z_ip hc126 h
        cases h
set_option maxHeartbeats 4000000 in
set_option maxRecDepth 100000 in
theorem c_L_hangs (l : Launch) (G : zG) {μ mu1 : Mm} {r : Int32} (h : f_L_hangs μ = some (r, mu1)) (sz : Nat) : Met l yL_hangs wsL_hangs rm_L_hangs (z_Pre G μ [.ref (G.2.1 (90))] sz) (z_Qi G r mu1 sz) 0 0 (z_A G sz) := by
  refine z_start (cc := cL_hangs) (maxL := 11) (ret := (some .boolean)) (own := RL) (by decide) rfl rfl (Nat.le_of_ble_eq_true rfl) (fun p e s m args below meth c C hr hlk Z hP ls hl => ?_) sz
  have hx := C.1
  have hb := C.2.1
  have hts := C.2.2.2.2
  have hS : va_S (z_A G s.heap.size) s.heap s.heap [] := va_S.rf
  have hl : lv_has ls 11 [(0, .ref (G.2.1 (90)))] := hl
  unfold f_L_hangs at h
  refine lv_iconst (v := 0) hx hb dL_hangs_0 (by decide) ?_
  refine lv_istore_n (lv' := [(1, .int (0)), (0, .ref (G.2.1 (90)))]) hx hb dL_hangs_1 rfl hl (by decide) rfl (fun ls hl => ?_)
  refine lv_iconst (v := 0) hx hb dL_hangs_2 (by decide) ?_
  refine lv_istore_n (lv' := [(2, .int (0)), (1, .int (0)), (0, .ref (G.2.1 (90)))]) hx hb dL_hangs_3 rfl hl (by decide) rfl (fun ls hl => ?_)
  refine lv_iconst (v := 0) hx hb dL_hangs_4 (by decide) ?_
  refine lv_istore_n (lv' := [(3, .int (0)), (2, .int (0)), (1, .int (0)), (0, .ref (G.2.1 (90)))]) hx hb dL_hangs_5 rfl hl (by decide) rfl (fun ls hl => ?_)
  refine lv_iconst (v := 0) hx hb dL_hangs_6 (by decide) ?_
  refine lv_istore (lv' := [(4, .int (0)), (3, .int (0)), (2, .int (0)), (1, .int (0)), (0, .ref (G.2.1 (90)))]) hx hb dL_hangs_7 hl (by decide) rfl (fun ls hl => ?_)
  refine lv_iconst (v := 0) hx hb dL_hangs_9 (by decide) ?_
  refine lv_istore (lv' := [(5, .int (0)), (4, .int (0)), (3, .int (0)), (2, .int (0)), (1, .int (0)), (0, .ref (G.2.1 (90)))]) hx hb dL_hangs_10 hl (by decide) rfl (fun ls hl => ?_)
  refine lv_iconst (v := (-1)) hx hb dL_hangs_12 (by decide) ?_
  refine lv_istore (lv' := [(6, .int ((-1))), (5, .int (0)), (4, .int (0)), (3, .int (0)), (2, .int (0)), (1, .int (0)), (0, .ref (G.2.1 (90)))]) hx hb dL_hangs_13 hl (by decide) rfl (fun ls hl => ?_)
  refine lv_iconst (v := 0) hx hb dL_hangs_15 (by decide) ?_
  refine lv_istore (lv' := [(7, .int (0)), (6, .int ((-1))), (5, .int (0)), (4, .int (0)), (3, .int (0)), (2, .int (0)), (1, .int (0)), (0, .ref (G.2.1 (90)))]) hx hb dL_hangs_16 hl (by decide) rfl (fun ls hl => ?_)
  exact L_L_hangs_b18 C hr hlk Z z_F _ _ _ _ _ _ _ h _ _ hP hS ls (lv_sub hl [7, 6, 5, 4, 3, 1, 0] rfl)
