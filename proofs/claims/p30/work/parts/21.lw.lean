/-! the law's look into its script -/
def z_PreX (G : zG) (μ : Mm) (b L : Nat) (xs : Nat → Int32) (av : List Value) (sz : Nat) : Array Value → State → Prop := va_Pc av (fun U => (U.heap.size = sz ∧ z_P G μ U.heap ∧ z_Z G (z_A G sz) U) ∧ va_X b L xs U U.heap ∧ b < sz ∧ ¬ z_A G sz b)
theorem z_blindX {G : zG} {μ : Mm} {b L : Nat} {xs : Nat → Int32} {av : List Value} {sz : Nat} : FrameBlind (z_PreX G μ b L xs av sz) := fun a U g mk q => ⟨q.1, ⟨q.2.1.1, q.2.1.2.1, q.2.1.2.2.calling⟩, va_X.moved (u := U) (U := U.calling g mk a) (Vm.Alike.refl U.vm) q.2.2.1, q.2.2.2⟩
theorem z_preSX {G : zG} {μ : Mm} {s : State} {H : Heap} {locs : List Loc} {As : List Value} {b L : Nat} {xs : Nat → Int32} (Z : z_Z G (z_A G s.heap.size) s) (hS : va_S (z_A G s.heap.size) s.heap H locs) (hP : z_P G μ H) (hX : va_X b L xs s s.heap) (hbl : b < s.heap.size) (hbA : ¬ z_A G s.heap.size b) : PreS s H (z_PreX G μ b L xs As H.size) As := by
  refine ⟨z_blindX, fun U hU hW => ⟨rfl, ((z_preS (As := As) Z hS hP).2 U hU hW).2, ?_, Nat.lt_of_lt_of_le hbl hS.1, fun h => hbA (z_Asub hS.1 _ h)⟩⟩
  rw [hU]
  exact (hX.kept (hS.2.1 b hbl hbA)).moved hW.alike
abbrev rm_L_at : Room := { frames := 0, cells := 0, slots := 0, locals := 0 }
theorem hd_L_at : yL_at.cls ≠ "java/lang/invoke/MethodHandle" ∧ yL_at.cls ≠ "java/lang/invoke/VarHandle" ∧ (parseMethodDescriptor yL_at.desc).map (fun d => d.parameters.length) = some 2 := by decide +kernel
theorem wL_at_0 : Cond.constant RL 7 (1030720407) ∈ wsL_at := by decide +kernel
theorem wL_at_1 : Cond.constant RL 8 (457006961) ∈ wsL_at := by decide +kernel
set_option maxHeartbeats 4000000 in
set_option maxRecDepth 100000 in
theorem c_L_at (l : Launch) (G : zG) {b L : Nat} {xs : Nat → Int32} {x1 : Int32} {μ mu1 : Mm} {r : Int32} (h : f_L_at L xs x1 μ = some (r, mu1)) (sz : Nat) : Met l yL_at wsL_at rm_L_at (z_PreX G μ b L xs [.ref b, .int x1] sz) (z_Qi G r mu1 sz) 0 0 (z_A G sz) := by
  refine Met.ofW (cc := cL_at) (maxL := 2) (ret := some .int) (by decide) rfl ?_
  intro p e s m args below meth c s₁ B hml hv
  obtain ⟨rfl, ⟨hsz, hP, Z⟩, hX, hbl, hbA⟩ := hv
  subst hsz
  have hl := lv_entry [.ref b, .int x1] (n := 2) (Nat.le_of_ble_eq_true rfl)
  rw [lg_entry_eq]
  have hlk := B.notSynchronized
  have hr := B.returns
  have C : CallFix p m c cL_at 2 s _ wsL_at RL := ⟨B.exec, B.bytes, hml, findClass_of_methodNamed B.named, atoms_spec (ws := wsL_at) B.pre⟩
  have hx := C.1
  have hb := C.2.1
  have hts := C.2.2.2.2
  have hS : va_S (z_A G s.heap.size) s.heap s.heap [] := va_S.rf
  generalize (lg_sl ([.ref b, .int x1]) ++ List.replicate (2 - (lg_sl ([.ref b, .int x1])).length) Slot.unset).toArray = ls at hl ⊢
  have hl : lv_has ls 2 [(0, .ref b), (1, .int x1)] := hl
  unfold f_L_at at h
  refine lv_iload_n hx hb dL_at_0 rfl (lv_at hl 1 rfl) ?_
  refine lv_aload_n hx hb dL_at_1 rfl (lv_at hl 0 rfl) ?_
  refine va_slen hx hb hX hbl hbA hS dL_at_2 ?_
  refine lv_icmp_ge (tgt := 12) hx hb dL_at_3 (by decide) (fun hc => ?_) (fun hc => ?_)
  · have hn : ¬ x1 < Int32.ofNat L := by
      rw [Int32.lt_iff_toInt_lt]
      rw [Int32.le_iff_toInt_le] at hc
      omega
    have h := z_in hn h
    generalize hK : (1030720407 * (x1 + 1) + 457006961 : Int32) = K at h
    cases h
    refine lv_ldc hx hb C.2.2.2.1 (C.2.2.2.2 _ wL_at_0) dL_at_12 ?_
    refine lv_iload_n hx hb dL_at_14 rfl (lv_at hl 1 rfl) ?_
    refine lv_iconst (v := 1) hx hb dL_at_15 (by decide) ?_
    refine lv_iadd hx hb dL_at_16 ?_
    refine lv_imul hx hb dL_at_17 ?_
    refine lv_ldc hx hb C.2.2.2.1 (C.2.2.2.2 _ wL_at_1) dL_at_18 ?_
    refine lv_iadd hx hb dL_at_20 ?_
    rw [hK]
    exact z_reti C hr hlk hP hS dL_at_21
  · have hn : x1 < Int32.ofNat L := by
      rw [Int32.lt_iff_toInt_lt]
      rw [Int32.le_iff_toInt_le] at hc
      omega
    have h := z_ip hn h
    obtain ⟨hin, h⟩ := z_g h
    cases h
    refine lv_aload_n hx hb dL_at_6 rfl (lv_at hl 0 rfl) ?_
    refine lv_iload_n hx hb dL_at_7 rfl (lv_at hl 1 rfl) ?_
    refine va_sld hx hb hX hbl hbA hS hin dL_at_8 ?_
    refine lv_goto (tgt := 21) hx hb dL_at_9 (by decide) ?_
    exact z_reti C hr hlk hP hS dL_at_21
abbrev rm_L_low : Room := { frames := 0, cells := 0, slots := 0, locals := 0 }
theorem hd_L_low : yL_low.cls ≠ "java/lang/invoke/MethodHandle" ∧ yL_low.cls ≠ "java/lang/invoke/VarHandle" ∧ (parseMethodDescriptor yL_low.desc).map (fun d => d.parameters.length) = some 2 := by decide +kernel
theorem hv_L_low : yL_low.cls = RL ∧ yL_low.cls ≠ "java/lang/invoke/MethodHandle" ∧ yL_low.cls ≠ "java/lang/invoke/VarHandle" ∧ (parseMethodDescriptor yL_low.desc).map (fun d => d.parameters.length) = some 2 := ⟨rfl, hd_L_low⟩
theorem wL_low_0 : Cond.constant RL 9 (2147483647) ∈ wsL_low := by decide +kernel
set_option maxHeartbeats 4000000 in
set_option maxRecDepth 100000 in
theorem c_L_low (l : Launch) (G : zG) {x0 : Int32} {x1 : Int32} {μ mu1 : Mm} {r : Int32} (h : f_L_low x0 x1 μ = some (r, mu1)) (sz : Nat) : Met l yL_low wsL_low rm_L_low (z_Pre G μ [.int (x0), .int (x1)] sz) (z_Qi G r mu1 sz) 0 0 (z_A G sz) := by
  refine z_start (cc := cL_low) (maxL := 2) (ret := (some .int)) (own := RL) (by decide) rfl rfl (Nat.le_of_ble_eq_true rfl) (fun p e s m args below meth c C hr hlk Z hP ls hl => ?_) sz
  have hx := C.1
  have hb := C.2.1
  have hts := C.2.2.2.2
  have hS : va_S (z_A G s.heap.size) s.heap s.heap [] := va_S.rf
  have hl : lv_has ls 2 [(0, .int (x0)), (1, .int (x1))] := hl
  unfold f_L_low at h
  refine lv_iload_n hx hb dL_low_0 rfl (lv_at hl 0 rfl) ?_
  refine lv_ldc hx hb C.2.2.2.1 (C.2.2.2.2 _ wL_low_0) dL_low_1 ?_
  refine lv_iand hx hb dL_low_3 ?_
  refine lv_iload_n hx hb dL_low_4 rfl (lv_at hl 1 rfl) ?_
  obtain ⟨hg1, h⟩ := z_g h
  refine lv_irem hx hb dL_low_5 hg1 ?_
  cases h
  exact z_reti C hr hlk hP hS dL_low_6
abbrev rm_L_speak : Room := { frames := 5, cells := 0, slots := 0, locals := 103 }
theorem hd_L_speak : yL_speak.cls ≠ "java/lang/invoke/MethodHandle" ∧ yL_speak.cls ≠ "java/lang/invoke/VarHandle" ∧ (parseMethodDescriptor yL_speak.desc).map (fun d => d.parameters.length) = some 3 := by decide +kernel
theorem hv_L_speak : yL_speak.cls = RL ∧ yL_speak.cls ≠ "java/lang/invoke/MethodHandle" ∧ yL_speak.cls ≠ "java/lang/invoke/VarHandle" ∧ (parseMethodDescriptor yL_speak.desc).map (fun d => d.parameters.length) = some 3 := ⟨rfl, hd_L_speak⟩
set_option maxHeartbeats 4000000 in
set_option maxRecDepth 100000 in
theorem c_L_speak (l : Launch) (G : zG) {x1 : Int32} {x2 : Int32} {μ mu1 : Mm} {r : Int32} (h : f_L_speak x1 x2 μ = some (r, mu1)) (sz : Nat) : Met l yL_speak wsL_speak rm_L_speak (z_Pre G μ [.ref (G.2.1 (90)), .int (x1), .int (x2)] sz) (z_Qi G r mu1 sz) 0 0 (z_A G sz) := by
  refine z_startW (cc := cL_speak) (maxL := 4) (ret := (some .int)) (own := RL) (hh := [(0, 6, 7, 16), (0, 6, 11, 19)]) (by decide) rfl rfl (Nat.le_of_ble_eq_true rfl) (fun p e s m args below meth c C hr hlk Z hP ls hl => ?_) sz
  have hx := C.1
  have hb := C.2.1
  have hts := C.2.2.2.2
  have hS : va_S (z_A G s.heap.size) s.heap s.heap [] := va_S.rf
  have hl : lv_has ls 4 [(0, .ref (G.2.1 (90))), (1, .int (x1)), (2, .int (x2))] := hl
  unfold f_L_speak at h
  refine lv_aload_n hx hb dL_speak_0 rfl (lv_at hl 0 rfl) ?_
  refine lv_iload_n hx hb dL_speak_1 rfl (lv_at hl 1 rfl) ?_
  refine lv_iload_n hx hb dL_speak_2 rfl (lv_at hl 2 rfl) ?_
  obtain ⟨r1, m2, e3, h⟩ := zbn_some h
  refine z_calli hS (va_runV (As := [.int (x1), .int (x2)]) (rest := []) C (c_X3_speak l G e3 _) (cwV 2 hts gL_speak_X3_speak rfl rfl rfl hv_X3_speak ⟨Nat.le_of_ble_eq_true rfl, Nat.le_of_ble_eq_true rfl⟩) (z_preV Z hS hP (by decide) (z_E_90 _) rfl rfl) rfl rfl hl.1 rfl (lv_room (Nat.le_of_ble_eq_true rfl)) dL_speak_3 ⟨Nat.zero_le _, Nat.zero_le _⟩) (fun H locs hP hS => ?_)
  cases h
  exact z_reti C hr hlk hP hS dL_speak_6
abbrev rm_L_copy : Room := { frames := 5, cells := 0, slots := 0, locals := 113 }
theorem hd_L_copy : yL_copy.cls ≠ "java/lang/invoke/MethodHandle" ∧ yL_copy.cls ≠ "java/lang/invoke/VarHandle" ∧ (parseMethodDescriptor yL_copy.desc).map (fun d => d.parameters.length) = some 4 := by decide +kernel
theorem hv_L_copy : yL_copy.cls = RL ∧ yL_copy.cls ≠ "java/lang/invoke/MethodHandle" ∧ yL_copy.cls ≠ "java/lang/invoke/VarHandle" ∧ (parseMethodDescriptor yL_copy.desc).map (fun d => d.parameters.length) = some 4 := ⟨rfl, hd_L_copy⟩
set_option maxHeartbeats 4000000 in
set_option maxRecDepth 100000 in
theorem c_L_copy (l : Launch) (G : zG) {x1 : Int32} {x2 : Int32} {x3 : Int32} {μ mu1 : Mm} {r : Int32} (h : f_L_copy x1 x2 x3 μ = some (r, mu1)) (sz : Nat) : Met l yL_copy wsL_copy rm_L_copy (z_Pre G μ [.ref (G.2.1 (90)), .int (x1), .int (x2), .int (x3)] sz) (z_Qi G r mu1 sz) 0 0 (z_A G sz) := by
  refine z_startW (cc := cL_copy) (maxL := 5) (ret := (some .int)) (own := RL) (hh := [(0, 7, 8, 16), (0, 7, 13, 19)]) (by decide) rfl rfl (Nat.le_of_ble_eq_true rfl) (fun p e s m args below meth c C hr hlk Z hP ls hl => ?_) sz
  have hx := C.1
  have hb := C.2.1
  have hts := C.2.2.2.2
  have hS : va_S (z_A G s.heap.size) s.heap s.heap [] := va_S.rf
  have hl : lv_has ls 5 [(0, .ref (G.2.1 (90))), (1, .int (x1)), (2, .int (x2)), (3, .int (x3))] := hl
  unfold f_L_copy at h
  refine lv_aload_n hx hb dL_copy_0 rfl (lv_at hl 0 rfl) ?_
  refine lv_iload_n hx hb dL_copy_1 rfl (lv_at hl 1 rfl) ?_
  refine lv_iload_n hx hb dL_copy_2 rfl (lv_at hl 2 rfl) ?_
  refine lv_iload_n hx hb dL_copy_3 rfl (lv_at hl 3 rfl) ?_
  obtain ⟨r1, m2, e3, h⟩ := zbn_some h
  refine z_calli hS (va_runV (As := [.int (x1), .int (x2), .int (x3)]) (rest := []) C (c_X3_copy l G e3 _) (cwV 3 hts gL_copy_X3_copy rfl rfl rfl hv_X3_copy ⟨Nat.le_of_ble_eq_true rfl, Nat.le_of_ble_eq_true rfl⟩) (z_preV Z hS hP (by decide) (z_E_90 _) rfl rfl) rfl rfl hl.1 rfl (lv_room (Nat.le_of_ble_eq_true rfl)) dL_copy_4 ⟨Nat.zero_le _, Nat.zero_le _⟩) (fun H locs hP hS => ?_)
  cases h
  exact z_reti C hr hlk hP hS dL_copy_7
abbrev rm_L_play : Room := { frames := 4, cells := 0, slots := 0, locals := 102 }
theorem hd_L_play : yL_play.cls ≠ "java/lang/invoke/MethodHandle" ∧ yL_play.cls ≠ "java/lang/invoke/VarHandle" ∧ (parseMethodDescriptor yL_play.desc).map (fun d => d.parameters.length) = some 2 := by decide +kernel
theorem hv_L_play : yL_play.cls = RL ∧ yL_play.cls ≠ "java/lang/invoke/MethodHandle" ∧ yL_play.cls ≠ "java/lang/invoke/VarHandle" ∧ (parseMethodDescriptor yL_play.desc).map (fun d => d.parameters.length) = some 2 := ⟨rfl, hd_L_play⟩
set_option maxHeartbeats 4000000 in
set_option maxRecDepth 100000 in
theorem c_L_play (l : Launch) (G : zG) {x1 : Int32} {μ mu1 : Mm} {r : Int32} (h : f_L_play x1 μ = some (r, mu1)) (sz : Nat) : Met l yL_play wsL_play rm_L_play (z_Pre G μ [.ref (G.2.1 (90)), .int (x1)] sz) (z_Qi G r mu1 sz) 0 0 (z_A G sz) := by
  refine z_startW (cc := cL_play) (maxL := 3) (ret := (some .int)) (own := RL) (hh := [(0, 5, 6, 16)]) (by decide) rfl rfl (Nat.le_of_ble_eq_true rfl) (fun p e s m args below meth c C hr hlk Z hP ls hl => ?_) sz
  have hx := C.1
  have hb := C.2.1
  have hts := C.2.2.2.2
  have hS : va_S (z_A G s.heap.size) s.heap s.heap [] := va_S.rf
  have hl : lv_has ls 3 [(0, .ref (G.2.1 (90))), (1, .int (x1))] := hl
  unfold f_L_play at h
  refine lv_aload_n hx hb dL_play_0 rfl (lv_at hl 0 rfl) ?_
  refine lv_iload_n hx hb dL_play_1 rfl (lv_at hl 1 rfl) ?_
  obtain ⟨r1, m2, e3, h⟩ := zbn_some h
  refine z_calli hS (va_runV (As := [.int (x1)]) (rest := []) C (c_X3_play l G e3 _) (cwV 1 hts gL_play_X3_play rfl rfl rfl hv_X3_play ⟨Nat.le_of_ble_eq_true rfl, Nat.le_of_ble_eq_true rfl⟩) (z_preV Z hS hP (by decide) (z_E_90 _) rfl rfl) rfl rfl hl.1 rfl (lv_room (Nat.le_of_ble_eq_true rfl)) dL_play_2 ⟨Nat.zero_le _, Nat.zero_le _⟩) (fun H locs hP hS => ?_)
  cases h
  exact z_reti C hr hlk hP hS dL_play_5
abbrev rm_L_shave : Room := { frames := 4, cells := 0, slots := 0, locals := 102 }
theorem hd_L_shave : yL_shave.cls ≠ "java/lang/invoke/MethodHandle" ∧ yL_shave.cls ≠ "java/lang/invoke/VarHandle" ∧ (parseMethodDescriptor yL_shave.desc).map (fun d => d.parameters.length) = some 2 := by decide +kernel
theorem hv_L_shave : yL_shave.cls = RL ∧ yL_shave.cls ≠ "java/lang/invoke/MethodHandle" ∧ yL_shave.cls ≠ "java/lang/invoke/VarHandle" ∧ (parseMethodDescriptor yL_shave.desc).map (fun d => d.parameters.length) = some 2 := ⟨rfl, hd_L_shave⟩
set_option maxHeartbeats 4000000 in
set_option maxRecDepth 100000 in
theorem c_L_shave (l : Launch) (G : zG) {x1 : Int32} {μ mu1 : Mm} {r : Int32} (h : f_L_shave x1 μ = some (r, mu1)) (sz : Nat) : Met l yL_shave wsL_shave rm_L_shave (z_Pre G μ [.ref (G.2.1 (90)), .int (x1)] sz) (z_Qi G r mu1 sz) 0 0 (z_A G sz) := by
  refine z_startW (cc := cL_shave) (maxL := 3) (ret := (some .int)) (own := RL) (hh := [(0, 5, 6, 16)]) (by decide) rfl rfl (Nat.le_of_ble_eq_true rfl) (fun p e s m args below meth c C hr hlk Z hP ls hl => ?_) sz
  have hx := C.1
  have hb := C.2.1
  have hts := C.2.2.2.2
  have hS : va_S (z_A G s.heap.size) s.heap s.heap [] := va_S.rf
  have hl : lv_has ls 3 [(0, .ref (G.2.1 (90))), (1, .int (x1))] := hl
  unfold f_L_shave at h
  refine lv_aload_n hx hb dL_shave_0 rfl (lv_at hl 0 rfl) ?_
  refine lv_iload_n hx hb dL_shave_1 rfl (lv_at hl 1 rfl) ?_
  obtain ⟨r1, m2, e3, h⟩ := zbn_some h
  refine z_calli hS (va_runV (As := [.int (x1)]) (rest := []) C (c_X3_shave l G e3 _) (cwV 1 hts gL_shave_X3_shave rfl rfl rfl hv_X3_shave ⟨Nat.le_of_ble_eq_true rfl, Nat.le_of_ble_eq_true rfl⟩) (z_preV Z hS hP (by decide) (z_E_90 _) rfl rfl) rfl rfl hl.1 rfl (lv_room (Nat.le_of_ble_eq_true rfl)) dL_shave_2 ⟨Nat.zero_le _, Nat.zero_le _⟩) (fun H locs hP hS => ?_)
  cases h
  exact z_reti C hr hlk hP hS dL_shave_5
abbrev rm_L_renew : Room := { frames := 4, cells := 0, slots := 0, locals := 103 }
theorem hd_L_renew : yL_renew.cls ≠ "java/lang/invoke/MethodHandle" ∧ yL_renew.cls ≠ "java/lang/invoke/VarHandle" ∧ (parseMethodDescriptor yL_renew.desc).map (fun d => d.parameters.length) = some 3 := by decide +kernel
theorem hv_L_renew : yL_renew.cls = RL ∧ yL_renew.cls ≠ "java/lang/invoke/MethodHandle" ∧ yL_renew.cls ≠ "java/lang/invoke/VarHandle" ∧ (parseMethodDescriptor yL_renew.desc).map (fun d => d.parameters.length) = some 3 := ⟨rfl, hd_L_renew⟩
set_option maxHeartbeats 4000000 in
set_option maxRecDepth 100000 in
theorem c_L_renew (l : Launch) (G : zG) {x1 : Int32} {x2 : Int32} {μ mu1 : Mm} {r : Int32} (h : f_L_renew x1 x2 μ = some (r, mu1)) (sz : Nat) : Met l yL_renew wsL_renew rm_L_renew (z_Pre G μ [.ref (G.2.1 (90)), .int (x1), .int (x2)] sz) (z_Qi G r mu1 sz) 0 0 (z_A G sz) := by
  refine z_startW (cc := cL_renew) (maxL := 4) (ret := (some .int)) (own := RL) (hh := [(0, 6, 7, 16), (0, 6, 11, 19)]) (by decide) rfl rfl (Nat.le_of_ble_eq_true rfl) (fun p e s m args below meth c C hr hlk Z hP ls hl => ?_) sz
  have hx := C.1
  have hb := C.2.1
  have hts := C.2.2.2.2
  have hS : va_S (z_A G s.heap.size) s.heap s.heap [] := va_S.rf
  have hl : lv_has ls 4 [(0, .ref (G.2.1 (90))), (1, .int (x1)), (2, .int (x2))] := hl
  unfold f_L_renew at h
  refine lv_aload_n hx hb dL_renew_0 rfl (lv_at hl 0 rfl) ?_
  refine lv_iload_n hx hb dL_renew_1 rfl (lv_at hl 1 rfl) ?_
  refine lv_iload_n hx hb dL_renew_2 rfl (lv_at hl 2 rfl) ?_
  obtain ⟨r1, m2, e3, h⟩ := zbn_some h
  refine z_calli hS (va_runV (As := [.int (x1), .int (x2)]) (rest := []) C (c_X3_renew l G e3 _) (cwV 2 hts gL_renew_X3_renew rfl rfl rfl hv_X3_renew ⟨Nat.le_of_ble_eq_true rfl, Nat.le_of_ble_eq_true rfl⟩) (z_preV Z hS hP (by decide) (z_E_90 _) rfl rfl) rfl rfl hl.1 rfl (lv_room (Nat.le_of_ble_eq_true rfl)) dL_renew_3 ⟨Nat.zero_le _, Nat.zero_le _⟩) (fun H locs hP hS => ?_)
  cases h
  exact z_reti C hr hlk hP hS dL_renew_6
abbrev rm_L_set : Room := { frames := 4, cells := 0, slots := 0, locals := 103 }
theorem hd_L_set : yL_set.cls ≠ "java/lang/invoke/MethodHandle" ∧ yL_set.cls ≠ "java/lang/invoke/VarHandle" ∧ (parseMethodDescriptor yL_set.desc).map (fun d => d.parameters.length) = some 2 := by decide +kernel
theorem hv_L_set : yL_set.cls = RL ∧ yL_set.cls ≠ "java/lang/invoke/MethodHandle" ∧ yL_set.cls ≠ "java/lang/invoke/VarHandle" ∧ (parseMethodDescriptor yL_set.desc).map (fun d => d.parameters.length) = some 2 := ⟨rfl, hd_L_set⟩
set_option maxHeartbeats 4000000 in
set_option maxRecDepth 100000 in
theorem c_L_set (l : Launch) (G : zG) {x1 : Int32} {μ mu1 : Mm} {r : Int32} (h : f_L_set x1 μ = some (r, mu1)) (sz : Nat) : Met l yL_set wsL_set rm_L_set (z_Pre G μ [.ref (G.2.1 (90)), .int (x1)] sz) (z_Qi G r mu1 sz) 0 0 (z_A G sz) := by
  refine z_startW (cc := cL_set) (maxL := 3) (ret := (some .int)) (own := RL) (hh := [(0, 5, 6, 19)]) (by decide) rfl rfl (Nat.le_of_ble_eq_true rfl) (fun p e s m args below meth c C hr hlk Z hP ls hl => ?_) sz
  have hx := C.1
  have hb := C.2.1
  have hts := C.2.2.2.2
  have hS : va_S (z_A G s.heap.size) s.heap s.heap [] := va_S.rf
  have hl : lv_has ls 3 [(0, .ref (G.2.1 (90))), (1, .int (x1))] := hl
  unfold f_L_set at h
  refine lv_aload_n hx hb dL_set_0 rfl (lv_at hl 0 rfl) ?_
  refine lv_iload_n hx hb dL_set_1 rfl (lv_at hl 1 rfl) ?_
  obtain ⟨r1, m2, e3, h⟩ := zbn_some h
  refine z_calli hS (va_runV (As := [.int (x1)]) (rest := []) C (c_X3_set l G e3 _) (cwV 1 hts gL_set_X3_set rfl rfl rfl hv_X3_set ⟨Nat.le_of_ble_eq_true rfl, Nat.le_of_ble_eq_true rfl⟩) (z_preV Z hS hP (by decide) (z_E_90 _) rfl rfl) rfl rfl hl.1 rfl (lv_room (Nat.le_of_ble_eq_true rfl)) dL_set_2 ⟨Nat.zero_le _, Nat.zero_le _⟩) (fun H locs hP hS => ?_)
  cases h
  exact z_reti C hr hlk hP hS dL_set_5
abbrev rm_L_undo : Room := { frames := 3, cells := 0, slots := 0, locals := 81 }
theorem hd_L_undo : yL_undo.cls ≠ "java/lang/invoke/MethodHandle" ∧ yL_undo.cls ≠ "java/lang/invoke/VarHandle" ∧ (parseMethodDescriptor yL_undo.desc).map (fun d => d.parameters.length) = some 1 := by decide +kernel
theorem hv_L_undo : yL_undo.cls = RL ∧ yL_undo.cls ≠ "java/lang/invoke/MethodHandle" ∧ yL_undo.cls ≠ "java/lang/invoke/VarHandle" ∧ (parseMethodDescriptor yL_undo.desc).map (fun d => d.parameters.length) = some 1 := ⟨rfl, hd_L_undo⟩
set_option maxHeartbeats 4000000 in
set_option maxRecDepth 100000 in
theorem c_L_undo (l : Launch) (G : zG) {μ mu1 : Mm} {r : Int32} (h : f_L_undo μ = some (r, mu1)) (sz : Nat) : Met l yL_undo wsL_undo rm_L_undo (z_Pre G μ [.ref (G.2.1 (90))] sz) (z_Qi G r mu1 sz) 0 0 (z_A G sz) := by
  refine z_startW (cc := cL_undo) (maxL := 2) (ret := (some .int)) (own := RL) (hh := [(0, 4, 5, 43)]) (by decide) rfl rfl (Nat.le_of_ble_eq_true rfl) (fun p e s m args below meth c C hr hlk Z hP ls hl => ?_) sz
  have hx := C.1
  have hb := C.2.1
  have hts := C.2.2.2.2
  have hS : va_S (z_A G s.heap.size) s.heap s.heap [] := va_S.rf
  have hl : lv_has ls 2 [(0, .ref (G.2.1 (90)))] := hl
  unfold f_L_undo at h
  refine lv_aload_n hx hb dL_undo_0 rfl (lv_at hl 0 rfl) ?_
  obtain ⟨r1, m2, e3, h⟩ := zbn_some h
  refine z_calli hS (va_runV (As := []) (rest := []) C (c_X3_undo l G e3 _) (cwV 0 hts gL_undo_X3_undo rfl rfl rfl hv_X3_undo ⟨Nat.le_of_ble_eq_true rfl, Nat.le_of_ble_eq_true rfl⟩) (z_preV Z hS hP (by decide) (z_E_90 _) rfl rfl) rfl rfl hl.1 rfl (lv_room (Nat.le_of_ble_eq_true rfl)) dL_undo_1 ⟨Nat.zero_le _, Nat.zero_le _⟩) (fun H locs hP hS => ?_)
  cases h
  exact z_reti C hr hlk hP hS dL_undo_4
abbrev rm_L_trackOf : Room := { frames := 3, cells := 0, slots := 0, locals := 65 }
theorem hd_L_trackOf : yL_trackOf.cls ≠ "java/lang/invoke/MethodHandle" ∧ yL_trackOf.cls ≠ "java/lang/invoke/VarHandle" ∧ (parseMethodDescriptor yL_trackOf.desc).map (fun d => d.parameters.length) = some 3 := by decide +kernel
theorem hv_L_trackOf : yL_trackOf.cls = RL ∧ yL_trackOf.cls ≠ "java/lang/invoke/MethodHandle" ∧ yL_trackOf.cls ≠ "java/lang/invoke/VarHandle" ∧ (parseMethodDescriptor yL_trackOf.desc).map (fun d => d.parameters.length) = some 3 := ⟨rfl, hd_L_trackOf⟩
set_option maxHeartbeats 4000000 in
set_option maxRecDepth 100000 in
theorem c_L_trackOf (l : Launch) (G : zG) {x1 : Int32} {x2 : Int32} {μ mu1 : Mm} {r : Int32} (h : f_L_trackOf x1 x2 μ = some (r, mu1)) (sz : Nat) : Met l yL_trackOf wsL_trackOf rm_L_trackOf (z_Pre G μ [.ref (G.2.1 (90)), .int (x1), .int (x2)] sz) (z_Qi G r mu1 sz) 0 0 (z_A G sz) := by
  refine z_startW (cc := cL_trackOf) (maxL := 4) (ret := (some .int)) (own := RL) (hh := [(0, 6, 7, 16), (0, 6, 11, 19)]) (by decide) rfl rfl (Nat.le_of_ble_eq_true rfl) (fun p e s m args below meth c C hr hlk Z hP ls hl => ?_) sz
  have hx := C.1
  have hb := C.2.1
  have hts := C.2.2.2.2
  have hS : va_S (z_A G s.heap.size) s.heap s.heap [] := va_S.rf
  have hl : lv_has ls 4 [(0, .ref (G.2.1 (90))), (1, .int (x1)), (2, .int (x2))] := hl
  unfold f_L_trackOf at h
  refine lv_aload_n hx hb dL_trackOf_0 rfl (lv_at hl 0 rfl) ?_
  refine lv_iload_n hx hb dL_trackOf_1 rfl (lv_at hl 1 rfl) ?_
  refine lv_iload_n hx hb dL_trackOf_2 rfl (lv_at hl 2 rfl) ?_
  obtain ⟨r1, m2, e3, h⟩ := zbn_some h
  refine z_calli hS (va_runV (As := [.int (x1), .int (x2)]) (rest := []) C (c_X3_trackOf l G e3 _) (cwV 2 hts gL_trackOf_X3_trackOf rfl rfl rfl hv_X3_trackOf ⟨Nat.le_of_ble_eq_true rfl, Nat.le_of_ble_eq_true rfl⟩) (z_preV Z hS hP (by decide) (z_E_90 _) rfl rfl) rfl rfl hl.1 rfl (lv_room (Nat.le_of_ble_eq_true rfl)) dL_trackOf_3 ⟨Nat.zero_le _, Nat.zero_le _⟩) (fun H locs hP hS => ?_)
  cases h
  exact z_reti C hr hlk hP hS dL_trackOf_6
abbrev rm_L_cylinderOf : Room := { frames := 4, cells := 0, slots := 0, locals := 89 }
theorem hd_L_cylinderOf : yL_cylinderOf.cls ≠ "java/lang/invoke/MethodHandle" ∧ yL_cylinderOf.cls ≠ "java/lang/invoke/VarHandle" ∧ (parseMethodDescriptor yL_cylinderOf.desc).map (fun d => d.parameters.length) = some 3 := by decide +kernel
theorem hv_L_cylinderOf : yL_cylinderOf.cls = RL ∧ yL_cylinderOf.cls ≠ "java/lang/invoke/MethodHandle" ∧ yL_cylinderOf.cls ≠ "java/lang/invoke/VarHandle" ∧ (parseMethodDescriptor yL_cylinderOf.desc).map (fun d => d.parameters.length) = some 3 := ⟨rfl, hd_L_cylinderOf⟩
set_option maxHeartbeats 4000000 in
set_option maxRecDepth 100000 in
theorem c_L_cylinderOf (l : Launch) (G : zG) {x1 : Int32} {x2 : Int32} {μ mu1 : Mm} {r : Int32} (h : f_L_cylinderOf x1 x2 μ = some (r, mu1)) (sz : Nat) : Met l yL_cylinderOf wsL_cylinderOf rm_L_cylinderOf (z_Pre G μ [.ref (G.2.1 (90)), .int (x1), .int (x2)] sz) (z_Qi G r mu1 sz) 0 0 (z_A G sz) := by
  refine z_startW (cc := cL_cylinderOf) (maxL := 4) (ret := (some .int)) (own := RL) (hh := [(0, 6, 7, 16), (0, 6, 11, 19)]) (by decide) rfl rfl (Nat.le_of_ble_eq_true rfl) (fun p e s m args below meth c C hr hlk Z hP ls hl => ?_) sz
  have hx := C.1
  have hb := C.2.1
  have hts := C.2.2.2.2
  have hS : va_S (z_A G s.heap.size) s.heap s.heap [] := va_S.rf
  have hl : lv_has ls 4 [(0, .ref (G.2.1 (90))), (1, .int (x1)), (2, .int (x2))] := hl
  unfold f_L_cylinderOf at h
  refine lv_aload_n hx hb dL_cylinderOf_0 rfl (lv_at hl 0 rfl) ?_
  refine lv_iload_n hx hb dL_cylinderOf_1 rfl (lv_at hl 1 rfl) ?_
  refine lv_iload_n hx hb dL_cylinderOf_2 rfl (lv_at hl 2 rfl) ?_
  obtain ⟨r1, m2, e3, h⟩ := zbn_some h
  refine z_calli hS (va_runV (As := [.int (x1), .int (x2)]) (rest := []) C (c_X3_cylinderOf l G e3 _) (cwV 2 hts gL_cylinderOf_X3_cylinderOf rfl rfl rfl hv_X3_cylinderOf ⟨Nat.le_of_ble_eq_true rfl, Nat.le_of_ble_eq_true rfl⟩) (z_preV Z hS hP (by decide) (z_E_90 _) rfl rfl) rfl rfl hl.1 rfl (lv_room (Nat.le_of_ble_eq_true rfl)) dL_cylinderOf_3 ⟨Nat.zero_le _, Nat.zero_le _⟩) (fun H locs hP hS => ?_)
  cases h
  exact z_reti C hr hlk hP hS dL_cylinderOf_6
abbrev rm_L_count : Room := { frames := 5, cells := 0, slots := 0, locals := 109 }
theorem hd_L_count : yL_count.cls ≠ "java/lang/invoke/MethodHandle" ∧ yL_count.cls ≠ "java/lang/invoke/VarHandle" ∧ (parseMethodDescriptor yL_count.desc).map (fun d => d.parameters.length) = some 2 := by decide +kernel
theorem hv_L_count : yL_count.cls = RL ∧ yL_count.cls ≠ "java/lang/invoke/MethodHandle" ∧ yL_count.cls ≠ "java/lang/invoke/VarHandle" ∧ (parseMethodDescriptor yL_count.desc).map (fun d => d.parameters.length) = some 2 := ⟨rfl, hd_L_count⟩
set_option maxHeartbeats 4000000 in
set_option maxRecDepth 100000 in
theorem c_L_count (l : Launch) (G : zG) {x1 : Int32} {μ mu1 : Mm} {r : Int32} (h : f_L_count x1 μ = some (r, mu1)) (sz : Nat) : Met l yL_count wsL_count rm_L_count (z_Pre G μ [.ref (G.2.1 (90)), .int (x1)] sz) (z_Qi G r mu1 sz) 0 0 (z_A G sz) := by
  refine z_startW (cc := cL_count) (maxL := 3) (ret := (some .int)) (own := RL) (hh := [(0, 5, 6, 19)]) (by decide) rfl rfl (Nat.le_of_ble_eq_true rfl) (fun p e s m args below meth c C hr hlk Z hP ls hl => ?_) sz
  have hx := C.1
  have hb := C.2.1
  have hts := C.2.2.2.2
  have hS : va_S (z_A G s.heap.size) s.heap s.heap [] := va_S.rf
  have hl : lv_has ls 3 [(0, .ref (G.2.1 (90))), (1, .int (x1))] := hl
  unfold f_L_count at h
  refine lv_aload_n hx hb dL_count_0 rfl (lv_at hl 0 rfl) ?_
  refine lv_iload_n hx hb dL_count_1 rfl (lv_at hl 1 rfl) ?_
  obtain ⟨r1, m2, e3, h⟩ := zbn_some h
  refine z_calli hS (va_runV (As := [.int (x1)]) (rest := []) C (c_X3_count l G e3 _) (cwV 1 hts gL_count_X3_count rfl rfl rfl hv_X3_count ⟨Nat.le_of_ble_eq_true rfl, Nat.le_of_ble_eq_true rfl⟩) (z_preV Z hS hP (by decide) (z_E_90 _) rfl rfl) rfl rfl hl.1 rfl (lv_room (Nat.le_of_ble_eq_true rfl)) dL_count_2 ⟨Nat.zero_le _, Nat.zero_le _⟩) (fun H locs hP hS => ?_)
  cases h
  exact z_reti C hr hlk hP hS dL_count_5
abbrev rm_L_whyNot : Room := { frames := 3, cells := 0, slots := 0, locals := 65 }
theorem hd_L_whyNot : yL_whyNot.cls ≠ "java/lang/invoke/MethodHandle" ∧ yL_whyNot.cls ≠ "java/lang/invoke/VarHandle" ∧ (parseMethodDescriptor yL_whyNot.desc).map (fun d => d.parameters.length) = some 3 := by decide +kernel
theorem hv_L_whyNot : yL_whyNot.cls = RL ∧ yL_whyNot.cls ≠ "java/lang/invoke/MethodHandle" ∧ yL_whyNot.cls ≠ "java/lang/invoke/VarHandle" ∧ (parseMethodDescriptor yL_whyNot.desc).map (fun d => d.parameters.length) = some 3 := ⟨rfl, hd_L_whyNot⟩
set_option maxHeartbeats 4000000 in
set_option maxRecDepth 100000 in
theorem c_L_whyNot (l : Launch) (G : zG) {x1 : Int32} {x2 : Int32} {μ mu1 : Mm} {r : Int32} (h : f_L_whyNot x1 x2 μ = some (r, mu1)) (sz : Nat) : Met l yL_whyNot wsL_whyNot rm_L_whyNot (z_Pre G μ [.ref (G.2.1 (90)), .int (x1), .int (x2)] sz) (z_Qi G r mu1 sz) 0 0 (z_A G sz) := by
  refine z_startW (cc := cL_whyNot) (maxL := 4) (ret := (some .int)) (own := RL) (hh := [(0, 6, 7, 16), (0, 6, 11, 19)]) (by decide) rfl rfl (Nat.le_of_ble_eq_true rfl) (fun p e s m args below meth c C hr hlk Z hP ls hl => ?_) sz
  have hx := C.1
  have hb := C.2.1
  have hts := C.2.2.2.2
  have hS : va_S (z_A G s.heap.size) s.heap s.heap [] := va_S.rf
  have hl : lv_has ls 4 [(0, .ref (G.2.1 (90))), (1, .int (x1)), (2, .int (x2))] := hl
  unfold f_L_whyNot at h
  refine lv_aload_n hx hb dL_whyNot_0 rfl (lv_at hl 0 rfl) ?_
  refine lv_iload_n hx hb dL_whyNot_1 rfl (lv_at hl 1 rfl) ?_
  refine lv_iload_n hx hb dL_whyNot_2 rfl (lv_at hl 2 rfl) ?_
  obtain ⟨r1, m2, e3, h⟩ := zbn_some h
  refine z_calli hS (va_runV (As := [.int (x1), .int (x2)]) (rest := []) C (c_X3_whyNot l G e3 _) (cwV 2 hts gL_whyNot_X3_whyNot rfl rfl rfl hv_X3_whyNot ⟨Nat.le_of_ble_eq_true rfl, Nat.le_of_ble_eq_true rfl⟩) (z_preV Z hS hP (by decide) (z_E_90 _) rfl rfl) rfl rfl hl.1 rfl (lv_room (Nat.le_of_ble_eq_true rfl)) dL_whyNot_3 ⟨Nat.zero_le _, Nat.zero_le _⟩) (fun H locs hP hS => ?_)
  cases h
  exact z_reti C hr hlk hP hS dL_whyNot_6
abbrev rm_L_ifCopied : Room := { frames := 4, cells := 0, slots := 0, locals := 89 }
theorem hd_L_ifCopied : yL_ifCopied.cls ≠ "java/lang/invoke/MethodHandle" ∧ yL_ifCopied.cls ≠ "java/lang/invoke/VarHandle" ∧ (parseMethodDescriptor yL_ifCopied.desc).map (fun d => d.parameters.length) = some 4 := by decide +kernel
theorem hv_L_ifCopied : yL_ifCopied.cls = RL ∧ yL_ifCopied.cls ≠ "java/lang/invoke/MethodHandle" ∧ yL_ifCopied.cls ≠ "java/lang/invoke/VarHandle" ∧ (parseMethodDescriptor yL_ifCopied.desc).map (fun d => d.parameters.length) = some 4 := ⟨rfl, hd_L_ifCopied⟩
set_option maxHeartbeats 4000000 in
set_option maxRecDepth 100000 in
theorem c_L_ifCopied (l : Launch) (G : zG) {x1 : Int32} {x2 : Int32} {x3 : Int32} {μ mu1 : Mm} {r : Int32} (h : f_L_ifCopied x1 x2 x3 μ = some (r, mu1)) (sz : Nat) : Met l yL_ifCopied wsL_ifCopied rm_L_ifCopied (z_Pre G μ [.ref (G.2.1 (90)), .int (x1), .int (x2), .int (x3)] sz) (z_Qi G r mu1 sz) 0 0 (z_A G sz) := by
  refine z_startW (cc := cL_ifCopied) (maxL := 5) (ret := (some .int)) (own := RL) (hh := [(0, 7, 8, 16), (0, 7, 13, 19)]) (by decide) rfl rfl (Nat.le_of_ble_eq_true rfl) (fun p e s m args below meth c C hr hlk Z hP ls hl => ?_) sz
  have hx := C.1
  have hb := C.2.1
  have hts := C.2.2.2.2
  have hS : va_S (z_A G s.heap.size) s.heap s.heap [] := va_S.rf
  have hl : lv_has ls 5 [(0, .ref (G.2.1 (90))), (1, .int (x1)), (2, .int (x2)), (3, .int (x3))] := hl
  unfold f_L_ifCopied at h
  refine lv_aload_n hx hb dL_ifCopied_0 rfl (lv_at hl 0 rfl) ?_
  refine lv_iload_n hx hb dL_ifCopied_1 rfl (lv_at hl 1 rfl) ?_
  refine lv_iload_n hx hb dL_ifCopied_2 rfl (lv_at hl 2 rfl) ?_
  refine lv_iload_n hx hb dL_ifCopied_3 rfl (lv_at hl 3 rfl) ?_
  obtain ⟨r1, m2, e3, h⟩ := zbn_some h
  refine z_calli hS (va_runV (As := [.int (x1), .int (x2), .int (x3)]) (rest := []) C (c_X3_ifCopied l G e3 _) (cwV 3 hts gL_ifCopied_X3_ifCopied rfl rfl rfl hv_X3_ifCopied ⟨Nat.le_of_ble_eq_true rfl, Nat.le_of_ble_eq_true rfl⟩) (z_preV Z hS hP (by decide) (z_E_90 _) rfl rfl) rfl rfl hl.1 rfl (lv_room (Nat.le_of_ble_eq_true rfl)) dL_ifCopied_4 ⟨Nat.zero_le _, Nat.zero_le _⟩) (fun H locs hP hS => ?_)
  cases h
  exact z_reti C hr hlk hP hS dL_ifCopied_7
abbrev rm_L_chain : Room := { frames := 9, cells := 0, slots := 0, locals := 230 }
theorem hd_L_chain : yL_chain.cls ≠ "java/lang/invoke/MethodHandle" ∧ yL_chain.cls ≠ "java/lang/invoke/VarHandle" ∧ (parseMethodDescriptor yL_chain.desc).map (fun d => d.parameters.length) = some 4 := by decide +kernel
theorem hv_L_chain : yL_chain.cls = RL ∧ yL_chain.cls ≠ "java/lang/invoke/MethodHandle" ∧ yL_chain.cls ≠ "java/lang/invoke/VarHandle" ∧ (parseMethodDescriptor yL_chain.desc).map (fun d => d.parameters.length) = some 4 := ⟨rfl, hd_L_chain⟩
set_option maxHeartbeats 4000000 in
set_option maxRecDepth 100000 in
theorem c_L_chain (l : Launch) (G : zG) {x1 : Int32} {x2 : Int32} {x3 : Int32} {μ mu1 : Mm} {r : Int32} (h : f_L_chain x1 x2 x3 μ = some (r, mu1)) (sz : Nat) : Met l yL_chain wsL_chain rm_L_chain (z_Pre G μ [.ref (G.2.1 (90)), .int (x1), .int (x2), .int (x3)] sz) (z_Qi G r mu1 sz) 0 0 (z_A G sz) := by
  refine z_startW (cc := cL_chain) (maxL := 5) (ret := (some .int)) (own := RL) (hh := [(0, 7, 8, 16), (0, 7, 13, 19)]) (by decide) rfl rfl (Nat.le_of_ble_eq_true rfl) (fun p e s m args below meth c C hr hlk Z hP ls hl => ?_) sz
  have hx := C.1
  have hb := C.2.1
  have hts := C.2.2.2.2
  have hS : va_S (z_A G s.heap.size) s.heap s.heap [] := va_S.rf
  have hl : lv_has ls 5 [(0, .ref (G.2.1 (90))), (1, .int (x1)), (2, .int (x2)), (3, .int (x3))] := hl
  unfold f_L_chain at h
  refine lv_aload_n hx hb dL_chain_0 rfl (lv_at hl 0 rfl) ?_
  refine lv_iload_n hx hb dL_chain_1 rfl (lv_at hl 1 rfl) ?_
  refine lv_iload_n hx hb dL_chain_2 rfl (lv_at hl 2 rfl) ?_
  refine lv_iload_n hx hb dL_chain_3 rfl (lv_at hl 3 rfl) ?_
  obtain ⟨r1, m2, e3, h⟩ := zbn_some h
  refine z_calli hS (va_runV (As := [.int (x1), .int (x2), .int (x3)]) (rest := []) C (c_X3_chain l G e3 _) (cwV 3 hts gL_chain_X3_chain rfl rfl rfl hv_X3_chain ⟨Nat.le_of_ble_eq_true rfl, Nat.le_of_ble_eq_true rfl⟩) (z_preV Z hS hP (by decide) (z_E_90 _) rfl rfl) rfl rfl hl.1 rfl (lv_room (Nat.le_of_ble_eq_true rfl)) dL_chain_4 ⟨Nat.zero_le _, Nat.zero_le _⟩) (fun H locs hP hS => ?_)
  cases h
  exact z_reti C hr hlk hP hS dL_chain_7
abbrev rm_L_daughters : Room := { frames := 3, cells := 0, slots := 0, locals := 68 }
theorem hd_L_daughters : yL_daughters.cls ≠ "java/lang/invoke/MethodHandle" ∧ yL_daughters.cls ≠ "java/lang/invoke/VarHandle" ∧ (parseMethodDescriptor yL_daughters.desc).map (fun d => d.parameters.length) = some 2 := by decide +kernel
theorem hv_L_daughters : yL_daughters.cls = RL ∧ yL_daughters.cls ≠ "java/lang/invoke/MethodHandle" ∧ yL_daughters.cls ≠ "java/lang/invoke/VarHandle" ∧ (parseMethodDescriptor yL_daughters.desc).map (fun d => d.parameters.length) = some 2 := ⟨rfl, hd_L_daughters⟩
set_option maxHeartbeats 4000000 in
set_option maxRecDepth 100000 in
theorem c_L_daughters (l : Launch) (G : zG) {x1 : Int32} {μ mu1 : Mm} {r : Int32} (h : f_L_daughters x1 μ = some (r, mu1)) (sz : Nat) : Met l yL_daughters wsL_daughters rm_L_daughters (z_Pre G μ [.ref (G.2.1 (90)), .int (x1)] sz) (z_Qi G r mu1 sz) 0 0 (z_A G sz) := by
  refine z_startW (cc := cL_daughters) (maxL := 3) (ret := (some .int)) (own := RL) (hh := [(0, 5, 6, 16)]) (by decide) rfl rfl (Nat.le_of_ble_eq_true rfl) (fun p e s m args below meth c C hr hlk Z hP ls hl => ?_) sz
  have hx := C.1
  have hb := C.2.1
  have hts := C.2.2.2.2
  have hS : va_S (z_A G s.heap.size) s.heap s.heap [] := va_S.rf
  have hl : lv_has ls 3 [(0, .ref (G.2.1 (90))), (1, .int (x1))] := hl
  unfold f_L_daughters at h
  refine lv_aload_n hx hb dL_daughters_0 rfl (lv_at hl 0 rfl) ?_
  refine lv_iload_n hx hb dL_daughters_1 rfl (lv_at hl 1 rfl) ?_
  obtain ⟨r1, m2, e3, h⟩ := zbn_some h
  refine z_calli hS (va_runV (As := [.int (x1)]) (rest := []) C (c_X3_daughters l G e3 _) (cwV 1 hts gL_daughters_X3_daughters rfl rfl rfl hv_X3_daughters ⟨Nat.le_of_ble_eq_true rfl, Nat.le_of_ble_eq_true rfl⟩) (z_preV Z hS hP (by decide) (z_E_90 _) rfl rfl) rfl rfl hl.1 rfl (lv_room (Nat.le_of_ble_eq_true rfl)) dL_daughters_2 ⟨Nat.zero_le _, Nat.zero_le _⟩) (fun H locs hP hS => ?_)
  cases h
  exact z_reti C hr hlk hP hS dL_daughters_5
