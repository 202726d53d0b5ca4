
set_option maxHeartbeats 8000000 in
set_option maxRecDepth 100000 in
theorem L_L_law_b293 {p : Program} {l : Launch} {e : Env} {s : State} {m : MethodId} {below : List Frame} {meth : Method} {c : Code} {G : zG} {b L cells slots : Nat} {xs : Nat → Int32} (hcc : cells ≤ 600130) (hss : slots ≤ 7301080) (C0 : lw_At p s m meth c b L xs) (Z : z_Z G (z_A G s.heap.size) s) (hloc : ∀ q : Nat, z_A G s.heap.size q → s.heap.size ≤ q) :
    ∀  (μ : Mm), f_L_law_b293 L xs   μ = some () → ∀ (H : Heap) (locs : List Loc), z_P G μ H → va_S (z_A G s.heap.size) s.heap H locs → ∀ ls : Array Slot, lv_has ls 10 [(1, .ref (G.2.1 (90))), (2, .int (1))] → W p l e room_1 s m #[Value.ref b] below meth c H locs cells slots (lw_Z below #[Value.ref b] s) (F0 m 293 ls []) := by
  obtain ⟨hx, hb, hrt, hml, hown, hts0, hX, hbl, hlocks, hgv⟩ := C0
  have hts := hts0
  have C : CallFix p m c code 10 s #[Value.ref b] lw_tbl RL := ⟨hx, hb, hml, hown, hts⟩
  have hbA : ¬ z_A G s.heap.size b := fun h => Nat.not_le.mpr hbl (hloc b h)
  have C0 := (show lw_At p s m meth c b L xs from ⟨hx, hb, hrt, hml, hown, hts0, hX, hbl, hlocks, hgv⟩)
  intro  μ h H locs hP hS ls hl
  unfold f_L_law_b293 at h
  refine lv_iload_n hx hb dL_law_293 rfl (lv_at hl 1 rfl) ?_
  refine lv_if_eq (tgt := 308) hx hb dL_law_294 (by decide) (fun hc => absurd hc (by decide)) (fun _ => ?_)
  refine lv_aload_n hx hb dL_law_297 rfl (lv_at hl 0 rfl) ?_
  obtain ⟨r6, m7, e8, h⟩ := zb_some h
  refine z_calli hS (va_runS (As := [.ref (G.2.1 (90))]) (rest := []) C (c_L_hangs l G e8 _) (va_cwS 1 hts gL_law_L_hangs rfl rfl rfl hd_L_hangs ⟨Nat.le_of_ble_eq_true rfl, Nat.le_of_ble_eq_true rfl⟩) (z_preS Z hS hP) rfl rfl hl.1 rfl (lv_room (Nat.le_of_ble_eq_true rfl)) dL_law_298 ⟨by show _ ≤ 600130; omega, by show _ ≤ 7301080; omega⟩) (fun H locs hP hS => ?_)
  refine lv_if_eq (tgt := 308) hx hb dL_law_301 (by decide) (fun hc9 => ?_) (fun hc9 => ?_)
  · have h := z_ip hc9 h
    cases h
  · have h := z_in hc9 h
    refine lv_iconst (v := 1) hx hb dL_law_304 (by decide) ?_
    refine lv_goto (tgt := 309) hx hb dL_law_305 (by decide) ?_
    refine va_forget (fun q hq => hloc q.base (hS.2.2 q hq)) ?_
    refine W.widen (k := 600130) (n := 7301080) hcc hss ?_
    exact lw_ret (d0 := s.drawn) (Drawn.sameBut.refl _ _) hx hb hrt hlocks dL_law_309
set_option maxHeartbeats 8000000 in
set_option maxRecDepth 100000 in
theorem L_L_law_b184 {p : Program} {l : Launch} {e : Env} {s : State} {m : MethodId} {below : List Frame} {meth : Method} {c : Code} {G : zG} {b L cells slots : Nat} {xs : Nat → Int32} (hcc : cells ≤ 600130) (hss : slots ≤ 7301080) {ag15 : Int32 → Mm → Option Unit} (C0 : lw_At p s m meth c b L xs) (Z : z_Z G (z_A G s.heap.size) s) (hloc : ∀ q : Nat, z_A G s.heap.size q → s.heap.size ≤ q) (hag15 : ∀ (x3 : Int32) (μ : Mm), ag15 x3 μ = some () → ∀ (H : Heap) (locs : List Loc), z_P G μ H → va_S (z_A G s.heap.size) s.heap H locs → ∀ ls : Array Slot, lv_has ls 10 [(0, .ref b), (1, .ref (G.2.1 (90))), (2, .int (1)), (3, .int (x3))] → W p l e room_1 s m #[Value.ref b] below meth c H locs cells slots (lw_Z below #[Value.ref b] s) (F0 m 15 ls [])) :
    ∀ (x3 : Int32) (x4 : Int32) (x5 : Int32) (μ : Mm), f_L_law_b184 L xs ag15 x3 x4 x5 μ = some () → ∀ (H : Heap) (locs : List Loc), z_P G μ H → va_S (z_A G s.heap.size) s.heap H locs → ∀ ls : Array Slot, lv_has ls 10 [(0, .ref b), (1, .ref (G.2.1 (90))), (3, .int (x3)), (4, .int (x4)), (5, .int (x5))] → W p l e room_1 s m #[Value.ref b] below meth c H locs cells slots (lw_Z below #[Value.ref b] s) (F0 m 184 ls []) := by
  obtain ⟨hx, hb, hrt, hml, hown, hts0, hX, hbl, hlocks, hgv⟩ := C0
  have hts := hts0
  have C : CallFix p m c code 10 s #[Value.ref b] lw_tbl RL := ⟨hx, hb, hml, hown, hts⟩
  have hbA : ¬ z_A G s.heap.size b := fun h => Nat.not_le.mpr hbl (hloc b h)
  have C0 := (show lw_At p s m meth c b L xs from ⟨hx, hb, hrt, hml, hown, hts0, hX, hbl, hlocks, hgv⟩)
  intro x3 x4 x5 μ h H locs hP hS ls hl
  unfold f_L_law_b184 at h
  refine lv_aload_n hx hb dL_law_184 rfl (lv_at hl 1 rfl) ?_
  refine lv_iload hx hb dL_law_185 (lv_at hl 3 rfl) ?_
  refine lv_iconst (v := 3) hx hb dL_law_187 (by decide) ?_
  refine lv_ishr hx hb dL_law_188 ?_
  refine lv_bipush (v := 12) hx hb dL_law_189 (by decide) ?_
  obtain ⟨r33, m34, e35, h⟩ := zb_some h
  refine z_calli hS (va_runS (As := [.int ((x4 >>> (3 &&& 31))), .int (12)]) (rest := [.ref (G.2.1 (90))]) C (c_L_low l G e35 _) (va_cwS 2 hts gL_law_L_low rfl rfl rfl hd_L_low ⟨Nat.le_of_ble_eq_true rfl, Nat.le_of_ble_eq_true rfl⟩) (z_preS Z hS hP) rfl rfl hl.1 rfl (lv_room (Nat.le_of_ble_eq_true rfl)) dL_law_191 ⟨by show _ ≤ 600130; omega, by show _ ≤ 7301080; omega⟩) (fun H locs hP hS => ?_)
  refine lv_iload hx hb dL_law_194 (lv_at hl 4 rfl) ?_
  refine lv_iconst (v := 4) hx hb dL_law_196 (by decide) ?_
  refine lv_ishr hx hb dL_law_197 ?_
  refine lv_bipush (v := 24) hx hb dL_law_198 (by decide) ?_
  obtain ⟨r36, m37, e38, h⟩ := zb_some h
  refine z_calli hS (va_runS (As := [.int ((x5 >>> (4 &&& 31))), .int (24)]) (rest := [.int (r33), .ref (G.2.1 (90))]) C (c_L_low l G e38 _) (va_cwS 2 hts gL_law_L_low rfl rfl rfl hd_L_low ⟨Nat.le_of_ble_eq_true rfl, Nat.le_of_ble_eq_true rfl⟩) (z_preS Z hS hP) rfl rfl hl.1 rfl (lv_room (Nat.le_of_ble_eq_true rfl)) dL_law_200 ⟨by show _ ≤ 600130; omega, by show _ ≤ 7301080; omega⟩) (fun H locs hP hS => ?_)
  refine lv_iconst (v := 1) hx hb dL_law_203 (by decide) ?_
  refine lv_iload hx hb dL_law_204 (lv_at hl 3 rfl) ?_
  refine lv_bipush (v := 7) hx hb dL_law_206 (by decide) ?_
  refine lv_ishr hx hb dL_law_208 ?_
  refine lv_iconst (v := 3) hx hb dL_law_209 (by decide) ?_
  obtain ⟨r39, m40, e41, h⟩ := zb_some h
  refine z_calli hS (va_runS (As := [.int ((x4 >>> (7 &&& 31))), .int (3)]) (rest := [.int (1), .int (r36), .int (r33), .ref (G.2.1 (90))]) C (c_L_low l G e41 _) (va_cwS 2 hts gL_law_L_low rfl rfl rfl hd_L_low ⟨Nat.le_of_ble_eq_true rfl, Nat.le_of_ble_eq_true rfl⟩) (z_preS Z hS hP) rfl rfl hl.1 rfl (lv_room (Nat.le_of_ble_eq_true rfl)) dL_law_210 ⟨by show _ ≤ 600130; omega, by show _ ≤ 7301080; omega⟩) (fun H locs hP hS => ?_)
  refine lv_iadd hx hb dL_law_213 ?_
  obtain ⟨r42, m43, e44, h⟩ := zb_some h
  refine z_calli hS (va_runS (As := [.ref (G.2.1 (90)), .int (r33), .int (r36), .int ((1 + r39))]) (rest := []) C (c_L_copies l G e44 _) (va_cwS 4 hts gL_law_L_copies rfl rfl rfl hd_L_copies ⟨Nat.le_of_ble_eq_true rfl, Nat.le_of_ble_eq_true rfl⟩) (z_preS Z hS hP) rfl rfl hl.1 rfl (lv_room (Nat.le_of_ble_eq_true rfl)) dL_law_214 ⟨by show _ ≤ 600130; omega, by show _ ≤ 7301080; omega⟩) (fun H locs hP hS => ?_)
  refine lv_if_eq (tgt := 285) hx hb dL_law_217 (by decide) (fun hc45 => ?_) (fun hc45 => ?_)
  · have h := z_ip hc45 h
    cases h
  · have h := z_in hc45 h
    refine lv_aload_n hx hb dL_law_220 rfl (lv_at hl 1 rfl) ?_
    refine lv_iload hx hb dL_law_221 (lv_at hl 4 rfl) ?_
    refine lv_bipush (v := 6) hx hb dL_law_223 (by decide) ?_
    refine lv_ishr hx hb dL_law_225 ?_
    refine lv_bipush (v := 24) hx hb dL_law_226 (by decide) ?_
    obtain ⟨r46, m47, e48, h⟩ := zb_some h
    refine z_calli hS (va_runS (As := [.int ((x5 >>> (6 &&& 31))), .int (24)]) (rest := [.ref (G.2.1 (90))]) C (c_L_low l G e48 _) (va_cwS 2 hts gL_law_L_low rfl rfl rfl hd_L_low ⟨Nat.le_of_ble_eq_true rfl, Nat.le_of_ble_eq_true rfl⟩) (z_preS Z hS hP) rfl rfl hl.1 rfl (lv_room (Nat.le_of_ble_eq_true rfl)) dL_law_228 ⟨by show _ ≤ 600130; omega, by show _ ≤ 7301080; omega⟩) (fun H locs hP hS => ?_)
    refine lv_iconst (v := 1) hx hb dL_law_231 (by decide) ?_
    refine lv_iload hx hb dL_law_232 (lv_at hl 3 rfl) ?_
    refine lv_bipush (v := 9) hx hb dL_law_234 (by decide) ?_
    refine lv_ishr hx hb dL_law_236 ?_
    refine lv_bipush (v := 9) hx hb dL_law_237 (by decide) ?_
    obtain ⟨r49, m50, e51, h⟩ := zb_some h
    refine z_calli hS (va_runS (As := [.int ((x4 >>> (9 &&& 31))), .int (9)]) (rest := [.int (1), .int (r46), .ref (G.2.1 (90))]) C (c_L_low l G e51 _) (va_cwS 2 hts gL_law_L_low rfl rfl rfl hd_L_low ⟨Nat.le_of_ble_eq_true rfl, Nat.le_of_ble_eq_true rfl⟩) (z_preS Z hS hP) rfl rfl hl.1 rfl (lv_room (Nat.le_of_ble_eq_true rfl)) dL_law_239 ⟨by show _ ≤ 600130; omega, by show _ ≤ 7301080; omega⟩) (fun H locs hP hS => ?_)
    refine lv_iadd hx hb dL_law_242 ?_
    obtain ⟨r52, m53, e54, h⟩ := zb_some h
    refine z_calli hS (va_runS (As := [.ref (G.2.1 (90)), .int (r46), .int ((1 + r49))]) (rest := []) C (c_L_speaks l G e54 _) (va_cwS 3 hts gL_law_L_speaks rfl rfl rfl hd_L_speaks ⟨Nat.le_of_ble_eq_true rfl, Nat.le_of_ble_eq_true rfl⟩) (z_preS Z hS hP) rfl rfl hl.1 rfl (lv_room (Nat.le_of_ble_eq_true rfl)) dL_law_243 ⟨by show _ ≤ 600130; omega, by show _ ≤ 7301080; omega⟩) (fun H locs hP hS => ?_)
    refine lv_if_eq (tgt := 285) hx hb dL_law_246 (by decide) (fun hc55 => ?_) (fun hc55 => ?_)
    · have h := z_ip hc55 h
      cases h
    · have h := z_in hc55 h
      refine lv_aload_n hx hb dL_law_249 rfl (lv_at hl 1 rfl) ?_
      refine lv_iload hx hb dL_law_250 (lv_at hl 3 rfl) ?_
      refine lv_iconst (v := 5) hx hb dL_law_252 (by decide) ?_
      refine lv_ishr hx hb dL_law_253 ?_
      refine lv_bipush (v := 12) hx hb dL_law_254 (by decide) ?_
      obtain ⟨r56, m57, e58, h⟩ := zb_some h
      refine z_calli hS (va_runS (As := [.int ((x4 >>> (5 &&& 31))), .int (12)]) (rest := [.ref (G.2.1 (90))]) C (c_L_low l G e58 _) (va_cwS 2 hts gL_law_L_low rfl rfl rfl hd_L_low ⟨Nat.le_of_ble_eq_true rfl, Nat.le_of_ble_eq_true rfl⟩) (z_preS Z hS hP) rfl rfl hl.1 rfl (lv_room (Nat.le_of_ble_eq_true rfl)) dL_law_256 ⟨by show _ ≤ 600130; omega, by show _ ≤ 7301080; omega⟩) (fun H locs hP hS => ?_)
      obtain ⟨r59, m60, e61, h⟩ := zb_some h
      refine z_calli hS (va_runS (As := [.ref (G.2.1 (90)), .int (r56)]) (rest := []) C (c_L_steps l G e61 _) (va_cwS 2 hts gL_law_L_steps rfl rfl rfl hd_L_steps ⟨Nat.le_of_ble_eq_true rfl, Nat.le_of_ble_eq_true rfl⟩) (z_preS Z hS hP) rfl rfl hl.1 rfl (lv_room (Nat.le_of_ble_eq_true rfl)) dL_law_259 ⟨by show _ ≤ 600130; omega, by show _ ≤ 7301080; omega⟩) (fun H locs hP hS => ?_)
      refine lv_if_eq (tgt := 285) hx hb dL_law_262 (by decide) (fun hc62 => ?_) (fun hc62 => ?_)
      · have h := z_ip hc62 h
        cases h
      · have h := z_in hc62 h
        refine lv_aload_n hx hb dL_law_265 rfl (lv_at hl 1 rfl) ?_
        refine lv_iload hx hb dL_law_266 (lv_at hl 4 rfl) ?_
        refine lv_iconst (v := 2) hx hb dL_law_268 (by decide) ?_
        refine lv_ishr hx hb dL_law_269 ?_
        refine lv_bipush (v := 6) hx hb dL_law_270 (by decide) ?_
        obtain ⟨r63, m64, e65, h⟩ := zb_some h
        refine z_calli hS (va_runS (As := [.int ((x5 >>> (2 &&& 31))), .int (6)]) (rest := [.ref (G.2.1 (90))]) C (c_L_low l G e65 _) (va_cwS 2 hts gL_law_L_low rfl rfl rfl hd_L_low ⟨Nat.le_of_ble_eq_true rfl, Nat.le_of_ble_eq_true rfl⟩) (z_preS Z hS hP) rfl rfl hl.1 rfl (lv_room (Nat.le_of_ble_eq_true rfl)) dL_law_272 ⟨by show _ ≤ 600130; omega, by show _ ≤ 7301080; omega⟩) (fun H locs hP hS => ?_)
        obtain ⟨r66, m67, e68, h⟩ := zb_some h
        refine z_calli hS (va_runS (As := [.ref (G.2.1 (90)), .int (r63)]) (rest := []) C (c_L_shaves l G e68 _) (va_cwS 2 hts gL_law_L_shaves rfl rfl rfl hd_L_shaves ⟨Nat.le_of_ble_eq_true rfl, Nat.le_of_ble_eq_true rfl⟩) (z_preS Z hS hP) rfl rfl hl.1 rfl (lv_room (Nat.le_of_ble_eq_true rfl)) dL_law_275 ⟨by show _ ≤ 600130; omega, by show _ ≤ 7301080; omega⟩) (fun H locs hP hS => ?_)
        refine lv_if_eq (tgt := 285) hx hb dL_law_278 (by decide) (fun hc69 => ?_) (fun hc69 => ?_)
        · have h := z_ip hc69 h
          cases h
        · have h := z_in hc69 h
          refine lv_iconst (v := 1) hx hb dL_law_281 (by decide) ?_
          refine lv_goto (tgt := 286) hx hb dL_law_282 (by decide) ?_
          refine lv_istore_n (lv' := [(2, .int (1)), (0, .ref b), (1, .ref (G.2.1 (90))), (3, .int (x3)), (4, .int (x4)), (5, .int (x5))]) hx hb dL_law_286 rfl hl (by decide) rfl (fun ls hl => ?_)
          refine lv_iinc (v := (x3 + 1)) (lv' := [(3, .int ((x3 + 1))), (2, .int (1)), (0, .ref b), (1, .ref (G.2.1 (90))), (4, .int (x4)), (5, .int (x5))]) hx hb dL_law_287 hl (k := 3) rfl rfl (by decide) rfl (fun ls hl => ?_)
          refine lv_goto (tgt := 15) hx hb dL_law_290 (by decide) ?_
          exact hag15 _ _ h _ _ hP hS ls (lv_sub hl [2, 3, 1, 0] rfl)
set_option maxHeartbeats 8000000 in
set_option maxRecDepth 100000 in
theorem L_L_law_b167 {p : Program} {l : Launch} {e : Env} {s : State} {m : MethodId} {below : List Frame} {meth : Method} {c : Code} {G : zG} {b L cells slots : Nat} {xs : Nat → Int32} (hcc : cells ≤ 600130) (hss : slots ≤ 7301080) {ag15 : Int32 → Mm → Option Unit} (C0 : lw_At p s m meth c b L xs) (Z : z_Z G (z_A G s.heap.size) s) (hloc : ∀ q : Nat, z_A G s.heap.size q → s.heap.size ≤ q) (hag15 : ∀ (x3 : Int32) (μ : Mm), ag15 x3 μ = some () → ∀ (H : Heap) (locs : List Loc), z_P G μ H → va_S (z_A G s.heap.size) s.heap H locs → ∀ ls : Array Slot, lv_has ls 10 [(0, .ref b), (1, .ref (G.2.1 (90))), (2, .int (1)), (3, .int (x3))] → W p l e room_1 s m #[Value.ref b] below meth c H locs cells slots (lw_Z below #[Value.ref b] s) (F0 m 15 ls [])) :
    ∀ (x3 : Int32) (x4 : Int32) (x5 : Int32) (μ : Mm), f_L_law_b167 L xs ag15 x3 x4 x5 μ = some () → ∀ (H : Heap) (locs : List Loc), z_P G μ H → va_S (z_A G s.heap.size) s.heap H locs → ∀ ls : Array Slot, lv_has ls 10 [(0, .ref b), (1, .ref (G.2.1 (90))), (2, .int (1)), (3, .int (x3)), (4, .int (x4)), (5, .int (x5))] → W p l e room_1 s m #[Value.ref b] below meth c H locs cells slots (lw_Z below #[Value.ref b] s) (F0 m 167 ls []) := by
  obtain ⟨hx, hb, hrt, hml, hown, hts0, hX, hbl, hlocks, hgv⟩ := C0
  have hts := hts0
  have C : CallFix p m c code 10 s #[Value.ref b] lw_tbl RL := ⟨hx, hb, hml, hown, hts⟩
  have hbA : ¬ z_A G s.heap.size b := fun h => Nat.not_le.mpr hbl (hloc b h)
  have C0 := (show lw_At p s m meth c b L xs from ⟨hx, hb, hrt, hml, hown, hts0, hX, hbl, hlocks, hgv⟩)
  intro x3 x4 x5 μ h H locs hP hS ls hl
  unfold f_L_law_b167 at h
  refine lv_iload_n hx hb dL_law_167 rfl (lv_at hl 2 rfl) ?_
  refine lv_if_eq (tgt := 285) hx hb dL_law_168 (by decide) (fun hc => absurd hc (by decide)) (fun _ => ?_)
  refine lv_iload_n hx hb dL_law_171 rfl (lv_at hl 3 rfl) ?_
  refine lv_iconst (v := 3) hx hb dL_law_172 (by decide) ?_
  refine lv_irem hx hb dL_law_173 (by decide) ?_
  refine lv_if_gt (tgt := 184) hx hb dL_law_174 (by decide) (fun hc32 => ?_) (fun hc32 => ?_)
  · have h := z_ip hc32 h
    exact L_L_law_b184 hcc hss C0 Z hloc hag15 _ _ _ _ h _ _ hP hS ls (lv_sub hl [0, 1, 3, 4, 5] rfl)
  · have h := z_in hc32 h
    refine lv_aload_n hx hb dL_law_177 rfl (lv_at hl 1 rfl) ?_
    obtain ⟨r70, m71, e72, h⟩ := zb_some h
    refine z_calli hS (va_runS (As := [.ref (G.2.1 (90))]) (rest := []) C (c_L_hangs l G e72 _) (va_cwS 1 hts gL_law_L_hangs rfl rfl rfl hd_L_hangs ⟨Nat.le_of_ble_eq_true rfl, Nat.le_of_ble_eq_true rfl⟩) (z_preS Z hS hP) rfl rfl hl.1 rfl (lv_room (Nat.le_of_ble_eq_true rfl)) dL_law_178 ⟨by show _ ≤ 600130; omega, by show _ ≤ 7301080; omega⟩) (fun H locs hP hS => ?_)
    refine lv_if_eq (tgt := 285) hx hb dL_law_181 (by decide) (fun hc73 => ?_) (fun hc73 => ?_)
    · have h := z_ip hc73 h
      cases h
    · have h := z_in hc73 h
      exact L_L_law_b184 hcc hss C0 Z hloc hag15 _ _ _ _ h _ _ hP hS ls (lv_sub hl [0, 1, 3, 4, 5] rfl)
set_option maxHeartbeats 8000000 in
set_option maxRecDepth 100000 in
theorem L_L_law_b98 {p : Program} {l : Launch} {e : Env} {s : State} {m : MethodId} {below : List Frame} {meth : Method} {c : Code} {G : zG} {b L cells slots : Nat} {xs : Nat → Int32} (hcc : cells ≤ 600130) (hss : slots ≤ 7301080) {ag15 : Int32 → Mm → Option Unit} (C0 : lw_At p s m meth c b L xs) (Z : z_Z G (z_A G s.heap.size) s) (hloc : ∀ q : Nat, z_A G s.heap.size q → s.heap.size ≤ q) (hag15 : ∀ (x3 : Int32) (μ : Mm), ag15 x3 μ = some () → ∀ (H : Heap) (locs : List Loc), z_P G μ H → va_S (z_A G s.heap.size) s.heap H locs → ∀ ls : Array Slot, lv_has ls 10 [(0, .ref b), (1, .ref (G.2.1 (90))), (2, .int (1)), (3, .int (x3))] → W p l e room_1 s m #[Value.ref b] below meth c H locs cells slots (lw_Z below #[Value.ref b] s) (F0 m 15 ls [])) :
    ∀ (x3 : Int32) (x4 : Int32) (x5 : Int32) (x6 : Int32) (x7 : Int64) (x9 : Int32) (y0 : Int32) (y1 : Int32) (μ : Mm), f_L_law_b98 L xs ag15 x3 x4 x5 x6 x7 x9 y0 y1 μ = some () → ∀ (H : Heap) (locs : List Loc), z_P G μ H → va_S (z_A G s.heap.size) s.heap H locs → ∀ ls : Array Slot, lv_has ls 10 [(0, .ref b), (1, .ref (G.2.1 (90))), (3, .int (x3)), (4, .int (x4)), (5, .int (x5)), (6, .int (x6)), (7, .long (x7)), (9, .int (x9))] → W p l e room_1 s m #[Value.ref b] below meth c H locs cells slots (lw_Z below #[Value.ref b] s) (F0 m 98 ls [.int (y0), .int (y1)]) := by
  obtain ⟨hx, hb, hrt, hml, hown, hts0, hX, hbl, hlocks, hgv⟩ := C0
  have hts := hts0
  have C : CallFix p m c code 10 s #[Value.ref b] lw_tbl RL := ⟨hx, hb, hml, hown, hts⟩
  have hbA : ¬ z_A G s.heap.size b := fun h => Nat.not_le.mpr hbl (hloc b h)
  have C0 := (show lw_At p s m meth c b L xs from ⟨hx, hb, hrt, hml, hown, hts0, hX, hbl, hlocks, hgv⟩)
  intro x3 x4 x5 x6 x7 x9 y0 y1 μ h H locs hP hS ls hl
  unfold f_L_law_b98 at h
  refine lv_icmp_ne (tgt := 105) hx hb dL_law_98 (by decide) (fun hc30 => ?_) (fun hc30 => ?_)
  · have h := z_in hc30 h
    cases h
  · have h := z_ip hc30 h
    refine lv_iconst (v := 1) hx hb dL_law_101 (by decide) ?_
    refine lv_goto (tgt := 106) hx hb dL_law_102 (by decide) ?_
    refine lv_istore_n (lv' := [(2, .int (1)), (0, .ref b), (1, .ref (G.2.1 (90))), (3, .int (x3)), (4, .int (x4)), (5, .int (x5)), (6, .int (x6)), (7, .long (x7)), (9, .int (x9))]) hx hb dL_law_106 rfl hl (by decide) rfl (fun ls hl => ?_)
    refine lv_iload_n hx hb dL_law_107 rfl (lv_at hl 0 rfl) ?_
    refine lv_if_eq (tgt := 167) hx hb dL_law_108 (by decide) (fun hc => absurd hc (by decide)) (fun _ => ?_)
    refine lv_iload hx hb dL_law_111 (lv_at hl 6 rfl) ?_
    refine lv_bipush (v := 6) hx hb dL_law_113 (by decide) ?_
    refine lv_icmp_ge (tgt := 167) hx hb dL_law_115 (by decide) (fun hc31 => ?_) (fun hc31 => ?_)
    · have h := z_ip hc31 h
      exact L_L_law_b167 hcc hss C0 Z hloc hag15 _ _ _ _ h _ _ hP hS ls (lv_sub hl [1, 2, 0, 3, 4, 5] rfl)
    · have h := z_in hc31 h
      refine lv_iload hx hb dL_law_118 (lv_at hl 5 rfl) ?_
      refine lv_iconst (v := 5) hx hb dL_law_120 (by decide) ?_
      refine lv_ishr hx hb dL_law_121 ?_
      refine lv_iconst (v := 3) hx hb dL_law_122 (by decide) ?_
      obtain ⟨r74, m75, e76, h⟩ := zb_some h
      refine z_calli hS (va_runS (As := [.int ((x5 >>> (5 &&& 31))), .int (3)]) (rest := []) C (c_L_low l G e76 _) (va_cwS 2 hts gL_law_L_low rfl rfl rfl hd_L_low ⟨Nat.le_of_ble_eq_true rfl, Nat.le_of_ble_eq_true rfl⟩) (z_preS Z hS hP) rfl rfl hl.1 rfl (lv_room (Nat.le_of_ble_eq_true rfl)) dL_law_123 ⟨by show _ ≤ 600130; omega, by show _ ≤ 7301080; omega⟩) (fun H locs hP hS => ?_)
      refine lv_if_ne (tgt := 167) hx hb dL_law_126 (by decide) (fun hc77 => ?_) (fun hc77 => ?_)
      · have h := z_in hc77 h
        exact L_L_law_b167 hcc hss C0 Z hloc hag15 _ _ _ _ h _ _ hP hS ls (lv_sub hl [1, 2, 0, 3, 4, 5] rfl)
      · have h := z_ip hc77 h
        refine lv_aload_n hx hb dL_law_129 rfl (lv_at hl 2 rfl) ?_
        obtain ⟨r78, m79, e80, h⟩ := zb_some h
        refine z_calli hS (vx_runSW (As := [.ref (G.2.1 (90))]) (rest := []) C (c_L_undo l G e80 _) (vx_cwSW 1 hts gL_law_L_undo rfl rfl rfl hd_L_undo ⟨Nat.le_of_ble_eq_true rfl, Nat.le_of_ble_eq_true rfl⟩) (z_preS Z hS hP) rfl rfl hl.1 rfl (lv_room (Nat.le_of_ble_eq_true rfl)) dL_law_130 ⟨by show _ ≤ 600130; omega, by show _ ≤ 7301080; omega⟩) (fun H locs hP hS => ?_)
        refine lv_iload hx hb dL_law_133 (lv_at hl 6 rfl) ?_
        refine lv_icmp_ne (tgt := 165) hx hb dL_law_135 (by decide) (fun hc81 => ?_) (fun hc81 => ?_)
        · have h := z_in hc81 h
          cases h
        · have h := z_ip hc81 h
          refine lv_aload_n hx hb dL_law_138 rfl (lv_at hl 2 rfl) ?_
          obtain ⟨r82, m83, e84, h⟩ := zb_some h
          refine z_calll hS (va_runS (As := [.ref (G.2.1 (90))]) (rest := []) C (c_L_print l G e84 _) (va_cwS 1 hts gL_law_L_print rfl rfl rfl hd_L_print ⟨Nat.le_of_ble_eq_true rfl, Nat.le_of_ble_eq_true rfl⟩) (z_preS Z hS hP) rfl rfl hl.1 rfl (lv_room (Nat.le_of_ble_eq_true rfl)) dL_law_139 ⟨by show _ ≤ 600130; omega, by show _ ≤ 7301080; omega⟩) (fun H locs hP hS => ?_)
          refine lv_lload hx hb dL_law_142 (lv_at hl 7 rfl) ?_
          refine W.lcmp hx hb dL_law_144 ?_
          refine lv_if_ne (tgt := 165) hx hb dL_law_145 (by decide) (fun hc85 => ?_) (fun hc85 => ?_)
          · have h := z_in hc85 h
            cases h
          · have h := z_ip hc85 h
            refine lv_aload_n hx hb dL_law_148 rfl (lv_at hl 2 rfl) ?_
            refine lv_iload hx hb dL_law_149 (lv_at hl 4 rfl) ?_
            refine lv_iload hx hb dL_law_151 (lv_at hl 5 rfl) ?_
            obtain ⟨r86, m87, e88, h⟩ := zb_some h
            refine z_calli hS (va_runS (As := [.ref (G.2.1 (90)), .int (x4), .int (x5)]) (rest := []) C (c_L_act l G e88 _) (va_cwS 3 hts gL_law_L_act rfl rfl rfl hd_L_act ⟨Nat.le_of_ble_eq_true rfl, Nat.le_of_ble_eq_true rfl⟩) (z_preS Z hS hP) rfl rfl hl.1 rfl (lv_room (Nat.le_of_ble_eq_true rfl)) dL_law_153 ⟨by show _ ≤ 600130; omega, by show _ ≤ 7301080; omega⟩) (fun H locs hP hS => ?_)
            refine lv_iload hx hb dL_law_156 (lv_at hl 8 rfl) ?_
            refine lv_icmp_ne (tgt := 165) hx hb dL_law_158 (by decide) (fun hc89 => ?_) (fun hc89 => ?_)
            · have h := z_in hc89 h
              cases h
            · have h := z_ip hc89 h
              refine lv_iconst (v := 1) hx hb dL_law_161 (by decide) ?_
              refine lv_goto (tgt := 166) hx hb dL_law_162 (by decide) ?_
              refine lv_istore_n (lv' := [(2, .int (1)), (0, .ref b), (1, .ref (G.2.1 (90))), (3, .int (x3)), (4, .int (x4)), (5, .int (x5)), (6, .int (x6)), (7, .long (x7)), (9, .int (x9))]) hx hb dL_law_166 rfl hl (by decide) rfl (fun ls hl => ?_)
              exact L_L_law_b167 hcc hss C0 Z hloc hag15 _ _ _ _ h _ _ hP hS ls (lv_sub hl [1, 2, 0, 3, 4, 5] rfl)
set_option maxHeartbeats 8000000 in
set_option maxRecDepth 100000 in
theorem L_L_law_b15 {p : Program} {l : Launch} {e : Env} {s : State} {m : MethodId} {below : List Frame} {meth : Method} {c : Code} {G : zG} {b L cells slots : Nat} {xs : Nat → Int32} (hcc : cells ≤ 600130) (hss : slots ≤ 7301080) (C0 : lw_At p s m meth c b L xs) (Z : z_Z G (z_A G s.heap.size) s) (hloc : ∀ q : Nat, z_A G s.heap.size q → s.heap.size ≤ q) :
    ∀ (n : Nat) (x3 : Int32) (μ : Mm), f_L_law_b15 L xs  n x3 μ = some () → ∀ (H : Heap) (locs : List Loc), z_P G μ H → va_S (z_A G s.heap.size) s.heap H locs → ∀ ls : Array Slot, lv_has ls 10 [(0, .ref b), (1, .ref (G.2.1 (90))), (2, .int (1)), (3, .int (x3))] → W p l e room_1 s m #[Value.ref b] below meth c H locs cells slots (lw_Z below #[Value.ref b] s) (F0 m 15 ls []) := by
  obtain ⟨hx, hb, hrt, hml, hown, hts0, hX, hbl, hlocks, hgv⟩ := C0
  have hts := hts0
  have C : CallFix p m c code 10 s #[Value.ref b] lw_tbl RL := ⟨hx, hb, hml, hown, hts⟩
  have hbA : ¬ z_A G s.heap.size b := fun h => Nat.not_le.mpr hbl (hloc b h)
  have C0 := (show lw_At p s m meth c b L xs from ⟨hx, hb, hrt, hml, hown, hts0, hX, hbl, hlocks, hgv⟩)
  intro n
  induction n with
  | zero =>
    intro x3 μ h
    rw [f_L_law_b15] at h
    cases h
  | succ n ih =>
    intro x3 μ h H locs hP hS ls hl
    rw [f_L_law_b15] at h
    refine lv_iload_n hx hb dL_law_15 rfl (lv_at hl 3 rfl) ?_
    refine lv_bipush (v := 40) hx hb dL_law_16 (by decide) ?_
    refine lv_icmp_ge (tgt := 293) hx hb dL_law_18 (by decide) (fun hc5 => ?_) (fun hc5 => ?_)
    · have h := z_ip hc5 h
      exact L_L_law_b293 hcc hss C0 Z hloc _ h _ _ hP hS ls (lv_sub hl [1, 2] rfl)
    · have h := z_in hc5 h
      refine lv_iload_n hx hb dL_law_21 rfl (lv_at hl 2 rfl) ?_
      refine lv_if_eq (tgt := 293) hx hb dL_law_22 (by decide) (fun hc => absurd hc (by decide)) (fun _ => ?_)
      refine lv_aload_n hx hb dL_law_25 rfl (lv_at hl 0 rfl) ?_
      refine lv_iconst (v := 2) hx hb dL_law_26 (by decide) ?_
      refine lv_iload_n hx hb dL_law_27 rfl (lv_at hl 3 rfl) ?_
      refine lv_imul hx hb dL_law_28 ?_
      obtain ⟨r10, m11, e12, h⟩ := zb_some h
      refine z_calli hS (va_runS (As := [.ref b, .int ((2 * x3))]) (rest := []) C (c_L_at l G e12 _) (va_cwS 2 hts gL_law_L_at rfl rfl rfl hd_L_at ⟨Nat.le_of_ble_eq_true rfl, Nat.le_of_ble_eq_true rfl⟩) (z_preSX Z hS hP hX hbl hbA) rfl rfl hl.1 rfl (lv_room (Nat.le_of_ble_eq_true rfl)) dL_law_29 ⟨by show _ ≤ 600130; omega, by show _ ≤ 7301080; omega⟩) (fun H locs hP hS => ?_)
      refine lv_istore (lv' := [(4, .int (r10)), (0, .ref b), (1, .ref (G.2.1 (90))), (2, .int (1)), (3, .int (x3))]) hx hb dL_law_32 hl (by decide) rfl (fun ls hl => ?_)
      refine lv_aload_n hx hb dL_law_34 rfl (lv_at hl 1 rfl) ?_
      refine lv_iconst (v := 2) hx hb dL_law_35 (by decide) ?_
      refine lv_iload_n hx hb dL_law_36 rfl (lv_at hl 4 rfl) ?_
      refine lv_imul hx hb dL_law_37 ?_
      refine lv_iconst (v := 1) hx hb dL_law_38 (by decide) ?_
      refine lv_iadd hx hb dL_law_39 ?_
      obtain ⟨r13, m14, e15, h⟩ := zb_some h
      refine z_calli hS (va_runS (As := [.ref b, .int (((2 * x3) + 1))]) (rest := []) C (c_L_at l G e15 _) (va_cwS 2 hts gL_law_L_at rfl rfl rfl hd_L_at ⟨Nat.le_of_ble_eq_true rfl, Nat.le_of_ble_eq_true rfl⟩) (z_preSX Z hS hP hX hbl hbA) rfl rfl hl.1 rfl (lv_room (Nat.le_of_ble_eq_true rfl)) dL_law_40 ⟨by show _ ≤ 600130; omega, by show _ ≤ 7301080; omega⟩) (fun H locs hP hS => ?_)
      refine lv_istore (lv' := [(5, .int (r13)), (4, .int (r10)), (0, .ref b), (1, .ref (G.2.1 (90))), (2, .int (1)), (3, .int (x3))]) hx hb dL_law_43 hl (by decide) rfl (fun ls hl => ?_)
      refine lv_aload_n hx hb dL_law_45 rfl (lv_at hl 3 rfl) ?_
      refine lv_bipush (v := 12) hx hb dL_law_46 (by decide) ?_
      obtain ⟨r16, m17, e18, h⟩ := zb_some h
      refine z_calli hS (vx_runSW (As := [.ref (G.2.1 (90)), .int (12)]) (rest := []) C (c_L_count l G e18 _) (vx_cwSW 2 hts gL_law_L_count rfl rfl rfl hd_L_count ⟨Nat.le_of_ble_eq_true rfl, Nat.le_of_ble_eq_true rfl⟩) (z_preS Z hS hP) rfl rfl hl.1 rfl (lv_room (Nat.le_of_ble_eq_true rfl)) dL_law_48 ⟨by show _ ≤ 600130; omega, by show _ ≤ 7301080; omega⟩) (fun H locs hP hS => ?_)
      refine lv_istore (lv' := [(6, .int (r16)), (5, .int (r13)), (4, .int (r10)), (0, .ref b), (1, .ref (G.2.1 (90))), (2, .int (1)), (3, .int (x3))]) hx hb dL_law_51 hl (by decide) rfl (fun ls hl => ?_)
      refine lv_aload_n hx hb dL_law_53 rfl (lv_at hl 4 rfl) ?_
      obtain ⟨r19, m20, e21, h⟩ := zb_some h
      refine z_calll hS (va_runS (As := [.ref (G.2.1 (90))]) (rest := []) C (c_L_print l G e21 _) (va_cwS 1 hts gL_law_L_print rfl rfl rfl hd_L_print ⟨Nat.le_of_ble_eq_true rfl, Nat.le_of_ble_eq_true rfl⟩) (z_preS Z hS hP) rfl rfl hl.1 rfl (lv_room (Nat.le_of_ble_eq_true rfl)) dL_law_54 ⟨by show _ ≤ 600130; omega, by show _ ≤ 7301080; omega⟩) (fun H locs hP hS => ?_)
      refine lv_lstore (lv' := [(7, .long (r19)), (6, .int (r16)), (5, .int (r13)), (4, .int (r10)), (0, .ref b), (1, .ref (G.2.1 (90))), (2, .int (1)), (3, .int (x3))]) hx hb dL_law_57 hl (by decide) rfl (fun ls hl => ?_)
      refine lv_aload_n hx hb dL_law_59 rfl (lv_at hl 5 rfl) ?_
      refine lv_iload hx hb dL_law_60 (lv_at hl 3 rfl) ?_
      refine lv_iload hx hb dL_law_62 (lv_at hl 2 rfl) ?_
      obtain ⟨r22, m23, e24, h⟩ := zb_some h
      refine z_calli hS (va_runS (As := [.ref (G.2.1 (90)), .int (r10), .int (r13)]) (rest := []) C (c_L_act l G e24 _) (va_cwS 3 hts gL_law_L_act rfl rfl rfl hd_L_act ⟨Nat.le_of_ble_eq_true rfl, Nat.le_of_ble_eq_true rfl⟩) (z_preS Z hS hP) rfl rfl hl.1 rfl (lv_room (Nat.le_of_ble_eq_true rfl)) dL_law_64 ⟨by show _ ≤ 600130; omega, by show _ ≤ 7301080; omega⟩) (fun H locs hP hS => ?_)
      refine lv_istore (lv' := [(9, .int (r22)), (7, .long (r19)), (6, .int (r16)), (5, .int (r13)), (4, .int (r10)), (0, .ref b), (1, .ref (G.2.1 (90))), (2, .int (1)), (3, .int (x3))]) hx hb dL_law_67 hl (by decide) rfl (fun ls hl => ?_)
      refine lv_iload hx hb dL_law_69 (lv_at hl 0 rfl) ?_
      refine lv_bipush (v := (-2)) hx hb dL_law_71 (by decide) ?_
      refine lv_icmp_le (tgt := 105) hx hb dL_law_73 (by decide) (fun hc25 => ?_) (fun hc25 => ?_)
      · have h := z_ip hc25 h
        cases h
      · have h := z_in hc25 h
        refine lv_aload_n hx hb dL_law_76 rfl (lv_at hl 6 rfl) ?_
        refine lv_bipush (v := 12) hx hb dL_law_77 (by decide) ?_
        obtain ⟨r26, m27, e28, h⟩ := zb_some h
        refine z_calli hS (vx_runSW (As := [.ref (G.2.1 (90)), .int (12)]) (rest := []) C (c_L_count l G e28 _) (vx_cwSW 2 hts gL_law_L_count rfl rfl rfl hd_L_count ⟨Nat.le_of_ble_eq_true rfl, Nat.le_of_ble_eq_true rfl⟩) (z_preS Z hS hP) rfl rfl hl.1 rfl (lv_room (Nat.le_of_ble_eq_true rfl)) dL_law_79 ⟨by show _ ≤ 600130; omega, by show _ ≤ 7301080; omega⟩) (fun H locs hP hS => ?_)
        refine lv_iload hx hb dL_law_82 (lv_at hl 2 rfl) ?_
        refine lv_bipush (v := 6) hx hb dL_law_84 (by decide) ?_
        refine lv_icmp_ge (tgt := 96) hx hb dL_law_86 (by decide) (fun hc29 => ?_) (fun hc29 => ?_)
        · have h := z_ip hc29 h
          refine lv_bipush (v := 6) hx hb dL_law_96 (by decide) ?_
          exact L_L_law_b98 hcc hss C0 Z hloc ih _ _ _ _ _ _ _ _ _ h _ _ hP hS ls (lv_sub hl [5, 6, 8, 4, 3, 2, 1, 0] rfl)
        · have h := z_in hc29 h
          refine lv_iload hx hb dL_law_89 (lv_at hl 2 rfl) ?_
          refine lv_iconst (v := 1) hx hb dL_law_91 (by decide) ?_
          refine lv_iadd hx hb dL_law_92 ?_
          refine lv_goto (tgt := 98) hx hb dL_law_93 (by decide) ?_
          exact L_L_law_b98 hcc hss C0 Z hloc ih _ _ _ _ _ _ _ _ _ h _ _ hP hS ls (lv_sub hl [5, 6, 8, 4, 3, 2, 1, 0] rfl)
set_option maxHeartbeats 8000000 in
set_option maxRecDepth 100000 in
theorem L_L_law_b8 {p : Program} {l : Launch} {e : Env} {s : State} {m : MethodId} {below : List Frame} {meth : Method} {c : Code} {G : zG} {b L cells slots : Nat} {xs : Nat → Int32} (hcc : cells ≤ 600130) (hss : slots ≤ 7301080) (C0 : lw_At p s m meth c b L xs) (Z : z_Z G (z_A G s.heap.size) s) (hloc : ∀ q : Nat, z_A G s.heap.size q → s.heap.size ≤ q) :
    ∀  (μ : Mm), f_L_law_b8 L xs   μ = some () → ∀ (H : Heap) (locs : List Loc), z_P G μ H → va_S (z_A G s.heap.size) s.heap H locs → ∀ ls : Array Slot, lv_has ls 10 [(0, .ref b), (1, .ref (G.2.1 (90)))] → W p l e room_1 s m #[Value.ref b] below meth c H locs cells slots (lw_Z below #[Value.ref b] s) (F0 m 8 ls []) := by
  obtain ⟨hx, hb, hrt, hml, hown, hts0, hX, hbl, hlocks, hgv⟩ := C0
  have hts := hts0
  have C : CallFix p m c code 10 s #[Value.ref b] lw_tbl RL := ⟨hx, hb, hml, hown, hts⟩
  have hbA : ¬ z_A G s.heap.size b := fun h => Nat.not_le.mpr hbl (hloc b h)
  have C0 := (show lw_At p s m meth c b L xs from ⟨hx, hb, hrt, hml, hown, hts0, hX, hbl, hlocks, hgv⟩)
  intro  μ h H locs hP hS ls hl
  unfold f_L_law_b8 at h
  refine lv_aload_n hx hb dL_law_8 rfl (lv_at hl 1 rfl) ?_
  obtain ⟨r1, m2, e3, h⟩ := zb_some h
  refine z_calli hS (va_runS (As := [.ref (G.2.1 (90))]) (rest := []) C (c_L_hangs l G e3 _) (va_cwS 1 hts gL_law_L_hangs rfl rfl rfl hd_L_hangs ⟨Nat.le_of_ble_eq_true rfl, Nat.le_of_ble_eq_true rfl⟩) (z_preS Z hS hP) rfl rfl hl.1 rfl (lv_room (Nat.le_of_ble_eq_true rfl)) dL_law_9 ⟨by show _ ≤ 600130; omega, by show _ ≤ 7301080; omega⟩) (fun H locs hP hS => ?_)
  obtain ⟨hg4, hhg4⟩ := z_g h
  subst hg4
  have h := hhg4
  refine lv_istore_n (lv' := [(2, .int (1)), (0, .ref b), (1, .ref (G.2.1 (90)))]) hx hb dL_law_12 rfl hl (by decide) rfl (fun ls hl => ?_)
  refine lv_iconst (v := 0) hx hb dL_law_13 (by decide) ?_
  refine lv_istore_n (lv' := [(3, .int (0)), (2, .int (1)), (0, .ref b), (1, .ref (G.2.1 (90)))]) hx hb dL_law_14 rfl hl (by decide) rfl (fun ls hl => ?_)
  exact L_L_law_b15 hcc hss C0 Z hloc z_F _ _ h _ _ hP hS ls (lv_sub hl [2, 3, 1, 0] rfl)
