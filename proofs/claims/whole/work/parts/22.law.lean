set_option maxHeartbeats 8000000 in
set_option maxRecDepth 100000 in
theorem L_law_loop {p : Program} {l : Launch} {e : Env} {s : State} {m : MethodId} {below : List Frame} {meth : Method} {c : Code} {G : zG} {b L : Nat} {xs : Nat → Int32} (hst : l.stackTraces = false) (C0 : lw_At p s m meth c b L xs) (Z : z_Z G (z_A G s.heap.size) s) (hloc : ∀ q : Nat, z_A G s.heap.size q → s.heap.size ≤ q) :
    ∀ (n : Nat) (x4 : Int32) (μ : Mm), f_L_law_b23 L xs n x4 μ = some () → ∀ (H : Heap) (locs : List Loc) (cells slots : Nat), cells + n ≤ 601024 → slots + 6 * n ≤ 7293033 → z_P G μ H → va_S (z_A G s.heap.size) s.heap H locs → ∀ ls : Array Slot, lv_has ls 9 [(0, .ref b), (1, .ref (G.2.1 90)), (2, .ref (G.2.1 119)), (3, .ref (G.2.1 125)), (4, .int x4)] →
      W p l e room_1 s m #[Value.ref b] below meth c H locs cells slots (lw_Z below #[Value.ref b] s) (F0 m 23 ls []) := by
  obtain ⟨hx, hb, hrt, hml, hown, hts0, hX, hbl, hlocks, hgv⟩ := C0
  have hts : ∀ w ∈ wsL_law, w.before #[Value.ref b] s = true := fun w h => hts0 w (wsL_law_in w h)
  have C : CallFix p m c code 9 s #[Value.ref b] wsL_law RL := ⟨hx, hb, hml, hown, hts⟩
  have hbA : ¬ z_A G s.heap.size b := fun h => Nat.not_le.mpr hbl (hloc b h)
  intro n
  induction n with
  | zero =>
    intro x4 μ h
    rw [f_L_law_b23] at h
    cases h
  | succ n ih =>
    intro x4 μ h H locs cells slots hcc hss hP hS ls hl
    rw [f_L_law_b23] at h
    refine lv_iload hx hb dL_law_23 (lv_at hl 4 rfl) ?_
    refine lv_aload_n hx hb dL_law_25 rfl (lv_at hl 0 rfl) ?_
    refine va_slen hx hb hX hbl hbA hS dL_law_26 ?_
    refine lv_iconst (v := 4) hx hb dL_law_27 (by decide) ?_
    refine lv_isub hx hb dL_law_28 ?_
    refine lv_icmp_gt (tgt := 1458) hx hb dL_law_29 (by decide) (fun hc1 => ?_) (fun hc1 => ?_)
    · have h := z_ip hc1 h
      refine lv_iconst (v := 1) hx hb dL_law_1458 (by decide) ?_
      refine va_forget (fun q hq => hloc q.base (hS.2.2 q hq)) ?_
      refine W.widen (k := 601024) (n := 7293033) (by omega) (by omega) ?_
      exact lw_ret (d0 := s.drawn) (Drawn.sameBut.refl _ _) hx hb hrt hlocks dL_law_1459
    · have h := z_in hc1 h
      refine lv_aload_n hx hb dL_law_32 rfl (lv_at hl 0 rfl) ?_
      refine lv_iload hx hb dL_law_33 (lv_at hl 4 rfl) ?_
      obtain ⟨hg2, h⟩ := z_g h
      refine va_sld hx hb hX hbl hbA hS hg2 dL_law_35 ?_
      refine lv_bipush (v := 31) hx hb dL_law_36 (by decide) ?_
      refine lv_iand hx hb dL_law_38 ?_
      by_cases hc3 : ((xs (x4).toNatClampNeg) &&& 31) = 0
      · have h := z_ip hc3 h
        refine lv_tableIn (tgt := 160) (off := 121) hx hb dL_law_39 (by rw [hc3]; decide) (by rw [hc3]; decide) (by rw [hc3]; rfl) (by decide) ?_
        refine lv_aload_n hx hb dL_law_160 rfl (lv_at hl 1 rfl) ?_
        refine lv_aload_n hx hb dL_law_161 rfl (lv_at hl 0 rfl) ?_
        refine lv_iload hx hb dL_law_162 (lv_at hl 4 rfl) ?_
        refine lv_iconst (v := 1) hx hb dL_law_164 (by decide) ?_
        refine lv_iadd hx hb dL_law_165 ?_
        obtain ⟨hg4, h⟩ := z_g h
        refine va_sld hx hb hX hbl hbA hS hg4 dL_law_166 ?_
        refine lv_aload_n hx hb dL_law_167 rfl (lv_at hl 0 rfl) ?_
        refine lv_iload hx hb dL_law_168 (lv_at hl 4 rfl) ?_
        refine lv_iconst (v := 2) hx hb dL_law_170 (by decide) ?_
        refine lv_iadd hx hb dL_law_171 ?_
        obtain ⟨hg5, h⟩ := z_g h
        refine va_sld hx hb hX hbl hbA hS hg5 dL_law_172 ?_
        refine lv_aload_n hx hb dL_law_173 rfl (lv_at hl 3 rfl) ?_
        obtain ⟨r6, m7, e8, h⟩ := zb_some h
        refine z_calliK hS (vx_runSW (As := [.ref (G.2.1 (90)), .int ((xs ((x4 + 1)).toNatClampNeg)), .int ((xs ((x4 + 2)).toNatClampNeg)), .ref (G.2.1 (125))]) (rest := []) C (c_L_speak l G hst e8 _) (vx_cwSW 4 hts gL_law_L_speak rfl rfl rfl hd_L_speak ⟨Nat.le_of_ble_eq_true rfl, Nat.le_of_ble_eq_true rfl⟩) (z_preS Z hS hP) rfl rfl hl.1 rfl (lv_room (Nat.le_of_ble_eq_true rfl)) dL_law_174 ⟨by show _ ≤ 601024; omega, by show _ ≤ 7293033; omega⟩) (fun H locs hP hS => ?_)
        refine lv_istore (lv' := [(5, .int (r6)), (0, .ref b), (1, .ref (G.2.1 (90))), (2, .ref (G.2.1 (119))), (3, .ref (G.2.1 (125))), (4, .int (x4))]) hx hb dL_law_177 hl (by decide) rfl (fun ls hl => ?_)
        refine lv_aload_n hx hb dL_law_179 rfl (lv_at hl 3 rfl) ?_
        refine lv_aload_n hx hb dL_law_180 rfl (lv_at hl 1 rfl) ?_
        refine lv_iload hx hb dL_law_181 (lv_at hl 5 rfl) ?_
        refine lv_iconst (v := 1) hx hb dL_law_183 (by decide) ?_
        refine lv_iadd hx hb dL_law_184 ?_
        refine va_sld hx hb hX hbl hbA hS hg4 dL_law_185 ?_
        refine lv_aload_n hx hb dL_law_186 rfl (lv_at hl 1 rfl) ?_
        refine lv_iload hx hb dL_law_187 (lv_at hl 5 rfl) ?_
        refine lv_iconst (v := 2) hx hb dL_law_189 (by decide) ?_
        refine lv_iadd hx hb dL_law_190 ?_
        refine va_sld hx hb hX hbl hbA hS hg5 dL_law_191 ?_
        obtain ⟨r9, m10, e11, h⟩ := zb_some h
        refine z_calli hS (va_runV (As := [.int ((xs ((x4 + 1)).toNatClampNeg)), .int ((xs ((x4 + 2)).toNatClampNeg))]) (rest := []) C (c_X4_speak l G e11 _) (cwV 2 hts gL_law_X4_speak rfl rfl rfl hv_X4_speak ⟨Nat.le_of_ble_eq_true rfl, Nat.le_of_ble_eq_true rfl⟩) (z_preV Z hS hP (by decide) (z_E_119 _) rfl rfl) rfl rfl hl.1 rfl (lv_room (Nat.le_of_ble_eq_true rfl)) dL_law_192 ⟨by show _ ≤ 601024; omega, by show _ ≤ 7293033; omega⟩) (fun H locs hP hS => ?_)
        refine lv_istore (lv' := [(6, .int (r9)), (5, .int (r6)), (0, .ref b), (1, .ref (G.2.1 (90))), (2, .ref (G.2.1 (119))), (3, .ref (G.2.1 (125))), (4, .int (x4))]) hx hb dL_law_195 hl (by decide) rfl (fun ls hl => ?_)
        refine lv_aload_n hx hb dL_law_197 rfl (lv_at hl 4 rfl) ?_
        obtain ⟨r12, m13, e14, h⟩ := zb_some h
        refine z_calli hS (va_runV (As := []) (rest := []) C (c_X4_thrown l G e14 _) (cwV 0 hts gL_law_X4_thrown rfl rfl rfl hv_X4_thrown ⟨Nat.le_of_ble_eq_true rfl, Nat.le_of_ble_eq_true rfl⟩) (z_preV Z hS hP (by decide) (z_E_119 _) rfl rfl) rfl rfl hl.1 rfl (lv_room (Nat.le_of_ble_eq_true rfl)) dL_law_198 ⟨by show _ ≤ 601024; omega, by show _ ≤ 7293033; omega⟩) (fun H locs hP hS => ?_)
        refine lv_iload hx hb dL_law_201 (lv_at hl 1 rfl) ?_
        refine lv_icmp_eq (tgt := 208) hx hb dL_law_203 (by decide) (fun hc15 => ?_) (fun hc15 => ?_)
        · have h := z_ip hc15 h
          refine lv_iload hx hb dL_law_208 (lv_at hl 1 rfl) ?_
          refine lv_if_ne (tgt := 225) hx hb dL_law_210 (by decide) (fun hc16 => ?_) (fun hc16 => ?_)
          · have h := z_in hc16 h
            refine lv_goto (tgt := 1452) hx hb dL_law_225 (by decide) ?_
            refine lv_iinc (v := (x4 + 4)) (lv' := [(4, .int ((x4 + 4))), (6, .int (r9)), (5, .int (r6)), (0, .ref b), (1, .ref (G.2.1 (90))), (2, .ref (G.2.1 (119))), (3, .ref (G.2.1 (125)))]) hx hb dL_law_1452 hl (k := 6) rfl rfl (by decide) rfl (fun ls hl => ?_)
            refine lv_goto (tgt := 23) hx hb dL_law_1455 (by decide) ?_
            exact ih _ _ h _ _ _ _ (by omega) (by omega) hP hS ls (lv_sub hl [3, 4, 5, 6, 0] rfl)
          · have h := z_ip hc16 h
            refine lv_aload_n hx hb dL_law_213 rfl (lv_at hl 5 rfl) ?_
            refine lv_iconst (v := 0) hx hb dL_law_214 (by decide) ?_
            refine z_lald C Z hP dL_law_215 ?_
            refine lv_iload hx hb dL_law_216 (lv_at hl 0 rfl) ?_
            refine lv_i2l (v := ((r9).toInt64)) hx hb dL_law_218 rfl ?_
            refine W.lcmp hx hb dL_law_219 ?_
            refine lv_if_eq (tgt := 225) hx hb dL_law_220 (by decide) (fun hc17 => ?_) (fun hc17 => ?_)
            · have h := z_ip hc17 h
              refine lv_goto (tgt := 1452) hx hb dL_law_225 (by decide) ?_
              refine lv_iinc (v := (x4 + 4)) (lv' := [(4, .int ((x4 + 4))), (6, .int (r9)), (5, .int (r6)), (0, .ref b), (1, .ref (G.2.1 (90))), (2, .ref (G.2.1 (119))), (3, .ref (G.2.1 (125)))]) hx hb dL_law_1452 hl (k := 6) rfl rfl (by decide) rfl (fun ls hl => ?_)
              refine lv_goto (tgt := 23) hx hb dL_law_1455 (by decide) ?_
              exact ih _ _ h _ _ _ _ (by omega) (by omega) hP hS ls (lv_sub hl [3, 4, 5, 6, 0] rfl)
            · have h := z_in hc17 h
              refine lv_iconst (v := 0) hx hb dL_law_223 (by decide) ?_
              cases h
        · have h := z_in hc15 h
          refine lv_iconst (v := 0) hx hb dL_law_206 (by decide) ?_
          cases h
      · have h := z_in hc3 h
        by_cases hc18 : ((xs (x4).toNatClampNeg) &&& 31) = 1
        · have h := z_ip hc18 h
          refine lv_tableIn (tgt := 228) (off := 189) hx hb dL_law_39 (by rw [hc18]; decide) (by rw [hc18]; decide) (by rw [hc18]; rfl) (by decide) ?_
          refine lv_aload_n hx hb dL_law_228 rfl (lv_at hl 1 rfl) ?_
          refine lv_aload_n hx hb dL_law_229 rfl (lv_at hl 0 rfl) ?_
          refine lv_iload hx hb dL_law_230 (lv_at hl 4 rfl) ?_
          refine lv_iconst (v := 1) hx hb dL_law_232 (by decide) ?_
          refine lv_iadd hx hb dL_law_233 ?_
          obtain ⟨hg19, h⟩ := z_g h
          refine va_sld hx hb hX hbl hbA hS hg19 dL_law_234 ?_
          refine lv_aload_n hx hb dL_law_235 rfl (lv_at hl 0 rfl) ?_
          refine lv_iload hx hb dL_law_236 (lv_at hl 4 rfl) ?_
          refine lv_iconst (v := 2) hx hb dL_law_238 (by decide) ?_
          refine lv_iadd hx hb dL_law_239 ?_
          obtain ⟨hg20, h⟩ := z_g h
          refine va_sld hx hb hX hbl hbA hS hg20 dL_law_240 ?_
          refine lv_aload_n hx hb dL_law_241 rfl (lv_at hl 0 rfl) ?_
          refine lv_iload hx hb dL_law_242 (lv_at hl 4 rfl) ?_
          refine lv_iconst (v := 3) hx hb dL_law_244 (by decide) ?_
          refine lv_iadd hx hb dL_law_245 ?_
          obtain ⟨hg21, h⟩ := z_g h
          refine va_sld hx hb hX hbl hbA hS hg21 dL_law_246 ?_
          refine lv_aload_n hx hb dL_law_247 rfl (lv_at hl 3 rfl) ?_
          obtain ⟨r22, m23, e24, h⟩ := zb_some h
          refine z_calliK hS (vx_runSW (As := [.ref (G.2.1 (90)), .int ((xs ((x4 + 1)).toNatClampNeg)), .int ((xs ((x4 + 2)).toNatClampNeg)), .int ((xs ((x4 + 3)).toNatClampNeg)), .ref (G.2.1 (125))]) (rest := []) C (c_L_copy l G hst e24 _) (vx_cwSW 5 hts gL_law_L_copy rfl rfl rfl hd_L_copy ⟨Nat.le_of_ble_eq_true rfl, Nat.le_of_ble_eq_true rfl⟩) (z_preS Z hS hP) rfl rfl hl.1 rfl (lv_room (Nat.le_of_ble_eq_true rfl)) dL_law_248 ⟨by show _ ≤ 601024; omega, by show _ ≤ 7293033; omega⟩) (fun H locs hP hS => ?_)
          refine lv_istore (lv' := [(5, .int (r22)), (0, .ref b), (1, .ref (G.2.1 (90))), (2, .ref (G.2.1 (119))), (3, .ref (G.2.1 (125))), (4, .int (x4))]) hx hb dL_law_251 hl (by decide) rfl (fun ls hl => ?_)
          refine lv_aload_n hx hb dL_law_253 rfl (lv_at hl 3 rfl) ?_
          refine lv_aload_n hx hb dL_law_254 rfl (lv_at hl 1 rfl) ?_
          refine lv_iload hx hb dL_law_255 (lv_at hl 5 rfl) ?_
          refine lv_iconst (v := 1) hx hb dL_law_257 (by decide) ?_
          refine lv_iadd hx hb dL_law_258 ?_
          refine va_sld hx hb hX hbl hbA hS hg19 dL_law_259 ?_
          refine lv_aload_n hx hb dL_law_260 rfl (lv_at hl 1 rfl) ?_
          refine lv_iload hx hb dL_law_261 (lv_at hl 5 rfl) ?_
          refine lv_iconst (v := 2) hx hb dL_law_263 (by decide) ?_
          refine lv_iadd hx hb dL_law_264 ?_
          refine va_sld hx hb hX hbl hbA hS hg20 dL_law_265 ?_
          refine lv_aload_n hx hb dL_law_266 rfl (lv_at hl 1 rfl) ?_
          refine lv_iload hx hb dL_law_267 (lv_at hl 5 rfl) ?_
          refine lv_iconst (v := 3) hx hb dL_law_269 (by decide) ?_
          refine lv_iadd hx hb dL_law_270 ?_
          refine va_sld hx hb hX hbl hbA hS hg21 dL_law_271 ?_
          obtain ⟨r25, m26, e27, h⟩ := zb_some h
          refine z_calli hS (va_runV (As := [.int ((xs ((x4 + 1)).toNatClampNeg)), .int ((xs ((x4 + 2)).toNatClampNeg)), .int ((xs ((x4 + 3)).toNatClampNeg))]) (rest := []) C (c_X4_copy l G e27 _) (cwV 3 hts gL_law_X4_copy rfl rfl rfl hv_X4_copy ⟨Nat.le_of_ble_eq_true rfl, Nat.le_of_ble_eq_true rfl⟩) (z_preV Z hS hP (by decide) (z_E_119 _) rfl rfl) rfl rfl hl.1 rfl (lv_room (Nat.le_of_ble_eq_true rfl)) dL_law_272 ⟨by show _ ≤ 601024; omega, by show _ ≤ 7293033; omega⟩) (fun H locs hP hS => ?_)
          refine lv_istore (lv' := [(6, .int (r25)), (5, .int (r22)), (0, .ref b), (1, .ref (G.2.1 (90))), (2, .ref (G.2.1 (119))), (3, .ref (G.2.1 (125))), (4, .int (x4))]) hx hb dL_law_275 hl (by decide) rfl (fun ls hl => ?_)
          refine lv_aload_n hx hb dL_law_277 rfl (lv_at hl 4 rfl) ?_
          obtain ⟨r28, m29, e30, h⟩ := zb_some h
          refine z_calli hS (va_runV (As := []) (rest := []) C (c_X4_thrown l G e30 _) (cwV 0 hts gL_law_X4_thrown rfl rfl rfl hv_X4_thrown ⟨Nat.le_of_ble_eq_true rfl, Nat.le_of_ble_eq_true rfl⟩) (z_preV Z hS hP (by decide) (z_E_119 _) rfl rfl) rfl rfl hl.1 rfl (lv_room (Nat.le_of_ble_eq_true rfl)) dL_law_278 ⟨by show _ ≤ 601024; omega, by show _ ≤ 7293033; omega⟩) (fun H locs hP hS => ?_)
          refine lv_iload hx hb dL_law_281 (lv_at hl 1 rfl) ?_
          refine lv_icmp_eq (tgt := 288) hx hb dL_law_283 (by decide) (fun hc31 => ?_) (fun hc31 => ?_)
          · have h := z_ip hc31 h
            refine lv_iload hx hb dL_law_288 (lv_at hl 1 rfl) ?_
            refine lv_if_ne (tgt := 305) hx hb dL_law_290 (by decide) (fun hc32 => ?_) (fun hc32 => ?_)
            · have h := z_in hc32 h
              refine lv_goto (tgt := 1452) hx hb dL_law_305 (by decide) ?_
              refine lv_iinc (v := (x4 + 4)) (lv' := [(4, .int ((x4 + 4))), (6, .int (r25)), (5, .int (r22)), (0, .ref b), (1, .ref (G.2.1 (90))), (2, .ref (G.2.1 (119))), (3, .ref (G.2.1 (125)))]) hx hb dL_law_1452 hl (k := 6) rfl rfl (by decide) rfl (fun ls hl => ?_)
              refine lv_goto (tgt := 23) hx hb dL_law_1455 (by decide) ?_
              exact ih _ _ h _ _ _ _ (by omega) (by omega) hP hS ls (lv_sub hl [3, 4, 5, 6, 0] rfl)
            · have h := z_ip hc32 h
              refine lv_aload_n hx hb dL_law_293 rfl (lv_at hl 5 rfl) ?_
              refine lv_iconst (v := 0) hx hb dL_law_294 (by decide) ?_
              refine z_lald C Z hP dL_law_295 ?_
              refine lv_iload hx hb dL_law_296 (lv_at hl 0 rfl) ?_
              refine lv_i2l (v := ((r25).toInt64)) hx hb dL_law_298 rfl ?_
              refine W.lcmp hx hb dL_law_299 ?_
              refine lv_if_eq (tgt := 305) hx hb dL_law_300 (by decide) (fun hc33 => ?_) (fun hc33 => ?_)
              · have h := z_ip hc33 h
                refine lv_goto (tgt := 1452) hx hb dL_law_305 (by decide) ?_
                refine lv_iinc (v := (x4 + 4)) (lv' := [(4, .int ((x4 + 4))), (6, .int (r25)), (5, .int (r22)), (0, .ref b), (1, .ref (G.2.1 (90))), (2, .ref (G.2.1 (119))), (3, .ref (G.2.1 (125)))]) hx hb dL_law_1452 hl (k := 6) rfl rfl (by decide) rfl (fun ls hl => ?_)
                refine lv_goto (tgt := 23) hx hb dL_law_1455 (by decide) ?_
                exact ih _ _ h _ _ _ _ (by omega) (by omega) hP hS ls (lv_sub hl [3, 4, 5, 6, 0] rfl)
              · have h := z_in hc33 h
                refine lv_iconst (v := 0) hx hb dL_law_303 (by decide) ?_
                cases h
          · have h := z_in hc31 h
            refine lv_iconst (v := 0) hx hb dL_law_286 (by decide) ?_
            cases h
        · have h := z_in hc18 h
          by_cases hc34 : ((xs (x4).toNatClampNeg) &&& 31) = 2
          · have h := z_ip hc34 h
            refine lv_tableIn (tgt := 308) (off := 269) hx hb dL_law_39 (by rw [hc34]; decide) (by rw [hc34]; decide) (by rw [hc34]; rfl) (by decide) ?_
            refine lv_aload_n hx hb dL_law_308 rfl (lv_at hl 1 rfl) ?_
            refine lv_aload_n hx hb dL_law_309 rfl (lv_at hl 0 rfl) ?_
            refine lv_iload hx hb dL_law_310 (lv_at hl 4 rfl) ?_
            refine lv_iconst (v := 1) hx hb dL_law_312 (by decide) ?_
            refine lv_iadd hx hb dL_law_313 ?_
            obtain ⟨hg35, h⟩ := z_g h
            refine va_sld hx hb hX hbl hbA hS hg35 dL_law_314 ?_
            refine lv_aload_n hx hb dL_law_315 rfl (lv_at hl 3 rfl) ?_
            obtain ⟨r36, m37, e38, h⟩ := zb_some h
            refine z_calliK hS (vx_runSW (As := [.ref (G.2.1 (90)), .int ((xs ((x4 + 1)).toNatClampNeg)), .ref (G.2.1 (125))]) (rest := []) C (c_L_play l G hst e38 _) (vx_cwSW 3 hts gL_law_L_play rfl rfl rfl hd_L_play ⟨Nat.le_of_ble_eq_true rfl, Nat.le_of_ble_eq_true rfl⟩) (z_preS Z hS hP) rfl rfl hl.1 rfl (lv_room (Nat.le_of_ble_eq_true rfl)) dL_law_316 ⟨by show _ ≤ 601024; omega, by show _ ≤ 7293033; omega⟩) (fun H locs hP hS => ?_)
            refine lv_istore (lv' := [(5, .int (r36)), (0, .ref b), (1, .ref (G.2.1 (90))), (2, .ref (G.2.1 (119))), (3, .ref (G.2.1 (125))), (4, .int (x4))]) hx hb dL_law_319 hl (by decide) rfl (fun ls hl => ?_)
            refine lv_aload_n hx hb dL_law_321 rfl (lv_at hl 3 rfl) ?_
            refine lv_aload_n hx hb dL_law_322 rfl (lv_at hl 1 rfl) ?_
            refine lv_iload hx hb dL_law_323 (lv_at hl 5 rfl) ?_
            refine lv_iconst (v := 1) hx hb dL_law_325 (by decide) ?_
            refine lv_iadd hx hb dL_law_326 ?_
            refine va_sld hx hb hX hbl hbA hS hg35 dL_law_327 ?_
            obtain ⟨r39, m40, e41, h⟩ := zb_some h
            refine z_calli hS (va_runV (As := [.int ((xs ((x4 + 1)).toNatClampNeg))]) (rest := []) C (c_X4_play l G e41 _) (cwV 1 hts gL_law_X4_play rfl rfl rfl hv_X4_play ⟨Nat.le_of_ble_eq_true rfl, Nat.le_of_ble_eq_true rfl⟩) (z_preV Z hS hP (by decide) (z_E_119 _) rfl rfl) rfl rfl hl.1 rfl (lv_room (Nat.le_of_ble_eq_true rfl)) dL_law_328 ⟨by show _ ≤ 601024; omega, by show _ ≤ 7293033; omega⟩) (fun H locs hP hS => ?_)
            refine lv_istore (lv' := [(6, .int (r39)), (5, .int (r36)), (0, .ref b), (1, .ref (G.2.1 (90))), (2, .ref (G.2.1 (119))), (3, .ref (G.2.1 (125))), (4, .int (x4))]) hx hb dL_law_331 hl (by decide) rfl (fun ls hl => ?_)
            refine lv_aload_n hx hb dL_law_333 rfl (lv_at hl 4 rfl) ?_
            obtain ⟨r42, m43, e44, h⟩ := zb_some h
            refine z_calli hS (va_runV (As := []) (rest := []) C (c_X4_thrown l G e44 _) (cwV 0 hts gL_law_X4_thrown rfl rfl rfl hv_X4_thrown ⟨Nat.le_of_ble_eq_true rfl, Nat.le_of_ble_eq_true rfl⟩) (z_preV Z hS hP (by decide) (z_E_119 _) rfl rfl) rfl rfl hl.1 rfl (lv_room (Nat.le_of_ble_eq_true rfl)) dL_law_334 ⟨by show _ ≤ 601024; omega, by show _ ≤ 7293033; omega⟩) (fun H locs hP hS => ?_)
            refine lv_iload hx hb dL_law_337 (lv_at hl 1 rfl) ?_
            refine lv_icmp_eq (tgt := 344) hx hb dL_law_339 (by decide) (fun hc45 => ?_) (fun hc45 => ?_)
            · have h := z_ip hc45 h
              refine lv_iload hx hb dL_law_344 (lv_at hl 1 rfl) ?_
              refine lv_if_ne (tgt := 361) hx hb dL_law_346 (by decide) (fun hc46 => ?_) (fun hc46 => ?_)
              · have h := z_in hc46 h
                refine lv_goto (tgt := 1452) hx hb dL_law_361 (by decide) ?_
                refine lv_iinc (v := (x4 + 4)) (lv' := [(4, .int ((x4 + 4))), (6, .int (r39)), (5, .int (r36)), (0, .ref b), (1, .ref (G.2.1 (90))), (2, .ref (G.2.1 (119))), (3, .ref (G.2.1 (125)))]) hx hb dL_law_1452 hl (k := 6) rfl rfl (by decide) rfl (fun ls hl => ?_)
                refine lv_goto (tgt := 23) hx hb dL_law_1455 (by decide) ?_
                exact ih _ _ h _ _ _ _ (by omega) (by omega) hP hS ls (lv_sub hl [3, 4, 5, 6, 0] rfl)
              · have h := z_ip hc46 h
                refine lv_aload_n hx hb dL_law_349 rfl (lv_at hl 5 rfl) ?_
                refine lv_iconst (v := 0) hx hb dL_law_350 (by decide) ?_
                refine z_lald C Z hP dL_law_351 ?_
                refine lv_iload hx hb dL_law_352 (lv_at hl 0 rfl) ?_
                refine lv_i2l (v := ((r39).toInt64)) hx hb dL_law_354 rfl ?_
                refine W.lcmp hx hb dL_law_355 ?_
                refine lv_if_eq (tgt := 361) hx hb dL_law_356 (by decide) (fun hc47 => ?_) (fun hc47 => ?_)
                · have h := z_ip hc47 h
                  refine lv_goto (tgt := 1452) hx hb dL_law_361 (by decide) ?_
                  refine lv_iinc (v := (x4 + 4)) (lv' := [(4, .int ((x4 + 4))), (6, .int (r39)), (5, .int (r36)), (0, .ref b), (1, .ref (G.2.1 (90))), (2, .ref (G.2.1 (119))), (3, .ref (G.2.1 (125)))]) hx hb dL_law_1452 hl (k := 6) rfl rfl (by decide) rfl (fun ls hl => ?_)
                  refine lv_goto (tgt := 23) hx hb dL_law_1455 (by decide) ?_
                  exact ih _ _ h _ _ _ _ (by omega) (by omega) hP hS ls (lv_sub hl [3, 4, 5, 6, 0] rfl)
                · have h := z_in hc47 h
                  refine lv_iconst (v := 0) hx hb dL_law_359 (by decide) ?_
                  cases h
            · have h := z_in hc45 h
              refine lv_iconst (v := 0) hx hb dL_law_342 (by decide) ?_
              cases h
          · have h := z_in hc34 h
            by_cases hc48 : ((xs (x4).toNatClampNeg) &&& 31) = 3
            · have h := z_ip hc48 h
              refine lv_tableIn (tgt := 364) (off := 325) hx hb dL_law_39 (by rw [hc48]; decide) (by rw [hc48]; decide) (by rw [hc48]; rfl) (by decide) ?_
              refine lv_aload_n hx hb dL_law_364 rfl (lv_at hl 1 rfl) ?_
              refine lv_aload_n hx hb dL_law_365 rfl (lv_at hl 0 rfl) ?_
              refine lv_iload hx hb dL_law_366 (lv_at hl 4 rfl) ?_
              refine lv_iconst (v := 1) hx hb dL_law_368 (by decide) ?_
              refine lv_iadd hx hb dL_law_369 ?_
              obtain ⟨hg49, h⟩ := z_g h
              refine va_sld hx hb hX hbl hbA hS hg49 dL_law_370 ?_
              refine lv_aload_n hx hb dL_law_371 rfl (lv_at hl 3 rfl) ?_
              obtain ⟨r50, m51, e52, h⟩ := zb_some h
              refine z_calliK hS (vx_runSW (As := [.ref (G.2.1 (90)), .int ((xs ((x4 + 1)).toNatClampNeg)), .ref (G.2.1 (125))]) (rest := []) C (c_L_shave l G hst e52 _) (vx_cwSW 3 hts gL_law_L_shave rfl rfl rfl hd_L_shave ⟨Nat.le_of_ble_eq_true rfl, Nat.le_of_ble_eq_true rfl⟩) (z_preS Z hS hP) rfl rfl hl.1 rfl (lv_room (Nat.le_of_ble_eq_true rfl)) dL_law_372 ⟨by show _ ≤ 601024; omega, by show _ ≤ 7293033; omega⟩) (fun H locs hP hS => ?_)
              refine lv_istore (lv' := [(5, .int (r50)), (0, .ref b), (1, .ref (G.2.1 (90))), (2, .ref (G.2.1 (119))), (3, .ref (G.2.1 (125))), (4, .int (x4))]) hx hb dL_law_375 hl (by decide) rfl (fun ls hl => ?_)
              refine lv_aload_n hx hb dL_law_377 rfl (lv_at hl 3 rfl) ?_
              refine lv_aload_n hx hb dL_law_378 rfl (lv_at hl 1 rfl) ?_
              refine lv_iload hx hb dL_law_379 (lv_at hl 5 rfl) ?_
              refine lv_iconst (v := 1) hx hb dL_law_381 (by decide) ?_
              refine lv_iadd hx hb dL_law_382 ?_
              refine va_sld hx hb hX hbl hbA hS hg49 dL_law_383 ?_
              obtain ⟨r53, m54, e55, h⟩ := zb_some h
              refine z_calli hS (va_runV (As := [.int ((xs ((x4 + 1)).toNatClampNeg))]) (rest := []) C (c_X4_shave l G e55 _) (cwV 1 hts gL_law_X4_shave rfl rfl rfl hv_X4_shave ⟨Nat.le_of_ble_eq_true rfl, Nat.le_of_ble_eq_true rfl⟩) (z_preV Z hS hP (by decide) (z_E_119 _) rfl rfl) rfl rfl hl.1 rfl (lv_room (Nat.le_of_ble_eq_true rfl)) dL_law_384 ⟨by show _ ≤ 601024; omega, by show _ ≤ 7293033; omega⟩) (fun H locs hP hS => ?_)
              refine lv_istore (lv' := [(6, .int (r53)), (5, .int (r50)), (0, .ref b), (1, .ref (G.2.1 (90))), (2, .ref (G.2.1 (119))), (3, .ref (G.2.1 (125))), (4, .int (x4))]) hx hb dL_law_387 hl (by decide) rfl (fun ls hl => ?_)
              refine lv_aload_n hx hb dL_law_389 rfl (lv_at hl 4 rfl) ?_
              obtain ⟨r56, m57, e58, h⟩ := zb_some h
              refine z_calli hS (va_runV (As := []) (rest := []) C (c_X4_thrown l G e58 _) (cwV 0 hts gL_law_X4_thrown rfl rfl rfl hv_X4_thrown ⟨Nat.le_of_ble_eq_true rfl, Nat.le_of_ble_eq_true rfl⟩) (z_preV Z hS hP (by decide) (z_E_119 _) rfl rfl) rfl rfl hl.1 rfl (lv_room (Nat.le_of_ble_eq_true rfl)) dL_law_390 ⟨by show _ ≤ 601024; omega, by show _ ≤ 7293033; omega⟩) (fun H locs hP hS => ?_)
              refine lv_iload hx hb dL_law_393 (lv_at hl 1 rfl) ?_
              refine lv_icmp_eq (tgt := 400) hx hb dL_law_395 (by decide) (fun hc59 => ?_) (fun hc59 => ?_)
              · have h := z_ip hc59 h
                refine lv_iload hx hb dL_law_400 (lv_at hl 1 rfl) ?_
                refine lv_if_ne (tgt := 417) hx hb dL_law_402 (by decide) (fun hc60 => ?_) (fun hc60 => ?_)
                · have h := z_in hc60 h
                  refine lv_goto (tgt := 1452) hx hb dL_law_417 (by decide) ?_
                  refine lv_iinc (v := (x4 + 4)) (lv' := [(4, .int ((x4 + 4))), (6, .int (r53)), (5, .int (r50)), (0, .ref b), (1, .ref (G.2.1 (90))), (2, .ref (G.2.1 (119))), (3, .ref (G.2.1 (125)))]) hx hb dL_law_1452 hl (k := 6) rfl rfl (by decide) rfl (fun ls hl => ?_)
                  refine lv_goto (tgt := 23) hx hb dL_law_1455 (by decide) ?_
                  exact ih _ _ h _ _ _ _ (by omega) (by omega) hP hS ls (lv_sub hl [3, 4, 5, 6, 0] rfl)
                · have h := z_ip hc60 h
                  refine lv_aload_n hx hb dL_law_405 rfl (lv_at hl 5 rfl) ?_
                  refine lv_iconst (v := 0) hx hb dL_law_406 (by decide) ?_
                  refine z_lald C Z hP dL_law_407 ?_
                  refine lv_iload hx hb dL_law_408 (lv_at hl 0 rfl) ?_
                  refine lv_i2l (v := ((r53).toInt64)) hx hb dL_law_410 rfl ?_
                  refine W.lcmp hx hb dL_law_411 ?_
                  refine lv_if_eq (tgt := 417) hx hb dL_law_412 (by decide) (fun hc61 => ?_) (fun hc61 => ?_)
                  · have h := z_ip hc61 h
                    refine lv_goto (tgt := 1452) hx hb dL_law_417 (by decide) ?_
                    refine lv_iinc (v := (x4 + 4)) (lv' := [(4, .int ((x4 + 4))), (6, .int (r53)), (5, .int (r50)), (0, .ref b), (1, .ref (G.2.1 (90))), (2, .ref (G.2.1 (119))), (3, .ref (G.2.1 (125)))]) hx hb dL_law_1452 hl (k := 6) rfl rfl (by decide) rfl (fun ls hl => ?_)
                    refine lv_goto (tgt := 23) hx hb dL_law_1455 (by decide) ?_
                    exact ih _ _ h _ _ _ _ (by omega) (by omega) hP hS ls (lv_sub hl [3, 4, 5, 6, 0] rfl)
                  · have h := z_in hc61 h
                    refine lv_iconst (v := 0) hx hb dL_law_415 (by decide) ?_
                    cases h
              · have h := z_in hc59 h
                refine lv_iconst (v := 0) hx hb dL_law_398 (by decide) ?_
                cases h
            · have h := z_in hc48 h
              by_cases hc62 : ((xs (x4).toNatClampNeg) &&& 31) = 4
              · have h := z_ip hc62 h
                refine lv_tableIn (tgt := 420) (off := 381) hx hb dL_law_39 (by rw [hc62]; decide) (by rw [hc62]; decide) (by rw [hc62]; rfl) (by decide) ?_
                refine lv_aload_n hx hb dL_law_420 rfl (lv_at hl 1 rfl) ?_
                obtain ⟨r63, m64, e65, h⟩ := zb_some h
                refine z_calli hS (va_runV (As := []) (rest := []) C (c_X3_wind l G e65 _) (cwV 0 hts gL_law_X3_wind rfl rfl rfl hv_X3_wind ⟨Nat.le_of_ble_eq_true rfl, Nat.le_of_ble_eq_true rfl⟩) (z_preV Z hS hP (by decide) (z_E_90 _) rfl rfl) rfl rfl hl.1 rfl (lv_room (Nat.le_of_ble_eq_true rfl)) dL_law_421 ⟨by show _ ≤ 601024; omega, by show _ ≤ 7293033; omega⟩) (fun H locs hP hS => ?_)
                refine lv_aload_n hx hb dL_law_424 rfl (lv_at hl 2 rfl) ?_
                obtain ⟨r66, m67, e68, h⟩ := zb_some h
                refine z_calli hS (va_runV (As := []) (rest := [.int (r63)]) C (c_X4_wind l G e68 _) (cwV 0 hts gL_law_X4_wind rfl rfl rfl hv_X4_wind ⟨Nat.le_of_ble_eq_true rfl, Nat.le_of_ble_eq_true rfl⟩) (z_preV Z hS hP (by decide) (z_E_119 _) rfl rfl) rfl rfl hl.1 rfl (lv_room (Nat.le_of_ble_eq_true rfl)) dL_law_425 ⟨by show _ ≤ 601024; omega, by show _ ≤ 7293033; omega⟩) (fun H locs hP hS => ?_)
                refine lv_icmp_eq (tgt := 1452) hx hb dL_law_428 (by decide) (fun hc69 => ?_) (fun hc69 => ?_)
                · have h := z_ip hc69 h
                  refine lv_iinc (v := (x4 + 4)) (lv' := [(4, .int ((x4 + 4))), (0, .ref b), (1, .ref (G.2.1 (90))), (2, .ref (G.2.1 (119))), (3, .ref (G.2.1 (125)))]) hx hb dL_law_1452 hl (k := 4) rfl rfl (by decide) rfl (fun ls hl => ?_)
                  refine lv_goto (tgt := 23) hx hb dL_law_1455 (by decide) ?_
                  exact ih _ _ h _ _ _ _ (by omega) (by omega) hP hS ls (lv_sub hl [1, 2, 3, 4, 0] rfl)
                · have h := z_in hc69 h
                  refine lv_iconst (v := 0) hx hb dL_law_431 (by decide) ?_
                  cases h
              · have h := z_in hc62 h
                by_cases hc70 : ((xs (x4).toNatClampNeg) &&& 31) = 5
                · have h := z_ip hc70 h
                  refine lv_tableIn (tgt := 433) (off := 394) hx hb dL_law_39 (by rw [hc70]; decide) (by rw [hc70]; decide) (by rw [hc70]; rfl) (by decide) ?_
                  refine lv_aload_n hx hb dL_law_433 rfl (lv_at hl 1 rfl) ?_
                  obtain ⟨r71, m72, e73, h⟩ := zb_some h
                  refine z_calli hS (va_runV (As := []) (rest := []) C (c_X3_sharpen l G e73 _) (cwV 0 hts gL_law_X3_sharpen rfl rfl rfl hv_X3_sharpen ⟨Nat.le_of_ble_eq_true rfl, Nat.le_of_ble_eq_true rfl⟩) (z_preV Z hS hP (by decide) (z_E_90 _) rfl rfl) rfl rfl hl.1 rfl (lv_room (Nat.le_of_ble_eq_true rfl)) dL_law_434 ⟨by show _ ≤ 601024; omega, by show _ ≤ 7293033; omega⟩) (fun H locs hP hS => ?_)
                  refine lv_aload_n hx hb dL_law_437 rfl (lv_at hl 2 rfl) ?_
                  obtain ⟨r74, m75, e76, h⟩ := zb_some h
                  refine z_calli hS (va_runV (As := []) (rest := [.int (r71)]) C (c_X4_sharpen l G e76 _) (cwV 0 hts gL_law_X4_sharpen rfl rfl rfl hv_X4_sharpen ⟨Nat.le_of_ble_eq_true rfl, Nat.le_of_ble_eq_true rfl⟩) (z_preV Z hS hP (by decide) (z_E_119 _) rfl rfl) rfl rfl hl.1 rfl (lv_room (Nat.le_of_ble_eq_true rfl)) dL_law_438 ⟨by show _ ≤ 601024; omega, by show _ ≤ 7293033; omega⟩) (fun H locs hP hS => ?_)
                  refine lv_icmp_eq (tgt := 1452) hx hb dL_law_441 (by decide) (fun hc77 => ?_) (fun hc77 => ?_)
                  · have h := z_ip hc77 h
                    refine lv_iinc (v := (x4 + 4)) (lv' := [(4, .int ((x4 + 4))), (0, .ref b), (1, .ref (G.2.1 (90))), (2, .ref (G.2.1 (119))), (3, .ref (G.2.1 (125)))]) hx hb dL_law_1452 hl (k := 4) rfl rfl (by decide) rfl (fun ls hl => ?_)
                    refine lv_goto (tgt := 23) hx hb dL_law_1455 (by decide) ?_
                    exact ih _ _ h _ _ _ _ (by omega) (by omega) hP hS ls (lv_sub hl [1, 2, 3, 4, 0] rfl)
                  · have h := z_in hc77 h
                    refine lv_iconst (v := 0) hx hb dL_law_444 (by decide) ?_
                    cases h
                · have h := z_in hc70 h
                  by_cases hc78 : ((xs (x4).toNatClampNeg) &&& 31) = 6
                  · have h := z_ip hc78 h
                    refine lv_tableIn (tgt := 446) (off := 407) hx hb dL_law_39 (by rw [hc78]; decide) (by rw [hc78]; decide) (by rw [hc78]; rfl) (by decide) ?_
                    refine lv_aload_n hx hb dL_law_446 rfl (lv_at hl 1 rfl) ?_
                    refine lv_aload_n hx hb dL_law_447 rfl (lv_at hl 0 rfl) ?_
                    refine lv_iload hx hb dL_law_448 (lv_at hl 4 rfl) ?_
                    refine lv_iconst (v := 1) hx hb dL_law_450 (by decide) ?_
                    refine lv_iadd hx hb dL_law_451 ?_
                    obtain ⟨hg79, h⟩ := z_g h
                    refine va_sld hx hb hX hbl hbA hS hg79 dL_law_452 ?_
                    refine lv_aload_n hx hb dL_law_453 rfl (lv_at hl 0 rfl) ?_
                    refine lv_iload hx hb dL_law_454 (lv_at hl 4 rfl) ?_
                    refine lv_iconst (v := 2) hx hb dL_law_456 (by decide) ?_
                    refine lv_iadd hx hb dL_law_457 ?_
                    obtain ⟨hg80, h⟩ := z_g h
                    refine va_sld hx hb hX hbl hbA hS hg80 dL_law_458 ?_
                    refine lv_aload_n hx hb dL_law_459 rfl (lv_at hl 3 rfl) ?_
                    obtain ⟨r81, m82, e83, h⟩ := zb_some h
                    refine z_calliK hS (vx_runSW (As := [.ref (G.2.1 (90)), .int ((xs ((x4 + 1)).toNatClampNeg)), .int ((xs ((x4 + 2)).toNatClampNeg)), .ref (G.2.1 (125))]) (rest := []) C (c_L_renew l G hst e83 _) (vx_cwSW 4 hts gL_law_L_renew rfl rfl rfl hd_L_renew ⟨Nat.le_of_ble_eq_true rfl, Nat.le_of_ble_eq_true rfl⟩) (z_preS Z hS hP) rfl rfl hl.1 rfl (lv_room (Nat.le_of_ble_eq_true rfl)) dL_law_460 ⟨by show _ ≤ 601024; omega, by show _ ≤ 7293033; omega⟩) (fun H locs hP hS => ?_)
                    refine lv_istore (lv' := [(5, .int (r81)), (0, .ref b), (1, .ref (G.2.1 (90))), (2, .ref (G.2.1 (119))), (3, .ref (G.2.1 (125))), (4, .int (x4))]) hx hb dL_law_463 hl (by decide) rfl (fun ls hl => ?_)
                    refine lv_aload_n hx hb dL_law_465 rfl (lv_at hl 3 rfl) ?_
                    refine lv_aload_n hx hb dL_law_466 rfl (lv_at hl 1 rfl) ?_
                    refine lv_iload hx hb dL_law_467 (lv_at hl 5 rfl) ?_
                    refine lv_iconst (v := 1) hx hb dL_law_469 (by decide) ?_
                    refine lv_iadd hx hb dL_law_470 ?_
                    refine va_sld hx hb hX hbl hbA hS hg79 dL_law_471 ?_
                    refine lv_aload_n hx hb dL_law_472 rfl (lv_at hl 1 rfl) ?_
                    refine lv_iload hx hb dL_law_473 (lv_at hl 5 rfl) ?_
                    refine lv_iconst (v := 2) hx hb dL_law_475 (by decide) ?_
                    refine lv_iadd hx hb dL_law_476 ?_
                    refine va_sld hx hb hX hbl hbA hS hg80 dL_law_477 ?_
                    obtain ⟨r84, m85, e86, h⟩ := zb_some h
                    refine z_calli hS (va_runV (As := [.int ((xs ((x4 + 1)).toNatClampNeg)), .int ((xs ((x4 + 2)).toNatClampNeg))]) (rest := []) C (c_X4_renew l G e86 _) (cwV 2 hts gL_law_X4_renew rfl rfl rfl hv_X4_renew ⟨Nat.le_of_ble_eq_true rfl, Nat.le_of_ble_eq_true rfl⟩) (z_preV Z hS hP (by decide) (z_E_119 _) rfl rfl) rfl rfl hl.1 rfl (lv_room (Nat.le_of_ble_eq_true rfl)) dL_law_478 ⟨by show _ ≤ 601024; omega, by show _ ≤ 7293033; omega⟩) (fun H locs hP hS => ?_)
                    refine lv_istore (lv' := [(6, .int (r84)), (5, .int (r81)), (0, .ref b), (1, .ref (G.2.1 (90))), (2, .ref (G.2.1 (119))), (3, .ref (G.2.1 (125))), (4, .int (x4))]) hx hb dL_law_481 hl (by decide) rfl (fun ls hl => ?_)
                    refine lv_aload_n hx hb dL_law_483 rfl (lv_at hl 4 rfl) ?_
                    obtain ⟨r87, m88, e89, h⟩ := zb_some h
                    refine z_calli hS (va_runV (As := []) (rest := []) C (c_X4_thrown l G e89 _) (cwV 0 hts gL_law_X4_thrown rfl rfl rfl hv_X4_thrown ⟨Nat.le_of_ble_eq_true rfl, Nat.le_of_ble_eq_true rfl⟩) (z_preV Z hS hP (by decide) (z_E_119 _) rfl rfl) rfl rfl hl.1 rfl (lv_room (Nat.le_of_ble_eq_true rfl)) dL_law_484 ⟨by show _ ≤ 601024; omega, by show _ ≤ 7293033; omega⟩) (fun H locs hP hS => ?_)
                    refine lv_iload hx hb dL_law_487 (lv_at hl 1 rfl) ?_
                    refine lv_icmp_eq (tgt := 494) hx hb dL_law_489 (by decide) (fun hc90 => ?_) (fun hc90 => ?_)
                    · have h := z_ip hc90 h
                      refine lv_iload hx hb dL_law_494 (lv_at hl 1 rfl) ?_
                      refine lv_if_ne (tgt := 511) hx hb dL_law_496 (by decide) (fun hc91 => ?_) (fun hc91 => ?_)
                      · have h := z_in hc91 h
                        refine lv_goto (tgt := 1452) hx hb dL_law_511 (by decide) ?_
                        refine lv_iinc (v := (x4 + 4)) (lv' := [(4, .int ((x4 + 4))), (6, .int (r84)), (5, .int (r81)), (0, .ref b), (1, .ref (G.2.1 (90))), (2, .ref (G.2.1 (119))), (3, .ref (G.2.1 (125)))]) hx hb dL_law_1452 hl (k := 6) rfl rfl (by decide) rfl (fun ls hl => ?_)
                        refine lv_goto (tgt := 23) hx hb dL_law_1455 (by decide) ?_
                        exact ih _ _ h _ _ _ _ (by omega) (by omega) hP hS ls (lv_sub hl [3, 4, 5, 6, 0] rfl)
                      · have h := z_ip hc91 h
                        refine lv_aload_n hx hb dL_law_499 rfl (lv_at hl 5 rfl) ?_
                        refine lv_iconst (v := 0) hx hb dL_law_500 (by decide) ?_
                        refine z_lald C Z hP dL_law_501 ?_
                        refine lv_iload hx hb dL_law_502 (lv_at hl 0 rfl) ?_
                        refine lv_i2l (v := ((r84).toInt64)) hx hb dL_law_504 rfl ?_
                        refine W.lcmp hx hb dL_law_505 ?_
                        refine lv_if_eq (tgt := 511) hx hb dL_law_506 (by decide) (fun hc92 => ?_) (fun hc92 => ?_)
                        · have h := z_ip hc92 h
                          refine lv_goto (tgt := 1452) hx hb dL_law_511 (by decide) ?_
                          refine lv_iinc (v := (x4 + 4)) (lv' := [(4, .int ((x4 + 4))), (6, .int (r84)), (5, .int (r81)), (0, .ref b), (1, .ref (G.2.1 (90))), (2, .ref (G.2.1 (119))), (3, .ref (G.2.1 (125)))]) hx hb dL_law_1452 hl (k := 6) rfl rfl (by decide) rfl (fun ls hl => ?_)
                          refine lv_goto (tgt := 23) hx hb dL_law_1455 (by decide) ?_
                          exact ih _ _ h _ _ _ _ (by omega) (by omega) hP hS ls (lv_sub hl [3, 4, 5, 6, 0] rfl)
                        · have h := z_in hc92 h
                          refine lv_iconst (v := 0) hx hb dL_law_509 (by decide) ?_
                          cases h
                    · have h := z_in hc90 h
                      refine lv_iconst (v := 0) hx hb dL_law_492 (by decide) ?_
                      cases h
                  · have h := z_in hc78 h
                    by_cases hc93 : ((xs (x4).toNatClampNeg) &&& 31) = 7
                    · have h := z_ip hc93 h
                      refine lv_tableIn (tgt := 514) (off := 475) hx hb dL_law_39 (by rw [hc93]; decide) (by rw [hc93]; decide) (by rw [hc93]; rfl) (by decide) ?_
                      refine lv_aload_n hx hb dL_law_514 rfl (lv_at hl 1 rfl) ?_
                      refine lv_aload_n hx hb dL_law_515 rfl (lv_at hl 0 rfl) ?_
                      refine lv_iload hx hb dL_law_516 (lv_at hl 4 rfl) ?_
                      refine lv_iconst (v := 1) hx hb dL_law_518 (by decide) ?_
                      refine lv_iadd hx hb dL_law_519 ?_
                      obtain ⟨hg94, h⟩ := z_g h
                      refine va_sld hx hb hX hbl hbA hS hg94 dL_law_520 ?_
                      refine lv_aload_n hx hb dL_law_521 rfl (lv_at hl 3 rfl) ?_
                      obtain ⟨r95, m96, e97, h⟩ := zb_some h
                      refine z_calliK hS (vx_runSW (As := [.ref (G.2.1 (90)), .int ((xs ((x4 + 1)).toNatClampNeg)), .ref (G.2.1 (125))]) (rest := []) C (c_L_set l G hst e97 _) (vx_cwSW 3 hts gL_law_L_set rfl rfl rfl hd_L_set ⟨Nat.le_of_ble_eq_true rfl, Nat.le_of_ble_eq_true rfl⟩) (z_preS Z hS hP) rfl rfl hl.1 rfl (lv_room (Nat.le_of_ble_eq_true rfl)) dL_law_522 ⟨by show _ ≤ 601024; omega, by show _ ≤ 7293033; omega⟩) (fun H locs hP hS => ?_)
                      refine lv_istore (lv' := [(5, .int (r95)), (0, .ref b), (1, .ref (G.2.1 (90))), (2, .ref (G.2.1 (119))), (3, .ref (G.2.1 (125))), (4, .int (x4))]) hx hb dL_law_525 hl (by decide) rfl (fun ls hl => ?_)
                      refine lv_aload_n hx hb dL_law_527 rfl (lv_at hl 3 rfl) ?_
                      refine lv_aload_n hx hb dL_law_528 rfl (lv_at hl 1 rfl) ?_
                      refine lv_iload hx hb dL_law_529 (lv_at hl 5 rfl) ?_
                      refine lv_iconst (v := 1) hx hb dL_law_531 (by decide) ?_
                      refine lv_iadd hx hb dL_law_532 ?_
                      refine va_sld hx hb hX hbl hbA hS hg94 dL_law_533 ?_
                      obtain ⟨r98, m99, e100, h⟩ := zb_some h
                      refine z_calli hS (va_runV (As := [.int ((xs ((x4 + 1)).toNatClampNeg))]) (rest := []) C (c_X4_set l G e100 _) (cwV 1 hts gL_law_X4_set rfl rfl rfl hv_X4_set ⟨Nat.le_of_ble_eq_true rfl, Nat.le_of_ble_eq_true rfl⟩) (z_preV Z hS hP (by decide) (z_E_119 _) rfl rfl) rfl rfl hl.1 rfl (lv_room (Nat.le_of_ble_eq_true rfl)) dL_law_534 ⟨by show _ ≤ 601024; omega, by show _ ≤ 7293033; omega⟩) (fun H locs hP hS => ?_)
                      refine lv_istore (lv' := [(6, .int (r98)), (5, .int (r95)), (0, .ref b), (1, .ref (G.2.1 (90))), (2, .ref (G.2.1 (119))), (3, .ref (G.2.1 (125))), (4, .int (x4))]) hx hb dL_law_537 hl (by decide) rfl (fun ls hl => ?_)
                      refine lv_aload_n hx hb dL_law_539 rfl (lv_at hl 4 rfl) ?_
                      obtain ⟨r101, m102, e103, h⟩ := zb_some h
                      refine z_calli hS (va_runV (As := []) (rest := []) C (c_X4_thrown l G e103 _) (cwV 0 hts gL_law_X4_thrown rfl rfl rfl hv_X4_thrown ⟨Nat.le_of_ble_eq_true rfl, Nat.le_of_ble_eq_true rfl⟩) (z_preV Z hS hP (by decide) (z_E_119 _) rfl rfl) rfl rfl hl.1 rfl (lv_room (Nat.le_of_ble_eq_true rfl)) dL_law_540 ⟨by show _ ≤ 601024; omega, by show _ ≤ 7293033; omega⟩) (fun H locs hP hS => ?_)
                      refine lv_iload hx hb dL_law_543 (lv_at hl 1 rfl) ?_
                      refine lv_icmp_eq (tgt := 550) hx hb dL_law_545 (by decide) (fun hc104 => ?_) (fun hc104 => ?_)
                      · have h := z_ip hc104 h
                        refine lv_iload hx hb dL_law_550 (lv_at hl 1 rfl) ?_
                        refine lv_if_ne (tgt := 567) hx hb dL_law_552 (by decide) (fun hc105 => ?_) (fun hc105 => ?_)
                        · have h := z_in hc105 h
                          refine lv_goto (tgt := 1452) hx hb dL_law_567 (by decide) ?_
                          refine lv_iinc (v := (x4 + 4)) (lv' := [(4, .int ((x4 + 4))), (6, .int (r98)), (5, .int (r95)), (0, .ref b), (1, .ref (G.2.1 (90))), (2, .ref (G.2.1 (119))), (3, .ref (G.2.1 (125)))]) hx hb dL_law_1452 hl (k := 6) rfl rfl (by decide) rfl (fun ls hl => ?_)
                          refine lv_goto (tgt := 23) hx hb dL_law_1455 (by decide) ?_
                          exact ih _ _ h _ _ _ _ (by omega) (by omega) hP hS ls (lv_sub hl [3, 4, 5, 6, 0] rfl)
                        · have h := z_ip hc105 h
                          refine lv_aload_n hx hb dL_law_555 rfl (lv_at hl 5 rfl) ?_
                          refine lv_iconst (v := 0) hx hb dL_law_556 (by decide) ?_
                          refine z_lald C Z hP dL_law_557 ?_
                          refine lv_iload hx hb dL_law_558 (lv_at hl 0 rfl) ?_
                          refine lv_i2l (v := ((r98).toInt64)) hx hb dL_law_560 rfl ?_
                          refine W.lcmp hx hb dL_law_561 ?_
                          refine lv_if_eq (tgt := 567) hx hb dL_law_562 (by decide) (fun hc106 => ?_) (fun hc106 => ?_)
                          · have h := z_ip hc106 h
                            refine lv_goto (tgt := 1452) hx hb dL_law_567 (by decide) ?_
                            refine lv_iinc (v := (x4 + 4)) (lv' := [(4, .int ((x4 + 4))), (6, .int (r98)), (5, .int (r95)), (0, .ref b), (1, .ref (G.2.1 (90))), (2, .ref (G.2.1 (119))), (3, .ref (G.2.1 (125)))]) hx hb dL_law_1452 hl (k := 6) rfl rfl (by decide) rfl (fun ls hl => ?_)
                            refine lv_goto (tgt := 23) hx hb dL_law_1455 (by decide) ?_
                            exact ih _ _ h _ _ _ _ (by omega) (by omega) hP hS ls (lv_sub hl [3, 4, 5, 6, 0] rfl)
                          · have h := z_in hc106 h
                            refine lv_iconst (v := 0) hx hb dL_law_565 (by decide) ?_
                            cases h
                      · have h := z_in hc104 h
                        refine lv_iconst (v := 0) hx hb dL_law_548 (by decide) ?_
                        cases h
                    · have h := z_in hc93 h
                      by_cases hc107 : ((xs (x4).toNatClampNeg) &&& 31) = 8
                      · have h := z_ip hc107 h
                        refine lv_tableIn (tgt := 570) (off := 531) hx hb dL_law_39 (by rw [hc107]; decide) (by rw [hc107]; decide) (by rw [hc107]; rfl) (by decide) ?_
                        refine lv_aload_n hx hb dL_law_570 rfl (lv_at hl 1 rfl) ?_
                        refine lv_aload_n hx hb dL_law_571 rfl (lv_at hl 0 rfl) ?_
                        refine lv_iload hx hb dL_law_572 (lv_at hl 4 rfl) ?_
                        refine lv_iconst (v := 1) hx hb dL_law_574 (by decide) ?_
                        refine lv_iadd hx hb dL_law_575 ?_
                        obtain ⟨hg108, h⟩ := z_g h
                        refine va_sld hx hb hX hbl hbA hS hg108 dL_law_576 ?_
                        refine lv_aload_n hx hb dL_law_577 rfl (lv_at hl 3 rfl) ?_
                        obtain ⟨r109, m110, e111, h⟩ := zb_some h
                        refine z_calliK hS (vx_runSW (As := [.ref (G.2.1 (90)), .int ((xs ((x4 + 1)).toNatClampNeg)), .ref (G.2.1 (125))]) (rest := []) C (c_L_append l G hst e111 _) (vx_cwSW 3 hts gL_law_L_append rfl rfl rfl hd_L_append ⟨Nat.le_of_ble_eq_true rfl, Nat.le_of_ble_eq_true rfl⟩) (z_preS Z hS hP) rfl rfl hl.1 rfl (lv_room (Nat.le_of_ble_eq_true rfl)) dL_law_578 ⟨by show _ ≤ 601024; omega, by show _ ≤ 7293033; omega⟩) (fun H locs hP hS => ?_)
                        refine lv_istore (lv' := [(5, .int (r109)), (0, .ref b), (1, .ref (G.2.1 (90))), (2, .ref (G.2.1 (119))), (3, .ref (G.2.1 (125))), (4, .int (x4))]) hx hb dL_law_581 hl (by decide) rfl (fun ls hl => ?_)
                        refine lv_aload_n hx hb dL_law_583 rfl (lv_at hl 3 rfl) ?_
                        refine lv_aload_n hx hb dL_law_584 rfl (lv_at hl 1 rfl) ?_
                        refine lv_iload hx hb dL_law_585 (lv_at hl 5 rfl) ?_
                        refine lv_iconst (v := 1) hx hb dL_law_587 (by decide) ?_
                        refine lv_iadd hx hb dL_law_588 ?_
                        refine va_sld hx hb hX hbl hbA hS hg108 dL_law_589 ?_
                        obtain ⟨r112, m113, e114, h⟩ := zb_some h
                        refine z_calli hS (va_runV (As := [.int ((xs ((x4 + 1)).toNatClampNeg))]) (rest := []) C (c_X4_append l G e114 _) (cwV 1 hts gL_law_X4_append rfl rfl rfl hv_X4_append ⟨Nat.le_of_ble_eq_true rfl, Nat.le_of_ble_eq_true rfl⟩) (z_preV Z hS hP (by decide) (z_E_119 _) rfl rfl) rfl rfl hl.1 rfl (lv_room (Nat.le_of_ble_eq_true rfl)) dL_law_590 ⟨by show _ ≤ 601024; omega, by show _ ≤ 7293033; omega⟩) (fun H locs hP hS => ?_)
                        refine lv_istore (lv' := [(6, .int (r112)), (5, .int (r109)), (0, .ref b), (1, .ref (G.2.1 (90))), (2, .ref (G.2.1 (119))), (3, .ref (G.2.1 (125))), (4, .int (x4))]) hx hb dL_law_593 hl (by decide) rfl (fun ls hl => ?_)
                        refine lv_aload_n hx hb dL_law_595 rfl (lv_at hl 4 rfl) ?_
                        obtain ⟨r115, m116, e117, h⟩ := zb_some h
                        refine z_calli hS (va_runV (As := []) (rest := []) C (c_X4_thrown l G e117 _) (cwV 0 hts gL_law_X4_thrown rfl rfl rfl hv_X4_thrown ⟨Nat.le_of_ble_eq_true rfl, Nat.le_of_ble_eq_true rfl⟩) (z_preV Z hS hP (by decide) (z_E_119 _) rfl rfl) rfl rfl hl.1 rfl (lv_room (Nat.le_of_ble_eq_true rfl)) dL_law_596 ⟨by show _ ≤ 601024; omega, by show _ ≤ 7293033; omega⟩) (fun H locs hP hS => ?_)
                        refine lv_iload hx hb dL_law_599 (lv_at hl 1 rfl) ?_
                        refine lv_icmp_eq (tgt := 606) hx hb dL_law_601 (by decide) (fun hc118 => ?_) (fun hc118 => ?_)
                        · have h := z_ip hc118 h
                          refine lv_iload hx hb dL_law_606 (lv_at hl 1 rfl) ?_
                          refine lv_if_ne (tgt := 623) hx hb dL_law_608 (by decide) (fun hc119 => ?_) (fun hc119 => ?_)
                          · have h := z_in hc119 h
                            refine lv_goto (tgt := 1452) hx hb dL_law_623 (by decide) ?_
                            refine lv_iinc (v := (x4 + 4)) (lv' := [(4, .int ((x4 + 4))), (6, .int (r112)), (5, .int (r109)), (0, .ref b), (1, .ref (G.2.1 (90))), (2, .ref (G.2.1 (119))), (3, .ref (G.2.1 (125)))]) hx hb dL_law_1452 hl (k := 6) rfl rfl (by decide) rfl (fun ls hl => ?_)
                            refine lv_goto (tgt := 23) hx hb dL_law_1455 (by decide) ?_
                            exact ih _ _ h _ _ _ _ (by omega) (by omega) hP hS ls (lv_sub hl [3, 4, 5, 6, 0] rfl)
                          · have h := z_ip hc119 h
                            refine lv_aload_n hx hb dL_law_611 rfl (lv_at hl 5 rfl) ?_
                            refine lv_iconst (v := 0) hx hb dL_law_612 (by decide) ?_
                            refine z_lald C Z hP dL_law_613 ?_
                            refine lv_iload hx hb dL_law_614 (lv_at hl 0 rfl) ?_
                            refine lv_i2l (v := ((r112).toInt64)) hx hb dL_law_616 rfl ?_
                            refine W.lcmp hx hb dL_law_617 ?_
                            refine lv_if_eq (tgt := 623) hx hb dL_law_618 (by decide) (fun hc120 => ?_) (fun hc120 => ?_)
                            · have h := z_ip hc120 h
                              refine lv_goto (tgt := 1452) hx hb dL_law_623 (by decide) ?_
                              refine lv_iinc (v := (x4 + 4)) (lv' := [(4, .int ((x4 + 4))), (6, .int (r112)), (5, .int (r109)), (0, .ref b), (1, .ref (G.2.1 (90))), (2, .ref (G.2.1 (119))), (3, .ref (G.2.1 (125)))]) hx hb dL_law_1452 hl (k := 6) rfl rfl (by decide) rfl (fun ls hl => ?_)
                              refine lv_goto (tgt := 23) hx hb dL_law_1455 (by decide) ?_
                              exact ih _ _ h _ _ _ _ (by omega) (by omega) hP hS ls (lv_sub hl [3, 4, 5, 6, 0] rfl)
                            · have h := z_in hc120 h
                              refine lv_iconst (v := 0) hx hb dL_law_621 (by decide) ?_
                              cases h
                        · have h := z_in hc118 h
                          refine lv_iconst (v := 0) hx hb dL_law_604 (by decide) ?_
                          cases h
                      · have h := z_in hc107 h
                        by_cases hc121 : ((xs (x4).toNatClampNeg) &&& 31) = 9
                        · have h := z_ip hc121 h
                          refine lv_tableIn (tgt := 626) (off := 587) hx hb dL_law_39 (by rw [hc121]; decide) (by rw [hc121]; decide) (by rw [hc121]; rfl) (by decide) ?_
                          refine lv_aload_n hx hb dL_law_626 rfl (lv_at hl 1 rfl) ?_
                          obtain ⟨r122, m123, e124, h⟩ := zb_some h
                          refine z_calli hS (va_runV (As := []) (rest := []) C (c_X3_clearBuffer l G e124 _) (cwV 0 hts gL_law_X3_clearBuffer rfl rfl rfl hv_X3_clearBuffer ⟨Nat.le_of_ble_eq_true rfl, Nat.le_of_ble_eq_true rfl⟩) (z_preV Z hS hP (by decide) (z_E_90 _) rfl rfl) rfl rfl hl.1 rfl (lv_room (Nat.le_of_ble_eq_true rfl)) dL_law_627 ⟨by show _ ≤ 601024; omega, by show _ ≤ 7293033; omega⟩) (fun H locs hP hS => ?_)
                          refine lv_aload_n hx hb dL_law_630 rfl (lv_at hl 2 rfl) ?_
                          obtain ⟨r125, m126, e127, h⟩ := zb_some h
                          refine z_calli hS (va_runV (As := []) (rest := [.int (r122)]) C (c_X4_clearBuffer l G e127 _) (cwV 0 hts gL_law_X4_clearBuffer rfl rfl rfl hv_X4_clearBuffer ⟨Nat.le_of_ble_eq_true rfl, Nat.le_of_ble_eq_true rfl⟩) (z_preV Z hS hP (by decide) (z_E_119 _) rfl rfl) rfl rfl hl.1 rfl (lv_room (Nat.le_of_ble_eq_true rfl)) dL_law_631 ⟨by show _ ≤ 601024; omega, by show _ ≤ 7293033; omega⟩) (fun H locs hP hS => ?_)
                          refine lv_icmp_eq (tgt := 1452) hx hb dL_law_634 (by decide) (fun hc128 => ?_) (fun hc128 => ?_)
                          · have h := z_ip hc128 h
                            refine lv_iinc (v := (x4 + 4)) (lv' := [(4, .int ((x4 + 4))), (0, .ref b), (1, .ref (G.2.1 (90))), (2, .ref (G.2.1 (119))), (3, .ref (G.2.1 (125)))]) hx hb dL_law_1452 hl (k := 4) rfl rfl (by decide) rfl (fun ls hl => ?_)
                            refine lv_goto (tgt := 23) hx hb dL_law_1455 (by decide) ?_
                            exact ih _ _ h _ _ _ _ (by omega) (by omega) hP hS ls (lv_sub hl [1, 2, 3, 4, 0] rfl)
                          · have h := z_in hc128 h
                            refine lv_iconst (v := 0) hx hb dL_law_637 (by decide) ?_
                            cases h
                        · have h := z_in hc121 h
                          by_cases hc129 : ((xs (x4).toNatClampNeg) &&& 31) = 10
                          · have h := z_ip hc129 h
                            refine lv_tableIn (tgt := 639) (off := 600) hx hb dL_law_39 (by rw [hc129]; decide) (by rw [hc129]; decide) (by rw [hc129]; rfl) (by decide) ?_
                            refine lv_aload_n hx hb dL_law_639 rfl (lv_at hl 1 rfl) ?_
                            obtain ⟨r130, m131, e132, h⟩ := zb_some h
                            refine z_calli hS (va_runV (As := []) (rest := []) C (c_X3_firstError l G e132 _) (cwV 0 hts gL_law_X3_firstError rfl rfl rfl hv_X3_firstError ⟨Nat.le_of_ble_eq_true rfl, Nat.le_of_ble_eq_true rfl⟩) (z_preV Z hS hP (by decide) (z_E_90 _) rfl rfl) rfl rfl hl.1 rfl (lv_room (Nat.le_of_ble_eq_true rfl)) dL_law_640 ⟨by show _ ≤ 601024; omega, by show _ ≤ 7293033; omega⟩) (fun H locs hP hS => ?_)
                            refine lv_aload_n hx hb dL_law_643 rfl (lv_at hl 2 rfl) ?_
                            obtain ⟨r133, m134, e135, h⟩ := zb_some h
                            refine z_calli hS (va_runV (As := []) (rest := [.int (r130)]) C (c_X4_firstError l G e135 _) (cwV 0 hts gL_law_X4_firstError rfl rfl rfl hv_X4_firstError ⟨Nat.le_of_ble_eq_true rfl, Nat.le_of_ble_eq_true rfl⟩) (z_preV Z hS hP (by decide) (z_E_119 _) rfl rfl) rfl rfl hl.1 rfl (lv_room (Nat.le_of_ble_eq_true rfl)) dL_law_644 ⟨by show _ ≤ 601024; omega, by show _ ≤ 7293033; omega⟩) (fun H locs hP hS => ?_)
                            refine lv_icmp_eq (tgt := 1452) hx hb dL_law_647 (by decide) (fun hc136 => ?_) (fun hc136 => ?_)
                            · have h := z_ip hc136 h
                              refine lv_iinc (v := (x4 + 4)) (lv' := [(4, .int ((x4 + 4))), (0, .ref b), (1, .ref (G.2.1 (90))), (2, .ref (G.2.1 (119))), (3, .ref (G.2.1 (125)))]) hx hb dL_law_1452 hl (k := 4) rfl rfl (by decide) rfl (fun ls hl => ?_)
                              refine lv_goto (tgt := 23) hx hb dL_law_1455 (by decide) ?_
                              exact ih _ _ h _ _ _ _ (by omega) (by omega) hP hS ls (lv_sub hl [1, 2, 3, 4, 0] rfl)
                            · have h := z_in hc136 h
                              refine lv_iconst (v := 0) hx hb dL_law_650 (by decide) ?_
                              cases h
                          · have h := z_in hc129 h
                            by_cases hc137 : ((xs (x4).toNatClampNeg) &&& 31) = 11
                            · have h := z_ip hc137 h
                              refine lv_tableIn (tgt := 652) (off := 613) hx hb dL_law_39 (by rw [hc137]; decide) (by rw [hc137]; decide) (by rw [hc137]; rfl) (by decide) ?_
                              refine lv_aload_n hx hb dL_law_652 rfl (lv_at hl 1 rfl) ?_
                              refine lv_aload_n hx hb dL_law_653 rfl (lv_at hl 3 rfl) ?_
                              obtain ⟨r138, m139, e140, h⟩ := zb_some h
                              refine z_calliK hS (vx_runSW (As := [.ref (G.2.1 (90)), .ref (G.2.1 (125))]) (rest := []) C (c_L_run l G hst e140 _) (vx_cwSW 2 hts gL_law_L_run rfl rfl rfl hd_L_run ⟨Nat.le_of_ble_eq_true rfl, Nat.le_of_ble_eq_true rfl⟩) (z_preS Z hS hP) rfl rfl hl.1 rfl (lv_room (Nat.le_of_ble_eq_true rfl)) dL_law_654 ⟨by show _ ≤ 601024; omega, by show _ ≤ 7293033; omega⟩) (fun H locs hP hS => ?_)
                              refine lv_istore (lv' := [(5, .int (r138)), (0, .ref b), (1, .ref (G.2.1 (90))), (2, .ref (G.2.1 (119))), (3, .ref (G.2.1 (125))), (4, .int (x4))]) hx hb dL_law_657 hl (by decide) rfl (fun ls hl => ?_)
                              refine lv_aload_n hx hb dL_law_659 rfl (lv_at hl 3 rfl) ?_
                              obtain ⟨r141, m142, e143, h⟩ := zb_some h
                              refine z_calli hS (va_runV (As := []) (rest := []) C (c_X4_run l G e143 _) (cwV 0 hts gL_law_X4_run rfl rfl rfl hv_X4_run ⟨Nat.le_of_ble_eq_true rfl, Nat.le_of_ble_eq_true rfl⟩) (z_preV Z hS hP (by decide) (z_E_119 _) rfl rfl) rfl rfl hl.1 rfl (lv_room (Nat.le_of_ble_eq_true rfl)) dL_law_660 ⟨by show _ ≤ 601024; omega, by show _ ≤ 7293033; omega⟩) (fun H locs hP hS => ?_)
                              refine lv_istore (lv' := [(6, .int (r141)), (5, .int (r138)), (0, .ref b), (1, .ref (G.2.1 (90))), (2, .ref (G.2.1 (119))), (3, .ref (G.2.1 (125))), (4, .int (x4))]) hx hb dL_law_663 hl (by decide) rfl (fun ls hl => ?_)
                              refine lv_aload_n hx hb dL_law_665 rfl (lv_at hl 4 rfl) ?_
                              obtain ⟨r144, m145, e146, h⟩ := zb_some h
                              refine z_calli hS (va_runV (As := []) (rest := []) C (c_X4_thrown l G e146 _) (cwV 0 hts gL_law_X4_thrown rfl rfl rfl hv_X4_thrown ⟨Nat.le_of_ble_eq_true rfl, Nat.le_of_ble_eq_true rfl⟩) (z_preV Z hS hP (by decide) (z_E_119 _) rfl rfl) rfl rfl hl.1 rfl (lv_room (Nat.le_of_ble_eq_true rfl)) dL_law_666 ⟨by show _ ≤ 601024; omega, by show _ ≤ 7293033; omega⟩) (fun H locs hP hS => ?_)
                              refine lv_iload hx hb dL_law_669 (lv_at hl 1 rfl) ?_
                              refine lv_icmp_eq (tgt := 676) hx hb dL_law_671 (by decide) (fun hc147 => ?_) (fun hc147 => ?_)
                              · have h := z_ip hc147 h
                                refine lv_iload hx hb dL_law_676 (lv_at hl 1 rfl) ?_
                                refine lv_if_ne (tgt := 693) hx hb dL_law_678 (by decide) (fun hc148 => ?_) (fun hc148 => ?_)
                                · have h := z_in hc148 h
                                  refine lv_goto (tgt := 1452) hx hb dL_law_693 (by decide) ?_
                                  refine lv_iinc (v := (x4 + 4)) (lv' := [(4, .int ((x4 + 4))), (6, .int (r141)), (5, .int (r138)), (0, .ref b), (1, .ref (G.2.1 (90))), (2, .ref (G.2.1 (119))), (3, .ref (G.2.1 (125)))]) hx hb dL_law_1452 hl (k := 6) rfl rfl (by decide) rfl (fun ls hl => ?_)
                                  refine lv_goto (tgt := 23) hx hb dL_law_1455 (by decide) ?_
                                  exact ih _ _ h _ _ _ _ (by omega) (by omega) hP hS ls (lv_sub hl [3, 4, 5, 6, 0] rfl)
                                · have h := z_ip hc148 h
                                  refine lv_aload_n hx hb dL_law_681 rfl (lv_at hl 5 rfl) ?_
                                  refine lv_iconst (v := 0) hx hb dL_law_682 (by decide) ?_
                                  refine z_lald C Z hP dL_law_683 ?_
                                  refine lv_iload hx hb dL_law_684 (lv_at hl 0 rfl) ?_
                                  refine lv_i2l (v := ((r141).toInt64)) hx hb dL_law_686 rfl ?_
                                  refine W.lcmp hx hb dL_law_687 ?_
                                  refine lv_if_eq (tgt := 693) hx hb dL_law_688 (by decide) (fun hc149 => ?_) (fun hc149 => ?_)
                                  · have h := z_ip hc149 h
                                    refine lv_goto (tgt := 1452) hx hb dL_law_693 (by decide) ?_
                                    refine lv_iinc (v := (x4 + 4)) (lv' := [(4, .int ((x4 + 4))), (6, .int (r141)), (5, .int (r138)), (0, .ref b), (1, .ref (G.2.1 (90))), (2, .ref (G.2.1 (119))), (3, .ref (G.2.1 (125)))]) hx hb dL_law_1452 hl (k := 6) rfl rfl (by decide) rfl (fun ls hl => ?_)
                                    refine lv_goto (tgt := 23) hx hb dL_law_1455 (by decide) ?_
                                    exact ih _ _ h _ _ _ _ (by omega) (by omega) hP hS ls (lv_sub hl [3, 4, 5, 6, 0] rfl)
                                  · have h := z_in hc149 h
                                    refine lv_iconst (v := 0) hx hb dL_law_691 (by decide) ?_
                                    cases h
                              · have h := z_in hc147 h
                                refine lv_iconst (v := 0) hx hb dL_law_674 (by decide) ?_
                                cases h
                            · have h := z_in hc137 h
                              by_cases hc150 : ((xs (x4).toNatClampNeg) &&& 31) = 12
                              · have h := z_ip hc150 h
                                refine lv_tableIn (tgt := 696) (off := 657) hx hb dL_law_39 (by rw [hc150]; decide) (by rw [hc150]; decide) (by rw [hc150]; rfl) (by decide) ?_
                                refine lv_aload_n hx hb dL_law_696 rfl (lv_at hl 1 rfl) ?_
                                refine lv_aload_n hx hb dL_law_697 rfl (lv_at hl 0 rfl) ?_
                                refine lv_iload hx hb dL_law_698 (lv_at hl 4 rfl) ?_
                                refine lv_iconst (v := 1) hx hb dL_law_700 (by decide) ?_
                                refine lv_iadd hx hb dL_law_701 ?_
                                obtain ⟨hg151, h⟩ := z_g h
                                refine va_sld hx hb hX hbl hbA hS hg151 dL_law_702 ?_
                                refine lv_aload_n hx hb dL_law_703 rfl (lv_at hl 3 rfl) ?_
                                obtain ⟨r152, m153, e154, h⟩ := zb_some h
                                refine z_calliK hS (vx_runSW (As := [.ref (G.2.1 (90)), .int ((xs ((x4 + 1)).toNatClampNeg)), .ref (G.2.1 (125))]) (rest := []) C (c_L_keep l G hst e154 _) (vx_cwSW 3 hts gL_law_L_keep rfl rfl rfl hd_L_keep ⟨Nat.le_of_ble_eq_true rfl, Nat.le_of_ble_eq_true rfl⟩) (z_preS Z hS hP) rfl rfl hl.1 rfl (lv_room (Nat.le_of_ble_eq_true rfl)) dL_law_704 ⟨by show _ ≤ 601024; omega, by show _ ≤ 7293033; omega⟩) (fun H locs hP hS => ?_)
                                refine lv_istore (lv' := [(5, .int (r152)), (0, .ref b), (1, .ref (G.2.1 (90))), (2, .ref (G.2.1 (119))), (3, .ref (G.2.1 (125))), (4, .int (x4))]) hx hb dL_law_707 hl (by decide) rfl (fun ls hl => ?_)
                                refine lv_aload_n hx hb dL_law_709 rfl (lv_at hl 3 rfl) ?_
                                refine lv_aload_n hx hb dL_law_710 rfl (lv_at hl 1 rfl) ?_
                                refine lv_iload hx hb dL_law_711 (lv_at hl 5 rfl) ?_
                                refine lv_iconst (v := 1) hx hb dL_law_713 (by decide) ?_
                                refine lv_iadd hx hb dL_law_714 ?_
                                refine va_sld hx hb hX hbl hbA hS hg151 dL_law_715 ?_
                                obtain ⟨r155, m156, e157, h⟩ := zb_some h
                                refine z_calli hS (va_runV (As := [.int ((xs ((x4 + 1)).toNatClampNeg))]) (rest := []) C (c_X4_keep l G e157 _) (cwV 1 hts gL_law_X4_keep rfl rfl rfl hv_X4_keep ⟨Nat.le_of_ble_eq_true rfl, Nat.le_of_ble_eq_true rfl⟩) (z_preV Z hS hP (by decide) (z_E_119 _) rfl rfl) rfl rfl hl.1 rfl (lv_room (Nat.le_of_ble_eq_true rfl)) dL_law_716 ⟨by show _ ≤ 601024; omega, by show _ ≤ 7293033; omega⟩) (fun H locs hP hS => ?_)
                                refine lv_istore (lv' := [(6, .int (r155)), (5, .int (r152)), (0, .ref b), (1, .ref (G.2.1 (90))), (2, .ref (G.2.1 (119))), (3, .ref (G.2.1 (125))), (4, .int (x4))]) hx hb dL_law_719 hl (by decide) rfl (fun ls hl => ?_)
                                refine lv_aload_n hx hb dL_law_721 rfl (lv_at hl 4 rfl) ?_
                                obtain ⟨r158, m159, e160, h⟩ := zb_some h
                                refine z_calli hS (va_runV (As := []) (rest := []) C (c_X4_thrown l G e160 _) (cwV 0 hts gL_law_X4_thrown rfl rfl rfl hv_X4_thrown ⟨Nat.le_of_ble_eq_true rfl, Nat.le_of_ble_eq_true rfl⟩) (z_preV Z hS hP (by decide) (z_E_119 _) rfl rfl) rfl rfl hl.1 rfl (lv_room (Nat.le_of_ble_eq_true rfl)) dL_law_722 ⟨by show _ ≤ 601024; omega, by show _ ≤ 7293033; omega⟩) (fun H locs hP hS => ?_)
                                refine lv_iload hx hb dL_law_725 (lv_at hl 1 rfl) ?_
                                refine lv_icmp_eq (tgt := 732) hx hb dL_law_727 (by decide) (fun hc161 => ?_) (fun hc161 => ?_)
                                · have h := z_ip hc161 h
                                  refine lv_iload hx hb dL_law_732 (lv_at hl 1 rfl) ?_
                                  refine lv_if_ne (tgt := 749) hx hb dL_law_734 (by decide) (fun hc162 => ?_) (fun hc162 => ?_)
                                  · have h := z_in hc162 h
                                    refine lv_goto (tgt := 1452) hx hb dL_law_749 (by decide) ?_
                                    refine lv_iinc (v := (x4 + 4)) (lv' := [(4, .int ((x4 + 4))), (6, .int (r155)), (5, .int (r152)), (0, .ref b), (1, .ref (G.2.1 (90))), (2, .ref (G.2.1 (119))), (3, .ref (G.2.1 (125)))]) hx hb dL_law_1452 hl (k := 6) rfl rfl (by decide) rfl (fun ls hl => ?_)
                                    refine lv_goto (tgt := 23) hx hb dL_law_1455 (by decide) ?_
                                    exact ih _ _ h _ _ _ _ (by omega) (by omega) hP hS ls (lv_sub hl [3, 4, 5, 6, 0] rfl)
                                  · have h := z_ip hc162 h
                                    refine lv_aload_n hx hb dL_law_737 rfl (lv_at hl 5 rfl) ?_
                                    refine lv_iconst (v := 0) hx hb dL_law_738 (by decide) ?_
                                    refine z_lald C Z hP dL_law_739 ?_
                                    refine lv_iload hx hb dL_law_740 (lv_at hl 0 rfl) ?_
                                    refine lv_i2l (v := ((r155).toInt64)) hx hb dL_law_742 rfl ?_
                                    refine W.lcmp hx hb dL_law_743 ?_
                                    refine lv_if_eq (tgt := 749) hx hb dL_law_744 (by decide) (fun hc163 => ?_) (fun hc163 => ?_)
                                    · have h := z_ip hc163 h
                                      refine lv_goto (tgt := 1452) hx hb dL_law_749 (by decide) ?_
                                      refine lv_iinc (v := (x4 + 4)) (lv' := [(4, .int ((x4 + 4))), (6, .int (r155)), (5, .int (r152)), (0, .ref b), (1, .ref (G.2.1 (90))), (2, .ref (G.2.1 (119))), (3, .ref (G.2.1 (125)))]) hx hb dL_law_1452 hl (k := 6) rfl rfl (by decide) rfl (fun ls hl => ?_)
                                      refine lv_goto (tgt := 23) hx hb dL_law_1455 (by decide) ?_
                                      exact ih _ _ h _ _ _ _ (by omega) (by omega) hP hS ls (lv_sub hl [3, 4, 5, 6, 0] rfl)
                                    · have h := z_in hc163 h
                                      refine lv_iconst (v := 0) hx hb dL_law_747 (by decide) ?_
                                      cases h
                                · have h := z_in hc161 h
                                  refine lv_iconst (v := 0) hx hb dL_law_730 (by decide) ?_
                                  cases h
                              · have h := z_in hc150 h
                                by_cases hc164 : ((xs (x4).toNatClampNeg) &&& 31) = 13
                                · have h := z_ip hc164 h
                                  refine lv_tableIn (tgt := 752) (off := 713) hx hb dL_law_39 (by rw [hc164]; decide) (by rw [hc164]; decide) (by rw [hc164]; rfl) (by decide) ?_
                                  refine lv_aload_n hx hb dL_law_752 rfl (lv_at hl 1 rfl) ?_
                                  refine lv_aload_n hx hb dL_law_753 rfl (lv_at hl 0 rfl) ?_
                                  refine lv_iload hx hb dL_law_754 (lv_at hl 4 rfl) ?_
                                  refine lv_iconst (v := 1) hx hb dL_law_756 (by decide) ?_
                                  refine lv_iadd hx hb dL_law_757 ?_
                                  obtain ⟨hg165, h⟩ := z_g h
                                  refine va_sld hx hb hX hbl hbA hS hg165 dL_law_758 ?_
                                  refine lv_aload_n hx hb dL_law_759 rfl (lv_at hl 3 rfl) ?_
                                  obtain ⟨r166, m167, e168, h⟩ := zb_some h
                                  refine z_calliK hS (vx_runSW (As := [.ref (G.2.1 (90)), .int ((xs ((x4 + 1)).toNatClampNeg)), .ref (G.2.1 (125))]) (rest := []) C (c_L_goBack l G hst e168 _) (vx_cwSW 3 hts gL_law_L_goBack rfl rfl rfl hd_L_goBack ⟨Nat.le_of_ble_eq_true rfl, Nat.le_of_ble_eq_true rfl⟩) (z_preS Z hS hP) rfl rfl hl.1 rfl (lv_room (Nat.le_of_ble_eq_true rfl)) dL_law_760 ⟨by show _ ≤ 601024; omega, by show _ ≤ 7293033; omega⟩) (fun H locs hP hS => ?_)
                                  refine lv_istore (lv' := [(5, .int (r166)), (0, .ref b), (1, .ref (G.2.1 (90))), (2, .ref (G.2.1 (119))), (3, .ref (G.2.1 (125))), (4, .int (x4))]) hx hb dL_law_763 hl (by decide) rfl (fun ls hl => ?_)
                                  refine lv_aload_n hx hb dL_law_765 rfl (lv_at hl 3 rfl) ?_
                                  refine lv_aload_n hx hb dL_law_766 rfl (lv_at hl 1 rfl) ?_
                                  refine lv_iload hx hb dL_law_767 (lv_at hl 5 rfl) ?_
                                  refine lv_iconst (v := 1) hx hb dL_law_769 (by decide) ?_
                                  refine lv_iadd hx hb dL_law_770 ?_
                                  refine va_sld hx hb hX hbl hbA hS hg165 dL_law_771 ?_
                                  obtain ⟨r169, m170, e171, h⟩ := zb_some h
                                  refine z_calli hS (va_runV (As := [.int ((xs ((x4 + 1)).toNatClampNeg))]) (rest := []) C (c_X4_goBack l G e171 _) (cwV 1 hts gL_law_X4_goBack rfl rfl rfl hv_X4_goBack ⟨Nat.le_of_ble_eq_true rfl, Nat.le_of_ble_eq_true rfl⟩) (z_preV Z hS hP (by decide) (z_E_119 _) rfl rfl) rfl rfl hl.1 rfl (lv_room (Nat.le_of_ble_eq_true rfl)) dL_law_772 ⟨by show _ ≤ 601024; omega, by show _ ≤ 7293033; omega⟩) (fun H locs hP hS => ?_)
                                  refine lv_istore (lv' := [(6, .int (r169)), (5, .int (r166)), (0, .ref b), (1, .ref (G.2.1 (90))), (2, .ref (G.2.1 (119))), (3, .ref (G.2.1 (125))), (4, .int (x4))]) hx hb dL_law_775 hl (by decide) rfl (fun ls hl => ?_)
                                  refine lv_aload_n hx hb dL_law_777 rfl (lv_at hl 4 rfl) ?_
                                  obtain ⟨r172, m173, e174, h⟩ := zb_some h
                                  refine z_calli hS (va_runV (As := []) (rest := []) C (c_X4_thrown l G e174 _) (cwV 0 hts gL_law_X4_thrown rfl rfl rfl hv_X4_thrown ⟨Nat.le_of_ble_eq_true rfl, Nat.le_of_ble_eq_true rfl⟩) (z_preV Z hS hP (by decide) (z_E_119 _) rfl rfl) rfl rfl hl.1 rfl (lv_room (Nat.le_of_ble_eq_true rfl)) dL_law_778 ⟨by show _ ≤ 601024; omega, by show _ ≤ 7293033; omega⟩) (fun H locs hP hS => ?_)
                                  refine lv_iload hx hb dL_law_781 (lv_at hl 1 rfl) ?_
                                  refine lv_icmp_eq (tgt := 788) hx hb dL_law_783 (by decide) (fun hc175 => ?_) (fun hc175 => ?_)
                                  · have h := z_ip hc175 h
                                    refine lv_iload hx hb dL_law_788 (lv_at hl 1 rfl) ?_
                                    refine lv_if_ne (tgt := 805) hx hb dL_law_790 (by decide) (fun hc176 => ?_) (fun hc176 => ?_)
                                    · have h := z_in hc176 h
                                      refine lv_goto (tgt := 1452) hx hb dL_law_805 (by decide) ?_
                                      refine lv_iinc (v := (x4 + 4)) (lv' := [(4, .int ((x4 + 4))), (6, .int (r169)), (5, .int (r166)), (0, .ref b), (1, .ref (G.2.1 (90))), (2, .ref (G.2.1 (119))), (3, .ref (G.2.1 (125)))]) hx hb dL_law_1452 hl (k := 6) rfl rfl (by decide) rfl (fun ls hl => ?_)
                                      refine lv_goto (tgt := 23) hx hb dL_law_1455 (by decide) ?_
                                      exact ih _ _ h _ _ _ _ (by omega) (by omega) hP hS ls (lv_sub hl [3, 4, 5, 6, 0] rfl)
                                    · have h := z_ip hc176 h
                                      refine lv_aload_n hx hb dL_law_793 rfl (lv_at hl 5 rfl) ?_
                                      refine lv_iconst (v := 0) hx hb dL_law_794 (by decide) ?_
                                      refine z_lald C Z hP dL_law_795 ?_
                                      refine lv_iload hx hb dL_law_796 (lv_at hl 0 rfl) ?_
                                      refine lv_i2l (v := ((r169).toInt64)) hx hb dL_law_798 rfl ?_
                                      refine W.lcmp hx hb dL_law_799 ?_
                                      refine lv_if_eq (tgt := 805) hx hb dL_law_800 (by decide) (fun hc177 => ?_) (fun hc177 => ?_)
                                      · have h := z_ip hc177 h
                                        refine lv_goto (tgt := 1452) hx hb dL_law_805 (by decide) ?_
                                        refine lv_iinc (v := (x4 + 4)) (lv' := [(4, .int ((x4 + 4))), (6, .int (r169)), (5, .int (r166)), (0, .ref b), (1, .ref (G.2.1 (90))), (2, .ref (G.2.1 (119))), (3, .ref (G.2.1 (125)))]) hx hb dL_law_1452 hl (k := 6) rfl rfl (by decide) rfl (fun ls hl => ?_)
                                        refine lv_goto (tgt := 23) hx hb dL_law_1455 (by decide) ?_
                                        exact ih _ _ h _ _ _ _ (by omega) (by omega) hP hS ls (lv_sub hl [3, 4, 5, 6, 0] rfl)
                                      · have h := z_in hc177 h
                                        refine lv_iconst (v := 0) hx hb dL_law_803 (by decide) ?_
                                        cases h
                                  · have h := z_in hc175 h
                                    refine lv_iconst (v := 0) hx hb dL_law_786 (by decide) ?_
                                    cases h
                                · have h := z_in hc164 h
                                  by_cases hc178 : ((xs (x4).toNatClampNeg) &&& 31) = 14
                                  · have h := z_ip hc178 h
                                    refine lv_tableIn (tgt := 808) (off := 769) hx hb dL_law_39 (by rw [hc178]; decide) (by rw [hc178]; decide) (by rw [hc178]; rfl) (by decide) ?_
                                    refine lv_aload_n hx hb dL_law_808 rfl (lv_at hl 1 rfl) ?_
                                    refine lv_aload_n hx hb dL_law_809 rfl (lv_at hl 3 rfl) ?_
                                    obtain ⟨r179, m180, e181, h⟩ := zb_some h
                                    refine z_calliK hS (vx_runSW (As := [.ref (G.2.1 (90)), .ref (G.2.1 (125))]) (rest := []) C (c_L_undo l G hst e181 _) (vx_cwSW 2 hts gL_law_L_undo rfl rfl rfl hd_L_undo ⟨Nat.le_of_ble_eq_true rfl, Nat.le_of_ble_eq_true rfl⟩) (z_preS Z hS hP) rfl rfl hl.1 rfl (lv_room (Nat.le_of_ble_eq_true rfl)) dL_law_810 ⟨by show _ ≤ 601024; omega, by show _ ≤ 7293033; omega⟩) (fun H locs hP hS => ?_)
                                    refine lv_istore (lv' := [(5, .int (r179)), (0, .ref b), (1, .ref (G.2.1 (90))), (2, .ref (G.2.1 (119))), (3, .ref (G.2.1 (125))), (4, .int (x4))]) hx hb dL_law_813 hl (by decide) rfl (fun ls hl => ?_)
                                    refine lv_aload_n hx hb dL_law_815 rfl (lv_at hl 3 rfl) ?_
                                    obtain ⟨r182, m183, e184, h⟩ := zb_some h
                                    refine z_calli hS (va_runV (As := []) (rest := []) C (c_X4_undo l G e184 _) (cwV 0 hts gL_law_X4_undo rfl rfl rfl hv_X4_undo ⟨Nat.le_of_ble_eq_true rfl, Nat.le_of_ble_eq_true rfl⟩) (z_preV Z hS hP (by decide) (z_E_119 _) rfl rfl) rfl rfl hl.1 rfl (lv_room (Nat.le_of_ble_eq_true rfl)) dL_law_816 ⟨by show _ ≤ 601024; omega, by show _ ≤ 7293033; omega⟩) (fun H locs hP hS => ?_)
                                    refine lv_istore (lv' := [(6, .int (r182)), (5, .int (r179)), (0, .ref b), (1, .ref (G.2.1 (90))), (2, .ref (G.2.1 (119))), (3, .ref (G.2.1 (125))), (4, .int (x4))]) hx hb dL_law_819 hl (by decide) rfl (fun ls hl => ?_)
                                    refine lv_aload_n hx hb dL_law_821 rfl (lv_at hl 4 rfl) ?_
                                    obtain ⟨r185, m186, e187, h⟩ := zb_some h
                                    refine z_calli hS (va_runV (As := []) (rest := []) C (c_X4_thrown l G e187 _) (cwV 0 hts gL_law_X4_thrown rfl rfl rfl hv_X4_thrown ⟨Nat.le_of_ble_eq_true rfl, Nat.le_of_ble_eq_true rfl⟩) (z_preV Z hS hP (by decide) (z_E_119 _) rfl rfl) rfl rfl hl.1 rfl (lv_room (Nat.le_of_ble_eq_true rfl)) dL_law_822 ⟨by show _ ≤ 601024; omega, by show _ ≤ 7293033; omega⟩) (fun H locs hP hS => ?_)
                                    refine lv_iload hx hb dL_law_825 (lv_at hl 1 rfl) ?_
                                    refine lv_icmp_eq (tgt := 832) hx hb dL_law_827 (by decide) (fun hc188 => ?_) (fun hc188 => ?_)
                                    · have h := z_ip hc188 h
                                      refine lv_iload hx hb dL_law_832 (lv_at hl 1 rfl) ?_
                                      refine lv_if_ne (tgt := 849) hx hb dL_law_834 (by decide) (fun hc189 => ?_) (fun hc189 => ?_)
                                      · have h := z_in hc189 h
                                        refine lv_goto (tgt := 1452) hx hb dL_law_849 (by decide) ?_
                                        refine lv_iinc (v := (x4 + 4)) (lv' := [(4, .int ((x4 + 4))), (6, .int (r182)), (5, .int (r179)), (0, .ref b), (1, .ref (G.2.1 (90))), (2, .ref (G.2.1 (119))), (3, .ref (G.2.1 (125)))]) hx hb dL_law_1452 hl (k := 6) rfl rfl (by decide) rfl (fun ls hl => ?_)
                                        refine lv_goto (tgt := 23) hx hb dL_law_1455 (by decide) ?_
                                        exact ih _ _ h _ _ _ _ (by omega) (by omega) hP hS ls (lv_sub hl [3, 4, 5, 6, 0] rfl)
                                      · have h := z_ip hc189 h
                                        refine lv_aload_n hx hb dL_law_837 rfl (lv_at hl 5 rfl) ?_
                                        refine lv_iconst (v := 0) hx hb dL_law_838 (by decide) ?_
                                        refine z_lald C Z hP dL_law_839 ?_
                                        refine lv_iload hx hb dL_law_840 (lv_at hl 0 rfl) ?_
                                        refine lv_i2l (v := ((r182).toInt64)) hx hb dL_law_842 rfl ?_
                                        refine W.lcmp hx hb dL_law_843 ?_
                                        refine lv_if_eq (tgt := 849) hx hb dL_law_844 (by decide) (fun hc190 => ?_) (fun hc190 => ?_)
                                        · have h := z_ip hc190 h
                                          refine lv_goto (tgt := 1452) hx hb dL_law_849 (by decide) ?_
                                          refine lv_iinc (v := (x4 + 4)) (lv' := [(4, .int ((x4 + 4))), (6, .int (r182)), (5, .int (r179)), (0, .ref b), (1, .ref (G.2.1 (90))), (2, .ref (G.2.1 (119))), (3, .ref (G.2.1 (125)))]) hx hb dL_law_1452 hl (k := 6) rfl rfl (by decide) rfl (fun ls hl => ?_)
                                          refine lv_goto (tgt := 23) hx hb dL_law_1455 (by decide) ?_
                                          exact ih _ _ h _ _ _ _ (by omega) (by omega) hP hS ls (lv_sub hl [3, 4, 5, 6, 0] rfl)
                                        · have h := z_in hc190 h
                                          refine lv_iconst (v := 0) hx hb dL_law_847 (by decide) ?_
                                          cases h
                                    · have h := z_in hc188 h
                                      refine lv_iconst (v := 0) hx hb dL_law_830 (by decide) ?_
                                      cases h
                                  · have h := z_in hc178 h
                                    by_cases hc191 : ((xs (x4).toNatClampNeg) &&& 31) = 15
                                    · have h := z_ip hc191 h
                                      refine lv_tableIn (tgt := 852) (off := 813) hx hb dL_law_39 (by rw [hc191]; decide) (by rw [hc191]; decide) (by rw [hc191]; rfl) (by decide) ?_
                                      refine lv_aload_n hx hb dL_law_852 rfl (lv_at hl 1 rfl) ?_
                                      refine lv_aload_n hx hb dL_law_853 rfl (lv_at hl 0 rfl) ?_
                                      refine lv_iload hx hb dL_law_854 (lv_at hl 4 rfl) ?_
                                      refine lv_iconst (v := 1) hx hb dL_law_856 (by decide) ?_
                                      refine lv_iadd hx hb dL_law_857 ?_
                                      obtain ⟨hg192, h⟩ := z_g h
                                      refine va_sld hx hb hX hbl hbA hS hg192 dL_law_858 ?_
                                      refine lv_aload_n hx hb dL_law_859 rfl (lv_at hl 0 rfl) ?_
                                      refine lv_iload hx hb dL_law_860 (lv_at hl 4 rfl) ?_
                                      refine lv_iconst (v := 2) hx hb dL_law_862 (by decide) ?_
                                      refine lv_iadd hx hb dL_law_863 ?_
                                      obtain ⟨hg193, h⟩ := z_g h
                                      refine va_sld hx hb hX hbl hbA hS hg193 dL_law_864 ?_
                                      refine lv_aload_n hx hb dL_law_865 rfl (lv_at hl 3 rfl) ?_
                                      obtain ⟨r194, m195, e196, h⟩ := zb_some h
                                      refine z_calliK hS (vx_runSW (As := [.ref (G.2.1 (90)), .int ((xs ((x4 + 1)).toNatClampNeg)), .int ((xs ((x4 + 2)).toNatClampNeg)), .ref (G.2.1 (125))]) (rest := []) C (c_L_trackOf l G hst e196 _) (vx_cwSW 4 hts gL_law_L_trackOf rfl rfl rfl hd_L_trackOf ⟨Nat.le_of_ble_eq_true rfl, Nat.le_of_ble_eq_true rfl⟩) (z_preS Z hS hP) rfl rfl hl.1 rfl (lv_room (Nat.le_of_ble_eq_true rfl)) dL_law_866 ⟨by show _ ≤ 601024; omega, by show _ ≤ 7293033; omega⟩) (fun H locs hP hS => ?_)
                                      refine lv_istore (lv' := [(5, .int (r194)), (0, .ref b), (1, .ref (G.2.1 (90))), (2, .ref (G.2.1 (119))), (3, .ref (G.2.1 (125))), (4, .int (x4))]) hx hb dL_law_869 hl (by decide) rfl (fun ls hl => ?_)
                                      refine lv_aload_n hx hb dL_law_871 rfl (lv_at hl 3 rfl) ?_
                                      refine lv_aload_n hx hb dL_law_872 rfl (lv_at hl 1 rfl) ?_
                                      refine lv_iload hx hb dL_law_873 (lv_at hl 5 rfl) ?_
                                      refine lv_iconst (v := 1) hx hb dL_law_875 (by decide) ?_
                                      refine lv_iadd hx hb dL_law_876 ?_
                                      refine va_sld hx hb hX hbl hbA hS hg192 dL_law_877 ?_
                                      refine lv_aload_n hx hb dL_law_878 rfl (lv_at hl 1 rfl) ?_
                                      refine lv_iload hx hb dL_law_879 (lv_at hl 5 rfl) ?_
                                      refine lv_iconst (v := 2) hx hb dL_law_881 (by decide) ?_
                                      refine lv_iadd hx hb dL_law_882 ?_
                                      refine va_sld hx hb hX hbl hbA hS hg193 dL_law_883 ?_
                                      obtain ⟨r197, m198, e199, h⟩ := zb_some h
                                      refine z_calli hS (va_runV (As := [.int ((xs ((x4 + 1)).toNatClampNeg)), .int ((xs ((x4 + 2)).toNatClampNeg))]) (rest := []) C (c_X4_trackOf l G e199 _) (cwV 2 hts gL_law_X4_trackOf rfl rfl rfl hv_X4_trackOf ⟨Nat.le_of_ble_eq_true rfl, Nat.le_of_ble_eq_true rfl⟩) (z_preV Z hS hP (by decide) (z_E_119 _) rfl rfl) rfl rfl hl.1 rfl (lv_room (Nat.le_of_ble_eq_true rfl)) dL_law_884 ⟨by show _ ≤ 601024; omega, by show _ ≤ 7293033; omega⟩) (fun H locs hP hS => ?_)
                                      refine lv_istore (lv' := [(6, .int (r197)), (5, .int (r194)), (0, .ref b), (1, .ref (G.2.1 (90))), (2, .ref (G.2.1 (119))), (3, .ref (G.2.1 (125))), (4, .int (x4))]) hx hb dL_law_887 hl (by decide) rfl (fun ls hl => ?_)
                                      refine lv_aload_n hx hb dL_law_889 rfl (lv_at hl 4 rfl) ?_
                                      obtain ⟨r200, m201, e202, h⟩ := zb_some h
                                      refine z_calli hS (va_runV (As := []) (rest := []) C (c_X4_thrown l G e202 _) (cwV 0 hts gL_law_X4_thrown rfl rfl rfl hv_X4_thrown ⟨Nat.le_of_ble_eq_true rfl, Nat.le_of_ble_eq_true rfl⟩) (z_preV Z hS hP (by decide) (z_E_119 _) rfl rfl) rfl rfl hl.1 rfl (lv_room (Nat.le_of_ble_eq_true rfl)) dL_law_890 ⟨by show _ ≤ 601024; omega, by show _ ≤ 7293033; omega⟩) (fun H locs hP hS => ?_)
                                      refine lv_iload hx hb dL_law_893 (lv_at hl 1 rfl) ?_
                                      refine lv_icmp_eq (tgt := 900) hx hb dL_law_895 (by decide) (fun hc203 => ?_) (fun hc203 => ?_)
                                      · have h := z_ip hc203 h
                                        refine lv_iload hx hb dL_law_900 (lv_at hl 1 rfl) ?_
                                        refine lv_if_ne (tgt := 917) hx hb dL_law_902 (by decide) (fun hc204 => ?_) (fun hc204 => ?_)
                                        · have h := z_in hc204 h
                                          refine lv_goto (tgt := 1452) hx hb dL_law_917 (by decide) ?_
                                          refine lv_iinc (v := (x4 + 4)) (lv' := [(4, .int ((x4 + 4))), (6, .int (r197)), (5, .int (r194)), (0, .ref b), (1, .ref (G.2.1 (90))), (2, .ref (G.2.1 (119))), (3, .ref (G.2.1 (125)))]) hx hb dL_law_1452 hl (k := 6) rfl rfl (by decide) rfl (fun ls hl => ?_)
                                          refine lv_goto (tgt := 23) hx hb dL_law_1455 (by decide) ?_
                                          exact ih _ _ h _ _ _ _ (by omega) (by omega) hP hS ls (lv_sub hl [3, 4, 5, 6, 0] rfl)
                                        · have h := z_ip hc204 h
                                          refine lv_aload_n hx hb dL_law_905 rfl (lv_at hl 5 rfl) ?_
                                          refine lv_iconst (v := 0) hx hb dL_law_906 (by decide) ?_
                                          refine z_lald C Z hP dL_law_907 ?_
                                          refine lv_iload hx hb dL_law_908 (lv_at hl 0 rfl) ?_
                                          refine lv_i2l (v := ((r197).toInt64)) hx hb dL_law_910 rfl ?_
                                          refine W.lcmp hx hb dL_law_911 ?_
                                          refine lv_if_eq (tgt := 917) hx hb dL_law_912 (by decide) (fun hc205 => ?_) (fun hc205 => ?_)
                                          · have h := z_ip hc205 h
                                            refine lv_goto (tgt := 1452) hx hb dL_law_917 (by decide) ?_
                                            refine lv_iinc (v := (x4 + 4)) (lv' := [(4, .int ((x4 + 4))), (6, .int (r197)), (5, .int (r194)), (0, .ref b), (1, .ref (G.2.1 (90))), (2, .ref (G.2.1 (119))), (3, .ref (G.2.1 (125)))]) hx hb dL_law_1452 hl (k := 6) rfl rfl (by decide) rfl (fun ls hl => ?_)
                                            refine lv_goto (tgt := 23) hx hb dL_law_1455 (by decide) ?_
                                            exact ih _ _ h _ _ _ _ (by omega) (by omega) hP hS ls (lv_sub hl [3, 4, 5, 6, 0] rfl)
                                          · have h := z_in hc205 h
                                            refine lv_iconst (v := 0) hx hb dL_law_915 (by decide) ?_
                                            cases h
                                      · have h := z_in hc203 h
                                        refine lv_iconst (v := 0) hx hb dL_law_898 (by decide) ?_
                                        cases h
                                    · have h := z_in hc191 h
                                      by_cases hc206 : ((xs (x4).toNatClampNeg) &&& 31) = 16
                                      · have h := z_ip hc206 h
                                        refine lv_tableIn (tgt := 920) (off := 881) hx hb dL_law_39 (by rw [hc206]; decide) (by rw [hc206]; decide) (by rw [hc206]; rfl) (by decide) ?_
                                        refine lv_aload_n hx hb dL_law_920 rfl (lv_at hl 1 rfl) ?_
                                        refine lv_aload_n hx hb dL_law_921 rfl (lv_at hl 0 rfl) ?_
                                        refine lv_iload hx hb dL_law_922 (lv_at hl 4 rfl) ?_
                                        refine lv_iconst (v := 1) hx hb dL_law_924 (by decide) ?_
                                        refine lv_iadd hx hb dL_law_925 ?_
                                        obtain ⟨hg207, h⟩ := z_g h
                                        refine va_sld hx hb hX hbl hbA hS hg207 dL_law_926 ?_
                                        refine lv_aload_n hx hb dL_law_927 rfl (lv_at hl 0 rfl) ?_
                                        refine lv_iload hx hb dL_law_928 (lv_at hl 4 rfl) ?_
                                        refine lv_iconst (v := 2) hx hb dL_law_930 (by decide) ?_
                                        refine lv_iadd hx hb dL_law_931 ?_
                                        obtain ⟨hg208, h⟩ := z_g h
                                        refine va_sld hx hb hX hbl hbA hS hg208 dL_law_932 ?_
                                        refine lv_aload_n hx hb dL_law_933 rfl (lv_at hl 3 rfl) ?_
                                        obtain ⟨r209, m210, e211, h⟩ := zb_some h
                                        refine z_calliK hS (vx_runSW (As := [.ref (G.2.1 (90)), .int ((xs ((x4 + 1)).toNatClampNeg)), .int ((xs ((x4 + 2)).toNatClampNeg)), .ref (G.2.1 (125))]) (rest := []) C (c_L_cylinderOf l G hst e211 _) (vx_cwSW 4 hts gL_law_L_cylinderOf rfl rfl rfl hd_L_cylinderOf ⟨Nat.le_of_ble_eq_true rfl, Nat.le_of_ble_eq_true rfl⟩) (z_preS Z hS hP) rfl rfl hl.1 rfl (lv_room (Nat.le_of_ble_eq_true rfl)) dL_law_934 ⟨by show _ ≤ 601024; omega, by show _ ≤ 7293033; omega⟩) (fun H locs hP hS => ?_)
                                        refine lv_istore (lv' := [(5, .int (r209)), (0, .ref b), (1, .ref (G.2.1 (90))), (2, .ref (G.2.1 (119))), (3, .ref (G.2.1 (125))), (4, .int (x4))]) hx hb dL_law_937 hl (by decide) rfl (fun ls hl => ?_)
                                        refine lv_aload_n hx hb dL_law_939 rfl (lv_at hl 3 rfl) ?_
                                        refine lv_aload_n hx hb dL_law_940 rfl (lv_at hl 1 rfl) ?_
                                        refine lv_iload hx hb dL_law_941 (lv_at hl 5 rfl) ?_
                                        refine lv_iconst (v := 1) hx hb dL_law_943 (by decide) ?_
                                        refine lv_iadd hx hb dL_law_944 ?_
                                        refine va_sld hx hb hX hbl hbA hS hg207 dL_law_945 ?_
                                        refine lv_aload_n hx hb dL_law_946 rfl (lv_at hl 1 rfl) ?_
                                        refine lv_iload hx hb dL_law_947 (lv_at hl 5 rfl) ?_
                                        refine lv_iconst (v := 2) hx hb dL_law_949 (by decide) ?_
                                        refine lv_iadd hx hb dL_law_950 ?_
                                        refine va_sld hx hb hX hbl hbA hS hg208 dL_law_951 ?_
                                        obtain ⟨r212, m213, e214, h⟩ := zb_some h
                                        refine z_calli hS (va_runV (As := [.int ((xs ((x4 + 1)).toNatClampNeg)), .int ((xs ((x4 + 2)).toNatClampNeg))]) (rest := []) C (c_X4_cylinderOf l G e214 _) (cwV 2 hts gL_law_X4_cylinderOf rfl rfl rfl hv_X4_cylinderOf ⟨Nat.le_of_ble_eq_true rfl, Nat.le_of_ble_eq_true rfl⟩) (z_preV Z hS hP (by decide) (z_E_119 _) rfl rfl) rfl rfl hl.1 rfl (lv_room (Nat.le_of_ble_eq_true rfl)) dL_law_952 ⟨by show _ ≤ 601024; omega, by show _ ≤ 7293033; omega⟩) (fun H locs hP hS => ?_)
                                        refine lv_istore (lv' := [(6, .int (r212)), (5, .int (r209)), (0, .ref b), (1, .ref (G.2.1 (90))), (2, .ref (G.2.1 (119))), (3, .ref (G.2.1 (125))), (4, .int (x4))]) hx hb dL_law_955 hl (by decide) rfl (fun ls hl => ?_)
                                        refine lv_aload_n hx hb dL_law_957 rfl (lv_at hl 4 rfl) ?_
                                        obtain ⟨r215, m216, e217, h⟩ := zb_some h
                                        refine z_calli hS (va_runV (As := []) (rest := []) C (c_X4_thrown l G e217 _) (cwV 0 hts gL_law_X4_thrown rfl rfl rfl hv_X4_thrown ⟨Nat.le_of_ble_eq_true rfl, Nat.le_of_ble_eq_true rfl⟩) (z_preV Z hS hP (by decide) (z_E_119 _) rfl rfl) rfl rfl hl.1 rfl (lv_room (Nat.le_of_ble_eq_true rfl)) dL_law_958 ⟨by show _ ≤ 601024; omega, by show _ ≤ 7293033; omega⟩) (fun H locs hP hS => ?_)
                                        refine lv_iload hx hb dL_law_961 (lv_at hl 1 rfl) ?_
                                        refine lv_icmp_eq (tgt := 968) hx hb dL_law_963 (by decide) (fun hc218 => ?_) (fun hc218 => ?_)
                                        · have h := z_ip hc218 h
                                          refine lv_iload hx hb dL_law_968 (lv_at hl 1 rfl) ?_
                                          refine lv_if_ne (tgt := 985) hx hb dL_law_970 (by decide) (fun hc219 => ?_) (fun hc219 => ?_)
                                          · have h := z_in hc219 h
                                            refine lv_goto (tgt := 1452) hx hb dL_law_985 (by decide) ?_
                                            refine lv_iinc (v := (x4 + 4)) (lv' := [(4, .int ((x4 + 4))), (6, .int (r212)), (5, .int (r209)), (0, .ref b), (1, .ref (G.2.1 (90))), (2, .ref (G.2.1 (119))), (3, .ref (G.2.1 (125)))]) hx hb dL_law_1452 hl (k := 6) rfl rfl (by decide) rfl (fun ls hl => ?_)
                                            refine lv_goto (tgt := 23) hx hb dL_law_1455 (by decide) ?_
                                            exact ih _ _ h _ _ _ _ (by omega) (by omega) hP hS ls (lv_sub hl [3, 4, 5, 6, 0] rfl)
                                          · have h := z_ip hc219 h
                                            refine lv_aload_n hx hb dL_law_973 rfl (lv_at hl 5 rfl) ?_
                                            refine lv_iconst (v := 0) hx hb dL_law_974 (by decide) ?_
                                            refine z_lald C Z hP dL_law_975 ?_
                                            refine lv_iload hx hb dL_law_976 (lv_at hl 0 rfl) ?_
                                            refine lv_i2l (v := ((r212).toInt64)) hx hb dL_law_978 rfl ?_
                                            refine W.lcmp hx hb dL_law_979 ?_
                                            refine lv_if_eq (tgt := 985) hx hb dL_law_980 (by decide) (fun hc220 => ?_) (fun hc220 => ?_)
                                            · have h := z_ip hc220 h
                                              refine lv_goto (tgt := 1452) hx hb dL_law_985 (by decide) ?_
                                              refine lv_iinc (v := (x4 + 4)) (lv' := [(4, .int ((x4 + 4))), (6, .int (r212)), (5, .int (r209)), (0, .ref b), (1, .ref (G.2.1 (90))), (2, .ref (G.2.1 (119))), (3, .ref (G.2.1 (125)))]) hx hb dL_law_1452 hl (k := 6) rfl rfl (by decide) rfl (fun ls hl => ?_)
                                              refine lv_goto (tgt := 23) hx hb dL_law_1455 (by decide) ?_
                                              exact ih _ _ h _ _ _ _ (by omega) (by omega) hP hS ls (lv_sub hl [3, 4, 5, 6, 0] rfl)
                                            · have h := z_in hc220 h
                                              refine lv_iconst (v := 0) hx hb dL_law_983 (by decide) ?_
                                              cases h
                                        · have h := z_in hc218 h
                                          refine lv_iconst (v := 0) hx hb dL_law_966 (by decide) ?_
                                          cases h
                                      · have h := z_in hc206 h
                                        by_cases hc221 : ((xs (x4).toNatClampNeg) &&& 31) = 17
                                        · have h := z_ip hc221 h
                                          refine lv_tableIn (tgt := 988) (off := 949) hx hb dL_law_39 (by rw [hc221]; decide) (by rw [hc221]; decide) (by rw [hc221]; rfl) (by decide) ?_
                                          refine lv_aload_n hx hb dL_law_988 rfl (lv_at hl 1 rfl) ?_
                                          refine lv_aload_n hx hb dL_law_989 rfl (lv_at hl 0 rfl) ?_
                                          refine lv_iload hx hb dL_law_990 (lv_at hl 4 rfl) ?_
                                          refine lv_iconst (v := 1) hx hb dL_law_992 (by decide) ?_
                                          refine lv_iadd hx hb dL_law_993 ?_
                                          obtain ⟨hg222, h⟩ := z_g h
                                          refine va_sld hx hb hX hbl hbA hS hg222 dL_law_994 ?_
                                          refine lv_aload_n hx hb dL_law_995 rfl (lv_at hl 3 rfl) ?_
                                          obtain ⟨r223, m224, e225, h⟩ := zb_some h
                                          refine z_calliK hS (vx_runSW (As := [.ref (G.2.1 (90)), .int ((xs ((x4 + 1)).toNatClampNeg)), .ref (G.2.1 (125))]) (rest := []) C (c_L_count l G hst e225 _) (vx_cwSW 3 hts gL_law_L_count rfl rfl rfl hd_L_count ⟨Nat.le_of_ble_eq_true rfl, Nat.le_of_ble_eq_true rfl⟩) (z_preS Z hS hP) rfl rfl hl.1 rfl (lv_room (Nat.le_of_ble_eq_true rfl)) dL_law_996 ⟨by show _ ≤ 601024; omega, by show _ ≤ 7293033; omega⟩) (fun H locs hP hS => ?_)
                                          refine lv_istore (lv' := [(5, .int (r223)), (0, .ref b), (1, .ref (G.2.1 (90))), (2, .ref (G.2.1 (119))), (3, .ref (G.2.1 (125))), (4, .int (x4))]) hx hb dL_law_999 hl (by decide) rfl (fun ls hl => ?_)
                                          refine lv_aload_n hx hb dL_law_1001 rfl (lv_at hl 3 rfl) ?_
                                          refine lv_aload_n hx hb dL_law_1002 rfl (lv_at hl 1 rfl) ?_
                                          refine lv_iload hx hb dL_law_1003 (lv_at hl 5 rfl) ?_
                                          refine lv_iconst (v := 1) hx hb dL_law_1005 (by decide) ?_
                                          refine lv_iadd hx hb dL_law_1006 ?_
                                          refine va_sld hx hb hX hbl hbA hS hg222 dL_law_1007 ?_
                                          obtain ⟨r226, m227, e228, h⟩ := zb_some h
                                          refine z_calli hS (va_runV (As := [.int ((xs ((x4 + 1)).toNatClampNeg))]) (rest := []) C (c_X4_count l G e228 _) (cwV 1 hts gL_law_X4_count rfl rfl rfl hv_X4_count ⟨Nat.le_of_ble_eq_true rfl, Nat.le_of_ble_eq_true rfl⟩) (z_preV Z hS hP (by decide) (z_E_119 _) rfl rfl) rfl rfl hl.1 rfl (lv_room (Nat.le_of_ble_eq_true rfl)) dL_law_1008 ⟨by show _ ≤ 601024; omega, by show _ ≤ 7293033; omega⟩) (fun H locs hP hS => ?_)
                                          refine lv_istore (lv' := [(6, .int (r226)), (5, .int (r223)), (0, .ref b), (1, .ref (G.2.1 (90))), (2, .ref (G.2.1 (119))), (3, .ref (G.2.1 (125))), (4, .int (x4))]) hx hb dL_law_1011 hl (by decide) rfl (fun ls hl => ?_)
                                          refine lv_aload_n hx hb dL_law_1013 rfl (lv_at hl 4 rfl) ?_
                                          obtain ⟨r229, m230, e231, h⟩ := zb_some h
                                          refine z_calli hS (va_runV (As := []) (rest := []) C (c_X4_thrown l G e231 _) (cwV 0 hts gL_law_X4_thrown rfl rfl rfl hv_X4_thrown ⟨Nat.le_of_ble_eq_true rfl, Nat.le_of_ble_eq_true rfl⟩) (z_preV Z hS hP (by decide) (z_E_119 _) rfl rfl) rfl rfl hl.1 rfl (lv_room (Nat.le_of_ble_eq_true rfl)) dL_law_1014 ⟨by show _ ≤ 601024; omega, by show _ ≤ 7293033; omega⟩) (fun H locs hP hS => ?_)
                                          refine lv_iload hx hb dL_law_1017 (lv_at hl 1 rfl) ?_
                                          refine lv_icmp_eq (tgt := 1024) hx hb dL_law_1019 (by decide) (fun hc232 => ?_) (fun hc232 => ?_)
                                          · have h := z_ip hc232 h
                                            refine lv_iload hx hb dL_law_1024 (lv_at hl 1 rfl) ?_
                                            refine lv_if_ne (tgt := 1041) hx hb dL_law_1026 (by decide) (fun hc233 => ?_) (fun hc233 => ?_)
                                            · have h := z_in hc233 h
                                              refine lv_goto (tgt := 1452) hx hb dL_law_1041 (by decide) ?_
                                              refine lv_iinc (v := (x4 + 4)) (lv' := [(4, .int ((x4 + 4))), (6, .int (r226)), (5, .int (r223)), (0, .ref b), (1, .ref (G.2.1 (90))), (2, .ref (G.2.1 (119))), (3, .ref (G.2.1 (125)))]) hx hb dL_law_1452 hl (k := 6) rfl rfl (by decide) rfl (fun ls hl => ?_)
                                              refine lv_goto (tgt := 23) hx hb dL_law_1455 (by decide) ?_
                                              exact ih _ _ h _ _ _ _ (by omega) (by omega) hP hS ls (lv_sub hl [3, 4, 5, 6, 0] rfl)
                                            · have h := z_ip hc233 h
                                              refine lv_aload_n hx hb dL_law_1029 rfl (lv_at hl 5 rfl) ?_
                                              refine lv_iconst (v := 0) hx hb dL_law_1030 (by decide) ?_
                                              refine z_lald C Z hP dL_law_1031 ?_
                                              refine lv_iload hx hb dL_law_1032 (lv_at hl 0 rfl) ?_
                                              refine lv_i2l (v := ((r226).toInt64)) hx hb dL_law_1034 rfl ?_
                                              refine W.lcmp hx hb dL_law_1035 ?_
                                              refine lv_if_eq (tgt := 1041) hx hb dL_law_1036 (by decide) (fun hc234 => ?_) (fun hc234 => ?_)
                                              · have h := z_ip hc234 h
                                                refine lv_goto (tgt := 1452) hx hb dL_law_1041 (by decide) ?_
                                                refine lv_iinc (v := (x4 + 4)) (lv' := [(4, .int ((x4 + 4))), (6, .int (r226)), (5, .int (r223)), (0, .ref b), (1, .ref (G.2.1 (90))), (2, .ref (G.2.1 (119))), (3, .ref (G.2.1 (125)))]) hx hb dL_law_1452 hl (k := 6) rfl rfl (by decide) rfl (fun ls hl => ?_)
                                                refine lv_goto (tgt := 23) hx hb dL_law_1455 (by decide) ?_
                                                exact ih _ _ h _ _ _ _ (by omega) (by omega) hP hS ls (lv_sub hl [3, 4, 5, 6, 0] rfl)
                                              · have h := z_in hc234 h
                                                refine lv_iconst (v := 0) hx hb dL_law_1039 (by decide) ?_
                                                cases h
                                          · have h := z_in hc232 h
                                            refine lv_iconst (v := 0) hx hb dL_law_1022 (by decide) ?_
                                            cases h
                                        · have h := z_in hc221 h
                                          by_cases hc235 : ((xs (x4).toNatClampNeg) &&& 31) = 18
                                          · have h := z_ip hc235 h
                                            refine lv_tableIn (tgt := 1044) (off := 1005) hx hb dL_law_39 (by rw [hc235]; decide) (by rw [hc235]; decide) (by rw [hc235]; rfl) (by decide) ?_
                                            refine lv_aload_n hx hb dL_law_1044 rfl (lv_at hl 1 rfl) ?_
                                            obtain ⟨r236, m237, e238, h⟩ := zb_some h
                                            refine z_calli hS (va_runV (As := []) (rest := []) C (c_X3_setting l G e238 _) (cwV 0 hts gL_law_X3_setting rfl rfl rfl hv_X3_setting ⟨Nat.le_of_ble_eq_true rfl, Nat.le_of_ble_eq_true rfl⟩) (z_preV Z hS hP (by decide) (z_E_90 _) rfl rfl) rfl rfl hl.1 rfl (lv_room (Nat.le_of_ble_eq_true rfl)) dL_law_1045 ⟨by show _ ≤ 601024; omega, by show _ ≤ 7293033; omega⟩) (fun H locs hP hS => ?_)
                                            refine lv_aload_n hx hb dL_law_1048 rfl (lv_at hl 2 rfl) ?_
                                            obtain ⟨r239, m240, e241, h⟩ := zb_some h
                                            refine z_calli hS (va_runV (As := []) (rest := [.int (r236)]) C (c_X4_setting l G e241 _) (cwV 0 hts gL_law_X4_setting rfl rfl rfl hv_X4_setting ⟨Nat.le_of_ble_eq_true rfl, Nat.le_of_ble_eq_true rfl⟩) (z_preV Z hS hP (by decide) (z_E_119 _) rfl rfl) rfl rfl hl.1 rfl (lv_room (Nat.le_of_ble_eq_true rfl)) dL_law_1049 ⟨by show _ ≤ 601024; omega, by show _ ≤ 7293033; omega⟩) (fun H locs hP hS => ?_)
                                            refine lv_icmp_eq (tgt := 1452) hx hb dL_law_1052 (by decide) (fun hc242 => ?_) (fun hc242 => ?_)
                                            · have h := z_ip hc242 h
                                              refine lv_iinc (v := (x4 + 4)) (lv' := [(4, .int ((x4 + 4))), (0, .ref b), (1, .ref (G.2.1 (90))), (2, .ref (G.2.1 (119))), (3, .ref (G.2.1 (125)))]) hx hb dL_law_1452 hl (k := 4) rfl rfl (by decide) rfl (fun ls hl => ?_)
                                              refine lv_goto (tgt := 23) hx hb dL_law_1455 (by decide) ?_
                                              exact ih _ _ h _ _ _ _ (by omega) (by omega) hP hS ls (lv_sub hl [1, 2, 3, 4, 0] rfl)
                                            · have h := z_in hc242 h
                                              refine lv_iconst (v := 0) hx hb dL_law_1055 (by decide) ?_
                                              cases h
                                          · have h := z_in hc235 h
                                            by_cases hc243 : ((xs (x4).toNatClampNeg) &&& 31) = 19
                                            · have h := z_ip hc243 h
                                              refine lv_tableIn (tgt := 1057) (off := 1018) hx hb dL_law_39 (by rw [hc243]; decide) (by rw [hc243]; decide) (by rw [hc243]; rfl) (by decide) ?_
                                              refine lv_aload_n hx hb dL_law_1057 rfl (lv_at hl 1 rfl) ?_
                                              refine lv_aload_n hx hb dL_law_1058 rfl (lv_at hl 0 rfl) ?_
                                              refine lv_iload hx hb dL_law_1059 (lv_at hl 4 rfl) ?_
                                              refine lv_iconst (v := 1) hx hb dL_law_1061 (by decide) ?_
                                              refine lv_iadd hx hb dL_law_1062 ?_
                                              obtain ⟨hg244, h⟩ := z_g h
                                              refine va_sld hx hb hX hbl hbA hS hg244 dL_law_1063 ?_
                                              refine lv_aload_n hx hb dL_law_1064 rfl (lv_at hl 0 rfl) ?_
                                              refine lv_iload hx hb dL_law_1065 (lv_at hl 4 rfl) ?_
                                              refine lv_iconst (v := 2) hx hb dL_law_1067 (by decide) ?_
                                              refine lv_iadd hx hb dL_law_1068 ?_
                                              obtain ⟨hg245, h⟩ := z_g h
                                              refine va_sld hx hb hX hbl hbA hS hg245 dL_law_1069 ?_
                                              refine lv_aload_n hx hb dL_law_1070 rfl (lv_at hl 3 rfl) ?_
                                              obtain ⟨r246, m247, e248, h⟩ := zb_some h
                                              refine z_calliK hS (vx_runSW (As := [.ref (G.2.1 (90)), .int ((xs ((x4 + 1)).toNatClampNeg)), .int ((xs ((x4 + 2)).toNatClampNeg)), .ref (G.2.1 (125))]) (rest := []) C (c_L_whyNot l G hst e248 _) (vx_cwSW 4 hts gL_law_L_whyNot rfl rfl rfl hd_L_whyNot ⟨Nat.le_of_ble_eq_true rfl, Nat.le_of_ble_eq_true rfl⟩) (z_preS Z hS hP) rfl rfl hl.1 rfl (lv_room (Nat.le_of_ble_eq_true rfl)) dL_law_1071 ⟨by show _ ≤ 601024; omega, by show _ ≤ 7293033; omega⟩) (fun H locs hP hS => ?_)
                                              refine lv_istore (lv' := [(5, .int (r246)), (0, .ref b), (1, .ref (G.2.1 (90))), (2, .ref (G.2.1 (119))), (3, .ref (G.2.1 (125))), (4, .int (x4))]) hx hb dL_law_1074 hl (by decide) rfl (fun ls hl => ?_)
                                              refine lv_aload_n hx hb dL_law_1076 rfl (lv_at hl 3 rfl) ?_
                                              refine lv_aload_n hx hb dL_law_1077 rfl (lv_at hl 1 rfl) ?_
                                              refine lv_iload hx hb dL_law_1078 (lv_at hl 5 rfl) ?_
                                              refine lv_iconst (v := 1) hx hb dL_law_1080 (by decide) ?_
                                              refine lv_iadd hx hb dL_law_1081 ?_
                                              refine va_sld hx hb hX hbl hbA hS hg244 dL_law_1082 ?_
                                              refine lv_aload_n hx hb dL_law_1083 rfl (lv_at hl 1 rfl) ?_
                                              refine lv_iload hx hb dL_law_1084 (lv_at hl 5 rfl) ?_
                                              refine lv_iconst (v := 2) hx hb dL_law_1086 (by decide) ?_
                                              refine lv_iadd hx hb dL_law_1087 ?_
                                              refine va_sld hx hb hX hbl hbA hS hg245 dL_law_1088 ?_
                                              obtain ⟨r249, m250, e251, h⟩ := zb_some h
                                              refine z_calli hS (va_runV (As := [.int ((xs ((x4 + 1)).toNatClampNeg)), .int ((xs ((x4 + 2)).toNatClampNeg))]) (rest := []) C (c_X4_whyNot l G e251 _) (cwV 2 hts gL_law_X4_whyNot rfl rfl rfl hv_X4_whyNot ⟨Nat.le_of_ble_eq_true rfl, Nat.le_of_ble_eq_true rfl⟩) (z_preV Z hS hP (by decide) (z_E_119 _) rfl rfl) rfl rfl hl.1 rfl (lv_room (Nat.le_of_ble_eq_true rfl)) dL_law_1089 ⟨by show _ ≤ 601024; omega, by show _ ≤ 7293033; omega⟩) (fun H locs hP hS => ?_)
                                              refine lv_istore (lv' := [(6, .int (r249)), (5, .int (r246)), (0, .ref b), (1, .ref (G.2.1 (90))), (2, .ref (G.2.1 (119))), (3, .ref (G.2.1 (125))), (4, .int (x4))]) hx hb dL_law_1092 hl (by decide) rfl (fun ls hl => ?_)
                                              refine lv_aload_n hx hb dL_law_1094 rfl (lv_at hl 4 rfl) ?_
                                              obtain ⟨r252, m253, e254, h⟩ := zb_some h
                                              refine z_calli hS (va_runV (As := []) (rest := []) C (c_X4_thrown l G e254 _) (cwV 0 hts gL_law_X4_thrown rfl rfl rfl hv_X4_thrown ⟨Nat.le_of_ble_eq_true rfl, Nat.le_of_ble_eq_true rfl⟩) (z_preV Z hS hP (by decide) (z_E_119 _) rfl rfl) rfl rfl hl.1 rfl (lv_room (Nat.le_of_ble_eq_true rfl)) dL_law_1095 ⟨by show _ ≤ 601024; omega, by show _ ≤ 7293033; omega⟩) (fun H locs hP hS => ?_)
                                              refine lv_iload hx hb dL_law_1098 (lv_at hl 1 rfl) ?_
                                              refine lv_icmp_eq (tgt := 1105) hx hb dL_law_1100 (by decide) (fun hc255 => ?_) (fun hc255 => ?_)
                                              · have h := z_ip hc255 h
                                                refine lv_iload hx hb dL_law_1105 (lv_at hl 1 rfl) ?_
                                                refine lv_if_ne (tgt := 1122) hx hb dL_law_1107 (by decide) (fun hc256 => ?_) (fun hc256 => ?_)
                                                · have h := z_in hc256 h
                                                  refine lv_goto (tgt := 1452) hx hb dL_law_1122 (by decide) ?_
                                                  refine lv_iinc (v := (x4 + 4)) (lv' := [(4, .int ((x4 + 4))), (6, .int (r249)), (5, .int (r246)), (0, .ref b), (1, .ref (G.2.1 (90))), (2, .ref (G.2.1 (119))), (3, .ref (G.2.1 (125)))]) hx hb dL_law_1452 hl (k := 6) rfl rfl (by decide) rfl (fun ls hl => ?_)
                                                  refine lv_goto (tgt := 23) hx hb dL_law_1455 (by decide) ?_
                                                  exact ih _ _ h _ _ _ _ (by omega) (by omega) hP hS ls (lv_sub hl [3, 4, 5, 6, 0] rfl)
                                                · have h := z_ip hc256 h
                                                  refine lv_aload_n hx hb dL_law_1110 rfl (lv_at hl 5 rfl) ?_
                                                  refine lv_iconst (v := 0) hx hb dL_law_1111 (by decide) ?_
                                                  refine z_lald C Z hP dL_law_1112 ?_
                                                  refine lv_iload hx hb dL_law_1113 (lv_at hl 0 rfl) ?_
                                                  refine lv_i2l (v := ((r249).toInt64)) hx hb dL_law_1115 rfl ?_
                                                  refine W.lcmp hx hb dL_law_1116 ?_
                                                  refine lv_if_eq (tgt := 1122) hx hb dL_law_1117 (by decide) (fun hc257 => ?_) (fun hc257 => ?_)
                                                  · have h := z_ip hc257 h
                                                    refine lv_goto (tgt := 1452) hx hb dL_law_1122 (by decide) ?_
                                                    refine lv_iinc (v := (x4 + 4)) (lv' := [(4, .int ((x4 + 4))), (6, .int (r249)), (5, .int (r246)), (0, .ref b), (1, .ref (G.2.1 (90))), (2, .ref (G.2.1 (119))), (3, .ref (G.2.1 (125)))]) hx hb dL_law_1452 hl (k := 6) rfl rfl (by decide) rfl (fun ls hl => ?_)
                                                    refine lv_goto (tgt := 23) hx hb dL_law_1455 (by decide) ?_
                                                    exact ih _ _ h _ _ _ _ (by omega) (by omega) hP hS ls (lv_sub hl [3, 4, 5, 6, 0] rfl)
                                                  · have h := z_in hc257 h
                                                    refine lv_iconst (v := 0) hx hb dL_law_1120 (by decide) ?_
                                                    cases h
                                              · have h := z_in hc255 h
                                                refine lv_iconst (v := 0) hx hb dL_law_1103 (by decide) ?_
                                                cases h
                                            · have h := z_in hc243 h
                                              by_cases hc258 : ((xs (x4).toNatClampNeg) &&& 31) = 20
                                              · have h := z_ip hc258 h
                                                refine lv_tableIn (tgt := 1125) (off := 1086) hx hb dL_law_39 (by rw [hc258]; decide) (by rw [hc258]; decide) (by rw [hc258]; rfl) (by decide) ?_
                                                refine lv_aload_n hx hb dL_law_1125 rfl (lv_at hl 1 rfl) ?_
                                                refine lv_aload_n hx hb dL_law_1126 rfl (lv_at hl 0 rfl) ?_
                                                refine lv_iload hx hb dL_law_1127 (lv_at hl 4 rfl) ?_
                                                refine lv_iconst (v := 1) hx hb dL_law_1129 (by decide) ?_
                                                refine lv_iadd hx hb dL_law_1130 ?_
                                                obtain ⟨hg259, h⟩ := z_g h
                                                refine va_sld hx hb hX hbl hbA hS hg259 dL_law_1131 ?_
                                                refine lv_aload_n hx hb dL_law_1132 rfl (lv_at hl 0 rfl) ?_
                                                refine lv_iload hx hb dL_law_1133 (lv_at hl 4 rfl) ?_
                                                refine lv_iconst (v := 2) hx hb dL_law_1135 (by decide) ?_
                                                refine lv_iadd hx hb dL_law_1136 ?_
                                                obtain ⟨hg260, h⟩ := z_g h
                                                refine va_sld hx hb hX hbl hbA hS hg260 dL_law_1137 ?_
                                                refine lv_aload_n hx hb dL_law_1138 rfl (lv_at hl 0 rfl) ?_
                                                refine lv_iload hx hb dL_law_1139 (lv_at hl 4 rfl) ?_
                                                refine lv_iconst (v := 3) hx hb dL_law_1141 (by decide) ?_
                                                refine lv_iadd hx hb dL_law_1142 ?_
                                                obtain ⟨hg261, h⟩ := z_g h
                                                refine va_sld hx hb hX hbl hbA hS hg261 dL_law_1143 ?_
                                                refine lv_aload_n hx hb dL_law_1144 rfl (lv_at hl 3 rfl) ?_
                                                obtain ⟨r262, m263, e264, h⟩ := zb_some h
                                                refine z_calliK hS (vx_runSW (As := [.ref (G.2.1 (90)), .int ((xs ((x4 + 1)).toNatClampNeg)), .int ((xs ((x4 + 2)).toNatClampNeg)), .int ((xs ((x4 + 3)).toNatClampNeg)), .ref (G.2.1 (125))]) (rest := []) C (c_L_ifCopied l G hst e264 _) (vx_cwSW 5 hts gL_law_L_ifCopied rfl rfl rfl hd_L_ifCopied ⟨Nat.le_of_ble_eq_true rfl, Nat.le_of_ble_eq_true rfl⟩) (z_preS Z hS hP) rfl rfl hl.1 rfl (lv_room (Nat.le_of_ble_eq_true rfl)) dL_law_1145 ⟨by show _ ≤ 601024; omega, by show _ ≤ 7293033; omega⟩) (fun H locs hP hS => ?_)
                                                refine lv_istore (lv' := [(5, .int (r262)), (0, .ref b), (1, .ref (G.2.1 (90))), (2, .ref (G.2.1 (119))), (3, .ref (G.2.1 (125))), (4, .int (x4))]) hx hb dL_law_1148 hl (by decide) rfl (fun ls hl => ?_)
                                                refine lv_aload_n hx hb dL_law_1150 rfl (lv_at hl 3 rfl) ?_
                                                refine lv_aload_n hx hb dL_law_1151 rfl (lv_at hl 1 rfl) ?_
                                                refine lv_iload hx hb dL_law_1152 (lv_at hl 5 rfl) ?_
                                                refine lv_iconst (v := 1) hx hb dL_law_1154 (by decide) ?_
                                                refine lv_iadd hx hb dL_law_1155 ?_
                                                refine va_sld hx hb hX hbl hbA hS hg259 dL_law_1156 ?_
                                                refine lv_aload_n hx hb dL_law_1157 rfl (lv_at hl 1 rfl) ?_
                                                refine lv_iload hx hb dL_law_1158 (lv_at hl 5 rfl) ?_
                                                refine lv_iconst (v := 2) hx hb dL_law_1160 (by decide) ?_
                                                refine lv_iadd hx hb dL_law_1161 ?_
                                                refine va_sld hx hb hX hbl hbA hS hg260 dL_law_1162 ?_
                                                refine lv_aload_n hx hb dL_law_1163 rfl (lv_at hl 1 rfl) ?_
                                                refine lv_iload hx hb dL_law_1164 (lv_at hl 5 rfl) ?_
                                                refine lv_iconst (v := 3) hx hb dL_law_1166 (by decide) ?_
                                                refine lv_iadd hx hb dL_law_1167 ?_
                                                refine va_sld hx hb hX hbl hbA hS hg261 dL_law_1168 ?_
                                                obtain ⟨r265, m266, e267, h⟩ := zb_some h
                                                refine z_calli hS (va_runV (As := [.int ((xs ((x4 + 1)).toNatClampNeg)), .int ((xs ((x4 + 2)).toNatClampNeg)), .int ((xs ((x4 + 3)).toNatClampNeg))]) (rest := []) C (c_X4_ifCopied l G e267 _) (cwV 3 hts gL_law_X4_ifCopied rfl rfl rfl hv_X4_ifCopied ⟨Nat.le_of_ble_eq_true rfl, Nat.le_of_ble_eq_true rfl⟩) (z_preV Z hS hP (by decide) (z_E_119 _) rfl rfl) rfl rfl hl.1 rfl (lv_room (Nat.le_of_ble_eq_true rfl)) dL_law_1169 ⟨by show _ ≤ 601024; omega, by show _ ≤ 7293033; omega⟩) (fun H locs hP hS => ?_)
                                                refine lv_istore (lv' := [(6, .int (r265)), (5, .int (r262)), (0, .ref b), (1, .ref (G.2.1 (90))), (2, .ref (G.2.1 (119))), (3, .ref (G.2.1 (125))), (4, .int (x4))]) hx hb dL_law_1172 hl (by decide) rfl (fun ls hl => ?_)
                                                refine lv_aload_n hx hb dL_law_1174 rfl (lv_at hl 4 rfl) ?_
                                                obtain ⟨r268, m269, e270, h⟩ := zb_some h
                                                refine z_calli hS (va_runV (As := []) (rest := []) C (c_X4_thrown l G e270 _) (cwV 0 hts gL_law_X4_thrown rfl rfl rfl hv_X4_thrown ⟨Nat.le_of_ble_eq_true rfl, Nat.le_of_ble_eq_true rfl⟩) (z_preV Z hS hP (by decide) (z_E_119 _) rfl rfl) rfl rfl hl.1 rfl (lv_room (Nat.le_of_ble_eq_true rfl)) dL_law_1175 ⟨by show _ ≤ 601024; omega, by show _ ≤ 7293033; omega⟩) (fun H locs hP hS => ?_)
                                                refine lv_iload hx hb dL_law_1178 (lv_at hl 1 rfl) ?_
                                                refine lv_icmp_eq (tgt := 1185) hx hb dL_law_1180 (by decide) (fun hc271 => ?_) (fun hc271 => ?_)
                                                · have h := z_ip hc271 h
                                                  refine lv_iload hx hb dL_law_1185 (lv_at hl 1 rfl) ?_
                                                  refine lv_if_ne (tgt := 1202) hx hb dL_law_1187 (by decide) (fun hc272 => ?_) (fun hc272 => ?_)
                                                  · have h := z_in hc272 h
                                                    refine lv_goto (tgt := 1452) hx hb dL_law_1202 (by decide) ?_
                                                    refine lv_iinc (v := (x4 + 4)) (lv' := [(4, .int ((x4 + 4))), (6, .int (r265)), (5, .int (r262)), (0, .ref b), (1, .ref (G.2.1 (90))), (2, .ref (G.2.1 (119))), (3, .ref (G.2.1 (125)))]) hx hb dL_law_1452 hl (k := 6) rfl rfl (by decide) rfl (fun ls hl => ?_)
                                                    refine lv_goto (tgt := 23) hx hb dL_law_1455 (by decide) ?_
                                                    exact ih _ _ h _ _ _ _ (by omega) (by omega) hP hS ls (lv_sub hl [3, 4, 5, 6, 0] rfl)
                                                  · have h := z_ip hc272 h
                                                    refine lv_aload_n hx hb dL_law_1190 rfl (lv_at hl 5 rfl) ?_
                                                    refine lv_iconst (v := 0) hx hb dL_law_1191 (by decide) ?_
                                                    refine z_lald C Z hP dL_law_1192 ?_
                                                    refine lv_iload hx hb dL_law_1193 (lv_at hl 0 rfl) ?_
                                                    refine lv_i2l (v := ((r265).toInt64)) hx hb dL_law_1195 rfl ?_
                                                    refine W.lcmp hx hb dL_law_1196 ?_
                                                    refine lv_if_eq (tgt := 1202) hx hb dL_law_1197 (by decide) (fun hc273 => ?_) (fun hc273 => ?_)
                                                    · have h := z_ip hc273 h
                                                      refine lv_goto (tgt := 1452) hx hb dL_law_1202 (by decide) ?_
                                                      refine lv_iinc (v := (x4 + 4)) (lv' := [(4, .int ((x4 + 4))), (6, .int (r265)), (5, .int (r262)), (0, .ref b), (1, .ref (G.2.1 (90))), (2, .ref (G.2.1 (119))), (3, .ref (G.2.1 (125)))]) hx hb dL_law_1452 hl (k := 6) rfl rfl (by decide) rfl (fun ls hl => ?_)
                                                      refine lv_goto (tgt := 23) hx hb dL_law_1455 (by decide) ?_
                                                      exact ih _ _ h _ _ _ _ (by omega) (by omega) hP hS ls (lv_sub hl [3, 4, 5, 6, 0] rfl)
                                                    · have h := z_in hc273 h
                                                      refine lv_iconst (v := 0) hx hb dL_law_1200 (by decide) ?_
                                                      cases h
                                                · have h := z_in hc271 h
                                                  refine lv_iconst (v := 0) hx hb dL_law_1183 (by decide) ?_
                                                  cases h
                                              · have h := z_in hc258 h
                                                by_cases hc274 : ((xs (x4).toNatClampNeg) &&& 31) = 21
                                                · have h := z_ip hc274 h
                                                  refine lv_tableIn (tgt := 1205) (off := 1166) hx hb dL_law_39 (by rw [hc274]; decide) (by rw [hc274]; decide) (by rw [hc274]; rfl) (by decide) ?_
                                                  refine lv_aload_n hx hb dL_law_1205 rfl (lv_at hl 1 rfl) ?_
                                                  refine lv_aload_n hx hb dL_law_1206 rfl (lv_at hl 0 rfl) ?_
                                                  refine lv_iload hx hb dL_law_1207 (lv_at hl 4 rfl) ?_
                                                  refine lv_iconst (v := 1) hx hb dL_law_1209 (by decide) ?_
                                                  refine lv_iadd hx hb dL_law_1210 ?_
                                                  obtain ⟨hg275, h⟩ := z_g h
                                                  refine va_sld hx hb hX hbl hbA hS hg275 dL_law_1211 ?_
                                                  refine lv_aload_n hx hb dL_law_1212 rfl (lv_at hl 0 rfl) ?_
                                                  refine lv_iload hx hb dL_law_1213 (lv_at hl 4 rfl) ?_
                                                  refine lv_iconst (v := 2) hx hb dL_law_1215 (by decide) ?_
                                                  refine lv_iadd hx hb dL_law_1216 ?_
                                                  obtain ⟨hg276, h⟩ := z_g h
                                                  refine va_sld hx hb hX hbl hbA hS hg276 dL_law_1217 ?_
                                                  refine lv_aload_n hx hb dL_law_1218 rfl (lv_at hl 0 rfl) ?_
                                                  refine lv_iload hx hb dL_law_1219 (lv_at hl 4 rfl) ?_
                                                  refine lv_iconst (v := 3) hx hb dL_law_1221 (by decide) ?_
                                                  refine lv_iadd hx hb dL_law_1222 ?_
                                                  obtain ⟨hg277, h⟩ := z_g h
                                                  refine va_sld hx hb hX hbl hbA hS hg277 dL_law_1223 ?_
                                                  refine lv_aload_n hx hb dL_law_1224 rfl (lv_at hl 3 rfl) ?_
                                                  obtain ⟨r278, m279, e280, h⟩ := zb_some h
                                                  refine z_calliK hS (vx_runSW (As := [.ref (G.2.1 (90)), .int ((xs ((x4 + 1)).toNatClampNeg)), .int ((xs ((x4 + 2)).toNatClampNeg)), .int ((xs ((x4 + 3)).toNatClampNeg)), .ref (G.2.1 (125))]) (rest := []) C (c_L_chain l G hst e280 _) (vx_cwSW 5 hts gL_law_L_chain rfl rfl rfl hd_L_chain ⟨Nat.le_of_ble_eq_true rfl, Nat.le_of_ble_eq_true rfl⟩) (z_preS Z hS hP) rfl rfl hl.1 rfl (lv_room (Nat.le_of_ble_eq_true rfl)) dL_law_1225 ⟨by show _ ≤ 601024; omega, by show _ ≤ 7293033; omega⟩) (fun H locs hP hS => ?_)
                                                  refine lv_istore (lv' := [(5, .int (r278)), (0, .ref b), (1, .ref (G.2.1 (90))), (2, .ref (G.2.1 (119))), (3, .ref (G.2.1 (125))), (4, .int (x4))]) hx hb dL_law_1228 hl (by decide) rfl (fun ls hl => ?_)
                                                  refine lv_aload_n hx hb dL_law_1230 rfl (lv_at hl 3 rfl) ?_
                                                  refine lv_aload_n hx hb dL_law_1231 rfl (lv_at hl 1 rfl) ?_
                                                  refine lv_iload hx hb dL_law_1232 (lv_at hl 5 rfl) ?_
                                                  refine lv_iconst (v := 1) hx hb dL_law_1234 (by decide) ?_
                                                  refine lv_iadd hx hb dL_law_1235 ?_
                                                  refine va_sld hx hb hX hbl hbA hS hg275 dL_law_1236 ?_
                                                  refine lv_aload_n hx hb dL_law_1237 rfl (lv_at hl 1 rfl) ?_
                                                  refine lv_iload hx hb dL_law_1238 (lv_at hl 5 rfl) ?_
                                                  refine lv_iconst (v := 2) hx hb dL_law_1240 (by decide) ?_
                                                  refine lv_iadd hx hb dL_law_1241 ?_
                                                  refine va_sld hx hb hX hbl hbA hS hg276 dL_law_1242 ?_
                                                  refine lv_aload_n hx hb dL_law_1243 rfl (lv_at hl 1 rfl) ?_
                                                  refine lv_iload hx hb dL_law_1244 (lv_at hl 5 rfl) ?_
                                                  refine lv_iconst (v := 3) hx hb dL_law_1246 (by decide) ?_
                                                  refine lv_iadd hx hb dL_law_1247 ?_
                                                  refine va_sld hx hb hX hbl hbA hS hg277 dL_law_1248 ?_
                                                  obtain ⟨r281, m282, e283, h⟩ := zb_some h
                                                  refine z_calli hS (va_runV (As := [.int ((xs ((x4 + 1)).toNatClampNeg)), .int ((xs ((x4 + 2)).toNatClampNeg)), .int ((xs ((x4 + 3)).toNatClampNeg))]) (rest := []) C (c_X4_chain l G e283 _) (cwV 3 hts gL_law_X4_chain rfl rfl rfl hv_X4_chain ⟨Nat.le_of_ble_eq_true rfl, Nat.le_of_ble_eq_true rfl⟩) (z_preV Z hS hP (by decide) (z_E_119 _) rfl rfl) rfl rfl hl.1 rfl (lv_room (Nat.le_of_ble_eq_true rfl)) dL_law_1249 ⟨by show _ ≤ 601024; omega, by show _ ≤ 7293033; omega⟩) (fun H locs hP hS => ?_)
                                                  refine lv_istore (lv' := [(6, .int (r281)), (5, .int (r278)), (0, .ref b), (1, .ref (G.2.1 (90))), (2, .ref (G.2.1 (119))), (3, .ref (G.2.1 (125))), (4, .int (x4))]) hx hb dL_law_1252 hl (by decide) rfl (fun ls hl => ?_)
                                                  refine lv_aload_n hx hb dL_law_1254 rfl (lv_at hl 4 rfl) ?_
                                                  obtain ⟨r284, m285, e286, h⟩ := zb_some h
                                                  refine z_calli hS (va_runV (As := []) (rest := []) C (c_X4_thrown l G e286 _) (cwV 0 hts gL_law_X4_thrown rfl rfl rfl hv_X4_thrown ⟨Nat.le_of_ble_eq_true rfl, Nat.le_of_ble_eq_true rfl⟩) (z_preV Z hS hP (by decide) (z_E_119 _) rfl rfl) rfl rfl hl.1 rfl (lv_room (Nat.le_of_ble_eq_true rfl)) dL_law_1255 ⟨by show _ ≤ 601024; omega, by show _ ≤ 7293033; omega⟩) (fun H locs hP hS => ?_)
                                                  refine lv_iload hx hb dL_law_1258 (lv_at hl 1 rfl) ?_
                                                  refine lv_icmp_eq (tgt := 1265) hx hb dL_law_1260 (by decide) (fun hc287 => ?_) (fun hc287 => ?_)
                                                  · have h := z_ip hc287 h
                                                    refine lv_iload hx hb dL_law_1265 (lv_at hl 1 rfl) ?_
                                                    refine lv_if_ne (tgt := 1282) hx hb dL_law_1267 (by decide) (fun hc288 => ?_) (fun hc288 => ?_)
                                                    · have h := z_in hc288 h
                                                      refine lv_goto (tgt := 1452) hx hb dL_law_1282 (by decide) ?_
                                                      refine lv_iinc (v := (x4 + 4)) (lv' := [(4, .int ((x4 + 4))), (6, .int (r281)), (5, .int (r278)), (0, .ref b), (1, .ref (G.2.1 (90))), (2, .ref (G.2.1 (119))), (3, .ref (G.2.1 (125)))]) hx hb dL_law_1452 hl (k := 6) rfl rfl (by decide) rfl (fun ls hl => ?_)
                                                      refine lv_goto (tgt := 23) hx hb dL_law_1455 (by decide) ?_
                                                      exact ih _ _ h _ _ _ _ (by omega) (by omega) hP hS ls (lv_sub hl [3, 4, 5, 6, 0] rfl)
                                                    · have h := z_ip hc288 h
                                                      refine lv_aload_n hx hb dL_law_1270 rfl (lv_at hl 5 rfl) ?_
                                                      refine lv_iconst (v := 0) hx hb dL_law_1271 (by decide) ?_
                                                      refine z_lald C Z hP dL_law_1272 ?_
                                                      refine lv_iload hx hb dL_law_1273 (lv_at hl 0 rfl) ?_
                                                      refine lv_i2l (v := ((r281).toInt64)) hx hb dL_law_1275 rfl ?_
                                                      refine W.lcmp hx hb dL_law_1276 ?_
                                                      refine lv_if_eq (tgt := 1282) hx hb dL_law_1277 (by decide) (fun hc289 => ?_) (fun hc289 => ?_)
                                                      · have h := z_ip hc289 h
                                                        refine lv_goto (tgt := 1452) hx hb dL_law_1282 (by decide) ?_
                                                        refine lv_iinc (v := (x4 + 4)) (lv' := [(4, .int ((x4 + 4))), (6, .int (r281)), (5, .int (r278)), (0, .ref b), (1, .ref (G.2.1 (90))), (2, .ref (G.2.1 (119))), (3, .ref (G.2.1 (125)))]) hx hb dL_law_1452 hl (k := 6) rfl rfl (by decide) rfl (fun ls hl => ?_)
                                                        refine lv_goto (tgt := 23) hx hb dL_law_1455 (by decide) ?_
                                                        exact ih _ _ h _ _ _ _ (by omega) (by omega) hP hS ls (lv_sub hl [3, 4, 5, 6, 0] rfl)
                                                      · have h := z_in hc289 h
                                                        refine lv_iconst (v := 0) hx hb dL_law_1280 (by decide) ?_
                                                        cases h
                                                  · have h := z_in hc287 h
                                                    refine lv_iconst (v := 0) hx hb dL_law_1263 (by decide) ?_
                                                    cases h
                                                · have h := z_in hc274 h
                                                  by_cases hc290 : ((xs (x4).toNatClampNeg) &&& 31) = 22
                                                  · have h := z_ip hc290 h
                                                    refine lv_tableIn (tgt := 1285) (off := 1246) hx hb dL_law_39 (by rw [hc290]; decide) (by rw [hc290]; decide) (by rw [hc290]; rfl) (by decide) ?_
                                                    refine lv_aload_n hx hb dL_law_1285 rfl (lv_at hl 1 rfl) ?_
                                                    obtain ⟨r291, m292, e293, h⟩ := zb_some h
                                                    refine z_calli hS (va_runV (As := []) (rest := []) C (c_X3_clearest l G e293 _) (cwV 0 hts gL_law_X3_clearest rfl rfl rfl hv_X3_clearest ⟨Nat.le_of_ble_eq_true rfl, Nat.le_of_ble_eq_true rfl⟩) (z_preV Z hS hP (by decide) (z_E_90 _) rfl rfl) rfl rfl hl.1 rfl (lv_room (Nat.le_of_ble_eq_true rfl)) dL_law_1286 ⟨by show _ ≤ 601024; omega, by show _ ≤ 7293033; omega⟩) (fun H locs hP hS => ?_)
                                                    refine lv_aload_n hx hb dL_law_1289 rfl (lv_at hl 2 rfl) ?_
                                                    obtain ⟨r294, m295, e296, h⟩ := zb_some h
                                                    refine z_calli hS (va_runV (As := []) (rest := [.int (r291)]) C (c_X4_clearest l G e296 _) (cwV 0 hts gL_law_X4_clearest rfl rfl rfl hv_X4_clearest ⟨Nat.le_of_ble_eq_true rfl, Nat.le_of_ble_eq_true rfl⟩) (z_preV Z hS hP (by decide) (z_E_119 _) rfl rfl) rfl rfl hl.1 rfl (lv_room (Nat.le_of_ble_eq_true rfl)) dL_law_1290 ⟨by show _ ≤ 601024; omega, by show _ ≤ 7293033; omega⟩) (fun H locs hP hS => ?_)
                                                    refine lv_icmp_eq (tgt := 1452) hx hb dL_law_1293 (by decide) (fun hc297 => ?_) (fun hc297 => ?_)
                                                    · have h := z_ip hc297 h
                                                      refine lv_iinc (v := (x4 + 4)) (lv' := [(4, .int ((x4 + 4))), (0, .ref b), (1, .ref (G.2.1 (90))), (2, .ref (G.2.1 (119))), (3, .ref (G.2.1 (125)))]) hx hb dL_law_1452 hl (k := 4) rfl rfl (by decide) rfl (fun ls hl => ?_)
                                                      refine lv_goto (tgt := 23) hx hb dL_law_1455 (by decide) ?_
                                                      exact ih _ _ h _ _ _ _ (by omega) (by omega) hP hS ls (lv_sub hl [1, 2, 3, 4, 0] rfl)
                                                    · have h := z_in hc297 h
                                                      refine lv_iconst (v := 0) hx hb dL_law_1296 (by decide) ?_
                                                      cases h
                                                  · have h := z_in hc290 h
                                                    by_cases hc298 : ((xs (x4).toNatClampNeg) &&& 31) = 23
                                                    · have h := z_ip hc298 h
                                                      refine lv_tableIn (tgt := 1298) (off := 1259) hx hb dL_law_39 (by rw [hc298]; decide) (by rw [hc298]; decide) (by rw [hc298]; rfl) (by decide) ?_
                                                      refine lv_aload_n hx hb dL_law_1298 rfl (lv_at hl 1 rfl) ?_
                                                      refine lv_aload_n hx hb dL_law_1299 rfl (lv_at hl 0 rfl) ?_
                                                      refine lv_iload hx hb dL_law_1300 (lv_at hl 4 rfl) ?_
                                                      refine lv_iconst (v := 1) hx hb dL_law_1302 (by decide) ?_
                                                      refine lv_iadd hx hb dL_law_1303 ?_
                                                      obtain ⟨hg299, h⟩ := z_g h
                                                      refine va_sld hx hb hX hbl hbA hS hg299 dL_law_1304 ?_
                                                      refine lv_aload_n hx hb dL_law_1305 rfl (lv_at hl 3 rfl) ?_
                                                      obtain ⟨r300, m301, e302, h⟩ := zb_some h
                                                      refine z_calliK hS (vx_runSW (As := [.ref (G.2.1 (90)), .int ((xs ((x4 + 1)).toNatClampNeg)), .ref (G.2.1 (125))]) (rest := []) C (c_L_daughters l G hst e302 _) (vx_cwSW 3 hts gL_law_L_daughters rfl rfl rfl hd_L_daughters ⟨Nat.le_of_ble_eq_true rfl, Nat.le_of_ble_eq_true rfl⟩) (z_preS Z hS hP) rfl rfl hl.1 rfl (lv_room (Nat.le_of_ble_eq_true rfl)) dL_law_1306 ⟨by show _ ≤ 601024; omega, by show _ ≤ 7293033; omega⟩) (fun H locs hP hS => ?_)
                                                      refine lv_istore (lv' := [(5, .int (r300)), (0, .ref b), (1, .ref (G.2.1 (90))), (2, .ref (G.2.1 (119))), (3, .ref (G.2.1 (125))), (4, .int (x4))]) hx hb dL_law_1309 hl (by decide) rfl (fun ls hl => ?_)
                                                      refine lv_aload_n hx hb dL_law_1311 rfl (lv_at hl 3 rfl) ?_
                                                      refine lv_aload_n hx hb dL_law_1312 rfl (lv_at hl 1 rfl) ?_
                                                      refine lv_iload hx hb dL_law_1313 (lv_at hl 5 rfl) ?_
                                                      refine lv_iconst (v := 1) hx hb dL_law_1315 (by decide) ?_
                                                      refine lv_iadd hx hb dL_law_1316 ?_
                                                      refine va_sld hx hb hX hbl hbA hS hg299 dL_law_1317 ?_
                                                      obtain ⟨r303, m304, e305, h⟩ := zb_some h
                                                      refine z_calli hS (va_runV (As := [.int ((xs ((x4 + 1)).toNatClampNeg))]) (rest := []) C (c_X4_daughters l G e305 _) (cwV 1 hts gL_law_X4_daughters rfl rfl rfl hv_X4_daughters ⟨Nat.le_of_ble_eq_true rfl, Nat.le_of_ble_eq_true rfl⟩) (z_preV Z hS hP (by decide) (z_E_119 _) rfl rfl) rfl rfl hl.1 rfl (lv_room (Nat.le_of_ble_eq_true rfl)) dL_law_1318 ⟨by show _ ≤ 601024; omega, by show _ ≤ 7293033; omega⟩) (fun H locs hP hS => ?_)
                                                      refine lv_istore (lv' := [(6, .int (r303)), (5, .int (r300)), (0, .ref b), (1, .ref (G.2.1 (90))), (2, .ref (G.2.1 (119))), (3, .ref (G.2.1 (125))), (4, .int (x4))]) hx hb dL_law_1321 hl (by decide) rfl (fun ls hl => ?_)
                                                      refine lv_aload_n hx hb dL_law_1323 rfl (lv_at hl 4 rfl) ?_
                                                      obtain ⟨r306, m307, e308, h⟩ := zb_some h
                                                      refine z_calli hS (va_runV (As := []) (rest := []) C (c_X4_thrown l G e308 _) (cwV 0 hts gL_law_X4_thrown rfl rfl rfl hv_X4_thrown ⟨Nat.le_of_ble_eq_true rfl, Nat.le_of_ble_eq_true rfl⟩) (z_preV Z hS hP (by decide) (z_E_119 _) rfl rfl) rfl rfl hl.1 rfl (lv_room (Nat.le_of_ble_eq_true rfl)) dL_law_1324 ⟨by show _ ≤ 601024; omega, by show _ ≤ 7293033; omega⟩) (fun H locs hP hS => ?_)
                                                      refine lv_iload hx hb dL_law_1327 (lv_at hl 1 rfl) ?_
                                                      refine lv_icmp_eq (tgt := 1334) hx hb dL_law_1329 (by decide) (fun hc309 => ?_) (fun hc309 => ?_)
                                                      · have h := z_ip hc309 h
                                                        refine lv_iload hx hb dL_law_1334 (lv_at hl 1 rfl) ?_
                                                        refine lv_if_ne (tgt := 1351) hx hb dL_law_1336 (by decide) (fun hc310 => ?_) (fun hc310 => ?_)
                                                        · have h := z_in hc310 h
                                                          refine lv_goto (tgt := 1452) hx hb dL_law_1351 (by decide) ?_
                                                          refine lv_iinc (v := (x4 + 4)) (lv' := [(4, .int ((x4 + 4))), (6, .int (r303)), (5, .int (r300)), (0, .ref b), (1, .ref (G.2.1 (90))), (2, .ref (G.2.1 (119))), (3, .ref (G.2.1 (125)))]) hx hb dL_law_1452 hl (k := 6) rfl rfl (by decide) rfl (fun ls hl => ?_)
                                                          refine lv_goto (tgt := 23) hx hb dL_law_1455 (by decide) ?_
                                                          exact ih _ _ h _ _ _ _ (by omega) (by omega) hP hS ls (lv_sub hl [3, 4, 5, 6, 0] rfl)
                                                        · have h := z_ip hc310 h
                                                          refine lv_aload_n hx hb dL_law_1339 rfl (lv_at hl 5 rfl) ?_
                                                          refine lv_iconst (v := 0) hx hb dL_law_1340 (by decide) ?_
                                                          refine z_lald C Z hP dL_law_1341 ?_
                                                          refine lv_iload hx hb dL_law_1342 (lv_at hl 0 rfl) ?_
                                                          refine lv_i2l (v := ((r303).toInt64)) hx hb dL_law_1344 rfl ?_
                                                          refine W.lcmp hx hb dL_law_1345 ?_
                                                          refine lv_if_eq (tgt := 1351) hx hb dL_law_1346 (by decide) (fun hc311 => ?_) (fun hc311 => ?_)
                                                          · have h := z_ip hc311 h
                                                            refine lv_goto (tgt := 1452) hx hb dL_law_1351 (by decide) ?_
                                                            refine lv_iinc (v := (x4 + 4)) (lv' := [(4, .int ((x4 + 4))), (6, .int (r303)), (5, .int (r300)), (0, .ref b), (1, .ref (G.2.1 (90))), (2, .ref (G.2.1 (119))), (3, .ref (G.2.1 (125)))]) hx hb dL_law_1452 hl (k := 6) rfl rfl (by decide) rfl (fun ls hl => ?_)
                                                            refine lv_goto (tgt := 23) hx hb dL_law_1455 (by decide) ?_
                                                            exact ih _ _ h _ _ _ _ (by omega) (by omega) hP hS ls (lv_sub hl [3, 4, 5, 6, 0] rfl)
                                                          · have h := z_in hc311 h
                                                            refine lv_iconst (v := 0) hx hb dL_law_1349 (by decide) ?_
                                                            cases h
                                                      · have h := z_in hc309 h
                                                        refine lv_iconst (v := 0) hx hb dL_law_1332 (by decide) ?_
                                                        cases h
                                                    · have h := z_in hc298 h
                                                      by_cases hc312 : ((xs (x4).toNatClampNeg) &&& 31) = 24
                                                      · have h := z_ip hc312 h
                                                        refine lv_tableIn (tgt := 1354) (off := 1315) hx hb dL_law_39 (by rw [hc312]; decide) (by rw [hc312]; decide) (by rw [hc312]; rfl) (by decide) ?_
                                                        refine lv_aload_n hx hb dL_law_1354 rfl (lv_at hl 1 rfl) ?_
                                                        obtain ⟨r313, m314, e315, h⟩ := zb_some h
                                                        refine z_callf hS (va_runV (As := []) (rest := []) C (c_X3_meanDepth l G e315 _) (cwV 0 hts gL_law_X3_meanDepth rfl rfl rfl hv_X3_meanDepth ⟨Nat.le_of_ble_eq_true rfl, Nat.le_of_ble_eq_true rfl⟩) (z_preV Z hS hP (by decide) (z_E_90 _) rfl rfl) rfl rfl hl.1 rfl (lv_room (Nat.le_of_ble_eq_true rfl)) dL_law_1355 ⟨by show _ ≤ 601024; omega, by show _ ≤ 7293033; omega⟩) (fun H locs hP hS => ?_)
                                                        obtain ⟨hg316, h⟩ := z_g h
                                                        refine lv_f2d hx hb dL_law_1358 hg316 ?_
                                                        refine lv_dstore (lv' := [(5, .double ((FP.f2d r313))), (0, .ref b), (1, .ref (G.2.1 (90))), (2, .ref (G.2.1 (119))), (3, .ref (G.2.1 (125))), (4, .int (x4))]) hx hb dL_law_1359 hl (by decide) rfl (fun ls hl => ?_)
                                                        refine lv_aload_n hx hb dL_law_1361 rfl (lv_at hl 3 rfl) ?_
                                                        obtain ⟨r317, m318, e319, h⟩ := zb_some h
                                                        refine z_callf hS (va_runV (As := []) (rest := []) C (c_X4_meanDepth l G e319 _) (cwV 0 hts gL_law_X4_meanDepth rfl rfl rfl hv_X4_meanDepth ⟨Nat.le_of_ble_eq_true rfl, Nat.le_of_ble_eq_true rfl⟩) (z_preV Z hS hP (by decide) (z_E_119 _) rfl rfl) rfl rfl hl.1 rfl (lv_room (Nat.le_of_ble_eq_true rfl)) dL_law_1362 ⟨by show _ ≤ 601024; omega, by show _ ≤ 7293033; omega⟩) (fun H locs hP hS => ?_)
                                                        obtain ⟨hg320, h⟩ := z_g h
                                                        refine lv_f2d hx hb dL_law_1365 hg320 ?_
                                                        refine lv_dstore (lv' := [(7, .double ((FP.f2d r317))), (5, .double ((FP.f2d r313))), (0, .ref b), (1, .ref (G.2.1 (90))), (2, .ref (G.2.1 (119))), (3, .ref (G.2.1 (125))), (4, .int (x4))]) hx hb dL_law_1366 hl (by decide) rfl (fun ls hl => ?_)
                                                        refine lv_dload hx hb dL_law_1368 (lv_at hl 1 rfl) ?_
                                                        refine lv_dload hx hb dL_law_1370 (lv_at hl 0 rfl) ?_
                                                        refine lv_dcmp hx hb dL_law_1372 ?_
                                                        refine lv_if_eq (tgt := 1394) hx hb dL_law_1373 (by decide) (fun hc321 => ?_) (fun hc321 => ?_)
                                                        · have h := z_ip hc321 h
                                                          refine lv_goto (tgt := 1452) hx hb dL_law_1394 (by decide) ?_
                                                          refine lv_iinc (v := (x4 + 4)) (lv' := [(4, .int ((x4 + 4))), (7, .double ((FP.f2d r317))), (5, .double ((FP.f2d r313))), (0, .ref b), (1, .ref (G.2.1 (90))), (2, .ref (G.2.1 (119))), (3, .ref (G.2.1 (125)))]) hx hb dL_law_1452 hl (k := 6) rfl rfl (by decide) rfl (fun ls hl => ?_)
                                                          refine lv_goto (tgt := 23) hx hb dL_law_1455 (by decide) ?_
                                                          exact ih _ _ h _ _ _ _ (by omega) (by omega) hP hS ls (lv_sub hl [3, 4, 5, 6, 0] rfl)
                                                        · have h := z_in hc321 h
                                                          refine lv_dload hx hb dL_law_1376 (lv_at hl 1 rfl) ?_
                                                          refine lv_dload hx hb dL_law_1378 (lv_at hl 1 rfl) ?_
                                                          refine lv_dcmp hx hb dL_law_1380 ?_
                                                          refine lv_if_eq (tgt := 1392) hx hb dL_law_1381 (by decide) (fun hc322 => ?_) (fun hc322 => ?_)
                                                          · have h := z_ip hc322 h
                                                            refine lv_iconst (v := 0) hx hb dL_law_1392 (by decide) ?_
                                                            cases h
                                                          · have h := z_in hc322 h
                                                            refine lv_dload hx hb dL_law_1384 (lv_at hl 0 rfl) ?_
                                                            refine lv_dload hx hb dL_law_1386 (lv_at hl 0 rfl) ?_
                                                            refine lv_dcmp hx hb dL_law_1388 ?_
                                                            refine lv_if_ne (tgt := 1394) hx hb dL_law_1389 (by decide) (fun hc323 => ?_) (fun hc323 => ?_)
                                                            · have h := z_in hc323 h
                                                              refine lv_goto (tgt := 1452) hx hb dL_law_1394 (by decide) ?_
                                                              refine lv_iinc (v := (x4 + 4)) (lv' := [(4, .int ((x4 + 4))), (7, .double ((FP.f2d r317))), (5, .double ((FP.f2d r313))), (0, .ref b), (1, .ref (G.2.1 (90))), (2, .ref (G.2.1 (119))), (3, .ref (G.2.1 (125)))]) hx hb dL_law_1452 hl (k := 6) rfl rfl (by decide) rfl (fun ls hl => ?_)
                                                              refine lv_goto (tgt := 23) hx hb dL_law_1455 (by decide) ?_
                                                              exact ih _ _ h _ _ _ _ (by omega) (by omega) hP hS ls (lv_sub hl [3, 4, 5, 6, 0] rfl)
                                                            · have h := z_ip hc323 h
                                                              refine lv_iconst (v := 0) hx hb dL_law_1392 (by decide) ?_
                                                              cases h
                                                      · have h := z_in hc312 h
                                                        by_cases hc324 : ((xs (x4).toNatClampNeg) &&& 31) = 25
                                                        · have h := z_ip hc324 h
                                                          refine lv_tableIn (tgt := 1397) (off := 1358) hx hb dL_law_39 (by rw [hc324]; decide) (by rw [hc324]; decide) (by rw [hc324]; rfl) (by decide) ?_
                                                          refine lv_aload_n hx hb dL_law_1397 rfl (lv_at hl 1 rfl) ?_
                                                          obtain ⟨r325, m326, e327, h⟩ := zb_some h
                                                          refine z_calld hS (va_runV (As := []) (rest := []) C (c_X3_clearShare l G e327 _) (cwV 0 hts gL_law_X3_clearShare rfl rfl rfl hv_X3_clearShare ⟨Nat.le_of_ble_eq_true rfl, Nat.le_of_ble_eq_true rfl⟩) (z_preV Z hS hP (by decide) (z_E_90 _) rfl rfl) rfl rfl hl.1 rfl (lv_room (Nat.le_of_ble_eq_true rfl)) dL_law_1398 ⟨by show _ ≤ 601024; omega, by show _ ≤ 7293033; omega⟩) (fun H locs hP hS => ?_)
                                                          refine lv_dstore (lv' := [(5, .double (r325)), (0, .ref b), (1, .ref (G.2.1 (90))), (2, .ref (G.2.1 (119))), (3, .ref (G.2.1 (125))), (4, .int (x4))]) hx hb dL_law_1401 hl (by decide) rfl (fun ls hl => ?_)
                                                          refine lv_aload_n hx hb dL_law_1403 rfl (lv_at hl 3 rfl) ?_
                                                          obtain ⟨r328, m329, e330, h⟩ := zb_some h
                                                          refine z_calld hS (va_runV (As := []) (rest := []) C (c_X4_clearShare l G e330 _) (cwV 0 hts gL_law_X4_clearShare rfl rfl rfl hv_X4_clearShare ⟨Nat.le_of_ble_eq_true rfl, Nat.le_of_ble_eq_true rfl⟩) (z_preV Z hS hP (by decide) (z_E_119 _) rfl rfl) rfl rfl hl.1 rfl (lv_room (Nat.le_of_ble_eq_true rfl)) dL_law_1404 ⟨by show _ ≤ 601024; omega, by show _ ≤ 7293033; omega⟩) (fun H locs hP hS => ?_)
                                                          refine lv_dstore (lv' := [(7, .double (r328)), (5, .double (r325)), (0, .ref b), (1, .ref (G.2.1 (90))), (2, .ref (G.2.1 (119))), (3, .ref (G.2.1 (125))), (4, .int (x4))]) hx hb dL_law_1407 hl (by decide) rfl (fun ls hl => ?_)
                                                          refine lv_dload hx hb dL_law_1409 (lv_at hl 1 rfl) ?_
                                                          refine lv_dload hx hb dL_law_1411 (lv_at hl 0 rfl) ?_
                                                          refine lv_dcmp hx hb dL_law_1413 ?_
                                                          refine lv_if_eq (tgt := 1435) hx hb dL_law_1414 (by decide) (fun hc331 => ?_) (fun hc331 => ?_)
                                                          · have h := z_ip hc331 h
                                                            refine lv_goto (tgt := 1452) hx hb dL_law_1435 (by decide) ?_
                                                            refine lv_iinc (v := (x4 + 4)) (lv' := [(4, .int ((x4 + 4))), (7, .double (r328)), (5, .double (r325)), (0, .ref b), (1, .ref (G.2.1 (90))), (2, .ref (G.2.1 (119))), (3, .ref (G.2.1 (125)))]) hx hb dL_law_1452 hl (k := 6) rfl rfl (by decide) rfl (fun ls hl => ?_)
                                                            refine lv_goto (tgt := 23) hx hb dL_law_1455 (by decide) ?_
                                                            exact ih _ _ h _ _ _ _ (by omega) (by omega) hP hS ls (lv_sub hl [3, 4, 5, 6, 0] rfl)
                                                          · have h := z_in hc331 h
                                                            refine lv_dload hx hb dL_law_1417 (lv_at hl 1 rfl) ?_
                                                            refine lv_dload hx hb dL_law_1419 (lv_at hl 1 rfl) ?_
                                                            refine lv_dcmp hx hb dL_law_1421 ?_
                                                            refine lv_if_eq (tgt := 1433) hx hb dL_law_1422 (by decide) (fun hc332 => ?_) (fun hc332 => ?_)
                                                            · have h := z_ip hc332 h
                                                              refine lv_iconst (v := 0) hx hb dL_law_1433 (by decide) ?_
                                                              cases h
                                                            · have h := z_in hc332 h
                                                              refine lv_dload hx hb dL_law_1425 (lv_at hl 0 rfl) ?_
                                                              refine lv_dload hx hb dL_law_1427 (lv_at hl 0 rfl) ?_
                                                              refine lv_dcmp hx hb dL_law_1429 ?_
                                                              refine lv_if_ne (tgt := 1435) hx hb dL_law_1430 (by decide) (fun hc333 => ?_) (fun hc333 => ?_)
                                                              · have h := z_in hc333 h
                                                                refine lv_goto (tgt := 1452) hx hb dL_law_1435 (by decide) ?_
                                                                refine lv_iinc (v := (x4 + 4)) (lv' := [(4, .int ((x4 + 4))), (7, .double (r328)), (5, .double (r325)), (0, .ref b), (1, .ref (G.2.1 (90))), (2, .ref (G.2.1 (119))), (3, .ref (G.2.1 (125)))]) hx hb dL_law_1452 hl (k := 6) rfl rfl (by decide) rfl (fun ls hl => ?_)
                                                                refine lv_goto (tgt := 23) hx hb dL_law_1455 (by decide) ?_
                                                                exact ih _ _ h _ _ _ _ (by omega) (by omega) hP hS ls (lv_sub hl [3, 4, 5, 6, 0] rfl)
                                                              · have h := z_ip hc333 h
                                                                refine lv_iconst (v := 0) hx hb dL_law_1433 (by decide) ?_
                                                                cases h
                                                        · have h := z_in hc324 h
                                                          by_cases hc334 : ((xs (x4).toNatClampNeg) &&& 31) = 26
                                                          · have h := z_ip hc334 h
                                                            refine lv_tableIn (tgt := 1438) (off := 1399) hx hb dL_law_39 (by rw [hc334]; decide) (by rw [hc334]; decide) (by rw [hc334]; rfl) (by decide) ?_
                                                            refine lv_aload_n hx hb dL_law_1438 rfl (lv_at hl 1 rfl) ?_
                                                            obtain ⟨r335, m336, e337, h⟩ := zb_some h
                                                            refine z_calll hS (va_runV (As := []) (rest := []) C (c_X3_digest l G e337 _) (cwV 0 hts gL_law_X3_digest rfl rfl rfl hv_X3_digest ⟨Nat.le_of_ble_eq_true rfl, Nat.le_of_ble_eq_true rfl⟩) (z_preV Z hS hP (by decide) (z_E_90 _) rfl rfl) rfl rfl hl.1 rfl (lv_room (Nat.le_of_ble_eq_true rfl)) dL_law_1439 ⟨by show _ ≤ 601024; omega, by show _ ≤ 7293033; omega⟩) (fun H locs hP hS => ?_)
                                                            refine lv_aload_n hx hb dL_law_1442 rfl (lv_at hl 2 rfl) ?_
                                                            obtain ⟨r338, m339, e340, h⟩ := zb_some h
                                                            refine z_calll hS (va_runV (As := []) (rest := [.long (r335)]) C (c_X4_digest l G e340 _) (cwV 0 hts gL_law_X4_digest rfl rfl rfl hv_X4_digest ⟨Nat.le_of_ble_eq_true rfl, Nat.le_of_ble_eq_true rfl⟩) (z_preV Z hS hP (by decide) (z_E_119 _) rfl rfl) rfl rfl hl.1 rfl (lv_room (Nat.le_of_ble_eq_true rfl)) dL_law_1443 ⟨by show _ ≤ 601024; omega, by show _ ≤ 7293033; omega⟩) (fun H locs hP hS => ?_)
                                                            refine W.lcmp hx hb dL_law_1446 ?_
                                                            refine lv_if_eq (tgt := 1452) hx hb dL_law_1447 (by decide) (fun hc341 => ?_) (fun hc341 => ?_)
                                                            · have h := z_ip hc341 h
                                                              refine lv_iinc (v := (x4 + 4)) (lv' := [(4, .int ((x4 + 4))), (0, .ref b), (1, .ref (G.2.1 (90))), (2, .ref (G.2.1 (119))), (3, .ref (G.2.1 (125)))]) hx hb dL_law_1452 hl (k := 4) rfl rfl (by decide) rfl (fun ls hl => ?_)
                                                              refine lv_goto (tgt := 23) hx hb dL_law_1455 (by decide) ?_
                                                              exact ih _ _ h _ _ _ _ (by omega) (by omega) hP hS ls (lv_sub hl [1, 2, 3, 4, 0] rfl)
                                                            · have h := z_in hc341 h
                                                              refine lv_iconst (v := 0) hx hb dL_law_1450 (by decide) ?_
                                                              cases h
                                                          · have h := z_in hc334 h
                                                            refine lv_tableOut (tgt := 1452) hx hb dL_law_39 (by
                                                              have qhc3 : (((xs (x4).toNatClampNeg) &&& 31)).toInt ≠ 0 := fun q => hc3 (Int32.toInt_inj.mp (q.trans (by decide)))
                                                              have qhc18 : (((xs (x4).toNatClampNeg) &&& 31)).toInt ≠ 1 := fun q => hc18 (Int32.toInt_inj.mp (q.trans (by decide)))
                                                              have qhc34 : (((xs (x4).toNatClampNeg) &&& 31)).toInt ≠ 2 := fun q => hc34 (Int32.toInt_inj.mp (q.trans (by decide)))
                                                              have qhc48 : (((xs (x4).toNatClampNeg) &&& 31)).toInt ≠ 3 := fun q => hc48 (Int32.toInt_inj.mp (q.trans (by decide)))
                                                              have qhc62 : (((xs (x4).toNatClampNeg) &&& 31)).toInt ≠ 4 := fun q => hc62 (Int32.toInt_inj.mp (q.trans (by decide)))
                                                              have qhc70 : (((xs (x4).toNatClampNeg) &&& 31)).toInt ≠ 5 := fun q => hc70 (Int32.toInt_inj.mp (q.trans (by decide)))
                                                              have qhc78 : (((xs (x4).toNatClampNeg) &&& 31)).toInt ≠ 6 := fun q => hc78 (Int32.toInt_inj.mp (q.trans (by decide)))
                                                              have qhc93 : (((xs (x4).toNatClampNeg) &&& 31)).toInt ≠ 7 := fun q => hc93 (Int32.toInt_inj.mp (q.trans (by decide)))
                                                              have qhc107 : (((xs (x4).toNatClampNeg) &&& 31)).toInt ≠ 8 := fun q => hc107 (Int32.toInt_inj.mp (q.trans (by decide)))
                                                              have qhc121 : (((xs (x4).toNatClampNeg) &&& 31)).toInt ≠ 9 := fun q => hc121 (Int32.toInt_inj.mp (q.trans (by decide)))
                                                              have qhc129 : (((xs (x4).toNatClampNeg) &&& 31)).toInt ≠ 10 := fun q => hc129 (Int32.toInt_inj.mp (q.trans (by decide)))
                                                              have qhc137 : (((xs (x4).toNatClampNeg) &&& 31)).toInt ≠ 11 := fun q => hc137 (Int32.toInt_inj.mp (q.trans (by decide)))
                                                              have qhc150 : (((xs (x4).toNatClampNeg) &&& 31)).toInt ≠ 12 := fun q => hc150 (Int32.toInt_inj.mp (q.trans (by decide)))
                                                              have qhc164 : (((xs (x4).toNatClampNeg) &&& 31)).toInt ≠ 13 := fun q => hc164 (Int32.toInt_inj.mp (q.trans (by decide)))
                                                              have qhc178 : (((xs (x4).toNatClampNeg) &&& 31)).toInt ≠ 14 := fun q => hc178 (Int32.toInt_inj.mp (q.trans (by decide)))
                                                              have qhc191 : (((xs (x4).toNatClampNeg) &&& 31)).toInt ≠ 15 := fun q => hc191 (Int32.toInt_inj.mp (q.trans (by decide)))
                                                              have qhc206 : (((xs (x4).toNatClampNeg) &&& 31)).toInt ≠ 16 := fun q => hc206 (Int32.toInt_inj.mp (q.trans (by decide)))
                                                              have qhc221 : (((xs (x4).toNatClampNeg) &&& 31)).toInt ≠ 17 := fun q => hc221 (Int32.toInt_inj.mp (q.trans (by decide)))
                                                              have qhc235 : (((xs (x4).toNatClampNeg) &&& 31)).toInt ≠ 18 := fun q => hc235 (Int32.toInt_inj.mp (q.trans (by decide)))
                                                              have qhc243 : (((xs (x4).toNatClampNeg) &&& 31)).toInt ≠ 19 := fun q => hc243 (Int32.toInt_inj.mp (q.trans (by decide)))
                                                              have qhc258 : (((xs (x4).toNatClampNeg) &&& 31)).toInt ≠ 20 := fun q => hc258 (Int32.toInt_inj.mp (q.trans (by decide)))
                                                              have qhc274 : (((xs (x4).toNatClampNeg) &&& 31)).toInt ≠ 21 := fun q => hc274 (Int32.toInt_inj.mp (q.trans (by decide)))
                                                              have qhc290 : (((xs (x4).toNatClampNeg) &&& 31)).toInt ≠ 22 := fun q => hc290 (Int32.toInt_inj.mp (q.trans (by decide)))
                                                              have qhc298 : (((xs (x4).toNatClampNeg) &&& 31)).toInt ≠ 23 := fun q => hc298 (Int32.toInt_inj.mp (q.trans (by decide)))
                                                              have qhc312 : (((xs (x4).toNatClampNeg) &&& 31)).toInt ≠ 24 := fun q => hc312 (Int32.toInt_inj.mp (q.trans (by decide)))
                                                              have qhc324 : (((xs (x4).toNatClampNeg) &&& 31)).toInt ≠ 25 := fun q => hc324 (Int32.toInt_inj.mp (q.trans (by decide)))
                                                              have qhc334 : (((xs (x4).toNatClampNeg) &&& 31)).toInt ≠ 26 := fun q => hc334 (Int32.toInt_inj.mp (q.trans (by decide)))
                                                              omega) (by decide) ?_
                                                            refine lv_iinc (v := (x4 + 4)) (lv' := [(4, .int ((x4 + 4))), (0, .ref b), (1, .ref (G.2.1 (90))), (2, .ref (G.2.1 (119))), (3, .ref (G.2.1 (125)))]) hx hb dL_law_1452 hl (k := 4) rfl rfl (by decide) rfl (fun ls hl => ?_)
                                                            refine lv_goto (tgt := 23) hx hb dL_law_1455 (by decide) ?_
                                                            exact ih _ _ h _ _ _ _ (by omega) (by omega) hP hS ls (lv_sub hl [1, 2, 3, 4, 0] rfl)
