/-! PURE: the law's loop -/
theorem lg_rf (a : Int64) : lg_cmp a a = 0 := by
  unfold lg_cmp
  rw [if_neg (show ¬ a > a from fun h => by rw [gt_iff_lt, Int64.lt_iff_toInt_lt] at h; omega), if_pos rfl]
theorem s_g2 {o1 o2 : Mm → Option (Int32 × Mm)} {μ : Mm} {k : Mm → Option Unit} (h : Good2 o1 o2 μ) (hk : ∀ m, J m → k m = some ()) :
    zb (o1 μ) (fun r6 m7 => zb (o2 m7) (fun r9 m10 => zb (f_X4_thrown m10) (fun r12 m13 => if r12 = r6 then (if r6 = 0 then (if (lg_cmp (m13 125 0).toInt64 ((r9).toInt64)) = 0 then k m13 else none) else k m13) else none))) = some () := by
  obtain ⟨r, m, b, m2, e1, e2, e3, e4, e5⟩ := h
  rw [e1, zb_of rfl, e2, zb_of rfl, show f_X4_thrown m2 = some (m2 119 5, m2) from rfl, zb_of rfl, if_pos e3]
  by_cases hr : r = 0
  · rw [if_pos hr, e4 hr, lg_rf, if_pos rfl]; exact hk m2 e5
  · rw [if_neg hr]; exact hk m2 e5
theorem s_g1 {o1 o2 : Mm → Option (Int32 × Mm)} {μ : Mm} {k : Mm → Option Unit} (h : Good1 o1 o2 μ) (hk : ∀ m, J m → k m = some ()) :
    zb (o1 μ) (fun r m => zb (o2 m) (fun r2 m2 => if r = r2 then k m2 else none)) = some () := by
  obtain ⟨r, m, m2, e1, e2, e3⟩ := h
  rw [e1, zb_of rfl, e2, zb_of rfl, if_pos rfl]; exact hk m2 e3
theorem ite_s {c : Prop} [Decidable c] {α : Type} {a b r : α} (h1 : c → a = r) (h2 : ¬ c → b = r) : (if c then a else b) = r := by
  by_cases h : c
  · rw [if_pos h]; exact h1 h
  · rw [if_neg h]; exact h2 h
theorem s_mean {μ : Mm} {k : Mm → Option Unit} (hJ : J μ) (hk : ∀ m, J m → k m = some ()) : zb (f_X3_meanDepth μ) (fun r313 m314 => if z_n64 (FP.f2d r313) then zb (f_X4_meanDepth m314) (fun r317 m318 => if z_n64 (FP.f2d r317) then if (Op.cmpValue (FP.dcmp (FP.f2d r313) (FP.f2d r317)) CmpOp.l) = 0 then k m318 else (if (Op.cmpValue (FP.dcmp (FP.f2d r313) (FP.f2d r313)) CmpOp.l) = 0 then (none) else (if (Op.cmpValue (FP.dcmp (FP.f2d r317) (FP.f2d r317)) CmpOp.l) = 0 then (none) else k m318)) else none) else none) = some () := by
  obtain ⟨r, m2, e1, e2, e3, e4⟩ := L_meanDepth hJ
  rw [e1, zb_of rfl, if_pos e3, e2, zb_of rfl, if_pos e3]
  refine ite_s (fun _ => hk m2 e4) (fun h => ?_)
  rw [if_neg h, if_neg h]; exact hk m2 e4
theorem s_share {μ : Mm} {k : Mm → Option Unit} (hJ : J μ) (hk : ∀ m, J m → k m = some ()) : zb (f_X3_clearShare μ) (fun r325 m326 => zb (f_X4_clearShare m326) (fun r328 m329 => if (Op.cmpValue (FP.dcmp r325 r328) CmpOp.l) = 0 then k m329 else (if (Op.cmpValue (FP.dcmp r325 r325) CmpOp.l) = 0 then (none) else (if (Op.cmpValue (FP.dcmp r328 r328) CmpOp.l) = 0 then (none) else k m329)))) = some () := by
  obtain ⟨r, m2, e1, e2, e4⟩ := L_clearShare hJ
  rw [e1, zb_of rfl, e2, zb_of rfl]
  refine ite_s (fun _ => hk m2 e4) (fun h => ?_)
  rw [if_neg h, if_neg h]; exact hk m2 e4
theorem s_dig {μ : Mm} {k : Mm → Option Unit} (hJ : J μ) (hk : ∀ m, J m → k m = some ()) : zb (f_X3_digest μ) (fun r335 m336 => zb (f_X4_digest m336) (fun r338 m339 => if (lg_cmp r335 r338) = 0 then k m339 else (none))) = some () := by
  obtain ⟨r, m, m2, e1, e2, e3⟩ := L_digest hJ
  rw [e1, zb_of rfl, e2, zb_of rfl, lg_rf, if_pos rfl]; exact hk m2 e3
theorem law_pure {L : Nat} (hL : L ≤ 2048) (xs : Nat → Int32) : ∀ (n i : Nat) (μ : Mm), L < 4 * i + 4 * n → 4 * i ≤ L → J μ → f_L_law_b23 L xs n (nI (4 * i)) μ = some () := by
  intro n
  induction n with
  | zero => intro i μ h1 h2 _; omega
  | succ n ih =>
    intro i μ h1 h2 hJ
    have hi := i_sub (a := Int32.ofNat L) (b := 4) (by rw [show (Int32.ofNat L).toInt = (L : Int) from nI_toInt (by omega), i_4]; omega) (by rw [show (Int32.ofNat L).toInt = (L : Int) from nI_toInt (by omega), i_4]; omega)
    rw [show (Int32.ofNat L).toInt = (L : Int) from nI_toInt (by omega), i_4] at hi
    rw [f_L_law_b23]
    by_cases hlt : L < 4 * i + 4
    · rw [if_pos (show Int32.ofNat L - 4 < nI (4 * i) by rw [i_lt, hi, nI_toInt (by omega)]; omega)]
    · rw [if_neg (show ¬ Int32.ofNat L - 4 < nI (4 * i) by rw [i_lt, hi, nI_toInt (by omega)]; omega)]
      have hk : ∀ m, J m → f_L_law_b23 L xs n (nI (4 * i) + 4) m = some () := fun m hm => by rw [pa4]; exact ih (i + 1) m (by omega) (by omega) hm
      have i0 : z_ix (nI (4 * i)) L := of_eq_true (pzix (by omega) (by omega))
      have i1 : z_ix (nI (4 * i) + 1) L := by rw [pa1]; exact of_eq_true (pzix (by omega) (by omega))
      have i2 : z_ix (nI (4 * i) + 2) L := by rw [pa2]; exact of_eq_true (pzix (by omega) (by omega))
      have i3 : z_ix (nI (4 * i) + 3) L := by rw [pa3]; exact of_eq_true (pzix (by omega) (by omega))
      rw [if_pos i0]
      refine ite_s (fun _ => by rw [if_pos i1, if_pos i2]; exact s_g2 (k := f_L_law_b23 L xs n (nI (4 * i) + 4)) (L_speak hJ _ _) hk) (fun _ => ?_)
      refine ite_s (fun _ => by rw [if_pos i1, if_pos i2, if_pos i3]; exact s_g2 (k := f_L_law_b23 L xs n (nI (4 * i) + 4)) (L_copy hJ _ _ _) hk) (fun _ => ?_)
      refine ite_s (fun _ => by rw [if_pos i1]; exact s_g2 (k := f_L_law_b23 L xs n (nI (4 * i) + 4)) (L_play hJ _) hk) (fun _ => ?_)
      refine ite_s (fun _ => by rw [if_pos i1]; exact s_g2 (k := f_L_law_b23 L xs n (nI (4 * i) + 4)) (L_shave hJ _) hk) (fun _ => ?_)
      refine ite_s (fun _ => s_g1 (k := f_L_law_b23 L xs n (nI (4 * i) + 4)) (L_wind hJ) hk) (fun _ => ?_)
      refine ite_s (fun _ => s_g1 (k := f_L_law_b23 L xs n (nI (4 * i) + 4)) (L_sharpen hJ) hk) (fun _ => ?_)
      refine ite_s (fun _ => by rw [if_pos i1, if_pos i2]; exact s_g2 (k := f_L_law_b23 L xs n (nI (4 * i) + 4)) (L_renew hJ _ _) hk) (fun _ => ?_)
      refine ite_s (fun _ => by rw [if_pos i1]; exact s_g2 (k := f_L_law_b23 L xs n (nI (4 * i) + 4)) (L_set hJ _) hk) (fun _ => ?_)
      refine ite_s (fun _ => by rw [if_pos i1]; exact s_g2 (k := f_L_law_b23 L xs n (nI (4 * i) + 4)) (L_append hJ _) hk) (fun _ => ?_)
      refine ite_s (fun _ => s_g1 (k := f_L_law_b23 L xs n (nI (4 * i) + 4)) (L_clearBuffer hJ) hk) (fun _ => ?_)
      refine ite_s (fun _ => s_g1 (k := f_L_law_b23 L xs n (nI (4 * i) + 4)) (L_firstError hJ) hk) (fun _ => ?_)
      refine ite_s (fun _ => s_g2 (k := f_L_law_b23 L xs n (nI (4 * i) + 4)) (L_run hJ) hk) (fun _ => ?_)
      refine ite_s (fun _ => by rw [if_pos i1]; exact s_g2 (k := f_L_law_b23 L xs n (nI (4 * i) + 4)) (L_keep hJ _) hk) (fun _ => ?_)
      refine ite_s (fun _ => by rw [if_pos i1]; exact s_g2 (k := f_L_law_b23 L xs n (nI (4 * i) + 4)) (L_goBack hJ _) hk) (fun _ => ?_)
      refine ite_s (fun _ => s_g2 (k := f_L_law_b23 L xs n (nI (4 * i) + 4)) (L_undo hJ) hk) (fun _ => ?_)
      refine ite_s (fun _ => by rw [if_pos i1, if_pos i2]; exact s_g2 (k := f_L_law_b23 L xs n (nI (4 * i) + 4)) (L_trackOf hJ _ _) hk) (fun _ => ?_)
      refine ite_s (fun _ => by rw [if_pos i1, if_pos i2]; exact s_g2 (k := f_L_law_b23 L xs n (nI (4 * i) + 4)) (L_cylinderOf hJ _ _) hk) (fun _ => ?_)
      refine ite_s (fun _ => by rw [if_pos i1]; exact s_g2 (k := f_L_law_b23 L xs n (nI (4 * i) + 4)) (L_count hJ _) hk) (fun _ => ?_)
      refine ite_s (fun _ => s_g1 (k := f_L_law_b23 L xs n (nI (4 * i) + 4)) (L_setting hJ) hk) (fun _ => ?_)
      refine ite_s (fun _ => by rw [if_pos i1, if_pos i2]; exact s_g2 (k := f_L_law_b23 L xs n (nI (4 * i) + 4)) (L_whyNot hJ _ _) hk) (fun _ => ?_)
      refine ite_s (fun _ => by rw [if_pos i1, if_pos i2, if_pos i3]; exact s_g2 (k := f_L_law_b23 L xs n (nI (4 * i) + 4)) (L_ifCopied hJ _ _ _) hk) (fun _ => ?_)
      refine ite_s (fun _ => by rw [if_pos i1, if_pos i2, if_pos i3]; exact s_g2 (k := f_L_law_b23 L xs n (nI (4 * i) + 4)) (L_chain hJ _ _ _) hk) (fun _ => ?_)
      refine ite_s (fun _ => s_g1 (k := f_L_law_b23 L xs n (nI (4 * i) + 4)) (L_clearest hJ) hk) (fun _ => ?_)
      refine ite_s (fun _ => by rw [if_pos i1]; exact s_g2 (k := f_L_law_b23 L xs n (nI (4 * i) + 4)) (L_daughters hJ _) hk) (fun _ => ?_)
      refine ite_s (fun _ => s_mean (k := f_L_law_b23 L xs n (nI (4 * i) + 4)) hJ hk) (fun _ => ?_)
      refine ite_s (fun _ => s_share (k := f_L_law_b23 L xs n (nI (4 * i) + 4)) hJ hk) (fun _ => ?_)
      refine ite_s (fun _ => s_dig (k := f_L_law_b23 L xs n (nI (4 * i) + 4)) hJ hk) (fun _ => ?_)
      exact hk μ hJ
