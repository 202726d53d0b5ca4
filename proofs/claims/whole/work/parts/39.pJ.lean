/-! PURE: the calls that save -/
theorem J.scr {μ ν : Mm} (h : J μ) (hc : ∀ c, c ≠ 119 → c ≠ 125 → ¬ (97 ≤ c ∧ c < 119) → c ≠ 123 → c ≠ 124 → ν c = μ c) (h1 : ν 119 1 = μ 119 1) (h4 : ν 119 4 = μ 119 4) : J ν := by
  obtain ⟨hR, ⟨p, s, hp, hs, h90, hm, hsv⟩, hK, ⟨n, hn, ht1, ht2, ht3⟩, hB⟩ := h
  have hV : ∀ b, b % 10 = 0 → b < 90 → V ν b = V μ b := fun b hb hb2 => V_same (fun c hc1 => hc _ (by omega) (by omega) (by omega) (by omega) (by omega))
  have e : ∀ c, c < 97 → ν c = μ c := fun c h => hc c (by omega) (by omega) (by omega) (by omega) (by omega)
  have e120 : ν 120 = μ 120 := hc _ (by decide) (by decide) (by decide) (by decide) (by decide)
  have e121 : ν 121 = μ 121 := hc _ (by decide) (by decide) (by decide) (by decide) (by decide)
  have e122 : ν 122 = μ 122 := hc _ (by decide) (by decide) (by decide) (by decide) (by decide)
  refine ⟨?_, ⟨p, s, ⟨fun i hi => ⟨(hp.1 i hi).1, ?_⟩, hp.2⟩, hs, ?_, ?_, fun i hi => ?_⟩, fun k hk => ?_, ⟨n, hn, ?_, ?_, fun j hj => ?_⟩, ?_⟩
  · rw [hV 0 (by decide) (by decide), e120]; exact hR
  · rw [e 93 (by decide)]; exact (hp.1 i hi).2
  · rw [e 90 (by decide)]; exact h90
  · rw [h1]; exact hm
  · have hb := (hp.1 i (by omega)).1
    rw [hV _ (by omega) (by omega), e120]; exact hsv i hi
  · rw [e 92 (by decide), e121, hV _ (by omega) (by omega), e120]; exact hK k hk
  · rw [e 94 (by decide)]; exact ht1
  · rw [h4]; exact ht2
  · rw [e 95 (by decide), e122]; exact ht3 j hj
  · unfold JB; rw [e 96 (by decide)]; exact hB
theorem J_sv {μ : Mm} (hJ : J μ) {A D : (Nat → Int32) → Nat → Int32} (hAD : ∀ b, Rel (V μ 0) b → (∀ j, j < 190 → b j = μ 120 j) → (∀ j, 1330 ≤ j → b j = μ 120 j) → Rel (A (V μ 0)) (D b)) (hhi : ∀ (b : Nat → Int32) (j : Nat), 190 ≤ j → D b j = b j) {r : Int32} {clsop modop : Mm → Option (Int32 × Mm)}
    (hc : ∀ μ1 : Mm, (∀ c, c < 30 → μ1 c = μ c) → (∀ c, 91 ≤ c → c ≠ 93 → μ1 c = μ c) → V μ1 0 = V μ 0 → ∃ W : Mm, clsop μ1 = some (r, W) ∧ (∀ j, j < 190 → V W 0 j = A (V μ 0) j) ∧ ∀ c, 10 ≤ c → W c = μ1 c)
    (hm : ∀ ν1 : Mm, Rel (V μ 0) (ν1 120) → (∀ j, j < 190 → ν1 120 j = μ 120 j) → (∀ j, 1330 ≤ j → ν1 120 j = μ 120 j) → ∃ Y : Mm, modop ν1 = some (r, Y) ∧ Y 120 = D (ν1 120) ∧ ∀ c, c ≠ 120 → Y c = ν1 c) :
    ∃ μ' : Mm, zb (f_X3_saveState μ) (fun _ m => clsop m) = some (r, μ') ∧ (∀ c, 91 ≤ c → c ≠ 93 → μ' c = μ c) ∧ ∀ ν : Mm, (∀ c, c ≠ 119 → c ≠ 125 → ν c = μ' c) → ν 119 1 = μ' 119 1 → ν 119 4 = μ' 119 4 → ∃ y : Mm, zb (f_X4_saves ν) (fun _ m => modop m) = some (r, y) ∧ J y ∧ y 125 = ν 125 ∧ y 119 5 = ν 119 5 := by
  obtain ⟨μ1, e, q1, q2, q3, H⟩ := J_op hJ hAD hhi
  obtain ⟨W, w1, w2, w3⟩ := hc μ1 q1 q2 q3
  refine ⟨W, by rw [e]; exact w1, fun c h1 h2 => by rw [w3 c (by omega), q2 c h1 h2], fun ν hν h1 h4 => ?_⟩
  obtain ⟨ν1, f, f1, f2, f3, f4, G⟩ := H ν (fun j hj => by rw [← w2 j hj]; exact congrFun (V_same (fun c hc => hν _ (by omega) (by omega))) j) (fun c h1 h2 h3 h4 => by rw [hν c h3 h4, w3 c h1]) (by rw [h1, w3 119 (by decide)])
  obtain ⟨Y, y1, y2, y3⟩ := hm ν1 (hJ.1.congr (fun _ _ => rfl) f1) f1 f2
  obtain ⟨n, hn, ht1, ht2, ht3⟩ := hJ.2.2.2.1
  have k : ∀ c, 91 ≤ c → c ≠ 93 → c ≠ 119 → c ≠ 120 → c ≠ 125 → Y c = μ c := fun c a1 a2 a3 a4 a5 => by rw [y3 c a4, f3 c a3 a4, hν c a3 a5, w3 c (by omega), q2 c a1 a2]
  refine ⟨Y, by rw [f]; exact y1, G Y (fun c _ h => y3 c h) (by rw [y3 119 (by decide)]) y2 ⟨n, hn, ?_, ?_, fun j hj => ?_⟩, ?_, ?_⟩
  · rw [k 94 (by decide) (by decide) (by decide) (by decide) (by decide)]; exact ht1
  · rw [y3 119 (by decide), f4 4 (by decide), h4, w3 119 (by decide), q2 119 (by decide) (by decide)]; exact ht2
  · rw [k 95 (by decide) (by decide) (by decide) (by decide) (by decide), k 122 (by decide) (by decide) (by decide) (by decide) (by decide)]; exact ht3 j hj
  · rw [y3 125 (by decide), f3 125 (by decide) (by decide)]
  · rw [y3 119 (by decide), f4 5 (by decide)]
theorem zb_inr {α : Type} {o : Option (α × Mm)} {f : Mm → Option (Int32 × Mm)} {r : Int32} {m' : Mm} (h : zb o (fun _ m => f m) = some (r, m')) : zb o (fun _ m => zb (f m) (fun r m => some ((Sum.inr r : String ⊕ Int32), m))) = some (.inr r, m') := by
  obtain ⟨a, m, e1, e2⟩ := zb_some h
  rw [e1, zb_of rfl, e2, zb_of rfl]
theorem zb_id {α : Type} {o : Option (α × Mm)} {f : Mm → Option (Int32 × Mm)} {r : Int32} {m' : Mm} (h : zb o (fun _ m => f m) = some (r, m')) : zb o (fun _ m => zb (f m) (fun r m => some (r, m))) = some (r, m') := by
  obtain ⟨a, m, e1, e2⟩ := zb_some h
  rw [e1, zb_of rfl, e2, zb_of rfl]
def Good2 (o1 o2 : Mm → Option (Int32 × Mm)) (μ : Mm) : Prop := ∃ (k : Int32) (m : Mm) (b : Int32) (m2 : Mm), o1 μ = some (k, m) ∧ o2 m = some (b, m2) ∧ m2 119 5 = k ∧ (k = 0 → m2 125 0 = b) ∧ J m2
def Good1 (o1 o2 : Mm → Option (Int32 × Mm)) (μ : Mm) : Prop := ∃ (r : Int32) (m m2 : Mm), o1 μ = some (r, m) ∧ o2 m = some (r, m2) ∧ J m2
/-! what is checked -/
theorem m_in (x lo hi : Int32) {μ : Mm} : f_X4_in x lo hi μ = some (if lo ≤ x ∧ x ≤ hi then 1 else 0, μ) := by
  unfold f_X4_in
  by_cases h1 : x < lo
  · rw [if_pos h1, if_neg]
    intro q
    have := q.1
    rw [i_le] at this; rw [i_lt] at h1; omega
  · rw [if_neg h1]
    by_cases h2 : hi < x
    · rw [if_pos h2, if_neg]
      intro q
      have := q.2
      rw [i_le] at this; rw [i_lt] at h2; omega
    · rw [if_neg h2, if_pos]
      rw [i_lt] at h1 h2
      rw [i_le, i_le]
      omega
theorem trk (x : Int32) : (∃ t : Nat, t < 24 ∧ x = nI t) ∨ (x < 0 ∨ (¬ x < 0 ∧ ¬ x < 24)) := by
  rcases pcase x with h | ⟨t, ht, rfl⟩
  · exact Or.inr (Or.inl h)
  · by_cases h : t < 24
    · exact Or.inl ⟨t, h, rfl⟩
    · exact Or.inr (Or.inr ⟨nI_pos ht, nI_nlt (b := 24) (by omega) ht⟩)
theorem cyl (x : Int32) : (∃ t : Nat, t < 6 ∧ x = nI t) ∨ (x < 0 ∨ (¬ x < 0 ∧ ¬ x < 6)) := by
  rcases pcase x with h | ⟨t, ht, rfl⟩
  · exact Or.inr (Or.inl h)
  · by_cases h : t < 6
    · exact Or.inl ⟨t, h, rfl⟩
    · exact Or.inr (Or.inr ⟨nI_pos ht, nI_nlt (b := 6) (by omega) ht⟩)
theorem ck_tr {t : Nat} (ht : t < 24) {μ : Mm} : f_X3_checkTrack (nI t) μ = some (.inr (), μ) := by
  unfold f_X3_checkTrack; rw [if_neg (nI_pos (by omega)), if_pos (show nI t < 24 from nI_lt (b := 24) ht (by decide))]
theorem ck_trn {x : Int32} (h : x < 0 ∨ (¬ x < 0 ∧ ¬ x < 24)) {μ : Mm} : f_X3_checkTrack x μ = some (.inl "java/lang/IndexOutOfBoundsException", μ) := by
  unfold f_X3_checkTrack
  rcases h with h | h
  · rw [if_pos h]
  · rw [if_neg h.1, if_neg h.2]
theorem ck_cy {t : Nat} (ht : t < 6) {μ : Mm} : f_X3_checkCylinder (nI t) μ = some (.inr (), μ) := by
  unfold f_X3_checkCylinder; rw [if_neg (nI_pos (by omega)), if_pos (show nI t < 6 from nI_lt (b := 6) ht (by decide))]
theorem ck_cyn {x : Int32} (h : x < 0 ∨ (¬ x < 0 ∧ ¬ x < 6)) {μ : Mm} : f_X3_checkCylinder x μ = some (.inl "java/lang/IndexOutOfBoundsException", μ) := by
  unfold f_X3_checkCylinder
  rcases h with h | h
  · rw [if_pos h]
  · rw [if_neg h.1, if_neg h.2]
theorem i_23 : (23 : Int32).toInt = 23 := by decide
theorem i_24 : (24 : Int32).toInt = 24 := by decide
theorem i_6 : (6 : Int32).toInt = 6 := by decide
theorem mi_tr {t : Nat} (ht : t < 24) {μ : Mm} : f_X4_isTrack (nI t) μ = some (1, μ) := by
  unfold f_X4_isTrack
  rw [m_in, if_pos ⟨nI_pos' (by omega), nI_le (b := 23) (by omega) (by decide)⟩, zb_of rfl, if_pos (show narrow .boolean (.int 1) = .int 1 from rfl)]
theorem mi_trn {x : Int32} (h : x < 0 ∨ (¬ x < 0 ∧ ¬ x < 24)) {μ : Mm} : f_X4_isTrack x μ = some (0, μ) := by
  unfold f_X4_isTrack
  rw [m_in, if_neg]
  · rw [zb_of rfl, if_pos (show narrow .boolean (.int 0) = .int 0 from rfl)]
  · intro q
    rw [i_le, i_le, i_0, i_23] at q
    rw [i_lt, i_lt, i_0, i_24] at h
    omega
theorem mi_cy {t : Nat} (ht : t < 6) {μ : Mm} : f_X4_isCylinder (nI t) μ = some (1, μ) := by
  unfold f_X4_isCylinder
  rw [m_in, if_pos ⟨nI_pos' (by omega), nI_le (b := 5) (by omega) (by decide)⟩, zb_of rfl, if_pos (show narrow .boolean (.int 1) = .int 1 from rfl)]
theorem mi_cyn {x : Int32} (h : x < 0 ∨ (¬ x < 0 ∧ ¬ x < 6)) {μ : Mm} : f_X4_isCylinder x μ = some (0, μ) := by
  unfold f_X4_isCylinder
  rw [m_in, if_neg]
  · rw [zb_of rfl, if_pos (show narrow .boolean (.int 0) = .int 0 from rfl)]
  · intro q
    rw [i_le, i_le, i_0, i_5] at q
    rw [i_lt, i_lt, i_0, i_6] at h
    omega
theorem ck_ld {l : Int32} {μ : Mm} : f_X3_checkLoudness l μ = some (if 1 ≤ l ∧ l ≤ 9 then .inr () else .inl "java/lang/IllegalArgumentException", μ) := by
  unfold f_X3_checkLoudness
  by_cases h1 : l < 1
  · rw [if_pos h1, if_neg (fun q => by have := q.1; rw [i_le] at this; rw [i_lt] at h1; omega)]
  · rw [if_neg h1]
    have h0 : 1 ≤ l := by rw [i_lt] at h1; rw [i_le]; omega
    by_cases h2 : l ≤ 9
    · rw [if_pos h2, if_pos ⟨h0, h2⟩]
    · rw [if_neg h2, if_neg (fun q => h2 q.2)]
theorem ck_lv {l : Int32} {μ : Mm} : f_X3_checkLever l μ = some (if 1 ≤ l ∧ l ≤ 3 then .inr () else .inl "java/lang/IllegalArgumentException", μ) := by
  unfold f_X3_checkLever
  by_cases h1 : l < 1
  · rw [if_pos h1, if_neg (fun q => by have := q.1; rw [i_le] at this; rw [i_lt] at h1; omega)]
  · rw [if_neg h1]
    have h0 : 1 ≤ l := by rw [i_lt] at h1; rw [i_le]; omega
    by_cases h2 : l ≤ 3
    · rw [if_pos h2, if_pos ⟨h0, h2⟩]
    · rw [if_neg h2, if_neg (fun q => h2 q.2)]
def g5 (μ : Mm) (v : Int32) : Mm := z_up μ 119 5 v
theorem m_go0 (x2 : Int32) {μ : Mm} : f_X4_goes 0 x2 μ = some (0, g5 μ 1) := by
  unfold f_X4_goes g5; rw [if_pos rfl, z_up_s, upd_s, if_neg (by decide)]
theorem m_go10 {μ : Mm} : f_X4_goes 1 0 μ = some (0, g5 μ 2) := by
  unfold f_X4_goes g5; rw [if_neg (by decide), if_pos rfl, z_up_s, upd_s, if_neg (by decide)]
theorem m_go11 {μ : Mm} : f_X4_goes 1 1 μ = some (1, g5 μ 0) := by
  unfold f_X4_goes g5; rw [if_neg (by decide), if_neg (by decide), z_up_s, upd_s, if_pos rfl]
theorem J.g5 {μ : Mm} (h : J μ) (v : Int32) : J (g5 μ v) := h.scr (fun c h1 _ _ _ _ => z_up_n _ _ _ h1) (by unfold Jvm.Pilot.CWaxCopiesLaw_law_r8460_65119f.g5; rw [z_up_s, upd_n (by decide)]) (by unfold Jvm.Pilot.CWaxCopiesLaw_law_r8460_65119f.g5; rw [z_up_s, upd_n (by decide)])
theorem g5_5 (μ : Mm) (v : Int32) : g5 μ v 119 5 = v := by unfold g5; rw [z_up_s, upd_s]
theorem g5_n (μ : Mm) (v : Int32) {c : Nat} (h : c ≠ 119) : g5 μ v c = μ c := z_up_n _ _ _ h
theorem g5_k (μ : Mm) (v : Int32) {k : Nat} (h : k ≠ 5) : g5 μ v 119 k = μ 119 k := by unfold g5; rw [z_up_s, upd_n h]
/-- a refused call -/
theorem good_err {μ : Mm} (hJ : J μ) {o1 o2 : Mm → Option (Int32 × Mm)} {k b : Int32} (h1 : o1 μ = some (k, μ)) (h2 : o2 μ = some (b, g5 μ k)) (hk : k ≠ 0) : Good2 o1 o2 μ :=
  ⟨k, μ, b, g5 μ k, h1, h2, g5_5 μ k, fun h => absurd h hk, hJ.g5 k⟩
/-- a call that goes: it saves, then works -/
theorem good_sv {μ : Mm} (hJ : J μ) {A D : (Nat → Int32) → Nat → Int32} (hAD : ∀ b, Rel (V μ 0) b → (∀ j, j < 190 → b j = μ 120 j) → (∀ j, 1330 ≤ j → b j = μ 120 j) → Rel (A (V μ 0)) (D b)) (hhi : ∀ (b : Nat → Int32) (j : Nat), 190 ≤ j → D b j = b j) {r : Int32} {clsop modop : Mm → Option (Int32 × Mm)}
    (hc : ∀ μ1 : Mm, (∀ c, c < 30 → μ1 c = μ c) → (∀ c, 91 ≤ c → c ≠ 93 → μ1 c = μ c) → V μ1 0 = V μ 0 → ∃ W : Mm, clsop μ1 = some (r, W) ∧ (∀ j, j < 190 → V W 0 j = A (V μ 0) j) ∧ ∀ c, 10 ≤ c → W c = μ1 c)
    (hm : ∀ ν1 : Mm, Rel (V μ 0) (ν1 120) → (∀ j, j < 190 → ν1 120 j = μ 120 j) → (∀ j, 1330 ≤ j → ν1 120 j = μ 120 j) → ∃ Y : Mm, modop ν1 = some (r, Y) ∧ Y 120 = D (ν1 120) ∧ ∀ c, c ≠ 120 → Y c = ν1 c)
    {o1 o2 : Mm → Option (Int32 × Mm)} (h1 : ∀ μ' : Mm, zb (f_X3_saveState μ) (fun _ m => clsop m) = some (r, μ') → o1 μ = some (0, z_up μ' 125 0 r)) (h2 : ∀ m y : Mm, zb (f_X4_saves (g5 m 0)) (fun _ m => modop m) = some (r, y) → o2 m = some (r, y)) : Good2 o1 o2 μ := by
  obtain ⟨μ', e, _, H⟩ := J_sv hJ hAD hhi hc hm
  obtain ⟨y, f, hy, h125, h5⟩ := H (g5 (z_up μ' 125 0 r) 0) (fun c c1 c2 => by rw [g5_n _ _ c1, z_up_n _ _ _ c2]) (by rw [g5_k _ _ (by decide), z_up_n _ _ _ (by decide)]) (by rw [g5_k _ _ (by decide), z_up_n _ _ _ (by decide)])
  refine ⟨0, _, r, y, h1 μ' e, h2 _ y f, by rw [h5, g5_5], fun _ => ?_, hy⟩
  rw [h125, g5_n _ _ (by decide), z_up_s, upd_s]
theorem L_speak {μ : Mm} (hJ : J μ) (x l : Int32) : Good2 (f_L_speak x l) (f_X4_speak x l) μ := by
  rcases trk x with ⟨t, ht, rfl⟩ | hx
  · by_cases hl : 1 ≤ l ∧ l ≤ 9
    · refine good_sv hJ (A := fun a => aspeak a t l) (D := fun b => dspeak b t l) (fun b hb _ _ => hb.speak ht hl.1 hl.2) (fun b j hj => hi_speak b ht l hj) (r := qsr (V μ 0) t l) (clsop := f_X2_speakOnto (nI t) l) (modop := f_X4_speaks (nI t) l)
        (fun μ1 _ _ hV => ⟨_, by rw [c_speak ht, hV], fun j _ => by rw [V_speak, hV], fun c hc => fr_speak _ _ _ hc⟩) (fun ν1 hR _ _ => ⟨_, by rw [m_speak ht, ← hR.1.sr ht], M_speak _ _ _, fun c hc => mf_speak _ _ _ hc⟩) (fun μ' h => ?_) (fun m y h => ?_)
      · unfold f_L_speak f_X3_speak
        rw [ck_tr ht, zbx_of rfl, ck_ld, if_pos hl, zbx_of rfl, zb_inr h]; rfl
      · unfold f_X4_speak
        rw [mi_tr ht, zb_of rfl, m_in, if_pos hl, zb_of rfl, m_go11, zb_of rfl, if_neg (by decide), zb_id h]
    · refine good_err hJ (k := 2) (b := 0) ?_ ?_ (by decide)
      · unfold f_L_speak f_X3_speak
        rw [ck_tr ht, zbx_of rfl, ck_ld, if_neg hl, zbx_ofl rfl]; rfl
      · unfold f_X4_speak
        rw [mi_tr ht, zb_of rfl, m_in, if_neg hl, zb_of rfl, m_go10, zb_of rfl, if_pos rfl]
  · refine good_err hJ (k := 1) (b := 0) ?_ ?_ (by decide)
    · unfold f_L_speak f_X3_speak
      rw [ck_trn hx, zbx_ofl rfl]; rfl
    · unfold f_X4_speak
      rw [mi_trn hx, zb_of rfl, m_in, zb_of rfl, m_go0, zb_of rfl, if_pos rfl]
