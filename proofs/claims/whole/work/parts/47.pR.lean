/-! PURE: the texts of orders, the class's reading -/
def frg (ch : Int32) : Int32 × Int32 := if ch = 65 then (97, 102) else if ch = 68 then (48, 51) else if ch = 78 then (49, 57) else if ch = 86 then (49, 51) else (ch, ch)
abbrev fok (ch x : Int32) : Prop := (frg ch).1 ≤ x ∧ x ≤ (frg ch).2
def fbs (k : Nat) : List Int32 := z_byt.getD k []
def fk (c : Int32) : Nat := if c = 99 then 1 else if c = 112 then 2 else if c = 115 then 0 else if c = 119 then 4 else if c = 120 then 3 else 5
def qr (f : Nat → Int32) : List Int32 → Nat → Nat
  | [], _ => 0
  | ch :: L, p => if fok ch (f p) then 1 + qr f L (p + 1) else 0
def oln (f : Nat → Int32) (p : Nat) : Nat := (fbs (fk (f p))).length
def ort (f : Nat → Int32) (p : Nat) : Nat := qr f (fbs (fk (f p))) p
abbrev owh (f : Nat → Int32) (p : Nat) : Prop := 0 < oln f p ∧ ort f p = oln f p
def TX (μ : Mm) (f : Nat → Int32) (n : Nat) : Prop := μ 94 1 = nI n ∧ n ≤ 60 ∧ (∀ j, j < n → μ 95 j = f j) ∧ (∀ j, n ≤ j → f j = 0)
theorem fk6 (c : Int32) : fk c < 6 := by
  unfold fk
  repeat' split
  all_goals decide
theorem k6 {P : Nat → Prop} (h0 : P 0) (h1 : P 1) (h2 : P 2) (h3 : P 3) (h4 : P 4) (h5 : P 5) : ∀ k, k < 6 → P k := fun w hw => match w, hw with | 0, _ => h0 | 1, _ => h1 | 2, _ => h2 | 3, _ => h3 | 4, _ => h4 | 5, _ => h5 | n + 6, h => absurd h (by omega)
theorem w8 {P : Nat → Prop} (h0 : P 0) (h1 : P 1) (h2 : P 2) (h3 : P 3) (h4 : P 4) (h5 : P 5) (h6 : P 6) (h7 : P 7) : ∀ w, w < 8 → P w := fun w hw => match w, hw with | 0, _ => h0 | 1, _ => h1 | 2, _ => h2 | 3, _ => h3 | 4, _ => h4 | 5, _ => h5 | 6, _ => h6 | 7, _ => h7 | n + 8, h => absurd h (by omega)
theorem fbs8 : ∀ k, k < 6 → (fbs k).length < 9 := by decide
theorem qr_le (f : Nat → Int32) : ∀ (L : List Int32) (p : Nat), qr f L p ≤ L.length := by
  intro L
  induction L with
  | nil => intro p; exact Nat.le_refl 0
  | cons ch L ih =>
    intro p
    have := ih (p + 1)
    show (if fok ch (f p) then 1 + qr f L (p + 1) else 0) ≤ L.length + 1
    split <;> omega
theorem qr_full (f : Nat → Int32) : ∀ (L : List Int32) (p : Nat), qr f L p = L.length → ∀ i, i < L.length → fok (L.getD i 0) (f (p + i)) := by
  intro L
  induction L with
  | nil => intro p _ i hi; exact absurd hi (by simp)
  | cons ch L ih =>
    intro p h i hi
    have h1 : (if fok ch (f p) then 1 + qr f L (p + 1) else 0) = L.length + 1 := h
    by_cases hc : fok ch (f p)
    · rw [if_pos hc] at h1
      cases i with
      | zero => exact hc
      | succ i =>
        have := ih (p + 1) (by omega) i (by simpa using hi)
        rw [show p + 1 + i = p + (i + 1) by omega] at this
        simpa using this
    · rw [if_neg hc] at h1; omega
theorem c_code {μ : Mm} {f : Nat → Int32} {n p : Nat} (hT : TX μ f n) (hp : p < 2 ^ 31) : f_X0_codeAt (nI p) μ = some (f p, μ) := by
  unfold f_X0_codeAt
  rw [if_neg (nI_pos hp), hT.1]
  have hn := hT.2.1
  by_cases h : n ≤ p
  · rw [if_pos (ple h hp), hT.2.2.2 p h]
  · rw [if_neg (pge (by omega) (by omega))]
    simp (disch := omega) only [pzix, pcl, if_true]
    rw [hT.2.2.1 p (by omega)]
theorem c_form (c : Int32) {μ : Mm} : f_X0_formOf c μ = some (fk c, μ) := by
  unfold f_X0_formOf fk
  repeat' split
  all_goals rfl
theorem c_fits (x ch : Int32) {μ : Mm} : f_X0_fits x ch μ = some (if fok ch x then 1 else 0, μ) := by
  have go : ∀ lo hi : Int32, (if x < lo then some ((0 : Int32), μ) else if hi < x then some (0, μ) else some (1, μ)) = some (if lo ≤ x ∧ x ≤ hi then 1 else 0, μ) := fun lo hi => by
    by_cases h1 : x < lo
    · rw [if_pos h1, if_neg (fun q => by have := q.1; rw [i_lt] at h1; rw [i_le] at this; omega)]
    · rw [if_neg h1]
      by_cases h2 : hi < x
      · rw [if_pos h2, if_neg (fun q => by have := q.2; rw [i_lt] at h2; rw [i_le] at this; omega)]
      · rw [if_neg h2, if_pos ⟨by rw [i_lt] at h1; rw [i_le]; omega, by rw [i_lt] at h2; rw [i_le]; omega⟩]
  unfold f_X0_fits fok frg
  by_cases h1 : ch = 65
  · simp only [if_pos h1]; exact go 97 102
  · simp only [if_neg h1]
    by_cases h2 : ch = 68
    · simp only [if_pos h2]; exact go 48 51
    · simp only [if_neg h2]
      by_cases h3 : ch = 78
      · simp only [if_pos h3]; exact go 49 57
      · simp only [if_neg h3]
        by_cases h4 : ch = 86
        · simp only [if_pos h4]; exact go 49 51
        · simp only [if_neg h4]
          by_cases h5 : x = ch
          · rw [if_pos h5, if_pos (by rw [h5]; exact ⟨(i_le ch ch).mpr (Int.le_refl _), (i_le ch ch).mpr (Int.le_refl _)⟩)]
          · rw [if_neg h5, if_neg (fun q => h5 (le_an q.2 q.1))]
theorem c_len0 {μ : Mm} : ∀ k, k < 6 → f_J0_length_8abf5 k μ = some (nI (fbs k).length, μ) := by
  have hh : ∀ k, k < 6 → (nI (z_len.getD k 0)) >>> ((0 : Int32) &&& 31) = nI (fbs k).length := by decide
  intro k hk
  unfold f_J0_length_8abf5 f_J0_coder_7d493
  rw [if_pos hk, if_pos hk, zb_of rfl, hh k hk]
theorem c_len {k : Nat} (hk : k < 6) {μ : Mm} : f_J0_length_8abf5 k μ = some (nI (fbs k).length, μ) := c_len0 k hk
theorem drop_getD (L : List Int32) {i : Nat} (h : i < L.length) : L.drop i = L.getD i 0 :: L.drop (i + 1) := by
  rw [List.drop_eq_getElem_cons h, List.getD_eq_getElem?_getD, List.getElem?_eq_getElem h]
  rfl
theorem c_chr {μ : Mm} : ∀ k, k < 6 → ∀ i, i < (fbs k).length → f_J0_charAt_5068e k (nI i) μ = some ((fbs k).getD i 0, μ) := by
  refine k6 ?_ ?_ ?_ ?_ ?_ ?_ <;> intro i hi
  · revert i; intro i hi
    have : i < 5 := hi
    rcases (show i = 0 ∨ i = 1 ∨ i = 2 ∨ i = 3 ∨ i = 4 by omega) with rfl | rfl | rfl | rfl | rfl <;> rfl
  · have : i < 8 := hi
    rcases (show i = 0 ∨ i = 1 ∨ i = 2 ∨ i = 3 ∨ i = 4 ∨ i = 5 ∨ i = 6 ∨ i = 7 by omega) with rfl | rfl | rfl | rfl | rfl | rfl | rfl | rfl <;> rfl
  · have : i < 3 := hi
    rcases (show i = 0 ∨ i = 1 ∨ i = 2 by omega) with rfl | rfl | rfl <;> rfl
  · have : i < 2 := hi
    rcases (show i = 0 ∨ i = 1 by omega) with rfl | rfl <;> rfl
  · have : i < 1 := hi
    rcases (show i = 0 by omega) with rfl; rfl
  · exact absurd (show i < 0 from hi) (by omega)
theorem c_rc11 {μ : Mm} {f : Nat → Int32} {n p k : Nat} (hT : TX μ f n) (hp : p < 1000) (hk : k < 6) : ∀ (m i fu : Nat), i + m = (fbs k).length → m < fu → f_X0_rightCharacters_b11 fu (nI p) k (nI i) μ = some (nI (i + qr f ((fbs k).drop i) (p + i)), μ) := by
  have h8 := fbs8 k hk
  intro m
  induction m with
  | zero =>
    intro i fu hi hf
    obtain ⟨fu, rfl⟩ : ∃ q, fu = q + 1 := ⟨fu - 1, by omega⟩
    rw [f_X0_rightCharacters_b11, c_len hk, zb_of rfl, if_pos hk, if_pos (ple (by omega) (by omega)), List.drop_of_length_le (by omega)]
    rfl
  | succ m ih =>
    intro i fu hi hf
    obtain ⟨fu, rfl⟩ : ∃ q, fu = q + 1 := ⟨fu - 1, by omega⟩
    have hil : i < (fbs k).length := by omega
    have hd := drop_getD (fbs k) hil
    rw [f_X0_rightCharacters_b11, c_len hk, zb_of rfl, if_pos hk, if_neg (pge (by omega) (by omega)), padd, c_code hT (by omega), zb_of rfl, c_chr k hk i hil, zb_of rfl, c_fits, zb_of rfl, hd]
    show _ = some (nI (i + (if fok ((fbs k).getD i 0) (f (p + i)) then 1 + qr f ((fbs k).drop (i + 1)) (p + i + 1) else 0)), μ)
    by_cases hc : fok ((fbs k).getD i 0) (f (p + i))
    · rw [if_pos hc, if_pos hc, if_neg (by decide), pa1, ih (i + 1) fu (by omega) (by omega), show p + (i + 1) = p + i + 1 by omega, Nat.add_assoc i 1]
    · rw [if_neg hc, if_neg hc, if_pos rfl, Nat.add_zero]
theorem c_rc {μ : Mm} {f : Nat → Int32} {n p : Nat} (hT : TX μ f n) (hp : p < 1000) : f_X0_rightCharacters (nI p) μ = some (nI (ort f p), μ) := by
  unfold f_X0_rightCharacters
  rw [c_code hT (by omega), zb_of rfl, c_form, zb_of rfl]
  have h8 := fbs8 _ (fk6 (f p))
  have := c_rc11 hT hp (fk6 (f p)) (fbs (fk (f p))).length 0 z_F (by omega) (by have := zF1200; omega)
  rw [Nat.zero_add, Nat.add_zero, List.drop_zero] at this
  exact this
theorem c_fln {μ : Mm} {f : Nat → Int32} {n p : Nat} (hT : TX μ f n) (hp : p < 1000) : f_X0_formLengthAt (nI p) μ = some (nI (oln f p), μ) := by
  unfold f_X0_formLengthAt
  rw [c_code hT (by omega), zb_of rfl, c_form, zb_of rfl, c_len (fk6 _), zb_of rfl, if_pos (fk6 _)]
  rfl
theorem oln9 (f : Nat → Int32) (p : Nat) : oln f p < 9 := fbs8 _ (fk6 (f p))
theorem ort9 (f : Nat → Int32) (p : Nat) : ort f p ≤ oln f p := qr_le _ _ _
theorem c_wo {μ : Mm} {f : Nat → Int32} {n p : Nat} (hT : TX μ f n) (hp : p < 1000) : f_X0_isWholeOrder (nI p) μ = some (if owh f p then 1 else 0, μ) := by
  have h9 := oln9 f p
  have h8 := ort9 f p
  unfold f_X0_isWholeOrder
  rw [c_fln hT hp, zb_of rfl]
  by_cases h0 : oln f p = 0
  · rw [if_pos (show nI (oln f p) ≤ 0 by rw [h0]; decide), if_neg (fun q => by have := q.1; omega)]
  · rw [if_neg (show ¬ nI (oln f p) ≤ 0 from pge (a := 0) (by omega) (by omega)), c_rc hT hp, zb_of rfl]
    by_cases h1 : ort f p = oln f p
    · rw [if_pos (by rw [h1]), if_pos ⟨by omega, h1⟩]
    · rw [if_neg (fun q => h1 ((pinj (by omega) (by omega)).mp q)), if_neg (fun q => h1 q.2)]
/-- where the text goes wrong, and whether it tells whole orders -/
def qfe (f : Nat → Int32) (n : Nat) : Nat → Nat → Nat
  | 0, _ => 0
  | m + 1, p => if n ≤ p then n else if owh f p then (if n ≤ p + oln f p then n else if f (p + oln f p) = 59 then qfe f n m (p + oln f p + 1) else p + oln f p) else p + ort f p
def qok (f : Nat → Int32) (n : Nat) : Nat → Nat → Bool
  | 0, _ => false
  | m + 1, p => if n ≤ p then false else if owh f p then (if n ≤ p + oln f p then true else if f (p + oln f p) = 59 then qok f n m (p + oln f p + 1) else false) else false
/-- a right character stands in the text -/
theorem fok_pos : ∀ k, k < 6 → ∀ i, i < (fbs k).length → 0 < (frg ((fbs k).getD i 0)).1 := by decide
theorem qr_in {f : Nat → Int32} {n k : Nat} (hk : k < 6) (hf : ∀ j, n ≤ j → f j = 0) : ∀ (m i p : Nat), i + m = (fbs k).length → p ≤ n → p + qr f ((fbs k).drop i) p ≤ n := by
  intro m
  induction m with
  | zero => intro i p hi hp; rw [List.drop_of_length_le (by omega)]; exact hp
  | succ m ih =>
    intro i p hi hp
    have hil : i < (fbs k).length := by omega
    rw [drop_getD (fbs k) hil]
    show p + (if fok ((fbs k).getD i 0) (f p) then 1 + qr f ((fbs k).drop (i + 1)) (p + 1) else 0) ≤ n
    by_cases hc : fok ((fbs k).getD i 0) (f p)
    · rw [if_pos hc]
      have hlt : p < n := Classical.byContradiction fun q => by
        have h1 := hc.1
        rw [hf p (by omega), i_le, i_0] at h1
        have h2 := fok_pos k hk i hil
        rw [i_lt, i_0] at h2
        omega
      have := ih (i + 1) (p + 1) (by omega) hlt
      omega
    · rw [if_neg hc]; exact hp
theorem ort_in {f : Nat → Int32} {n p : Nat} (hf : ∀ j, n ≤ j → f j = 0) (hp : p ≤ n) : p + ort f p ≤ n := by
  have := qr_in (fk6 (f p)) hf (fbs (fk (f p))).length 0 p (by omega) hp
  rw [List.drop_zero] at this
  exact this
theorem c_fw {μ : Mm} {f : Nat → Int32} {n : Nat} (hT : TX μ f n) : ∀ (m p fu : Nat), n < p + m → p ≤ n → m < fu → f_X0_firstWrong_b2 fu (nI p) μ = some (nI (qfe f n m p), μ) := by
  have hn := hT.2.1
  intro m
  induction m with
  | zero => intro p fu h1 h2 h3; omega
  | succ m ih =>
    intro p fu h1 h2 h3
    obtain ⟨fu, rfl⟩ : ∃ q, fu = q + 1 := ⟨fu - 1, by omega⟩
    have h9 := oln9 f p
    have h8 := ort9 f p
    have h7 := ort_in hT.2.2.2 h2
    rw [f_X0_firstWrong_b2, hT.1]
    unfold qfe
    by_cases hp : n ≤ p
    · rw [if_pos (ple hp (by omega)), if_pos hp]
    · rw [if_neg (pge (by omega) (by omega)), if_neg hp, c_rc hT (by omega), zb_of rfl, c_wo hT (by omega), zb_of rfl, padd]
      by_cases hw : owh f p
      · rw [hw.2] at h7
        rw [if_pos hw, if_neg (by decide), if_pos hw, hw.2, hT.1]
        by_cases he : n ≤ p + oln f p
        · rw [if_pos (ple he (by omega)), if_pos he]
          unfold f_X0_firstWrong_b46
          rw [c_fln hT (by omega), zb_of rfl, pa1, padd]
          obtain ⟨fu, rfl⟩ : ∃ q, fu = q + 1 := ⟨fu - 1, by omega⟩
          rw [f_X0_firstWrong_b2, hT.1, if_pos (ple (by omega) (by omega))]
        · rw [if_neg (pge (by omega) (by omega)), if_neg he, c_code hT (by omega), zb_of rfl]
          by_cases hs : f (p + oln f p) = 59
          · rw [if_pos hs, if_pos hs]
            unfold f_X0_firstWrong_b46
            rw [c_fln hT (by omega), zb_of rfl, pa1, padd]
            exact ih (p + (oln f p + 1)) fu (by omega) (by omega) (by omega)
          · rw [if_neg hs, if_neg hs]
      · rw [if_neg hw, if_pos rfl, if_neg hw]
theorem c_aw {μ : Mm} {f : Nat → Int32} {n : Nat} (hT : TX μ f n) : ∀ (m p fu : Nat), n < p + m → p ≤ n → m < fu → f_X0_areWhole_b2 fu (nI p) μ = some (if qok f n m p = true then 1 else 0, μ) := by
  have hn := hT.2.1
  intro m
  induction m with
  | zero => intro p fu h1 h2 h3; omega
  | succ m ih =>
    intro p fu h1 h2 h3
    obtain ⟨fu, rfl⟩ : ∃ q, fu = q + 1 := ⟨fu - 1, by omega⟩
    have h9 := oln9 f p
    have h8 := ort9 f p
    have h7 := ort_in hT.2.2.2 h2
    rw [f_X0_areWhole_b2, hT.1]
    unfold qok
    by_cases hp : n ≤ p
    · rw [if_pos (ple hp (by omega)), if_pos hp]; rfl
    · rw [if_neg (pge (by omega) (by omega)), if_neg hp, c_rc hT (by omega), zb_of rfl, c_wo hT (by omega), zb_of rfl, padd]
      by_cases hw : owh f p
      · rw [hw.2] at h7
        rw [if_pos hw, if_neg (by decide), if_pos hw, hw.2, hT.1]
        by_cases he : n ≤ p + oln f p
        · rw [if_pos (ple he (by omega)), if_pos he]
          unfold f_X0_areWhole_b46
          rw [hT.1, if_pos (by rw [show p + oln f p = n by omega])]
          rfl
        · rw [if_neg (pge (by omega) (by omega)), if_neg he, c_code hT (by omega), zb_of rfl]
          by_cases hs : f (p + oln f p) = 59
          · rw [if_pos hs, if_pos hs]
            unfold f_X0_areWhole_b46
            rw [hT.1, if_neg (fun q => by have := (pinj (by omega) (by omega)).mp q; omega), c_fln hT (by omega), zb_of rfl, pa1, padd]
            exact ih (p + (oln f p + 1)) fu (by omega) (by omega) (by omega)
          · rw [if_neg hs, if_neg hs]; rfl
      · rw [if_neg hw, if_pos rfl, if_neg hw]; rfl
