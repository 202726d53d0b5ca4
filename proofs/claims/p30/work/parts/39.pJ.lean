theorem zb_inr {α : Type} {o : Option (α × Mm)} {f : Mm → Option (Int32 × Mm)} {r : Int32} {m' : Mm} (h : zb o (fun _ m => f m) = some (r, m')) : zb o (fun _ m => zb (f m) (fun r m => some ((Sum.inr r : String ⊕ Int32), m))) = some (.inr r, m') := by
  obtain ⟨a, m, e1, e2⟩ := zb_some h
  rw [e1, zb_of rfl, e2, zb_of rfl]
theorem zb_id {α : Type} {o : Option (α × Mm)} {f : Mm → Option (Int32 × Mm)} {r : Int32} {m' : Mm} (h : zb o (fun _ m => f m) = some (r, m')) : zb o (fun _ m => zb (f m) (fun r m => some (r, m))) = some (r, m') := by
  obtain ⟨a, m, e1, e2⟩ := zb_some h
  rw [e1, zb_of rfl, e2, zb_of rfl]
theorem trk (x : Int32) : (∃ t : Nat, t < 24 ∧ x = nI t) ∨ (x < 0 ∨ (¬ x < 0 ∧ ¬ x < 24)) := by
  rcases pcase x with h | ⟨t, ht, rfl⟩
  · exact Or.inr (Or.inl h)
  · by_cases h : t < 24
    · exact Or.inl ⟨t, h, rfl⟩
    · exact Or.inr (Or.inr ⟨nI_pos ht, nI_nlt (b := 24) (by omega) ht⟩)
theorem cyl (x : Int32) : (∃ t : Nat, t < 6 ∧ x = nI t) ∨ (x < 0 ∨ (¬ x < 0 ∧ ¬ x < 6)) := by
  rcases pcase x with h | ⟨t, ht, rfl⟩
  · exact Or.inr (Or.inl h)
  · by_cases h : t < 6
    · exact Or.inl ⟨t, h, rfl⟩
    · exact Or.inr (Or.inr ⟨nI_pos ht, nI_nlt (b := 6) (by omega) ht⟩)
theorem ck_tr {t : Nat} (ht : t < 24) {μ : Mm} : f_X3_checkTrack (nI t) μ = some (.inr (), μ) := by
  unfold f_X3_checkTrack; rw [if_neg (nI_pos (by omega)), if_pos (show nI t < 24 from nI_lt (b := 24) ht (by decide))]
theorem ck_trn {x : Int32} (h : x < 0 ∨ (¬ x < 0 ∧ ¬ x < 24)) {μ : Mm} : f_X3_checkTrack x μ = some (.inl "java/lang/IndexOutOfBoundsException", μ) := by
  unfold f_X3_checkTrack
  rcases h with h | h
  · rw [if_pos h]
  · rw [if_neg h.1, if_neg h.2]
theorem ck_cy {t : Nat} (ht : t < 6) {μ : Mm} : f_X3_checkCylinder (nI t) μ = some (.inr (), μ) := by
  unfold f_X3_checkCylinder; rw [if_neg (nI_pos (by omega)), if_pos (show nI t < 6 from nI_lt (b := 6) ht (by decide))]
theorem ck_cyn {x : Int32} (h : x < 0 ∨ (¬ x < 0 ∧ ¬ x < 6)) {μ : Mm} : f_X3_checkCylinder x μ = some (.inl "java/lang/IndexOutOfBoundsException", μ) := by
  unfold f_X3_checkCylinder
  rcases h with h | h
  · rw [if_pos h]
  · rw [if_neg h.1, if_neg h.2]
theorem i_23 : (23 : Int32).toInt = 23 := by decide
theorem i_24 : (24 : Int32).toInt = 24 := by decide
theorem i_6 : (6 : Int32).toInt = 6 := by decide
theorem ck_ld {l : Int32} {μ : Mm} : f_X3_checkLoudness l μ = some (if 1 ≤ l ∧ l ≤ 9 then .inr () else .inl "java/lang/IllegalArgumentException", μ) := by
  unfold f_X3_checkLoudness
  by_cases h1 : l < 1
  · rw [if_pos h1, if_neg (fun q => by have := q.1; rw [i_le] at this; rw [i_lt] at h1; omega)]
  · rw [if_neg h1]
    have h0 : 1 ≤ l := by rw [i_lt] at h1; rw [i_le]; omega
    by_cases h2 : l ≤ 9
    · rw [if_pos h2, if_pos ⟨h0, h2⟩]
    · rw [if_neg h2, if_neg (fun q => h2 q.2)]
theorem ck_lv {l : Int32} {μ : Mm} : f_X3_checkLever l μ = some (if 1 ≤ l ∧ l ≤ 3 then .inr () else .inl "java/lang/IllegalArgumentException", μ) := by
  unfold f_X3_checkLever
  by_cases h1 : l < 1
  · rw [if_pos h1, if_neg (fun q => by have := q.1; rw [i_le] at this; rw [i_lt] at h1; omega)]
  · rw [if_neg h1]
    have h0 : 1 ≤ l := by rw [i_lt] at h1; rw [i_le]; omega
    by_cases h2 : l ≤ 3
    · rw [if_pos h2, if_pos ⟨h0, h2⟩]
    · rw [if_neg h2, if_neg (fun q => h2 q.2)]
def g5 (μ : Mm) (v : Int32) : Mm := z_up μ 119 5 v
theorem g5_5 (μ : Mm) (v : Int32) : g5 μ v 119 5 = v := by unfold g5; rw [z_up_s, upd_s]
theorem g5_n (μ : Mm) (v : Int32) {c : Nat} (h : c ≠ 119) : g5 μ v c = μ c := z_up_n _ _ _ h
theorem g5_k (μ : Mm) (v : Int32) {k : Nat} (h : k ≠ 5) : g5 μ v 119 k = μ 119 k := by unfold g5; rw [z_up_s, upd_n h]
