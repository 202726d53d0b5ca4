theorem two (x hi : Int32) {α : Type} (a b : α) : (if x < 0 then a else if x ≤ hi then b else a) = if 0 ≤ x ∧ x ≤ hi then b else a := by
  by_cases h1 : x < 0
  · rw [if_pos h1, if_neg (fun q => by have := q.1; rw [i_le] at this; rw [i_lt] at h1; omega)]
  · rw [if_neg h1]
    by_cases h2 : x ≤ hi
    · rw [if_pos h2, if_pos ⟨by rw [i_lt] at h1; rw [i_le]; omega, h2⟩]
    · rw [if_neg h2, if_neg (fun q => h2 q.2)]
theorem rng (x : Int32) {N : Nat} (hN : N < 2 ^ 31) : (∃ t : Nat, t < N ∧ x = nI t) ∨ (x < 0 ∨ (¬ x < 0 ∧ ¬ x < nI N)) := by
  rcases pcase x with h | ⟨t, ht, rfl⟩
  · exact Or.inr (Or.inl h)
  · by_cases h : t < N
    · exact Or.inl ⟨t, h, rfl⟩
    · exact Or.inr (Or.inr ⟨nI_pos ht, nI_nlt (by omega) ht⟩)
theorem ck_wh {t N : Nat} (ht : t < N) (hN : N < 2 ^ 31) {μ : Mm} : f_X3_checkWhat (nI t) (nI N) μ = some (.inr (), μ) := by
  unfold f_X3_checkWhat; rw [if_neg (nI_pos (by omega)), if_pos (nI_lt ht hN)]
theorem ck_whn {x : Int32} {N : Nat} (h : x < 0 ∨ (¬ x < 0 ∧ ¬ x < nI N)) {μ : Mm} : f_X3_checkWhat x (nI N) μ = some (.inl "java/lang/IllegalArgumentException", μ) := by
  unfold f_X3_checkWhat
  rcases h with h | h
  · rw [if_pos h]
  · rw [if_neg h.1, if_neg h.2]
def qwb (st : Nat → Int32) (f t : Nat) (l : Int32) : Int32 := if qcr st f t l = 0 then qcl st f l else - qcr st f t l
theorem c_wb {μ : Mm} {f t : Nat} (hf : f < 24) (ht : t < 24) {l : Int32} (hl : 1 ≤ l ∧ l ≤ 3) : f_X3_ifCopied (nI f) (nI t) l μ = some (.inr (qwb (V μ 0) f t l), μ) := by
  unfold f_X3_ifCopied qwb
  rw [ck_tr hf, zbx_of rfl, ck_tr ht, zbx_of rfl, ck_lv, if_pos hl, zbx_of rfl, c_cr hf ht, zb_of rfl]
  by_cases h : qcr (V μ 0) f t l = 0
  · rw [if_pos h, if_pos h, c_cl hf l hl.1, zb_of rfl]
  · rw [if_neg h, if_neg h]
theorem Eqv.wb {a b : Nat → Int32} (h : Eqv a b) {f t : Nat} (hf : f < 24) (ht : t < 24) (l : Int32) : qwb a f t l = qwb b f t l := by unfold qwb; rw [h.cr hf ht, h.cl hf]
def qcount (μ : Mm) (w : Nat) : Int32 := if w = 12 then μ 90 4 else qnum (V μ 0) w
theorem c_count {μ : Mm} {w : Nat} (hw : w < 13) : f_X3_count (nI w) μ = some (.inr (qcount μ w), μ) := by
  unfold f_X3_count qcount
  rw [show (13 : Int32) = nI 13 from rfl, ck_wh hw (by decide), zbx_of rfl]
  by_cases h : w = 12
  · rw [if_pos (show nI w = 12 by rw [h]; rfl), if_pos h]
  · rw [if_neg (show ¬ nI w = 12 from fun q => h ((pinj (b := 12) (by omega) (by decide)).mp q)), if_neg h, c_num w (by omega), zb_of rfl]
