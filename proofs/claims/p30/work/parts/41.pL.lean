theorem qcuts_congr {a b : Nat → Int32} (h : ∀ j, j < 190 → a j = b j) : qcuts a = qcuts b := lp_congr _ _ _ (fun j h1 h2 x => by rw [qcut_of (h _ (by omega))])
theorem p7 (t : Nat) : (7 : Int32) + nI t = nI (7 + t) := by rw [show (7 : Int32) = nI 7 from rfl, padd]
