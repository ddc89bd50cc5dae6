theorem upd_e (f : Nat → Int32) (k : Nat) (v : Int32) : upd f k v k = v := by simp [upd]
theorem upd_o (f : Nat → Int32) {k i : Nat} (v : Int32) (hi : i ≠ k) : upd f k v i = f i := by simp [upd, hi]
