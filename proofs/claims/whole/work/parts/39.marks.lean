/-! conditions that are settled by what is known -/
theorem mt_le_t {a b : Nat} (h : a ≤ b) : (a ≤ b) = True := eq_true h
theorem mt_le_f {a b : Nat} (h : ¬ a ≤ b) : (a ≤ b) = False := eq_false h
theorem mt_lt_t {a b : Nat} (h : a < b) : (a < b) = True := eq_true h
theorem mt_lt_f {a b : Nat} (h : ¬ a < b) : (a < b) = False := eq_false h
theorem mt_eq_t {a b : Nat} (h : a = b) : (a = b) = True := eq_true h
theorem mt_eq_f {a b : Nat} (h : ¬ a = b) : (a = b) = False := eq_false h
theorem mt_ee {α : Type} (a : α) : (a = a) = True := eq_self a
theorem mn_a127 (a : Nat) : a &&& 127 = a % 128 := Nat.and_two_pow_sub_one_eq_mod a 7
theorem mn_a15 (a : Nat) : a &&& 15 = a % 16 := Nat.and_two_pow_sub_one_eq_mod a 4
theorem mn_a1 (a : Nat) : a &&& 1 = a % 2 := Nat.and_two_pow_sub_one_eq_mod a 1
theorem mn_a255 (a : Nat) : a &&& 255 = a % 256 := Nat.and_two_pow_sub_one_eq_mod a 8
theorem mn_tn0 (b : Bool) : (nI b.toNat = 0) = (b = false) := by cases b <;> decide
theorem mn_tn0e (b : Bool) : (nI b.toNat = nI 0) = (b = false) := by cases b <;> decide
theorem mn_tnr (b : Bool) : mj_rfit (some .boolean) (nI b.toNat) = true := by cases b <;> decide
theorem mn_tnz (b : Bool) : mw_zo (nI b.toNat) = true := by cases b <;> decide
