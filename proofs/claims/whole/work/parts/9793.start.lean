/-! the start: both are made -/
def s0i (a b : Nat) : Int32 := if a = 0 ∧ b = 10 then -1 else if a = 18 ∧ (2 ≤ b ∧ b ≤ 5) then -1 else if a = 22 ∧ b = 4 then -1 else if a = 27 ∧ (2 ≤ b ∧ b ≤ 5) then -1 else if a = 42 ∧ b = 24 then -1 else 0
def s0w : mw_S := (s0i, fun _ _ => 0, 80, 35973)
def rw43 : mj_C := .inl (.object "java/lang/String", 2, .inr (.inr (.inr (.inr (va_up (va_up (fun _ => none) 0 (some 1000108)) 1 (some 1000109))))))
def rw44 : mj_C := .inl (.object "java/lang/String", 6, .inr (.inr (.inr (.inr (va_up (va_up (va_up (va_up (va_up (va_up (fun _ => none) 0 (some 1000110)) 1 (some 1000111)) 2 (some 1000112)) 3 (some 1000113)) 4 (some 1000114)) 5 (some 1000115))))))
set_option maxRecDepth 100000 in
theorem t141 (X : mj_X) : mj_run X 200 899 141 0 [some (.ref 0)] [] ([.inr (8, mj_def 8)], 1, 12) = some (.inl none, (mw_V (mw_sh0.take 42) s0w, 42, 8855)) := by rfl
set_option maxRecDepth 100000 in
theorem t193 (X : mj_X) : mj_run X 300 899 193 0 [some (.ref 42)] [] (mw_V (mw_sh0.take 42) s0w ++ [.inr (9, mj_def 9)], 43, 8912) = some (.inl none, (((mw_V (mw_sh0.take 79) s0w).set 43 rw43).set 44 rw44, 79, 35972)) := by rfl
theorem va_up_l {l : List (Option Nat)} : True := trivial
theorem rw43_eq : rw43 = mw_cell s0w 43 (.inr (.inr (.inr [1000108, 1000109]))) := by
  unfold rw43 mw_cell
  simp only
  congr 7
  funext j
  match j with
  | 0 => rfl
  | 1 => rfl
  | j + 2 => rfl
theorem rw44_eq : rw44 = mw_cell s0w 44 (.inr (.inr (.inr [1000110, 1000111, 1000112, 1000113, 1000114, 1000115]))) := by
  unfold rw44 mw_cell
  simp only
  congr 7
  funext j
  match j with
  | 0 => rfl
  | 1 => rfl
  | 2 => rfl
  | 3 => rfl
  | 4 => rfl
  | 5 => rfl
  | j + 6 => rfl
set_option maxRecDepth 100000 in
theorem w0_eq : ((((mw_V (mw_sh0.take 79) s0w).set 43 rw43).set 44 rw44) ++ [.inl (.long, 1, .inr (.inl fun _ => 0))], 80, 35973) = mw_U s0w := by
  rw [rw43_eq, rw44_eq]
  unfold mw_U
  rw [mw_sh_eq]
  rfl
