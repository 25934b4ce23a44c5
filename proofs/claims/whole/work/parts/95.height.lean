/-! heights of lists of codes -/
theorem rh_hl {r : List Nat} : ∀ m, m ≤ r.length → rh (fun j => r.getD j 0) m = hl (r.take m) 0
  | 0, _ => rfl
  | m + 1, hm => by
    have e : r.take (m + 1) = r.take m ++ [r.getD m 0] := by
      rw [List.take_succ, List.getElem?_eq_getElem (by omega)]
      have : r.getD m 0 = r[m] := by rw [List.getD_eq_getElem?_getD, List.getElem?_eq_getElem (by omega)]; rfl
      rw [this]
      rfl
    rw [rh, rh_hl m (by omega), e, hl_app]
    cases hl (r.take m) 0 with
    | none => rfl
    | some h =>
      show rh1 (r.getD m 0) h = (rh1 (r.getD m 0) h).bind (hl [])
      cases rh1 (r.getD m 0) h <;> rfl
theorem rh_all {r : List Nat} (h : hl r 0 = some 1) : rh (fun j => r.getD j 0) r.length = some 1 := by
  rw [rh_hl r.length (Nat.le_refl _), List.take_length]; exact h
