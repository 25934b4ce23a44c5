/-! worlds of the small machine: what is seen of them, what is written -/
def mj_fld (w : mj_W) (k ci j : Nat) : Option Value := if k < 1000000 then match w.1[k]? with
    | some (.inr (c, fs)) => if c = ci then fs[j]? else none
    | _ => none
  else none
def mj_row (w : mj_W) (k : Nat) : Option (FieldType × Nat × (Nat → Int32)) := if k < 1000000 then match w.1[k]? with
    | some (.inl (ty, n, .inl f)) => some (ty, n, f)
    | _ => none
  else none
def mj_lrow (w : mj_W) (k : Nat) : Option (Nat × (Nat → Int64)) := if k < 1000000 then match w.1[k]? with
    | some (.inl (.long, n, .inr (.inl f))) => some (n, f)
    | _ => none
  else none
def mj_wi (w : mj_W) (k : Nat) (g : Nat → Int32) : mj_W := match w.1[k]? with
    | some (.inl (ty, n, .inl _)) => (w.1.set k (.inl (ty, n, .inl g)), w.2)
    | _ => w
def mj_wl (w : mj_W) (k : Nat) (g : Nat → Int64) : mj_W := match w.1[k]? with
    | some (.inl (ty, n, .inr (.inl _))) => (w.1.set k (.inl (ty, n, .inr (.inl g))), w.2)
    | _ => w
def mj_wf (w : mj_W) (k j : Nat) (v : Value) : mj_W := match w.1[k]? with
    | some (.inr (c, fs)) => (w.1.set k (.inr (c, fs.set j v)), w.2)
    | _ => w
theorem mj_set_at {l : List mj_C} {k i : Nat} {a b : mj_C} (h : l[k]? = some a) : (l.set k b)[i]? = if i = k then some b else l[i]? := by
  have hl := (List.getElem?_eq_some_iff.mp h).1
  by_cases hi : i = k
  · subst hi; rw [List.getElem?_set_self hl, if_pos rfl]
  · rw [List.getElem?_set_ne (fun z => hi z.symm), if_neg hi]
theorem mj_wi_at (w : mj_W) (r : Nat) (g : Nat → Int32) (k : Nat) : (mj_wi w r g).1[k]? = if k = r then (match w.1[k]? with | some (.inl (ty, n, .inl _)) => some (.inl (ty, n, .inl g)) | x => x) else w.1[k]? := by
  unfold mj_wi
  split
  · next ty n f h =>
    rw [mj_set_at h]
    by_cases hk : k = r
    · subst hk; rw [if_pos rfl, if_pos rfl, h]
    · rw [if_neg hk, if_neg hk]
  · next h =>
    by_cases hk : k = r
    · subst hk
      rw [if_pos rfl]
      split
      · next h2 => exact absurd h2 (h _ _ _)
      · rfl
    · rw [if_neg hk]
theorem mj_wl_at (w : mj_W) (r : Nat) (g : Nat → Int64) (k : Nat) : (mj_wl w r g).1[k]? = if k = r then (match w.1[k]? with | some (.inl (ty, n, .inr (.inl _))) => some (.inl (ty, n, .inr (.inl g))) | x => x) else w.1[k]? := by
  unfold mj_wl
  split
  · next ty n f h =>
    rw [mj_set_at h]
    by_cases hk : k = r
    · subst hk; rw [if_pos rfl, if_pos rfl, h]
    · rw [if_neg hk, if_neg hk]
  · next h =>
    by_cases hk : k = r
    · subst hk
      rw [if_pos rfl]
      split
      · next h2 => exact absurd h2 (h _ _ _)
      · rfl
    · rw [if_neg hk]
theorem mj_wf_at (w : mj_W) (r j : Nat) (v : Value) (k : Nat) : (mj_wf w r j v).1[k]? = if k = r then (match w.1[k]? with | some (.inr (c, fs)) => some (.inr (c, fs.set j v)) | x => x) else w.1[k]? := by
  unfold mj_wf
  split
  · next c fs h =>
    rw [mj_set_at h]
    by_cases hk : k = r
    · subst hk; rw [if_pos rfl, if_pos rfl, h]
    · rw [if_neg hk, if_neg hk]
  · next h =>
    by_cases hk : k = r
    · subst hk
      rw [if_pos rfl]
      split
      · next h2 => exact absurd h2 (h _ _)
      · rfl
    · rw [if_neg hk]
theorem mj_fld_wi (w : mj_W) (r : Nat) (g : Nat → Int32) (k ci j : Nat) : mj_fld (mj_wi w r g) k ci j = mj_fld w k ci j := by
  simp only [mj_fld, mj_wi_at]
  by_cases hk : k = r
  · subst hk
    rw [if_pos rfl]
    rcases h : w.1[k]? with _ | ⟨ty, n, f | f | f | f | f⟩ | ⟨c, fs⟩ <;> rfl
  · rw [if_neg hk]
theorem mj_fld_wl (w : mj_W) (r : Nat) (g : Nat → Int64) (k ci j : Nat) : mj_fld (mj_wl w r g) k ci j = mj_fld w k ci j := by
  simp only [mj_fld, mj_wl_at]
  by_cases hk : k = r
  · subst hk
    rw [if_pos rfl]
    rcases h : w.1[k]? with _ | ⟨ty, n, f | f | f | f | f⟩ | ⟨c, fs⟩ <;> rfl
  · rw [if_neg hk]
theorem mj_row_wl (w : mj_W) (r : Nat) (g : Nat → Int64) (k : Nat) : mj_row (mj_wl w r g) k = mj_row w k := by
  simp only [mj_row, mj_wl_at]
  by_cases hk : k = r
  · subst hk
    rw [if_pos rfl]
    rcases h : w.1[k]? with _ | ⟨ty, n, f | f | f | f | f⟩ | ⟨c, fs⟩ <;> rfl
  · rw [if_neg hk]
theorem mj_row_wf (w : mj_W) (r i : Nat) (v : Value) (k : Nat) : mj_row (mj_wf w r i v) k = mj_row w k := by
  simp only [mj_row, mj_wf_at]
  by_cases hk : k = r
  · subst hk
    rw [if_pos rfl]
    rcases h : w.1[k]? with _ | ⟨ty, n, f | f | f | f | f⟩ | ⟨c, fs⟩ <;> rfl
  · rw [if_neg hk]
theorem mj_lrow_wf (w : mj_W) (r i : Nat) (v : Value) (k : Nat) : mj_lrow (mj_wf w r i v) k = mj_lrow w k := by
  simp only [mj_lrow, mj_wf_at]
  by_cases hk : k = r
  · subst hk
    rw [if_pos rfl]
    rcases h : w.1[k]? with _ | ⟨ty, n, f | f | f | f | f⟩ | ⟨c, fs⟩ <;> rfl
  · rw [if_neg hk]
theorem mj_rcv_wi (w : mj_W) (r : Nat) (g : Nat → Int32) (k : Nat) : mj_rcv (mj_wi w r g) k = mj_rcv w k := by
  simp only [mj_rcv, mj_wi_at]
  by_cases hk : k = r
  · subst hk
    rw [if_pos rfl]
    rcases h : w.1[k]? with _ | ⟨ty, n, f | f | f | f | f⟩ | ⟨c, fs⟩ <;> rfl
  · rw [if_neg hk]
theorem mj_rcv_wl (w : mj_W) (r : Nat) (g : Nat → Int64) (k : Nat) : mj_rcv (mj_wl w r g) k = mj_rcv w k := by
  simp only [mj_rcv, mj_wl_at]
  by_cases hk : k = r
  · subst hk
    rw [if_pos rfl]
    rcases h : w.1[k]? with _ | ⟨ty, n, f | f | f | f | f⟩ | ⟨c, fs⟩ <;> rfl
  · rw [if_neg hk]
theorem mj_rcv_wf (w : mj_W) (r i : Nat) (v : Value) (k : Nat) : mj_rcv (mj_wf w r i v) k = mj_rcv w k := by
  simp only [mj_rcv, mj_wf_at]
  by_cases hk : k = r
  · subst hk
    rw [if_pos rfl]
    rcases h : w.1[k]? with _ | ⟨ty, n, f | f | f | f | f⟩ | ⟨c, fs⟩ <;> rfl
  · rw [if_neg hk]
theorem mj_lrow_wi (w : mj_W) (r : Nat) (g : Nat → Int32) (k : Nat) : mj_lrow (mj_wi w r g) k = mj_lrow w k := by
  simp only [mj_lrow, mj_wi_at]
  by_cases hk : k = r
  · subst hk
    rw [if_pos rfl]
    rcases h : w.1[k]? with _ | ⟨ty, n, f | f | f | f | f⟩ | ⟨c, fs⟩ <;> first | rfl | (cases ty <;> rfl)
  · rw [if_neg hk]
theorem mj_row_wi (w : mj_W) (r : Nat) (g : Nat → Int32) (k : Nat) : mj_row (mj_wi w r g) k = if k = r then (mj_row w k).map (fun q => (q.1, q.2.1, g)) else mj_row w k := by
  simp only [mj_row, mj_wi_at]
  by_cases hk : k = r
  · subst hk
    rw [if_pos rfl, if_pos rfl]
    by_cases hl : k < 1000000
    · rw [if_pos hl, if_pos hl]
      rcases h : w.1[k]? with _ | ⟨ty, n, f | f | f | f | f⟩ | ⟨c, fs⟩ <;> rfl
    · rw [if_neg hl, if_neg hl]; rfl
  · rw [if_neg hk, if_neg hk]
theorem mj_lrow_wl (w : mj_W) (r : Nat) (g : Nat → Int64) (k : Nat) : mj_lrow (mj_wl w r g) k = if k = r then (mj_lrow w k).map (fun q => (q.1, g)) else mj_lrow w k := by
  simp only [mj_lrow, mj_wl_at]
  by_cases hk : k = r
  · subst hk
    rw [if_pos rfl, if_pos rfl]
    by_cases hl : k < 1000000
    · rw [if_pos hl, if_pos hl]
      rcases h : w.1[k]? with _ | ⟨ty, n, f | f | f | f | f⟩ | ⟨c, fs⟩ <;> first | rfl | (cases ty <;> rfl)
    · rw [if_neg hl, if_neg hl]; rfl
  · rw [if_neg hk, if_neg hk]
theorem mj_fld_wf (w : mj_W) (r i : Nat) (v : Value) (k ci j : Nat) : mj_fld (mj_wf w r i v) k ci j = if k = r ∧ j = i then (mj_fld w k ci j).map (fun _ => v) else mj_fld w k ci j := by
  simp only [mj_fld, mj_wf_at]
  by_cases hl : k < 1000000
  · simp only [if_pos hl]
    by_cases hk : k = r
    · subst hk
      rw [if_pos rfl]
      rcases h : w.1[k]? with _ | ⟨ty, n, f⟩ | ⟨c, fs⟩
      · simp
      · simp
      · dsimp only
        by_cases hc : c = ci
        · rw [if_pos hc, if_pos hc]
          by_cases hj : j = i
          · subst hj
            rw [if_pos ⟨rfl, rfl⟩, List.getElem?_set]
            by_cases hlen : j < fs.length
            · simp [hlen]
            · simp [hlen]
          · rw [if_neg (fun z => hj z.2), List.getElem?_set_ne (fun z => hj z.symm)]
        · rw [if_neg hc, if_neg hc]
          by_cases hj : k = k ∧ j = i
          · rw [if_pos hj]; rfl
          · rw [if_neg hj]
    · rw [if_neg hk, if_neg (fun z => hk z.1)]
  · simp only [if_neg hl]
    by_cases hj : k = r ∧ j = i
    · rw [if_pos hj]; rfl
    · rw [if_neg hj]
theorem mj_2_wi (w : mj_W) (r : Nat) (g : Nat → Int32) : (mj_wi w r g).2 = w.2 := by unfold mj_wi; split <;> rfl
theorem mj_2_wl (w : mj_W) (r : Nat) (g : Nat → Int64) : (mj_wl w r g).2 = w.2 := by unfold mj_wl; split <;> rfl
theorem mj_2_wf (w : mj_W) (r j : Nat) (v : Value) : (mj_wf w r j v).2 = w.2 := by unfold mj_wf; split <;> rfl
theorem mj_1_wi (w : mj_W) (r : Nat) (g : Nat → Int32) : (mj_wi w r g).1.length = w.1.length := by unfold mj_wi; split <;> simp
theorem mj_1_wl (w : mj_W) (r : Nat) (g : Nat → Int64) : (mj_wl w r g).1.length = w.1.length := by unfold mj_wl; split <;> simp
theorem mj_1_wf (w : mj_W) (r j : Nat) (v : Value) : (mj_wf w r j v).1.length = w.1.length := by unfold mj_wf; split <;> simp
theorem mj_wi_row {w : mj_W} {k : Nat} {ty : FieldType} {n : Nat} {f : Nat → Int32} (h : mj_row w k = some (ty, n, f)) (g : Nat → Int32) : k < 1000000 ∧ w.1[k]? = some (.inl (ty, n, .inl f)) ∧ mj_wi w k g = (w.1.set k (.inl (ty, n, .inl g)), w.2) := by
  unfold mj_row at h
  obtain ⟨hk, h⟩ := mj_ifn h
  split at h
  · next hw => cases h; exact ⟨hk, hw, by unfold mj_wi; rw [hw]⟩
  · cases h
theorem mj_wl_row {w : mj_W} {k : Nat} {n : Nat} {f : Nat → Int64} (h : mj_lrow w k = some (n, f)) (g : Nat → Int64) : k < 1000000 ∧ w.1[k]? = some (.inl (.long, n, .inr (.inl f))) ∧ mj_wl w k g = (w.1.set k (.inl (.long, n, .inr (.inl g))), w.2) := by
  unfold mj_lrow at h
  obtain ⟨hk, h⟩ := mj_ifn h
  split at h
  · next hw => cases h; exact ⟨hk, hw, by unfold mj_wl; rw [hw]⟩
  · cases h
theorem mj_fld_at {w : mj_W} {k ci j : Nat} {v : Value} (h : mj_fld w k ci j = some v) : k < 1000000 ∧ ∃ fs, w.1[k]? = some (.inr (ci, fs)) ∧ fs[j]? = some v := by
  unfold mj_fld at h
  obtain ⟨hk, h⟩ := mj_ifn h
  split at h
  · next c fs hw =>
    obtain ⟨hc, h2⟩ := mj_ifn h
    subst hc
    exact ⟨hk, fs, hw, h2⟩
  · cases h
theorem mj_rcv_fld {w : mj_W} {k ci j : Nat} {v : Value} (h : mj_fld w k ci j = some v) : mj_rcv w k = some ci := by
  obtain ⟨hk, fs, hw, -⟩ := mj_fld_at h
  unfold mj_rcv
  rw [if_pos hk, hw]
theorem mj_row_fld {w : mj_W} {k r ci j : Nat} {v : Value} {q : FieldType × Nat × (Nat → Int32)} (h : mj_fld w k ci j = some v) (hr : mj_row w r = some q) : k ≠ r := by
  intro he
  subst he
  obtain ⟨hk, fs, hw, -⟩ := mj_fld_at h
  unfold mj_row at hr
  rw [if_pos hk, hw] at hr
  cases hr
