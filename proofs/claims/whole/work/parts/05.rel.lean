/-! THE SMALL MACHINE'S WORLD AND THE HEAP: ct says what the constants are, ads where the cells lie -/
def mj_rv (ct : Nat → Option Value) (ads : List Nat) (v : Value) : Option Value := match v with
  | .ref k => if k < 1000000 then ads[k]?.map Value.ref else ct k
  | v => some v
def mj_pre (a b : List Nat) : Prop := ∃ t, b = a ++ t
def mj_sr (ct : Nat → Option Value) (ads : List Nat) (st rst : List Value) : Prop := st.map (mj_rv ct ads) = rst.map some
def mj_lr (ct : Nat → Option Value) (ads : List Nat) (L : mj_L) (ls : Array Slot) : Prop := ∃ lv, lv_has ls L.length lv ∧ ∀ (i : Nat) (v : Value), L[i]? = some (some v) → ∃ r, mj_rv ct ads v = some r ∧ (i, r) ∈ lv
def mj_ar (ct : Nat → Option Value) (ads : List Nat) (a b : (Nat → Int32) ⊕ (Nat → Int64) ⊕ (Nat → UInt32) ⊕ (Nat → UInt64) ⊕ (Nat → Option Nat)) : Prop := match a with
  | .inr (.inr (.inr (.inr f))) => ∃ f', b = .inr (.inr (.inr (.inr f'))) ∧ ∀ j, mj_rv ct ads (va_rf (f j)) = some (va_rf (f' j))
  | x => b = x
def mj_cr (ct : Nat → Option Value) (ads : List Nat) (U : State) (c : mj_C) (e : va_E) : Prop := match c with
  | .inl (ty, n, a) => ∃ g b, e = .inl (g, n, b) ∧ ArrOfT U g ty ∧ va_RA U g ty ∧ mj_ar ct ads a b
  | .inr (ci, fs) => ∃ rs, e = .inr (ci, rs) ∧ mj_sr ct ads fs rs
def mj_wr (ct : Nat → Option Value) (w : List mj_C) (ws : va_W) (U : State) : Prop := w.length = ws.length ∧ ∀ (k : Nat) (c : mj_C), w[k]? = some c → ∃ q : Nat × va_E, ws[k]? = some q ∧ mj_cr ct (ws.map Prod.fst) U c q.2
theorem mj_pre_rf (a : List Nat) : mj_pre a a := ⟨[], by simp⟩
theorem mj_pre_tr {a b c : List Nat} (h : mj_pre a b) (k : mj_pre b c) : mj_pre a c := by
  obtain ⟨t, rfl⟩ := h
  obtain ⟨u, rfl⟩ := k
  exact ⟨t ++ u, by simp⟩
theorem mj_rv_mono {ct : Nat → Option Value} {ads ads' : List Nat} {v r : Value} (hp : mj_pre ads ads') (h : mj_rv ct ads v = some r) : mj_rv ct ads' v = some r := by
  obtain ⟨t, rfl⟩ := hp
  cases v with
  | ref k =>
    simp only [mj_rv] at h ⊢
    split at h
    · next hk =>
      rw [if_pos hk]
      cases ha : ads[k]? with
      | none => rw [ha] at h; cases h
      | some a =>
        rw [ha] at h
        have hl := (List.getElem?_eq_some_iff.mp ha).1
        rw [List.getElem?_append_left hl, ha]
        exact h
    · next hk => rw [if_neg hk]; exact h
  | _ => exact h
theorem mj_sr_nil {ct : Nat → Option Value} {ads : List Nat} {rst : List Value} (h : mj_sr ct ads [] rst) : rst = [] := by
  cases rst with
  | nil => rfl
  | cons a t => simp [mj_sr] at h
theorem mj_sr_cons {ct : Nat → Option Value} {ads : List Nat} {v : Value} {st rst : List Value} (h : mj_sr ct ads (v :: st) rst) : ∃ r rst', rst = r :: rst' ∧ mj_rv ct ads v = some r ∧ mj_sr ct ads st rst' := by
  cases rst with
  | nil => simp [mj_sr] at h
  | cons a t =>
    simp only [mj_sr, List.map_cons, List.cons.injEq] at h
    exact ⟨a, t, rfl, h.1, h.2⟩
theorem mj_sr_mk {ct : Nat → Option Value} {ads : List Nat} {v r : Value} {st rst : List Value} (h : mj_rv ct ads v = some r) (k : mj_sr ct ads st rst) : mj_sr ct ads (v :: st) (r :: rst) := by
  simp only [mj_sr, List.map_cons, List.cons.injEq]
  exact ⟨h, k⟩
theorem mj_sr_int {ct : Nat → Option Value} {ads : List Nat} {x : Int32} {st rst : List Value} (h : mj_sr ct ads (.int x :: st) rst) : ∃ rst', rst = .int x :: rst' ∧ mj_sr ct ads st rst' := by
  obtain ⟨r, t, rfl, h1, h2⟩ := mj_sr_cons h
  cases h1
  exact ⟨t, rfl, h2⟩
theorem mj_sr_long {ct : Nat → Option Value} {ads : List Nat} {x : Int64} {st rst : List Value} (h : mj_sr ct ads (.long x :: st) rst) : ∃ rst', rst = .long x :: rst' ∧ mj_sr ct ads st rst' := by
  obtain ⟨r, t, rfl, h1, h2⟩ := mj_sr_cons h
  cases h1
  exact ⟨t, rfl, h2⟩
theorem mj_sr_mki {ct : Nat → Option Value} {ads : List Nat} {x : Int32} {st rst : List Value} (k : mj_sr ct ads st rst) : mj_sr ct ads (.int x :: st) (.int x :: rst) := mj_sr_mk rfl k
theorem mj_sr_mkl {ct : Nat → Option Value} {ads : List Nat} {x : Int64} {st rst : List Value} (k : mj_sr ct ads st rst) : mj_sr ct ads (.long x :: st) (.long x :: rst) := mj_sr_mk rfl k
theorem mj_sr_mono {ct : Nat → Option Value} {ads ads' : List Nat} (hp : mj_pre ads ads') : ∀ {st rst : List Value}, mj_sr ct ads st rst → mj_sr ct ads' st rst
  | [], rst, h => by rw [mj_sr_nil h]; rfl
  | v :: st, rst, h => by
    obtain ⟨r, t, rfl, h1, h2⟩ := mj_sr_cons h
    exact mj_sr_mk (mj_rv_mono hp h1) (mj_sr_mono hp h2)
theorem mj_sr_len {ct : Nat → Option Value} {ads : List Nat} {st rst : List Value} (h : mj_sr ct ads st rst) : st.length = rst.length := by
  have := congrArg List.length h
  simpa using this
theorem mj_sr_take {ct : Nat → Option Value} {ads : List Nat} {st rst : List Value} (h : mj_sr ct ads st rst) (n : Nat) : mj_sr ct ads (st.take n) (rst.take n) := by
  simp only [mj_sr] at h ⊢
  rw [List.map_take, List.map_take, h]
theorem mj_sr_drop {ct : Nat → Option Value} {ads : List Nat} {st rst : List Value} (h : mj_sr ct ads st rst) (n : Nat) : mj_sr ct ads (st.drop n) (rst.drop n) := by
  simp only [mj_sr] at h ⊢
  rw [List.map_drop, List.map_drop, h]
theorem mj_sr_rev {ct : Nat → Option Value} {ads : List Nat} {st rst : List Value} (h : mj_sr ct ads st rst) : mj_sr ct ads st.reverse rst.reverse := by
  simp only [mj_sr] at h ⊢
  rw [List.map_reverse, List.map_reverse, h]
theorem mj_sr_get {ct : Nat → Option Value} {ads : List Nat} {st rst : List Value} (h : mj_sr ct ads st rst) {i : Nat} {v : Value} (hi : st[i]? = some v) : ∃ r, rst[i]? = some r ∧ mj_rv ct ads v = some r := by
  have h1 : (st.map (mj_rv ct ads))[i]? = (rst.map some)[i]? := by rw [h]
  rw [List.getElem?_map, List.getElem?_map, hi] at h1
  cases hr : rst[i]? with
  | none => rw [hr] at h1; cases h1
  | some r => rw [hr] at h1; exact ⟨r, rfl, by simpa using h1⟩
theorem mj_sr_set {ct : Nat → Option Value} {ads : List Nat} {st rst : List Value} (h : mj_sr ct ads st rst) {i : Nat} {v r : Value} (hv : mj_rv ct ads v = some r) : mj_sr ct ads (st.set i v) (rst.set i r) := by
  simp only [mj_sr] at h ⊢
  rw [List.map_set, List.map_set, h, hv]
/-- the categories are the same -/
def mj_okct (ct : Nat → Option Value) : Prop := ∀ k v, ct k = some v → (v = .null ∧ k = 1000300) ∨ ∃ a, v = .ref a
theorem mj_rv_cat {ct : Nat → Option Value} (hc : mj_okct ct) {ads : List Nat} {v r : Value} (h : mj_rv ct ads v = some r) : r.category = v.category := by
  cases v with
  | ref k =>
    simp only [mj_rv] at h
    split at h
    · cases ha : ads[k]? with
      | none => rw [ha] at h; cases h
      | some a => rw [ha] at h; cases h; rfl
    · rcases hc _ _ h with ⟨rfl, -⟩ | ⟨a, rfl⟩ <;> rfl
  | _ => cases h; rfl
theorem mj_sr_cat {ct : Nat → Option Value} (hc : mj_okct ct) {ads : List Nat} : ∀ {st rst : List Value}, mj_sr ct ads st rst → rst.map (fun v => v.category) = st.map (fun v => v.category)
  | [], rst, h => by rw [mj_sr_nil h]
  | v :: st, rst, h => by
    obtain ⟨r, t, rfl, h1, h2⟩ := mj_sr_cons h
    simp only [List.map_cons, mj_rv_cat hc h1, mj_sr_cat hc h2]
theorem mj_lr_mono {ct : Nat → Option Value} {ads ads' : List Nat} {L : mj_L} {ls : Array Slot} (hp : mj_pre ads ads') (h : mj_lr ct ads L ls) : mj_lr ct ads' L ls := by
  obtain ⟨lv, h1, h2⟩ := h
  refine ⟨lv, h1, fun i v hv => ?_⟩
  obtain ⟨r, h3, h4⟩ := h2 i v hv
  exact ⟨r, mj_rv_mono hp h3, h4⟩
theorem mj_lr_at {ct : Nat → Option Value} {ads : List Nat} {L : mj_L} {ls : Array Slot} (h : mj_lr ct ads L ls) {i : Nat} {v : Value} (hv : L[i]? = some (some v)) : ∃ r, mj_rv ct ads v = some r ∧ ls[i]? = some (.val r) := by
  obtain ⟨lv, h1, h2⟩ := h
  obtain ⟨r, h3, h4⟩ := h2 i v hv
  exact ⟨r, h3, h1.2.2 (i, r) h4⟩
theorem mj_ar_mono {ct : Nat → Option Value} {ads ads' : List Nat} (hp : mj_pre ads ads') {a b} (h : mj_ar ct ads a b) : mj_ar ct ads' a b := by
  match a, h with
  | .inr (.inr (.inr (.inr f))), h =>
    obtain ⟨f', h1, h2⟩ := h
    exact ⟨f', h1, fun j => mj_rv_mono hp (h2 j)⟩
  | .inl _, h => exact h
  | .inr (.inl _), h => exact h
  | .inr (.inr (.inl _)), h => exact h
  | .inr (.inr (.inr (.inl _))), h => exact h
theorem mj_cr_mono {ct : Nat → Option Value} {ads ads' : List Nat} (hp : mj_pre ads ads') {U : State} {c : mj_C} {e : va_E} (h : mj_cr ct ads U c e) : mj_cr ct ads' U c e := by
  match c, h with
  | .inl (ty, n, a), h =>
    obtain ⟨g, b, h1, h2, h3, h4⟩ := h
    exact ⟨g, b, h1, h2, h3, mj_ar_mono hp h4⟩
  | .inr (ci, fs), h =>
    obtain ⟨rs, h1, h2⟩ := h
    exact ⟨rs, h1, mj_sr_mono hp h2⟩
theorem mj_cr_moved {ct : Nat → Option Value} {ads : List Nat} {u U : State} (hvm : u.vm.Alike U.vm) {c : mj_C} {e : va_E} (h : mj_cr ct ads u c e) : mj_cr ct ads U c e := by
  match c, h with
  | .inl (ty, n, a), h =>
    obtain ⟨g, b, h1, h2, h3, h4⟩ := h
    exact ⟨g, b, h1, arrOfT_moved hvm h2, va_RA.moved hvm h3, h4⟩
  | .inr (ci, fs), h => exact h
theorem mj_wr_moved {ct : Nat → Option Value} {u U : State} (hvm : u.vm.Alike U.vm) {w : List mj_C} {ws : va_W} (h : mj_wr ct w ws u) : mj_wr ct w ws U := by
  refine ⟨h.1, fun k c hk => ?_⟩
  obtain ⟨q, h1, h2⟩ := h.2 k c hk
  exact ⟨q, h1, mj_cr_moved hvm h2⟩
theorem mj_fst_set (ws : va_W) (k a : Nat) (e e0 : va_E) (h : ws[k]? = some (a, e0)) : (ws.set k (a, e)).map Prod.fst = ws.map Prod.fst := by
  rw [List.map_set]
  apply List.ext_getElem?
  intro i
  by_cases hi : k = i
  · subst hi
    have hl := (List.getElem?_eq_some_iff.mp h).1
    rw [List.getElem?_set_self (by simpa using hl), List.getElem?_map, h]
    rfl
  · rw [List.getElem?_set_ne hi]
theorem mj_wr_set {ct : Nat → Option Value} {U : State} {w : List mj_C} {ws : va_W} (h : mj_wr ct w ws U) {k a : Nat} {e0 e : va_E} {c : mj_C} (hk : ws[k]? = some (a, e0)) (hc : mj_cr ct (ws.map Prod.fst) U c e) : mj_wr ct (w.set k c) (ws.set k (a, e)) U := by
  refine ⟨by simpa using h.1, fun i c' hi => ?_⟩
  rw [mj_fst_set ws k a e e0 hk]
  have hl := (List.getElem?_eq_some_iff.mp hk).1
  by_cases hik : k = i
  · subst hik
    rw [List.getElem?_set_self (by rw [h.1]; exact hl)] at hi
    cases hi
    exact ⟨(a, e), by rw [List.getElem?_set_self hl], hc⟩
  · rw [List.getElem?_set_ne hik] at hi
    obtain ⟨q, h1, h2⟩ := h.2 i c' hi
    exact ⟨q, by rw [List.getElem?_set_ne hik]; exact h1, h2⟩
theorem mj_wr_push {ct : Nat → Option Value} {U : State} {w : List mj_C} {ws : va_W} (h : mj_wr ct w ws U) {q : Nat} {e : va_E} {c : mj_C} (hc : mj_cr ct (ws.map Prod.fst) U c e) : mj_wr ct (w ++ [c]) (ws ++ [(q, e)]) U := by
  have hp : mj_pre (ws.map Prod.fst) ((ws ++ [(q, e)]).map Prod.fst) := ⟨[q], by simp⟩
  refine ⟨by simp [h.1], fun i c' hi => ?_⟩
  by_cases hl : i < w.length
  · rw [List.getElem?_append_left hl] at hi
    obtain ⟨q', h1, h2⟩ := h.2 i c' hi
    exact ⟨q', by rw [List.getElem?_append_left (by rw [← h.1]; exact hl)]; exact h1, mj_cr_mono hp h2⟩
  · rw [List.getElem?_append_right (by omega)] at hi
    have hz : i - w.length < 1 := (List.getElem?_eq_some_iff.mp hi).1
    have hi0 : i = w.length := by omega
    subst hi0
    rw [Nat.sub_self] at hi
    cases hi
    exact ⟨(q, e), by rw [h.1, List.getElem?_append_right (Nat.le_refl _), Nat.sub_self]; rfl, mj_cr_mono hp hc⟩
/-- a cell's address -/
theorem mj_wr_ref {ct : Nat → Option Value} {U : State} {w : List mj_C} {ws : va_W} (h : mj_wr ct w ws U) {k : Nat} {c : mj_C} (hk : w[k]? = some c) (hl : k < 1000000) {r : Value} (hr : mj_rv ct (ws.map Prod.fst) (.ref k) = some r) : ∃ a e, r = .ref a ∧ ws[k]? = some (a, e) ∧ mj_cr ct (ws.map Prod.fst) U c e := by
  obtain ⟨⟨a, e⟩, h1, h2⟩ := h.2 k c hk
  simp only [mj_rv, if_pos hl, List.getElem?_map, h1, Option.map_some] at hr
  cases hr
  exact ⟨a, e, rfl, h1, h2⟩
theorem mj_rv_ref {ct : Nat → Option Value} (hc : mj_okct ct) {ads : List Nat} {k : Nat} {r : Value} (h : mj_rv ct ads (.ref k) = some r) (hk : k ≠ 1000300) : ∃ a, r = .ref a := by
  simp only [mj_rv] at h
  split at h
  · cases ha : ads[k]? with
    | none => rw [ha] at h; cases h
    | some a => rw [ha] at h; cases h; exact ⟨a, rfl⟩
  · rcases hc _ _ h with ⟨rfl, h2⟩ | ⟨a, rfl⟩
    · exact absurd h2 hk
    · exact ⟨a, rfl⟩
