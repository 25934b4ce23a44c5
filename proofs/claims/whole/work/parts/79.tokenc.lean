/-! the class's tokens: words, signs, the next one -/
def woff (w : Nat) : Nat := mr_it (fun i c => c + wlen i + 1) w 0
theorem w_ok : ∀ w, w < 15 → woff (w + 1) = woff w + wlen w + 1 ∧ woff w + wlen w < 80 ∧ 0 < wlen w ∧ wlen w < 10 ∧ sch 1 (woff w + wlen w) = 32 ∧ ∀ k, k < wlen w → sch 1 (woff w + k) = wch w k ∧ ¬ wch w k = 32 ∧ 97 ≤ wch w k ∧ wch w k ≤ 122 := by decide +kernel
theorem sby_w0 : ∀ b, b < 256 → ∀ c, c < 26 → (sby b = nI (97 + c) ↔ b = 97 + c) := by decide +kernel
theorem sby_w {b : Nat} (hb : b < 256) {c : Nat} (h1 : 97 ≤ c) (h2 : c ≤ 122) : sby b = nI c ↔ b = c := by
  have := sby_w0 b hb (c - 97) (by omega)
  rw [show 97 + (c - 97) = c by omega] at this
  exact this
def okw (tp : Nat → Nat) (b e w k : Nat) : Bool := decide (∀ j, j < k → b + j < e ∧ tp (b + j) = wch w j)
theorem okw_s {tp : Nat → Nat} {b e w k : Nat} : okw tp b e w (k + 1) = (okw tp b e w k && decide (b + k < e ∧ tp (b + k) = wch w k)) := by
  unfold okw
  rw [← Bool.decide_and]
  apply decide_eq_decide.mpr
  constructor
  · intro h; exact ⟨fun j hj => h j (by omega), h k (by omega)⟩
  · rintro ⟨h1, h2⟩ j hj
    by_cases he : j = k
    · subst he; exact h2
    · exact h1 j (by omega)
def sv (o : Bool) (k : Nat) : Int32 := if o then nI k else -1
section
variable {X : mj_X} {d : Nat} {s t : mw_S} {tp : Nat → Nat} {n a b e : Nat}
theorem word1 (hbe : b < e) (he : e ≤ 700) (h2 : t.1 23 2 = nI b) (h3 : t.1 23 3 = nI e) (ht : ∀ j, j < e → tp j < 256 ∧ t.1 24 j = sby (tp j)) {w k : Nat} (hw : w < 15) (hk : k < wlen w) {l : Option Value} : ∃ l', mj_exec X (d + 4) 132 63 [some (.ref 23), some (.int (sv (okw tp b e w k) k)), some (.int (nI (woff w + k))), l] [] (mw_U t) = mj_exec X (d + 4) 132 63 [some (.ref 23), some (.int (sv (okw tp b e w (k + 1)) (k + 1))), some (.int (nI (woff w + k + 1))), l'] [] (mw_U t) := by
  obtain ⟨w1, w2, w3, w4, w5, w6⟩ := w_ok w hw
  obtain ⟨v1, v2, v3, v4⟩ := w6 k hk
  have e337 : mj_call X (d + 3) 337 [.ref 1000101] (mw_U t) = some (.inl (some (.int (nI 80))), mw_U t) := c337 (i := 1) (by decide)
  have e339 : mj_call X (d + 3) 339 [.ref 1000101, .int (nI (woff w + k))] (mw_U t) = some (.inl (some (.int (nI (wch w k)))), mw_U t) := by
    have := c339 (X := X) (d := d) (s := t) (i := 1) (j := woff w + k) (by decide) (show woff w + k < 80 by omega)
    rw [v1] at this; exact this
  have hle : ¬ nI 80 ≤ nI (woff w + k) := by rw [mn_le (by omega) (by omega)]; omega
  have n32 : ¬ nI (wch w k) = nI 32 := by rw [mn_eq (by omega) (by omega)]; exact v2
  refine ⟨some (.int (nI (wch w k))), ?_⟩
  rw [b132_63, e337, mj_bk_i, b132_69, if_neg hle, b132_72, e339, mj_bk_i, b132_78, if_neg n32, b132_114, okw_s]
  cases ho : okw tp b e w k
  · have z : (sv false k) < 0 := by show (-1 : Int32) < 0; decide
    rw [if_pos z, b132_152, b132_154, nI_add, Bool.false_and]
    rfl
  · have es : sv true k = nI k := rfl
    have z : ¬ nI k < 0 := by rw [mn_lt0 (by omega)]; exact not_false
    rw [es, if_neg z, b132_118, h2, h3, nI_add]
    by_cases q1 : b + k < e
    · have hle2 : ¬ nI e ≤ nI (b + k) := by rw [mn_le (by omega) (by omega)]; omega
      have hin : mw_in 700 (nI (b + k)) = true := by rw [mn_in (by omega)]; exact decide_eq_true (by omega)
      obtain ⟨t1, t2⟩ := ht (b + k) q1
      rw [if_neg hle2, b132_131, h2, nI_add, if_pos hin, mn_clamp (by omega), t2]
      by_cases q2 : tp (b + k) = wch w k
      · rw [if_pos ((sby_w t1 v3 v4).2 q2), b132_146, b132_154, nI_add, nI_add, decide_eq_true ⟨q1, q2⟩]
        rfl
      · rw [if_neg (fun z => q2 ((sby_w t1 v3 v4).1 z)), b132_152, b132_154, nI_add, decide_eq_false (fun z => q2 z.2)]
        rfl
    · have hle2 : nI e ≤ nI (b + k) := by rw [mn_le (by omega) (by omega)]; omega
      rw [if_pos hle2, b132_152, b132_154, nI_add, decide_eq_false (fun z => q1 z.1)]
      rfl
theorem wordn (hbe : b < e) (he : e ≤ 700) (h2 : t.1 23 2 = nI b) (h3 : t.1 23 3 = nI e) (ht : ∀ j, j < e → tp j < 256 ∧ t.1 24 j = sby (tp j)) {w : Nat} (hw : w < 15) : ∀ k, k ≤ wlen w → ∀ l, ∃ l', mj_exec X (d + 4) 132 63 [some (.ref 23), some (.int (nI 0)), some (.int (nI (woff w))), l] [] (mw_U t) = mj_exec X (d + 4) 132 63 [some (.ref 23), some (.int (sv (okw tp b e w k) k)), some (.int (nI (woff w + k))), l'] [] (mw_U t)
  | 0, _, l => ⟨l, by rw [show okw tp b e w 0 = true from decide_eq_true (fun j hj => by omega)]; rfl⟩
  | k + 1, hk, l => by
    obtain ⟨l1, e1⟩ := wordn hbe he h2 h3 ht hw k (by omega) l
    obtain ⟨l2, e2⟩ := word1 (X := X) (d := d) hbe he h2 h3 ht hw (show k < wlen w by omega) (l := l1)
    exact ⟨l2, e1.trans e2⟩
theorem okw_q (hbe : b < e) (he : e ≤ 700) {w : Nat} (hw : w < 15) : (sv (okw tp b e w (wlen w)) (wlen w) = nI (e - b)) = (wq tp b e w = true) := by
  obtain ⟨w1, w2, w3, w4, w5, w6⟩ := w_ok w hw
  apply propext
  unfold wq
  rw [decide_eq_true_eq]
  constructor
  · intro h
    cases ho : okw tp b e w (wlen w)
    · rw [ho] at h
      have h : (-1 : Int32) = nI (e - b) := h
      rw [mn_meq (by omega)] at h
      exact h.elim
    · rw [ho] at h
      have h : nI (wlen w) = nI (e - b) := h
      rw [mn_eq (by omega) (by omega)] at h
      have ho := of_decide_eq_true ho
      exact ⟨h.symm, fun k hk => (ho k hk).2⟩
  · rintro ⟨h1, h2⟩
    have : okw tp b e w (wlen w) = true := decide_eq_true (fun j hj => ⟨by omega, h2 j hj⟩)
    rw [this, h1]; rfl
theorem woff_0 : woff 0 = 0 := rfl
theorem woff_15 : woff 15 = 80 := by decide
theorem wordw (hbe : b < e) (he : e ≤ 700) (h2 : t.1 23 2 = nI b) (h3 : t.1 23 3 = nI e) (ht : ∀ j, j < e → tp j < 256 ∧ t.1 24 j = sby (tp j)) {w : Nat} (hw : w < 15) (h4 : t.1 23 4 = nI (200 + w)) {l : Option Value} : ∃ l', mj_exec X (d + 4) 132 63 [some (.ref 23), some (.int (nI 0)), some (.int (nI (woff w))), l] [] (mw_U t) = if wq tp b e w = true then some (.inl none, mw_U t) else mj_exec X (d + 4) 132 63 [some (.ref 23), some (.int (nI 0)), some (.int (nI (woff (w + 1)))), l'] [] (mw_U (mw_p t 23 4 (nI (200 + (w + 1))))) := by
  obtain ⟨w1, w2, w3, w4, w5, w6⟩ := w_ok w hw
  obtain ⟨l1, e1⟩ := wordn (X := X) (d := d) hbe he h2 h3 ht hw (wlen w) (Nat.le_refl _) l
  have e337 : mj_call X (d + 3) 337 [.ref 1000101] (mw_U t) = some (.inl (some (.int (nI 80))), mw_U t) := c337 (i := 1) (by decide)
  have e339 : mj_call X (d + 3) 339 [.ref 1000101, .int (nI (woff w + wlen w))] (mw_U t) = some (.inl (some (.int (nI 32))), mw_U t) := by
    have := c339 (X := X) (d := d) (s := t) (i := 1) (j := woff w + wlen w) (by decide) (show woff w + wlen w < 80 by omega)
    rw [w5] at this; exact this
  have hle : ¬ nI 80 ≤ nI (woff w + wlen w) := by rw [mn_le (by omega) (by omega)]; omega
  refine ⟨some (.int (nI 32)), ?_⟩
  have eb : nI e - nI b = nI (e - b) := mn_sub (by omega)
  rw [e1, b132_63, e337, mj_bk_i, b132_69, if_neg hle, b132_72, e339, mj_bk_i, b132_78, if_pos rfl, b132_85, h2, h3, eb]
  by_cases q : wq tp b e w = true
  · rw [if_pos q, if_pos ((okw_q hbe he hw).symm ▸ q), b132_98]
  · rw [if_neg q, if_neg (fun z => q ((okw_q hbe he hw) ▸ z)), b132_99, h4, b132_154, nI_add, nI_add, w1]
    rfl
theorem c132 (hb : b < n) (hn : n ≤ 700) (hL : isL (tp b) = true) (h1 : s.1 23 1 = nI n) (h2 : s.1 23 2 = nI b) (h3 : s.1 23 3 = nI b) (ht : ∀ j, j < n → tp j < 256 ∧ s.1 24 j = sby (tp j)) : ∃ t, mj_call X (d + 4) 132 [.ref 23] (mw_U s) = some (.inl none, mw_U t) ∧ mg s t (fun c => c = 23) ∧ t.1 23 1 = nI n ∧ t.1 23 2 = nI b ∧ t.1 23 3 = nI (sc isL tp n b) ∧ t.1 23 4 = nI (200 + wx tp b (sc isL tp n b)) := by
  obtain ⟨u, ⟨i1, i2, i3, i4, i5⟩, e⟩ := mr_scan (P := isL) (tp := tp) (n := n) (a := b) (γ := mw_S) (E := fun _ t => mj_exec X (d + 4) 132 0 [some (.ref 23), none, none, none] [] (mw_U t)) (I := fun a t => b ≤ a ∧ mg s t (fun c => c = 23) ∧ t.1 23 1 = nI n ∧ t.1 23 2 = nI b ∧ t.1 23 3 = nI a) (by
    intro a t ha hP ⟨i1, i2, i3, i4, i5⟩
    obtain ⟨t1, t2⟩ := ht a ha
    obtain ⟨q1, q2⟩ := (sby_c (tp a) t1).2.2.1.1 hP
    have e24 : t.1 24 a = sby (tp a) := by rw [i2.2 24 (by decide)]; exact t2
    refine ⟨mw_p t 23 3 (nI (a + 1)), ⟨by omega, mg_p i2 rfl, ?_, ?_, mw_peq⟩, ?_⟩
    · rw [mw_pnj (by decide)]; exact i3
    · rw [mw_pnj (by decide)]; exact i4
    · have hle : ¬ nI n ≤ nI a := by rw [mn_le (by omega) (by omega)]; omega
      have hin : mw_in 700 (nI a) = true := by rw [mn_in (by omega)]; exact decide_eq_true (by omega)
      rw [b132_0, i3, i5, if_neg hle, b132_11, i5, if_pos hin, mn_clamp (by omega), e24, if_neg q1, b132_25, i5, if_pos hin, mn_clamp (by omega), e24, if_neg q2, b132_39, i5, nI_add]) (g := s) ⟨Nat.le_refl _, mg_refl, h1, h2, h3⟩
  have hle := sc_le (P := isL) (tp := tp) (Nat.le_of_lt hb)
  have hgt : b < sc isL tp n b := by
    rw [sc_s hb hL]
    have := sc_ge (P := isL) (tp := tp) (n := n) (a := b + 1)
    omega
  have hex : mj_exec X (d + 4) 132 0 [some (.ref 23), none, none, none] [] (mw_U u) = mj_exec X (d + 4) 132 52 [some (.ref 23), none, none, none] [] (mw_U u) := by
    rw [b132_0, i3, i5]
    by_cases q : sc isL tp n b < n
    · have hno := sc_end q
      obtain ⟨t1, t2⟩ := ht _ q
      have e24 : u.1 24 (sc isL tp n b) = sby (tp (sc isL tp n b)) := by rw [i2.2 24 (by decide)]; exact t2
      have qq := (sby_c _ t1).2.2.1
      have hle' : ¬ nI n ≤ nI (sc isL tp n b) := by rw [mn_le (by omega) (by omega)]; omega
      have hin : mw_in 700 (nI (sc isL tp n b)) = true := by rw [mn_in (by omega)]; exact decide_eq_true (by omega)
      rw [if_neg hle', b132_11, i5, if_pos hin, mn_clamp (by omega), e24]
      by_cases q1 : sby (tp (sc isL tp n b)) < nI 97
      · rw [if_pos q1]
      · have q2 : nI 122 < sby (tp (sc isL tp n b)) := Classical.byContradiction (fun z => by rw [qq.2 ⟨q1, z⟩] at hno; cases hno)
        rw [if_neg q1, b132_25, i5, if_pos hin, mn_clamp (by omega), e24, if_pos q2]
    · have hle' : nI n ≤ nI (sc isL tp n b) := by rw [mn_le (by omega) (by omega)]; omega
      rw [if_pos hle']
  obtain ⟨v, hv⟩ : ∃ v, v = sc isL tp n b := ⟨_, rfl⟩
  rw [← hv] at hle hgt i5 ⊢
  have fin : ∀ w, (mw_p u 23 4 (nI (200 + w))).1 23 1 = nI n ∧ (mw_p u 23 4 (nI (200 + w))).1 23 2 = nI b ∧ (mw_p u 23 4 (nI (200 + w))).1 23 3 = nI v ∧ (mw_p u 23 4 (nI (200 + w))).1 23 4 = nI (200 + w) ∧ ∀ j, j < v → tp j < 256 ∧ (mw_p u 23 4 (nI (200 + w))).1 24 j = sby (tp j) := fun w => ⟨by rw [mw_pnj (by decide)]; exact i3, by rw [mw_pnj (by decide)]; exact i4, by rw [mw_pnj (by decide)]; exact i5, mw_peq, fun j hj => ⟨(ht j (by omega)).1, by rw [mw_pne (by decide), i2.2 24 (by decide)]; exact (ht j (by omega)).2⟩⟩
  have srch := mr_srch (γ := Option Value) (E := fun w l => mj_exec X (d + 4) 132 63 [some (.ref 23), some (.int (nI 0)), some (.int (nI (woff w))), l] [] (mw_U (mw_p u 23 4 (nI (200 + w))))) (P := wq tp b v) (I := fun _ _ => True) (N := 15) (by
    intro w l hw hP _
    obtain ⟨f1, f2, f3, f4, f5⟩ := fin w
    obtain ⟨l', e'⟩ := wordw (X := X) (d := d) hgt (by omega) f2 f3 f5 hw f4 (l := l)
    refine ⟨l', trivial, ?_⟩
    rw [e', if_neg (by rw [hP]; decide), mw_pp]) (g := none) trivial
  have start : mj_call X (d + 4) 132 [.ref 23] (mw_U s) = mj_exec X (d + 4) 132 63 [some (.ref 23), some (.int (nI 0)), some (.int (nI (woff 0))), none] [] (mw_U (mw_p u 23 4 (nI (200 + 0)))) := by
    rw [b132]
    refine e.trans ?_
    rw [hex, b132_52]
    rfl
  have done : ∀ w, mj_call X (d + 4) 132 [.ref 23] (mw_U s) = some (.inl none, mw_U (mw_p u 23 4 (nI (200 + w)))) → wx tp b v = w → ∃ t, mj_call X (d + 4) 132 [.ref 23] (mw_U s) = some (.inl none, mw_U t) ∧ mg s t (fun c => c = 23) ∧ t.1 23 1 = nI n ∧ t.1 23 2 = nI b ∧ t.1 23 3 = nI v ∧ t.1 23 4 = nI (200 + wx tp b v) := by
    intro w hw hx
    obtain ⟨f1, f2, f3, f4, f5⟩ := fin w
    rw [hx]
    exact ⟨_, hw, mg_p i2 rfl, f1, f2, f3, f4⟩
  rcases first_or (wq tp b v) 15 with ⟨w, hw, hP, hmin⟩ | hall
  · obtain ⟨l, -, e2⟩ := srch w (by omega) hmin
    obtain ⟨f1, f2, f3, f4, f5⟩ := fin w
    obtain ⟨l', e'⟩ := wordw (X := X) (d := d) hgt (by omega) f2 f3 f5 hw f4 (l := l)
    refine done w (start.trans (e2.trans ?_)) (by unfold wx; rw [find_range hmin hw hP]; rfl)
    rw [e', if_pos hP]
  · obtain ⟨l, -, e2⟩ := srch 15 (Nat.le_refl _) hall
    have e337 : mj_call X (d + 3) 337 [.ref 1000101] (mw_U (mw_p u 23 4 (nI (200 + 15)))) = some (.inl (some (.int (nI 80))), mw_U (mw_p u 23 4 (nI (200 + 15)))) := c337 (i := 1) (by decide)
    refine done 15 (start.trans (e2.trans ?_)) (by unfold wx; rw [find_none hall]; rfl)
    rw [woff_15, b132_63, e337, mj_bk_i, b132_69, if_pos (by decide), b132_160]
theorem c134 (hb : b < n) (hn : n ≤ 700) (h1 : s.1 23 1 = nI n) (h2 : s.1 23 2 = nI b) (ht : ∀ j, j < n → tp j < 256 ∧ s.1 24 j = sby (tp j)) : ∃ t, mj_call X (d + 5) 134 [.ref 23] (mw_U s) = some (.inl none, mw_U t) ∧ mg s t (fun c => c = 23) ∧ t.1 23 1 = nI n ∧ t.1 23 2 = nI b ∧ t.1 23 3 = nI (b + 1) ∧ t.1 23 4 = nI (if isK (tp b) then tp b else 1) := by
  obtain ⟨t1, t2⟩ := ht b hb
  have q := sby_c (tp b) t1
  have hin : mw_in 700 (nI b) = true := by rw [mn_in (by omega)]; exact decide_eq_true (by omega)
  have eq6 := q.2.2.2.2.2.1
  have eK := q.2.2.2.2.1
  refine ⟨mw_p (mw_p s 23 4 (nI (if isK (tp b) then tp b else 1))) 23 3 (nI (b + 1)), ?_, mg_p (mg_p mg_refl rfl) rfl, ?_, ?_, mw_peq, ?_⟩
  · rw [b134, b134_0, h2, if_pos hin, mn_clamp (by omega), t2, eq6, c342 t1, mj_bk_i, b134_22]
    have e2 : ∀ v, (mw_p s 23 4 v).1 23 2 = nI b := fun v => by rw [mw_pnj (by decide)]; exact h2
    cases hf : (List.range 9).find? (fun j => decide (sch 2 j = tp b)) with
    | none =>
      have hK : isK (tp b) = false := by
        cases h : isK (tp b)
        · rfl
        · rw [hf] at eK; have := eK.1 h; cases this
      have z : mo none < 0 := by decide
      rw [if_pos z, b134_29, b134_30, e2, nI_add, hK]
      rfl
    | some j =>
      have hK : isK (tp b) = true := by rw [hf] at eK; exact eK.2 rfl
      have hj : j < 9 := by
        have := List.mem_of_find?_eq_some hf
        exact List.mem_range.1 this
      have z : ¬ mo (some j) < 0 := by
        show ¬ nI j < 0
        rw [mn_lt0 (by omega)]; exact not_false
      rw [if_neg z, b134_25, b134_30, e2, nI_add, hK]
      rfl
  · rw [mw_pnj (by decide), mw_pnj (by decide)]; exact h1
  · rw [mw_pnj (by decide), mw_pnj (by decide)]; exact h2
  · rw [mw_pnj (by decide), mw_peq]
theorem c131 (h : PC s tp n a) : ∃ t, mj_call X (d + 6) 131 [.ref 23] (mw_U s) = some (.inl none, mw_U t) ∧ TC t tp n a ∧ mg s t (fun c => c = 23) := by
  obtain ⟨ha, hn, h1, h3, ht⟩ := h
  obtain ⟨u, ⟨i1, i2, i3, i4⟩, e⟩ := mr_scan (P := isS) (tp := tp) (n := n) (a := a) (γ := mw_S) (E := fun _ t => mj_exec X (d + 6) 131 8 [some (.ref 23)] [] (mw_U t)) (I := fun b t => a ≤ b ∧ mg s t (fun c => c = 23) ∧ t.1 23 1 = nI n ∧ t.1 23 2 = nI b) (by
    intro b t hb hP ⟨i1, i2, i3, i4⟩
    obtain ⟨t1, t2⟩ := ht b hb
    have q := sby_c (tp b) t1
    have e24 : t.1 24 b = sby (tp b) := by rw [i2.2 24 (by decide)]; exact t2
    have hle : ¬ nI n ≤ nI b := by rw [mn_le (by omega) (by omega)]; omega
    have hin : mw_in 700 (nI b) = true := by rw [mn_in (by omega)]; exact decide_eq_true (by omega)
    refine ⟨mw_p t 23 2 (nI (b + 1)), ⟨by omega, mg_p i2 rfl, by rw [mw_pnj (by decide)]; exact i3, mw_peq⟩, ?_⟩
    rw [b131_8, i3, i4, if_neg hle, b131_19, i4, if_pos hin, mn_clamp (by omega), e24]
    have hP := of_decide_eq_true hP
    by_cases q1 : tp b = 32
    · rw [if_pos (q.1.2 q1), b131_47, i4, nI_add]
    · rw [if_neg (fun z => q1 (q.1.1 z)), b131_33, i4, if_pos hin, mn_clamp (by omega), e24, if_pos (q.2.1.2 (by omega)), b131_47, i4, nI_add]) (g := mw_p s 23 2 (nI a)) ⟨Nat.le_refl _, mg_p mg_refl rfl, by rw [mw_pnj (by decide)]; exact h1, mw_peq⟩
  have hble := tb_le (tp := tp) ha
  rw [show sc isS tp n a = tb tp n a from rfl] at i1 i4
  obtain ⟨b, hb⟩ : ∃ b, b = tb tp n a := ⟨_, rfl⟩
  have hu24 : ∀ j, j < n → tp j < 256 ∧ u.1 24 j = sby (tp j) := fun j hj => ⟨(ht j hj).1, by rw [i2.2 24 (by decide)]; exact (ht j hj).2⟩
  have hex : mj_exec X (d + 6) 131 8 [some (.ref 23)] [] (mw_U u) = mj_exec X (d + 6) 131 60 [some (.ref 23)] [] (mw_U u) := by
    rw [b131_8, i3, i4]
    by_cases q : tb tp n a < n
    · have hno : isS (tp (tb tp n a)) = false := sc_end q
      obtain ⟨t1, t2⟩ := hu24 _ q
      have qq := sby_c _ t1
      have hno := of_decide_eq_false hno
      have hle' : ¬ nI n ≤ nI (tb tp n a) := by rw [mn_le (by omega) (by omega)]; omega
      have hin : mw_in 700 (nI (tb tp n a)) = true := by rw [mn_in (by omega)]; exact decide_eq_true (by omega)
      rw [if_neg hle', b131_19, i4, if_pos hin, mn_clamp (by omega), t2, if_neg (fun z => hno (Or.inl (qq.1.1 z))), b131_33, i4, if_pos hin, mn_clamp (by omega), t2, if_neg (fun z => hno (Or.inr (qq.2.1.1 z)))]
    · have hle' : nI n ≤ nI (tb tp n a) := by rw [mn_le (by omega) (by omega)]; omega
      rw [if_pos hle']
  have start : mj_call X (d + 6) 131 [.ref 23] (mw_U s) = mj_exec X (d + 6) 131 60 [some (.ref 23)] [] (mw_U u) := by
    rw [b131, b131_0, h3]
    exact e.trans hex
  rw [← hb] at hble i1 i4
  obtain ⟨v, hv⟩ : ∃ v, v = mw_p u 23 3 (nI b) := ⟨_, rfl⟩
  have v1 : v.1 23 1 = nI n := by rw [hv, mw_pnj (by decide)]; exact i3
  have v2 : v.1 23 2 = nI b := by rw [hv, mw_pnj (by decide)]; exact i4
  have v3 : v.1 23 3 = nI b := by rw [hv, mw_peq]
  have v24 : ∀ j, j < n → tp j < 256 ∧ v.1 24 j = sby (tp j) := fun j hj => ⟨(hu24 j hj).1, by rw [hv, mw_pne (by decide)]; exact (hu24 j hj).2⟩
  have vg : mg s v (fun c => c = 23) := by rw [hv]; exact mg_p i2 rfl
  have s60 : mj_exec X (d + 6) 131 60 [some (.ref 23)] [] (mw_U u) = if nI b < nI n then mj_exec X (d + 6) 131 87 [some (.ref 23)] [] (mw_U v) else mj_exec X (d + 6) 131 79 [some (.ref 23)] [] (mw_U v) := by
    rw [b131_60, i4, ← hv, v1, v2]
  rw [start, s60]
  by_cases q0 : b < n
  · have hlt : nI b < nI n := by rw [mn_lt (by omega) (by omega)]; exact q0
    have hin : mw_in 700 (nI b) = true := by rw [mn_in (by omega)]; exact decide_eq_true (by omega)
    obtain ⟨t1, t2⟩ := v24 b q0
    have q := sby_c (tp b) t1
    have nle : ¬ n ≤ tb tp n a := by omega
    rw [if_pos hlt]
    cases hL : isL (tp b)
    · have to122 : mj_exec X (d + 6) 131 87 [some (.ref 23)] [] (mw_U v) = mj_exec X (d + 6) 131 122 [some (.ref 23)] [] (mw_U v) := by
        rw [b131_87, v2, if_pos hin, mn_clamp (by omega), t2]
        by_cases q1 : sby (tp b) < nI 97
        · rw [if_pos q1]
        · have q2 : nI 122 < sby (tp b) := Classical.byContradiction (fun z => by rw [q.2.2.1.2 ⟨q1, z⟩] at hL; cases hL)
          rw [if_neg q1, b131_101, v2, if_pos hin, mn_clamp (by omega), t2, if_pos q2]
      cases hD : isD (tp b)
      · have to157 : mj_exec X (d + 6) 131 122 [some (.ref 23)] [] (mw_U v) = mj_exec X (d + 6) 131 157 [some (.ref 23)] [] (mw_U v) := by
          rw [b131_122, v2, if_pos hin, mn_clamp (by omega), t2]
          by_cases q1 : sby (tp b) < nI 48
          · rw [if_pos q1]
          · have q2 : nI 57 < sby (tp b) := Classical.byContradiction (fun z => by rw [q.2.2.2.1.2 ⟨q1, z⟩] at hD; cases hD)
            rw [if_neg q1, b131_136, v2, if_pos hin, mn_clamp (by omega), t2, if_pos q2]
        obtain ⟨t, e1, g1, f1, f2, f3, f4⟩ := c134 (X := X) (d := d) q0 hn v1 v2 v24
        have hk : tkd tp n a = if isK (tp b) then 3 else 4 := by
          unfold tkd
          rw [if_neg nle, ← hb, hL, hD, if_neg (by decide), if_neg (by decide)]
        refine ⟨t, ?_, ⟨ha, hn, f1, by rw [← hb]; exact f2, ?_, ?_, ?_, fun j hj => ⟨(ht j hj).1, by rw [g1.2 24 (by decide)]; exact (v24 j hj).2⟩⟩, mg_trans vg g1⟩
        · rw [to122, to157, b131_157, e1, mj_bk_v, b131_161]
        · unfold te
          rw [hk, ← hb]
          cases isK (tp b) <;> exact f3
        · unfold kcl
          rw [hk, ← hb]
          cases hK : isK (tp b) <;> rw [hK] at f4 <;> exact f4
        · intro h2
          rw [hk] at h2
          cases hK : isK (tp b) <;> rw [hK] at h2 <;> exact absurd h2 (by decide)
      · obtain ⟨q1, q2⟩ := q.2.2.2.1.1 hD
        obtain ⟨t, e1, g1, f1, f2, f3, f4, f5⟩ := c133 (X := X) (d := d + 5) hble hn v1 v3 v24
        have hk : tkd tp n a = 2 := by
          unfold tkd
          rw [if_neg nle, ← hb, hL, hD, if_neg (by decide), if_pos rfl]
        have het : te tp n a = sc isD tp n b := by
          unfold te
          rw [hk, ← hb]; rfl
        refine ⟨t, ?_, ⟨ha, hn, f1, by rw [← hb, f2]; exact v2, by rw [het]; exact f3, ?_, ?_, fun j hj => ⟨(ht j hj).1, by rw [g1.2 24 (by decide)]; exact (v24 j hj).2⟩⟩, mg_trans vg g1⟩
        · rw [to122, b131_122, v2, if_pos hin, mn_clamp (by omega), t2, if_neg q1, b131_136, v2, if_pos hin, mn_clamp (by omega), t2, if_neg q2, b131_150, e1, mj_bk_v, b131_154, b131_161]
        · unfold kcl
          rw [hk]; exact f4
        · intro _
          rw [het, ← hb]; exact f5
    · obtain ⟨q1, q2⟩ := q.2.2.1.1 hL
      obtain ⟨t, e1, g1, f1, f2, f3, f4⟩ := c132 (X := X) (d := d + 1) q0 hn hL v1 v2 v3 v24
      have hk : tkd tp n a = 1 := by
        unfold tkd
        rw [if_neg nle, ← hb, hL, if_pos rfl]
      have het : te tp n a = sc isL tp n b := by
        unfold te
        rw [hk, ← hb]; rfl
      refine ⟨t, ?_, ⟨ha, hn, f1, by rw [← hb]; exact f2, by rw [het]; exact f3, ?_, ?_, fun j hj => ⟨(ht j hj).1, by rw [g1.2 24 (by decide)]; exact (v24 j hj).2⟩⟩, mg_trans vg g1⟩
      · rw [b131_87, v2, if_pos hin, mn_clamp (by omega), t2, if_neg q1, b131_101, v2, if_pos hin, mn_clamp (by omega), t2, if_neg q2, b131_115, e1, mj_bk_v, b131_119, b131_161]
      · unfold kcl
        rw [hk, het, ← hb]; exact f4
      · intro h2
        rw [hk] at h2; cases h2
  · have hlt : ¬ nI b < nI n := by rw [mn_lt (by omega) (by omega)]; exact q0
    have hk : tkd tp n a = 0 := tkd0.2 (by omega)
    refine ⟨mw_p v 23 4 (nI 0), ?_, ⟨ha, hn, ?_, ?_, ?_, ?_, ?_, ?_⟩, mg_p vg rfl⟩
    · rw [if_neg hlt, b131_79, b131_161]
    · rw [mw_pnj (by decide)]; exact v1
    · rw [mw_pnj (by decide), ← hb]; exact v2
    · unfold te
      rw [hk, if_pos rfl, mw_pnj (by decide), ← hb]; exact v3
    · unfold kcl
      rw [hk, if_pos rfl, mw_peq]
    · intro h2; rw [hk] at h2; cases h2
    · intro j hj
      rw [mw_pne (by decide)]; exact v24 j hj
end
