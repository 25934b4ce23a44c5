/-! what both readers ask of a token -/
theorem wq_inj : ∀ i, i < 15 → ∀ j, j < 15 → wlen i = wlen j → (∀ k, k < wlen i → wch i k = wch j k) → i = j := by decide +kernel
theorem wx_iff {tp : Nat → Nat} {b e w : Nat} (hw : w < 15) : wq tp b e w = true ↔ wx tp b e = w := by
  unfold wx
  constructor
  · intro h
    rcases first_or (wq tp b e) 15 with ⟨k, hk, hP, hmin⟩ | hall
    · rw [find_range hmin hk hP]
      have h1 := of_decide_eq_true h
      have h2 := of_decide_eq_true hP
      exact wq_inj k hk w hw (by omega) (fun j hj => by rw [← h2.2 j hj, ← h1.2 j (by omega)])
    · rw [hall w hw] at h; cases h
  · intro h
    rcases first_or (wq tp b e) 15 with ⟨k, hk, hP, hmin⟩ | hall
    · rw [find_range hmin hk hP] at h
      have h : k = w := h
      rw [← h]; exact hP
    · rw [find_none hall] at h
      have h : 15 = w := h
      omega
theorem wx_le {tp : Nat → Nat} {b e : Nat} : wx tp b e ≤ 15 := by
  unfold wx
  rcases first_or (wq tp b e) 15 with ⟨k, hk, hP, hmin⟩ | hall
  · rw [find_range hmin hk hP]; exact Nat.le_of_lt hk
  · rw [find_none hall]; exact Nat.le_refl 15
theorem tkd_le {tp : Nat → Nat} {n a : Nat} : tkd tp n a ≤ 4 := by
  unfold tkd
  split
  · omega
  · split
    · omega
    · split
      · omega
      · split <;> omega
theorem tkd3 {tp : Nat → Nat} {n a : Nat} (h : tkd tp n a = 3) : isK (tp (tb tp n a)) = true := by
  unfold tkd at h
  split at h
  · omega
  · split at h
    · omega
    · split at h
      · omega
      · split at h
        · assumption
        · omega
theorem tk_lt {tp : Nat → Nat} {n a : Nat} (h : ¬ tkd tp n a = 0) : tb tp n a < n := by
  have : ¬ n ≤ tb tp n a := fun z => h (tkd0.2 z)
  omega
theorem isK_le {c : Nat} (h : isK c = true) : 40 ≤ c ∧ c ≤ 61 := by
  have := of_decide_eq_true h
  omega
theorem kcl_lt {tp : Nat → Nat} {n a : Nat} : kcl tp n a ≤ 215 ∧ (¬ tkd tp n a = 1 → kcl tp n a ≤ 61) := by
  have := wx_le (tp := tp) (b := tb tp n a) (e := te tp n a)
  unfold kcl
  split
  · omega
  · split
    · omega
    · split
      · omega
      · split
        · next h3 => have := isK_le (tkd3 h3); omega
        · omega
/-- the token is this sign, this word -/
def tS (tp : Nat → Nat) (n a c : Nat) : Bool := decide (tkd tp n a = 3 ∧ tp (tb tp n a) = c)
def tV (tp : Nat → Nat) (n a w : Nat) : Bool := decide (tkd tp n a = 1 ∧ wx tp (tb tp n a) (te tp n a) = w)
theorem kcl_S {tp : Nat → Nat} {n a c : Nat} (hc : 40 ≤ c ∧ c ≤ 61) : (kcl tp n a = c) = (tS tp n a c = true) := by
  apply propext
  unfold tS
  rw [decide_eq_true_eq]
  have h4 := tkd_le (tp := tp) (n := n) (a := a)
  unfold kcl
  constructor
  · intro h
    split at h
    · omega
    · split at h
      · omega
      · split at h
        · omega
        · split at h
          · next h3 => exact ⟨h3, h⟩
          · omega
  · rintro ⟨h1, h2⟩
    rw [h1]; exact h2
theorem kcl_V {tp : Nat → Nat} {n a w : Nat} : (kcl tp n a = 200 + w) = (tV tp n a w = true) := by
  apply propext
  unfold tV
  rw [decide_eq_true_eq]
  have hl := kcl_lt (tp := tp) (n := n) (a := a)
  constructor
  · intro h
    by_cases q : tkd tp n a = 1
    · refine ⟨q, ?_⟩
      unfold kcl at h
      rw [q] at h
      have h : 200 + wx tp (tb tp n a) (te tp n a) = 200 + w := h
      omega
    · have := hl.2 q; omega
  · rintro ⟨h1, h2⟩
    unfold kcl
    rw [h1]
    show 200 + wx tp (tb tp n a) (te tp n a) = 200 + w
    omega
theorem kcl_2 {tp : Nat → Nat} {n a : Nat} : (kcl tp n a = 2) = (tkd tp n a = 2) := by
  apply propext
  have h4 := tkd_le (tp := tp) (n := n) (a := a)
  constructor
  · intro h
    unfold kcl at h
    split at h
    · omega
    · split at h
      · omega
      · split at h
        · assumption
        · split at h
          · next h3 => have := isK_le (tkd3 h3); omega
          · omega
  · intro h; unfold kcl; rw [h]; rfl
theorem kcl_0 {tp : Nat → Nat} {n a : Nat} : (kcl tp n a = 0) = (tkd tp n a = 0) := by
  apply propext
  have h4 := tkd_le (tp := tp) (n := n) (a := a)
  constructor
  · intro h
    unfold kcl at h
    split at h
    · assumption
    · split at h
      · omega
      · split at h
        · omega
        · split at h
          · next h3 => have := isK_le (tkd3 h3); omega
          · omega
  · intro h; unfold kcl; rw [h]; rfl
section
variable {X : mj_X} {d : Nat} {s t : mw_S} {f : Nat → Nat} {tp : Nat → Nat} {n a : Nat}
theorem c135 (h : TC s tp n a) : mj_call X d 135 [.ref 23] (mw_U s) = some (.inl (some (.int (nI (kcl tp n a)))), mw_U s) := by
  rw [b135, b135_0, h.2.2.2.2.2.1]
theorem c137 (h : TC s tp n a) (h2 : tkd tp n a = 2) : mj_call X d 137 [.ref 23] (mw_U s) = some (.inl (some (.int (nI (min 9999 (dv tp (tb tp n a) (te tp n a - tb tp n a)))))), mw_U s) := by
  rw [b137, b137_0, h.2.2.2.2.2.2.1 h2]
theorem te_ge (tp : Nat → Nat) (n a : Nat) : tb tp n a ≤ te tp n a := by
  by_cases q : tkd tp n a = 0
  · unfold te; rw [if_pos q]; exact Nat.le_refl _
  · exact Nat.le_of_lt (te_gt q)
theorem c138 (h : TC s tp n a) : mj_call X d 138 [.ref 23] (mw_U s) = some (.inl (some (.int (nI (decide (4 < te tp n a - tb tp n a)).toNat))), mw_U s) := by
  obtain ⟨ha, hn, h1, h2, h3, h4, h5, h6⟩ := h
  have g := te_ge tp n a
  have l := te_le (tp := tp) ha
  by_cases q : 4 < te tp n a - tb tp n a
  · have p : ¬ te tp n a - tb tp n a ≤ 4 := by omega
    simp (disch := first | assumption | exact hf _ | omega) only [b138, b138_0, b138_13, b138_17, b138_18, nI_add, mn_mul, mn_sub, mn_m1, mn_m8, mn_eq, mn_lt, mn_le, mn_eq0, mn_0eq, mn_lt0, mn_0lt, mn_le0, mn_0le, mn_eqm, mn_meq, mn_ltm, mn_mlt, mn_lem, mn_mle, mn_mm1, mn_mm2, mn_mm3, mn_mm4, mn_mm5, mn_mm6, mn_and, mn_or, mn_an, mn_shl, mn_shr, mn_div, mn_rem, mn_clamp, mn_in, mn_inm, mn_nz, mn_zo, mn_min, mn_max, mn_abs, mn_rfit, mn_cp, mn_les, mn_gre, mn_a127, mn_a15, mn_a1, mn_a255, mn_tn0, mn_tn0e, mn_tnr, mn_tnz, mr_get, mr_ne, mr_put, mu_ne, mu_eq, mj_bk_i, mj_bk_v, mj_bk_x, decide_eq_true_eq, decide_true, decide_false, Bool.false_eq_true, Bool.true_eq_false, reduceCtorEq, mt_le_t, mt_le_f, mt_lt_t, mt_lt_f, mt_eq_t, mt_eq_f, mt_ee, not_true_eq_false, not_false_eq_true, and_true, true_and, and_self, Nat.zero_add, Nat.add_zero, Nat.one_mul, Nat.mul_one, Nat.reduceAdd, Nat.reduceMul, Nat.reduceSub, Nat.reducePow, Nat.reduceDiv, Nat.reduceMod, ↓reduceIte, h2, h3, p, q]
    rfl
  · have p : te tp n a - tb tp n a ≤ 4 := by omega
    simp (disch := first | assumption | exact hf _ | omega) only [b138, b138_0, b138_13, b138_17, b138_18, nI_add, mn_mul, mn_sub, mn_m1, mn_m8, mn_eq, mn_lt, mn_le, mn_eq0, mn_0eq, mn_lt0, mn_0lt, mn_le0, mn_0le, mn_eqm, mn_meq, mn_ltm, mn_mlt, mn_lem, mn_mle, mn_mm1, mn_mm2, mn_mm3, mn_mm4, mn_mm5, mn_mm6, mn_and, mn_or, mn_an, mn_shl, mn_shr, mn_div, mn_rem, mn_clamp, mn_in, mn_inm, mn_nz, mn_zo, mn_min, mn_max, mn_abs, mn_rfit, mn_cp, mn_les, mn_gre, mn_a127, mn_a15, mn_a1, mn_a255, mn_tn0, mn_tn0e, mn_tnr, mn_tnz, mr_get, mr_ne, mr_put, mu_ne, mu_eq, mj_bk_i, mj_bk_v, mj_bk_x, decide_eq_true_eq, decide_true, decide_false, Bool.false_eq_true, Bool.true_eq_false, reduceCtorEq, mt_le_t, mt_le_f, mt_lt_t, mt_lt_f, mt_eq_t, mt_eq_f, mt_ee, not_true_eq_false, not_false_eq_true, and_true, true_and, and_self, Nat.zero_add, Nat.add_zero, Nat.one_mul, Nat.mul_one, Nat.reduceAdd, Nat.reduceMul, Nat.reduceSub, Nat.reducePow, Nat.reduceDiv, Nat.reduceMod, ↓reduceIte, h2, h3, p, q]
    rfl
theorem c139 (h : TC s tp n a) : mj_call X d 139 [.ref 23] (mw_U s) = some (.inl (some (.int (nI (decide (tkd tp n a = 1)).toNat))), mw_U s) := by
  have h4 := h.2.2.2.2.2.1
  have l := kcl_lt (tp := tp) (n := n) (a := a)
  by_cases q : tkd tp n a = 1
  · have p : ¬ kcl tp n a < 200 := by unfold kcl; rw [q]; show ¬ 200 + wx tp (tb tp n a) (te tp n a) < 200; omega
    simp (disch := first | assumption | exact hf _ | omega) only [b139, b139_0, b139_10, b139_14, b139_15, nI_add, mn_mul, mn_sub, mn_m1, mn_m8, mn_eq, mn_lt, mn_le, mn_eq0, mn_0eq, mn_lt0, mn_0lt, mn_le0, mn_0le, mn_eqm, mn_meq, mn_ltm, mn_mlt, mn_lem, mn_mle, mn_mm1, mn_mm2, mn_mm3, mn_mm4, mn_mm5, mn_mm6, mn_and, mn_or, mn_an, mn_shl, mn_shr, mn_div, mn_rem, mn_clamp, mn_in, mn_inm, mn_nz, mn_zo, mn_min, mn_max, mn_abs, mn_rfit, mn_cp, mn_les, mn_gre, mn_a127, mn_a15, mn_a1, mn_a255, mn_tn0, mn_tn0e, mn_tnr, mn_tnz, mr_get, mr_ne, mr_put, mu_ne, mu_eq, mj_bk_i, mj_bk_v, mj_bk_x, decide_eq_true_eq, decide_true, decide_false, Bool.false_eq_true, Bool.true_eq_false, reduceCtorEq, mt_le_t, mt_le_f, mt_lt_t, mt_lt_f, mt_eq_t, mt_eq_f, mt_ee, not_true_eq_false, not_false_eq_true, and_true, true_and, and_self, Nat.zero_add, Nat.add_zero, Nat.one_mul, Nat.mul_one, Nat.reduceAdd, Nat.reduceMul, Nat.reduceSub, Nat.reducePow, Nat.reduceDiv, Nat.reduceMod, ↓reduceIte, h4, p, q]
    rfl
  · have p : kcl tp n a < 200 := by have := l.2 q; omega
    simp (disch := first | assumption | exact hf _ | omega) only [b139, b139_0, b139_10, b139_14, b139_15, nI_add, mn_mul, mn_sub, mn_m1, mn_m8, mn_eq, mn_lt, mn_le, mn_eq0, mn_0eq, mn_lt0, mn_0lt, mn_le0, mn_0le, mn_eqm, mn_meq, mn_ltm, mn_mlt, mn_lem, mn_mle, mn_mm1, mn_mm2, mn_mm3, mn_mm4, mn_mm5, mn_mm6, mn_and, mn_or, mn_an, mn_shl, mn_shr, mn_div, mn_rem, mn_clamp, mn_in, mn_inm, mn_nz, mn_zo, mn_min, mn_max, mn_abs, mn_rfit, mn_cp, mn_les, mn_gre, mn_a127, mn_a15, mn_a1, mn_a255, mn_tn0, mn_tn0e, mn_tnr, mn_tnz, mr_get, mr_ne, mr_put, mu_ne, mu_eq, mj_bk_i, mj_bk_v, mj_bk_x, decide_eq_true_eq, decide_true, decide_false, Bool.false_eq_true, Bool.true_eq_false, reduceCtorEq, mt_le_t, mt_le_f, mt_lt_t, mt_lt_f, mt_eq_t, mt_eq_f, mt_ee, not_true_eq_false, not_false_eq_true, and_true, true_and, and_self, Nat.zero_add, Nat.add_zero, Nat.one_mul, Nat.mul_one, Nat.reduceAdd, Nat.reduceMul, Nat.reduceSub, Nat.reducePow, Nat.reduceDiv, Nat.reduceMod, ↓reduceIte, h4, p, q]
    rfl
theorem c140 (h : TC s tp n a) : mj_call X d 140 [.ref 23] (mw_U s) = some (.inl (some (.int (nI (decide (tkd tp n a = 1 ∧ wx tp (tb tp n a) (te tp n a) < 6)).toNat))), mw_U s) := by
  have h4 := h.2.2.2.2.2.1
  have l := kcl_lt (tp := tp) (n := n) (a := a)
  by_cases q : tkd tp n a = 1
  · have e : kcl tp n a = 200 + wx tp (tb tp n a) (te tp n a) := by unfold kcl; rw [q]; rfl
    have p : ¬ kcl tp n a < 200 := by omega
    by_cases q2 : wx tp (tb tp n a) (te tp n a) < 6
    · have p2 : ¬ 205 < kcl tp n a := by omega
      simp (disch := first | assumption | exact hf _ | omega) only [b140, b140_0, b140_10, b140_20, b140_24, b140_25, nI_add, mn_mul, mn_sub, mn_m1, mn_m8, mn_eq, mn_lt, mn_le, mn_eq0, mn_0eq, mn_lt0, mn_0lt, mn_le0, mn_0le, mn_eqm, mn_meq, mn_ltm, mn_mlt, mn_lem, mn_mle, mn_mm1, mn_mm2, mn_mm3, mn_mm4, mn_mm5, mn_mm6, mn_and, mn_or, mn_an, mn_shl, mn_shr, mn_div, mn_rem, mn_clamp, mn_in, mn_inm, mn_nz, mn_zo, mn_min, mn_max, mn_abs, mn_rfit, mn_cp, mn_les, mn_gre, mn_a127, mn_a15, mn_a1, mn_a255, mn_tn0, mn_tn0e, mn_tnr, mn_tnz, mr_get, mr_ne, mr_put, mu_ne, mu_eq, mj_bk_i, mj_bk_v, mj_bk_x, decide_eq_true_eq, decide_true, decide_false, Bool.false_eq_true, Bool.true_eq_false, reduceCtorEq, mt_le_t, mt_le_f, mt_lt_t, mt_lt_f, mt_eq_t, mt_eq_f, mt_ee, not_true_eq_false, not_false_eq_true, and_true, true_and, and_self, Nat.zero_add, Nat.add_zero, Nat.one_mul, Nat.mul_one, Nat.reduceAdd, Nat.reduceMul, Nat.reduceSub, Nat.reducePow, Nat.reduceDiv, Nat.reduceMod, ↓reduceIte, h4, p, p2, q, q2]
      rfl
    · have p2 : 205 < kcl tp n a := by omega
      simp (disch := first | assumption | exact hf _ | omega) only [b140, b140_0, b140_10, b140_20, b140_24, b140_25, nI_add, mn_mul, mn_sub, mn_m1, mn_m8, mn_eq, mn_lt, mn_le, mn_eq0, mn_0eq, mn_lt0, mn_0lt, mn_le0, mn_0le, mn_eqm, mn_meq, mn_ltm, mn_mlt, mn_lem, mn_mle, mn_mm1, mn_mm2, mn_mm3, mn_mm4, mn_mm5, mn_mm6, mn_and, mn_or, mn_an, mn_shl, mn_shr, mn_div, mn_rem, mn_clamp, mn_in, mn_inm, mn_nz, mn_zo, mn_min, mn_max, mn_abs, mn_rfit, mn_cp, mn_les, mn_gre, mn_a127, mn_a15, mn_a1, mn_a255, mn_tn0, mn_tn0e, mn_tnr, mn_tnz, mr_get, mr_ne, mr_put, mu_ne, mu_eq, mj_bk_i, mj_bk_v, mj_bk_x, decide_eq_true_eq, decide_true, decide_false, Bool.false_eq_true, Bool.true_eq_false, reduceCtorEq, mt_le_t, mt_le_f, mt_lt_t, mt_lt_f, mt_eq_t, mt_eq_f, mt_ee, not_true_eq_false, not_false_eq_true, and_true, true_and, and_self, Nat.zero_add, Nat.add_zero, Nat.one_mul, Nat.mul_one, Nat.reduceAdd, Nat.reduceMul, Nat.reduceSub, Nat.reducePow, Nat.reduceDiv, Nat.reduceMod, ↓reduceIte, h4, p, p2, q, q2, and_false]
      rfl
  · have p : kcl tp n a < 200 := by have := l.2 q; omega
    simp (disch := first | assumption | exact hf _ | omega) only [b140, b140_0, b140_10, b140_20, b140_24, b140_25, nI_add, mn_mul, mn_sub, mn_m1, mn_m8, mn_eq, mn_lt, mn_le, mn_eq0, mn_0eq, mn_lt0, mn_0lt, mn_le0, mn_0le, mn_eqm, mn_meq, mn_ltm, mn_mlt, mn_lem, mn_mle, mn_mm1, mn_mm2, mn_mm3, mn_mm4, mn_mm5, mn_mm6, mn_and, mn_or, mn_an, mn_shl, mn_shr, mn_div, mn_rem, mn_clamp, mn_in, mn_inm, mn_nz, mn_zo, mn_min, mn_max, mn_abs, mn_rfit, mn_cp, mn_les, mn_gre, mn_a127, mn_a15, mn_a1, mn_a255, mn_tn0, mn_tn0e, mn_tnr, mn_tnz, mr_get, mr_ne, mr_put, mu_ne, mu_eq, mj_bk_i, mj_bk_v, mj_bk_x, decide_eq_true_eq, decide_true, decide_false, Bool.false_eq_true, Bool.true_eq_false, reduceCtorEq, mt_le_t, mt_le_f, mt_lt_t, mt_lt_f, mt_eq_t, mt_eq_f, mt_ee, not_true_eq_false, not_false_eq_true, and_true, true_and, and_self, Nat.zero_add, Nat.add_zero, Nat.one_mul, Nat.mul_one, Nat.reduceAdd, Nat.reduceMul, Nat.reduceSub, Nat.reducePow, Nat.reduceDiv, Nat.reduceMod, ↓reduceIte, h4, p, q, false_and]
    rfl
theorem c92 (h : TC s tp n a) {k : Nat} : mj_call X (d + 1) 92 [.ref 22, .int (nI k)] (mw_U s) = some (.inl (some (.int (nI 0))), mw_U (mw_p (mw_p s 22 3 (nI k)) 22 4 (nI (tb tp n a)))) := by
  have e : mj_call X d 136 [.ref 23] (mw_U (mw_p s 22 3 (nI k))) = some (.inl (some (.int (nI (tb tp n a)))), mw_U (mw_p s 22 3 (nI k))) := by
    rw [b136, b136_0, mw_pne (by decide), h.2.2.2.1]
  rw [b92, b92_0, e, mj_bk_i, b92_13]
theorem c123 {x : Int32} {m : Nat} (h : s.1 27 1 = nI m) (hm : m < 700) : mj_call X d 123 [.ref 27, .int x] (mw_U s) = some (.inl none, mw_U (mw_p (mw_p s 28 m x) 27 1 (nI (m + 1)))) := by
  have k27 := mw_c_27
  have hin : mw_in 700 (nI m) = true := by rw [mn_in (by omega)]; exact decide_eq_true hm
  have hle : ¬ nI 700 ≤ nI m := by rw [mn_le (by omega) (by omega)]; omega
  rw [b123, b123_0 k27, h, if_neg hle, b123_10 k27, h, if_pos hin, mn_clamp (by omega), mw_pne (by decide), h, nI_add, b123_30 k27]
/-- the reference: no fault yet -/
theorem c208 (h : TR s tp n a) (h22 : s.1 42 22 = nI 0) {c : Nat} (hc : c < 256) : mj_call X d 208 [.ref 42, .int (nI c)] (mw_U (mp s f)) = some (.inl (some (.int (nI (tS tp n a c).toNat))), mw_U (mp s f)) := by
  obtain ⟨ha, hn, h17, h16, h18, h19, h20, h21, h56⟩ := h
  unfold tS
  have h4 := tkd_le (tp := tp) (n := n) (a := a)
  by_cases q : tkd tp n a = 3
  · have hb := tk_lt (tp := tp) (n := n) (a := a) (by omega)
    obtain ⟨e1, e2⟩ := h56 _ hb
    by_cases q2 : tp (tb tp n a) = c
    · simp (disch := first | assumption | exact hf _ | omega) only [b208, b208_0, b208_7, b208_15, b208_28, b208_32, b208_33, nI_add, mn_mul, mn_sub, mn_m1, mn_m8, mn_eq, mn_lt, mn_le, mn_eq0, mn_0eq, mn_lt0, mn_0lt, mn_le0, mn_0le, mn_eqm, mn_meq, mn_ltm, mn_mlt, mn_lem, mn_mle, mn_mm1, mn_mm2, mn_mm3, mn_mm4, mn_mm5, mn_mm6, mn_and, mn_or, mn_an, mn_shl, mn_shr, mn_div, mn_rem, mn_clamp, mn_in, mn_inm, mn_nz, mn_zo, mn_min, mn_max, mn_abs, mn_rfit, mn_cp, mn_les, mn_gre, mn_a127, mn_a15, mn_a1, mn_a255, mn_tn0, mn_tn0e, mn_tnr, mn_tnz, mr_get, mr_ne, mr_put, mu_ne, mu_eq, mj_bk_i, mj_bk_v, mj_bk_x, decide_eq_true_eq, decide_true, decide_false, Bool.false_eq_true, Bool.true_eq_false, reduceCtorEq, mt_le_t, mt_le_f, mt_lt_t, mt_lt_f, mt_eq_t, mt_eq_f, mt_ee, not_true_eq_false, not_false_eq_true, and_true, true_and, and_self, Nat.zero_add, Nat.add_zero, Nat.one_mul, Nat.mul_one, Nat.reduceAdd, Nat.reduceMul, Nat.reduceSub, Nat.reducePow, Nat.reduceDiv, Nat.reduceMod, ↓reduceIte, mp_h, mp_w, mp_c, mp_s, mp_d, mp_n, mp_54, mp_52, mp_55, mp_l, mp_o, mp_42, mp_45, gh_gp, gw_gp, gc_gp, mw_pne, Nat.or_zero, h22, h18, q, h20, e2, q2]
      rfl
    · simp (disch := first | assumption | exact hf _ | omega) only [b208, b208_0, b208_7, b208_15, b208_28, b208_32, b208_33, nI_add, mn_mul, mn_sub, mn_m1, mn_m8, mn_eq, mn_lt, mn_le, mn_eq0, mn_0eq, mn_lt0, mn_0lt, mn_le0, mn_0le, mn_eqm, mn_meq, mn_ltm, mn_mlt, mn_lem, mn_mle, mn_mm1, mn_mm2, mn_mm3, mn_mm4, mn_mm5, mn_mm6, mn_and, mn_or, mn_an, mn_shl, mn_shr, mn_div, mn_rem, mn_clamp, mn_in, mn_inm, mn_nz, mn_zo, mn_min, mn_max, mn_abs, mn_rfit, mn_cp, mn_les, mn_gre, mn_a127, mn_a15, mn_a1, mn_a255, mn_tn0, mn_tn0e, mn_tnr, mn_tnz, mr_get, mr_ne, mr_put, mu_ne, mu_eq, mj_bk_i, mj_bk_v, mj_bk_x, decide_eq_true_eq, decide_true, decide_false, Bool.false_eq_true, Bool.true_eq_false, reduceCtorEq, mt_le_t, mt_le_f, mt_lt_t, mt_lt_f, mt_eq_t, mt_eq_f, mt_ee, not_true_eq_false, not_false_eq_true, and_true, true_and, and_self, Nat.zero_add, Nat.add_zero, Nat.one_mul, Nat.mul_one, Nat.reduceAdd, Nat.reduceMul, Nat.reduceSub, Nat.reducePow, Nat.reduceDiv, Nat.reduceMod, ↓reduceIte, mp_h, mp_w, mp_c, mp_s, mp_d, mp_n, mp_54, mp_52, mp_55, mp_l, mp_o, mp_42, mp_45, gh_gp, gw_gp, gc_gp, mw_pne, Nat.or_zero, h22, h18, q, h20, e2, q2, and_false]
      rfl
  · simp (disch := first | assumption | exact hf _ | omega) only [b208, b208_0, b208_7, b208_15, b208_28, b208_32, b208_33, nI_add, mn_mul, mn_sub, mn_m1, mn_m8, mn_eq, mn_lt, mn_le, mn_eq0, mn_0eq, mn_lt0, mn_0lt, mn_le0, mn_0le, mn_eqm, mn_meq, mn_ltm, mn_mlt, mn_lem, mn_mle, mn_mm1, mn_mm2, mn_mm3, mn_mm4, mn_mm5, mn_mm6, mn_and, mn_or, mn_an, mn_shl, mn_shr, mn_div, mn_rem, mn_clamp, mn_in, mn_inm, mn_nz, mn_zo, mn_min, mn_max, mn_abs, mn_rfit, mn_cp, mn_les, mn_gre, mn_a127, mn_a15, mn_a1, mn_a255, mn_tn0, mn_tn0e, mn_tnr, mn_tnz, mr_get, mr_ne, mr_put, mu_ne, mu_eq, mj_bk_i, mj_bk_v, mj_bk_x, decide_eq_true_eq, decide_true, decide_false, Bool.false_eq_true, Bool.true_eq_false, reduceCtorEq, mt_le_t, mt_le_f, mt_lt_t, mt_lt_f, mt_eq_t, mt_eq_f, mt_ee, not_true_eq_false, not_false_eq_true, and_true, true_and, and_self, Nat.zero_add, Nat.add_zero, Nat.one_mul, Nat.mul_one, Nat.reduceAdd, Nat.reduceMul, Nat.reduceSub, Nat.reducePow, Nat.reduceDiv, Nat.reduceMod, ↓reduceIte, mp_h, mp_w, mp_c, mp_s, mp_d, mp_n, mp_54, mp_52, mp_55, mp_l, mp_o, mp_42, mp_45, gh_gp, gw_gp, gc_gp, mw_pne, Nat.or_zero, h22, h18, q, false_and]
    rfl
theorem c208b {c k : Nat} (h22 : s.1 42 22 = nI k) (hk : 0 < k) (hk2 : k < 10) : mj_call X d 208 [.ref 42, .int (nI c)] (mw_U (mp s f)) = some (.inl (some (.int (nI 0))), mw_U (mp s f)) := by
  have n0 : ¬ k = 0 := by omega
  simp (disch := first | assumption | exact hf _ | omega) only [b208, b208_0, b208_7, b208_15, b208_28, b208_32, b208_33, nI_add, mn_mul, mn_sub, mn_m1, mn_m8, mn_eq, mn_lt, mn_le, mn_eq0, mn_0eq, mn_lt0, mn_0lt, mn_le0, mn_0le, mn_eqm, mn_meq, mn_ltm, mn_mlt, mn_lem, mn_mle, mn_mm1, mn_mm2, mn_mm3, mn_mm4, mn_mm5, mn_mm6, mn_and, mn_or, mn_an, mn_shl, mn_shr, mn_div, mn_rem, mn_clamp, mn_in, mn_inm, mn_nz, mn_zo, mn_min, mn_max, mn_abs, mn_rfit, mn_cp, mn_les, mn_gre, mn_a127, mn_a15, mn_a1, mn_a255, mn_tn0, mn_tn0e, mn_tnr, mn_tnz, mr_get, mr_ne, mr_put, mu_ne, mu_eq, mj_bk_i, mj_bk_v, mj_bk_x, decide_eq_true_eq, decide_true, decide_false, Bool.false_eq_true, Bool.true_eq_false, reduceCtorEq, mt_le_t, mt_le_f, mt_lt_t, mt_lt_f, mt_eq_t, mt_eq_f, mt_ee, not_true_eq_false, not_false_eq_true, and_true, true_and, and_self, Nat.zero_add, Nat.add_zero, Nat.one_mul, Nat.mul_one, Nat.reduceAdd, Nat.reduceMul, Nat.reduceSub, Nat.reducePow, Nat.reduceDiv, Nat.reduceMod, ↓reduceIte, mp_h, mp_w, mp_c, mp_s, mp_d, mp_n, mp_54, mp_52, mp_55, mp_l, mp_o, mp_42, mp_45, gh_gp, gw_gp, gc_gp, mw_pne, Nat.or_zero, h22, n0]
theorem c206 (h22 : s.1 42 22 = nI 0) {k b : Nat} (h20 : s.1 42 20 = nI b) : mj_call X d 206 [.ref 42, .int (nI k)] (mw_U (mp s f)) = some (.inl none, mw_U (mp (mw_p (mw_p s 42 22 (nI k)) 42 23 (nI b)) f)) := by
  have e : (mw_p s 42 22 (nI k)).1 42 20 = nI b := by rw [mw_pnj (by decide)]; exact h20
  simp (disch := first | assumption | exact hf _ | omega) only [b206, b206_0, b206_7, b206_8, nI_add, mn_mul, mn_sub, mn_m1, mn_m8, mn_eq, mn_lt, mn_le, mn_eq0, mn_0eq, mn_lt0, mn_0lt, mn_le0, mn_0le, mn_eqm, mn_meq, mn_ltm, mn_mlt, mn_lem, mn_mle, mn_mm1, mn_mm2, mn_mm3, mn_mm4, mn_mm5, mn_mm6, mn_and, mn_or, mn_an, mn_shl, mn_shr, mn_div, mn_rem, mn_clamp, mn_in, mn_inm, mn_nz, mn_zo, mn_min, mn_max, mn_abs, mn_rfit, mn_cp, mn_les, mn_gre, mn_a127, mn_a15, mn_a1, mn_a255, mn_tn0, mn_tn0e, mn_tnr, mn_tnz, mr_get, mr_ne, mr_put, mu_ne, mu_eq, mj_bk_i, mj_bk_v, mj_bk_x, decide_eq_true_eq, decide_true, decide_false, Bool.false_eq_true, Bool.true_eq_false, reduceCtorEq, mt_le_t, mt_le_f, mt_lt_t, mt_lt_f, mt_eq_t, mt_eq_f, mt_ee, not_true_eq_false, not_false_eq_true, and_true, true_and, and_self, Nat.zero_add, Nat.add_zero, Nat.one_mul, Nat.mul_one, Nat.reduceAdd, Nat.reduceMul, Nat.reduceSub, Nat.reducePow, Nat.reduceDiv, Nat.reduceMod, ↓reduceIte, mp_h, mp_w, mp_c, mp_s, mp_d, mp_n, mp_54, mp_52, mp_55, mp_l, mp_o, mp_42, mp_45, gh_gp, gw_gp, gc_gp, mw_pne, Nat.or_zero, mp_wo, h22, e]
theorem c206b {x : Int32} {k : Nat} (h22 : s.1 42 22 = nI k) (hk : 0 < k) (hk2 : k < 10) : mj_call X d 206 [.ref 42, .int x] (mw_U (mp s f)) = some (.inl none, mw_U (mp s f)) := by
  have n0 : ¬ k = 0 := by omega
  simp (disch := first | assumption | exact hf _ | omega) only [b206, b206_0, b206_7, b206_8, nI_add, mn_mul, mn_sub, mn_m1, mn_m8, mn_eq, mn_lt, mn_le, mn_eq0, mn_0eq, mn_lt0, mn_0lt, mn_le0, mn_0le, mn_eqm, mn_meq, mn_ltm, mn_mlt, mn_lem, mn_mle, mn_mm1, mn_mm2, mn_mm3, mn_mm4, mn_mm5, mn_mm6, mn_and, mn_or, mn_an, mn_shl, mn_shr, mn_div, mn_rem, mn_clamp, mn_in, mn_inm, mn_nz, mn_zo, mn_min, mn_max, mn_abs, mn_rfit, mn_cp, mn_les, mn_gre, mn_a127, mn_a15, mn_a1, mn_a255, mn_tn0, mn_tn0e, mn_tnr, mn_tnz, mr_get, mr_ne, mr_put, mu_ne, mu_eq, mj_bk_i, mj_bk_v, mj_bk_x, decide_eq_true_eq, decide_true, decide_false, Bool.false_eq_true, Bool.true_eq_false, reduceCtorEq, mt_le_t, mt_le_f, mt_lt_t, mt_lt_f, mt_eq_t, mt_eq_f, mt_ee, not_true_eq_false, not_false_eq_true, and_true, true_and, and_self, Nat.zero_add, Nat.add_zero, Nat.one_mul, Nat.mul_one, Nat.reduceAdd, Nat.reduceMul, Nat.reduceSub, Nat.reducePow, Nat.reduceDiv, Nat.reduceMod, ↓reduceIte, mp_h, mp_w, mp_c, mp_s, mp_d, mp_n, mp_54, mp_52, mp_55, mp_l, mp_o, mp_42, mp_45, gh_gp, gw_gp, gc_gp, mw_pne, Nat.or_zero, h22, n0]
end
