/-! Books -/
def BP (s : mw_S) (k : Nat) (P : Nat → Nat → Nat) (a : Nat) : Prop := a ≤ 40 ∧ s.1 k 3 = nI a ∧ ∃ o, o < 40 ∧ s.1 k 2 = nI o ∧ ∀ j, j < a → ∀ i, i < 64 → s.1 (k + 3) ((o + j) % 40 * 64 + i) = nI (P j i)
def BS (s : mw_S) (k : Nat) (σ : sS) : Prop := s.1 k 7 = nI σ.2.2.2 ∧ ∀ i, i < σ.2.2.2 → s.1 (k + 4) i = nI (σ.1 i) ∧ s.1 (k + 5) i = nI (σ.2.1 i) ∧ s.1 (k + 6) i = nI (σ.2.2.1 i)
theorem mw_c1 {s : mw_S} {a b sp dp n x y : Nat} : (mw_c s a b sp dp n).1 x y = if x = b ∧ dp ≤ y ∧ y < dp + n then s.1 a (sp + (y - dp)) else s.1 x y := rfl
theorem mod40 {x : Nat} : x - x / 40 * 40 = x % 40 := by omega
section
variable {X : mj_X} {d : Nat} {s : mw_S} {f : Nat → Nat} {σ : sS} {P : Nat → Nat → Nat} {a : Nat}
theorem c35 {m : Nat} (hm : m < 40) : mj_call X d 35 [.ref 3, .ref 5, .int (nI m)] (mw_U s) = some (.inl none, mw_U (mw_c s 4 5 0 (m * 64) 64)) := by
  have k3 := mw_c_3
  have r5 := mw_r_5
  have h1 : m * 64 + 64 ≤ 2560 := by omega
  have h2 : (m + 1) * 64 ≤ 2560 := by omega
  have h3 : ¬ 2560 < (m + 1) * 64 := by omega
  simp (disch := first | assumption | exact hf _ | omega) only [b35, b35_0, b35_4, b35_15, b35_30, nI_add, mn_mul, mn_sub, mn_m1, mn_m8, mn_eq, mn_lt, mn_le, mn_eq0, mn_0eq, mn_lt0, mn_0lt, mn_le0, mn_0le, mn_eqm, mn_meq, mn_ltm, mn_mlt, mn_lem, mn_mle, mn_mm1, mn_mm2, mn_mm3, mn_mm4, mn_mm5, mn_mm6, mn_and, mn_or, mn_an, mn_shl, mn_shr, mn_div, mn_rem, mn_clamp, mn_in, mn_inm, mn_nz, mn_zo, mn_min, mn_max, mn_abs, mn_rfit, mn_cp, mn_les, mn_gre, mn_a127, mn_a15, mn_a1, mn_a255, mn_tn0, mn_tn0e, mn_tnr, mn_tnz, mr_get, mr_ne, mr_put, mu_ne, mu_eq, mj_bk_i, mj_bk_v, mj_bk_x, decide_eq_true_eq, decide_true, decide_false, Bool.false_eq_true, Bool.true_eq_false, reduceCtorEq, mt_le_t, mt_le_f, mt_lt_t, mt_lt_f, mt_eq_t, mt_eq_f, mt_ee, not_true_eq_false, not_false_eq_true, and_true, true_and, and_self, Nat.zero_add, Nat.add_zero, Nat.one_mul, Nat.mul_one, Nat.reduceAdd, Nat.reduceMul, Nat.reduceSub, Nat.reducePow, Nat.reduceDiv, Nat.reduceMod, ↓reduceIte, h3]
theorem c46 {m : Nat} (hm : m < 40) : mj_call X d 46 [.ref 3, .ref 5, .int (nI m)] (mw_U s) = some (.inl none, mw_U (mw_c s 5 4 (m * 64) 0 64)) := by
  have k3 := mw_c_3
  have r5 := mw_r_5
  have h1 : m * 64 + 64 ≤ 2560 := by omega
  have h2 : (m + 1) * 64 ≤ 2560 := by omega
  have h3 : ¬ 2560 < (m + 1) * 64 := by omega
  simp (disch := first | assumption | exact hf _ | omega) only [b46, b46_0, b46_4, b46_15, b46_30, nI_add, mn_mul, mn_sub, mn_m1, mn_m8, mn_eq, mn_lt, mn_le, mn_eq0, mn_0eq, mn_lt0, mn_0lt, mn_le0, mn_0le, mn_eqm, mn_meq, mn_ltm, mn_mlt, mn_lem, mn_mle, mn_mm1, mn_mm2, mn_mm3, mn_mm4, mn_mm5, mn_mm6, mn_and, mn_or, mn_an, mn_shl, mn_shr, mn_div, mn_rem, mn_clamp, mn_in, mn_inm, mn_nz, mn_zo, mn_min, mn_max, mn_abs, mn_rfit, mn_cp, mn_les, mn_gre, mn_a127, mn_a15, mn_a1, mn_a255, mn_tn0, mn_tn0e, mn_tnr, mn_tnz, mr_get, mr_ne, mr_put, mu_ne, mu_eq, mj_bk_i, mj_bk_v, mj_bk_x, decide_eq_true_eq, decide_true, decide_false, Bool.false_eq_true, Bool.true_eq_false, reduceCtorEq, mt_le_t, mt_le_f, mt_lt_t, mt_lt_f, mt_eq_t, mt_eq_f, mt_ee, not_true_eq_false, not_false_eq_true, and_true, true_and, and_self, Nat.zero_add, Nat.add_zero, Nat.one_mul, Nat.mul_one, Nat.reduceAdd, Nat.reduceMul, Nat.reduceSub, Nat.reducePow, Nat.reduceDiv, Nat.reduceMod, ↓reduceIte, h3]
theorem c3 (hF : mr_is s 4 64 f) (hP : BP s 2 P a) : ∃ t, mj_call X (d + 1) 3 [.ref 2] (mw_U s) = some (.inl none, mw_U t) ∧ BP t 2 (pP P a f) (pA a) ∧ t.2 = s.2 ∧ (∀ c, ¬ c = 2 → ¬ c = 5 → t.1 c = s.1 c) ∧ t.1 2 7 = s.1 2 7 := by
  obtain ⟨h40, e3, o, ho, e2, hr⟩ := hP
  have k2 := mw_c_2
  have hm : (o + a) % 40 < 40 := Nat.mod_lt _ (by decide)
  unfold pP pA
  by_cases ha : a < 40
  · refine ⟨mw_p (mw_c s 4 5 0 ((o + a) % 40 * 64) 64) 2 3 (nI (a + 1)), ?_, ⟨?_, by rw [if_pos ha]; exact mw_peq, o, ho, ?_, ?_⟩, rfl, ?_, ?_⟩
    · have e3' : (mw_c s 4 5 0 ((o + a) % 40 * 64) 64).1 2 3 = nI a := e3
      rw [b3, b3_0 k2, e2, e3]
      simp (disch := first | assumption | exact hf _ | omega) only [b3, b3_0, b3_23, b3_32, b3_45, b3_58, nI_add, mn_mul, mn_sub, mn_m1, mn_m8, mn_eq, mn_lt, mn_le, mn_eq0, mn_0eq, mn_lt0, mn_0lt, mn_le0, mn_0le, mn_eqm, mn_meq, mn_ltm, mn_mlt, mn_lem, mn_mle, mn_mm1, mn_mm2, mn_mm3, mn_mm4, mn_mm5, mn_mm6, mn_and, mn_or, mn_an, mn_shl, mn_shr, mn_div, mn_rem, mn_clamp, mn_in, mn_inm, mn_nz, mn_zo, mn_min, mn_max, mn_abs, mn_rfit, mn_cp, mn_les, mn_gre, mn_a127, mn_a15, mn_a1, mn_a255, mn_tn0, mn_tn0e, mn_tnr, mn_tnz, mr_get, mr_ne, mr_put, mu_ne, mu_eq, mj_bk_i, mj_bk_v, mj_bk_x, decide_eq_true_eq, decide_true, decide_false, Bool.false_eq_true, Bool.true_eq_false, reduceCtorEq, mt_le_t, mt_le_f, mt_lt_t, mt_lt_f, mt_eq_t, mt_eq_f, mt_ee, not_true_eq_false, not_false_eq_true, and_true, true_and, and_self, Nat.zero_add, Nat.add_zero, Nat.one_mul, Nat.mul_one, Nat.reduceAdd, Nat.reduceMul, Nat.reduceSub, Nat.reducePow, Nat.reduceDiv, Nat.reduceMod, ↓reduceIte, mod40, c35 hm, e3', ha]
    · rw [if_pos ha]; omega
    · exact e2
    · intro j hj i hi
      rw [if_pos ha] at hj
      have hj40 : (o + j) % 40 < 40 := Nat.mod_lt _ (by decide)
      rw [mw_pne (by decide), mw_c1]
      dsimp only
      by_cases he : j = a
      · subst he
        rw [if_pos ⟨rfl, by omega, by omega⟩, if_pos ha, if_pos rfl, show 0 + ((o + j) % 40 * 64 + i - (o + j) % 40 * 64) = i by omega]
        exact hF i hi
      · rw [if_neg (fun z => by have := z.2; omega), if_pos ha, if_neg he]
        exact hr j (by omega) i hi
    · intro c h2 h5
      funext b
      show (if c = 2 ∧ _ then _ else (if c = 5 ∧ _ then _ else s.1 c b)) = s.1 c b
      rw [if_neg (fun z => h2 z.1), if_neg (fun z => h5 z.1)]
    · rfl
  · have ha : a = 40 := by omega
    subst ha
    have em : (o + 40) % 40 = o := by omega
    refine ⟨mw_p (mw_c s 4 5 0 (o * 64) 64) 2 2 (nI ((o + 1) % 40)), ?_, ⟨by decide, e3, (o + 1) % 40, Nat.mod_lt _ (by decide), mw_peq, ?_⟩, rfl, ?_, rfl⟩
    · have e3' : (mw_c s 4 5 0 (o * 64) 64).1 2 3 = nI 40 := e3
      have e2' : (mw_c s 4 5 0 (o * 64) 64).1 2 2 = nI o := e2
      rw [b3, b3_0 k2, e2, e3]
      simp (disch := first | assumption | exact hf _ | omega) only [b3, b3_0, b3_23, b3_32, b3_45, b3_58, nI_add, mn_mul, mn_sub, mn_m1, mn_m8, mn_eq, mn_lt, mn_le, mn_eq0, mn_0eq, mn_lt0, mn_0lt, mn_le0, mn_0le, mn_eqm, mn_meq, mn_ltm, mn_mlt, mn_lem, mn_mle, mn_mm1, mn_mm2, mn_mm3, mn_mm4, mn_mm5, mn_mm6, mn_and, mn_or, mn_an, mn_shl, mn_shr, mn_div, mn_rem, mn_clamp, mn_in, mn_inm, mn_nz, mn_zo, mn_min, mn_max, mn_abs, mn_rfit, mn_cp, mn_les, mn_gre, mn_a127, mn_a15, mn_a1, mn_a255, mn_tn0, mn_tn0e, mn_tnr, mn_tnz, mr_get, mr_ne, mr_put, mu_ne, mu_eq, mj_bk_i, mj_bk_v, mj_bk_x, decide_eq_true_eq, decide_true, decide_false, Bool.false_eq_true, Bool.true_eq_false, reduceCtorEq, mt_le_t, mt_le_f, mt_lt_t, mt_lt_f, mt_eq_t, mt_eq_f, mt_ee, not_true_eq_false, not_false_eq_true, and_true, true_and, and_self, Nat.zero_add, Nat.add_zero, Nat.one_mul, Nat.mul_one, Nat.reduceAdd, Nat.reduceMul, Nat.reduceSub, Nat.reducePow, Nat.reduceDiv, Nat.reduceMod, ↓reduceIte, mod40, em, c35 ho, e3', e2']
    · intro j hj i hi
      rw [if_neg (by omega)] at hj
      have hj40 : ((o + 1) % 40 + j) % 40 < 40 := Nat.mod_lt _ (by decide)
      rw [mw_pne (by decide), mw_c1]
      dsimp only
      rw [if_neg (show ¬ 40 < 40 by omega)]
      have ej : ((o + 1) % 40 + j) % 40 = (o + (j + 1)) % 40 := by omega
      rw [ej]
      by_cases he : j = 39
      · subst he
        rw [show o + (39 + 1) = o + 40 from rfl, em, if_pos ⟨rfl, by omega, by omega⟩, if_pos rfl, show 0 + (o * 64 + i - o * 64) = i by omega]
        exact hF i hi
      · rw [if_neg (fun z => by have := z.2; omega), if_neg he]
        exact hr (j + 1) (by omega) i hi
    · intro c h2 h5
      funext b
      show (if c = 2 ∧ _ then _ else (if c = 5 ∧ _ then _ else s.1 c b)) = s.1 c b
      rw [if_neg (fun z => h2 z.1), if_neg (fun z => h5 z.1)]
theorem c4z (hP : BP s 2 P 0) : mj_call X (d + 1) 4 [.ref 2] (mw_U s) = some (.inl (some (.int (-1))), mw_U s) := by
  have k2 := mw_c_2
  have e3 := hP.2.1
  simp (disch := first | assumption | exact hf _ | omega) only [b4, b4_0, b4_7, b4_9, b4_42, nI_add, mn_mul, mn_sub, mn_m1, mn_m8, mn_eq, mn_lt, mn_le, mn_eq0, mn_0eq, mn_lt0, mn_0lt, mn_le0, mn_0le, mn_eqm, mn_meq, mn_ltm, mn_mlt, mn_lem, mn_mle, mn_mm1, mn_mm2, mn_mm3, mn_mm4, mn_mm5, mn_mm6, mn_and, mn_or, mn_an, mn_shl, mn_shr, mn_div, mn_rem, mn_clamp, mn_in, mn_inm, mn_nz, mn_zo, mn_min, mn_max, mn_abs, mn_rfit, mn_cp, mn_les, mn_gre, mn_a127, mn_a15, mn_a1, mn_a255, mn_tn0, mn_tn0e, mn_tnr, mn_tnz, mr_get, mr_ne, mr_put, mu_ne, mu_eq, mj_bk_i, mj_bk_v, mj_bk_x, decide_eq_true_eq, decide_true, decide_false, Bool.false_eq_true, Bool.true_eq_false, reduceCtorEq, mt_le_t, mt_le_f, mt_lt_t, mt_lt_f, mt_eq_t, mt_eq_f, mt_ee, not_true_eq_false, not_false_eq_true, and_true, true_and, and_self, Nat.zero_add, Nat.add_zero, Nat.one_mul, Nat.mul_one, Nat.reduceAdd, Nat.reduceMul, Nat.reduceSub, Nat.reducePow, Nat.reduceDiv, Nat.reduceMod, ↓reduceIte, e3]
theorem c4 (ha : 0 < a) (hP : BP s 2 P a) : ∃ t, mj_call X (d + 1) 4 [.ref 2] (mw_U s) = some (.inl (some (.int (nI (a - 1)))), mw_U t) ∧ mr_is t 4 64 (P (a - 1)) ∧ BP t 2 P (a - 1) ∧ t.2 = s.2 ∧ (∀ c, ¬ c = 2 → ¬ c = 4 → t.1 c = s.1 c) ∧ t.1 2 7 = s.1 2 7 := by
  obtain ⟨h40, e3, o, ho, e2, hr⟩ := hP
  have k2 := mw_c_2
  have hm : (o + (a - 1)) % 40 < 40 := Nat.mod_lt _ (by decide)
  refine ⟨mw_c (mw_p s 2 3 (nI (a - 1))) 5 4 ((o + (a - 1)) % 40 * 64) 0 64, ?_, ?_, ⟨by omega, ?_, o, ho, ?_, ?_⟩, rfl, ?_, rfl⟩
  · have e3' : (mw_p s 2 3 (nI (a - 1))).1 2 3 = nI (a - 1) := mw_peq
    have e2' : (mw_p s 2 3 (nI (a - 1))).1 2 2 = nI o := e2
    have e4 : (mw_c (mw_p s 2 3 (nI (a - 1))) 5 4 ((o + (a - 1)) % 40 * 64) 0 64).1 2 3 = nI (a - 1) := (mw_c1.trans (if_neg (by decide))).trans mw_peq
    have h0 : ¬ a = 0 := by omega
    rw [b4, b4_0 k2, e3]
    simp (disch := first | assumption | exact hf _ | omega) only [b4, b4_0, b4_7, b4_9, b4_42, nI_add, mn_mul, mn_sub, mn_m1, mn_m8, mn_eq, mn_lt, mn_le, mn_eq0, mn_0eq, mn_lt0, mn_0lt, mn_le0, mn_0le, mn_eqm, mn_meq, mn_ltm, mn_mlt, mn_lem, mn_mle, mn_mm1, mn_mm2, mn_mm3, mn_mm4, mn_mm5, mn_mm6, mn_and, mn_or, mn_an, mn_shl, mn_shr, mn_div, mn_rem, mn_clamp, mn_in, mn_inm, mn_nz, mn_zo, mn_min, mn_max, mn_abs, mn_rfit, mn_cp, mn_les, mn_gre, mn_a127, mn_a15, mn_a1, mn_a255, mn_tn0, mn_tn0e, mn_tnr, mn_tnz, mr_get, mr_ne, mr_put, mu_ne, mu_eq, mj_bk_i, mj_bk_v, mj_bk_x, decide_eq_true_eq, decide_true, decide_false, Bool.false_eq_true, Bool.true_eq_false, reduceCtorEq, mt_le_t, mt_le_f, mt_lt_t, mt_lt_f, mt_eq_t, mt_eq_f, mt_ee, not_true_eq_false, not_false_eq_true, and_true, true_and, and_self, Nat.zero_add, Nat.add_zero, Nat.one_mul, Nat.mul_one, Nat.reduceAdd, Nat.reduceMul, Nat.reduceSub, Nat.reducePow, Nat.reduceDiv, Nat.reduceMod, ↓reduceIte, h0, e3, e3', e2', mod40, c46 hm, e4]
  · intro i hi
    rw [mw_c1, if_pos ⟨rfl, by omega, by omega⟩]
    exact hr (a - 1) (by omega) i hi
  · exact (mw_c1.trans (if_neg (by decide))).trans mw_peq
  · exact e2
  · intro j hj i hi
    exact hr j (by omega) i hi
  · intro c h2 h4
    funext b
    show (if c = 4 ∧ _ then _ else (if c = 2 ∧ _ then _ else s.1 c b)) = s.1 c b
    rw [if_neg (fun z => h4 z.1), if_neg (fun z => h2 z.1)]
theorem c2 {i : Nat} (hi : i < 3) : mj_call X d 2 [.ref 2, .int (nI i)] (mw_U s) = some (.inl (some (.int (-1))), mw_U (mw_p s 9 i (s.1 9 i + nI 1))) := by
  have k2 := mw_c_2
  simp (disch := first | assumption | exact hf _ | omega) only [b2, b2_0, b2_4, b2_9, b2_19, nI_add, mn_mul, mn_sub, mn_m1, mn_m8, mn_eq, mn_lt, mn_le, mn_eq0, mn_0eq, mn_lt0, mn_0lt, mn_le0, mn_0le, mn_eqm, mn_meq, mn_ltm, mn_mlt, mn_lem, mn_mle, mn_mm1, mn_mm2, mn_mm3, mn_mm4, mn_mm5, mn_mm6, mn_and, mn_or, mn_an, mn_shl, mn_shr, mn_div, mn_rem, mn_clamp, mn_in, mn_inm, mn_nz, mn_zo, mn_min, mn_max, mn_abs, mn_rfit, mn_cp, mn_les, mn_gre, mn_a127, mn_a15, mn_a1, mn_a255, mn_tn0, mn_tn0e, mn_tnr, mn_tnz, mr_get, mr_ne, mr_put, mu_ne, mu_eq, mj_bk_i, mj_bk_v, mj_bk_x, decide_eq_true_eq, decide_true, decide_false, Bool.false_eq_true, Bool.true_eq_false, reduceCtorEq, mt_le_t, mt_le_f, mt_lt_t, mt_lt_f, mt_eq_t, mt_eq_f, mt_ee, not_true_eq_false, not_false_eq_true, and_true, true_and, and_self, Nat.zero_add, Nat.add_zero, Nat.one_mul, Nat.mul_one, Nat.reduceAdd, Nat.reduceMul, Nat.reduceSub, Nat.reducePow, Nat.reduceDiv, Nat.reduceMod, ↓reduceIte]
theorem c5 : mj_call X d 5 [.ref 2] (mw_U s) = some (.inl none, mw_U (mw_p s 2 7 (nI 0))) := by
  have k2 := mw_c_2
  simp (disch := first | assumption | exact hf _ | omega) only [b5, b5_0, nI_add, mn_mul, mn_sub, mn_m1, mn_m8, mn_eq, mn_lt, mn_le, mn_eq0, mn_0eq, mn_lt0, mn_0lt, mn_le0, mn_0le, mn_eqm, mn_meq, mn_ltm, mn_mlt, mn_lem, mn_mle, mn_mm1, mn_mm2, mn_mm3, mn_mm4, mn_mm5, mn_mm6, mn_and, mn_or, mn_an, mn_shl, mn_shr, mn_div, mn_rem, mn_clamp, mn_in, mn_inm, mn_nz, mn_zo, mn_min, mn_max, mn_abs, mn_rfit, mn_cp, mn_les, mn_gre, mn_a127, mn_a15, mn_a1, mn_a255, mn_tn0, mn_tn0e, mn_tnr, mn_tnz, mr_get, mr_ne, mr_put, mu_ne, mu_eq, mj_bk_i, mj_bk_v, mj_bk_x, decide_eq_true_eq, decide_true, decide_false, Bool.false_eq_true, Bool.true_eq_false, reduceCtorEq, mt_le_t, mt_le_f, mt_lt_t, mt_lt_f, mt_eq_t, mt_eq_f, mt_ee, not_true_eq_false, not_false_eq_true, and_true, true_and, and_self, Nat.zero_add, Nat.add_zero, Nat.one_mul, Nat.mul_one, Nat.reduceAdd, Nat.reduceMul, Nat.reduceSub, Nat.reducePow, Nat.reduceDiv, Nat.reduceMod, ↓reduceIte]
theorem c8 : mj_call X d 8 [.ref 2] (mw_U s) = some (.inl (some (.int (s.1 2 3))), mw_U s) := by
  have k2 := mw_c_2
  simp (disch := first | assumption | exact hf _ | omega) only [b8, b8_0, nI_add, mn_mul, mn_sub, mn_m1, mn_m8, mn_eq, mn_lt, mn_le, mn_eq0, mn_0eq, mn_lt0, mn_0lt, mn_le0, mn_0le, mn_eqm, mn_meq, mn_ltm, mn_mlt, mn_lem, mn_mle, mn_mm1, mn_mm2, mn_mm3, mn_mm4, mn_mm5, mn_mm6, mn_and, mn_or, mn_an, mn_shl, mn_shr, mn_div, mn_rem, mn_clamp, mn_in, mn_inm, mn_nz, mn_zo, mn_min, mn_max, mn_abs, mn_rfit, mn_cp, mn_les, mn_gre, mn_a127, mn_a15, mn_a1, mn_a255, mn_tn0, mn_tn0e, mn_tnr, mn_tnz, mr_get, mr_ne, mr_put, mu_ne, mu_eq, mj_bk_i, mj_bk_v, mj_bk_x, decide_eq_true_eq, decide_true, decide_false, Bool.false_eq_true, Bool.true_eq_false, reduceCtorEq, mt_le_t, mt_le_f, mt_lt_t, mt_lt_f, mt_eq_t, mt_eq_f, mt_ee, not_true_eq_false, not_false_eq_true, and_true, true_and, and_self, Nat.zero_add, Nat.add_zero, Nat.one_mul, Nat.mul_one, Nat.reduceAdd, Nat.reduceMul, Nat.reduceSub, Nat.reducePow, Nat.reduceDiv, Nat.reduceMod, ↓reduceIte]
theorem c9 : mj_call X d 9 [.ref 2] (mw_U s) = some (.inl (some (.int (s.1 2 7))), mw_U s) := by
  have k2 := mw_c_2
  simp (disch := first | assumption | exact hf _ | omega) only [b9, b9_0, nI_add, mn_mul, mn_sub, mn_m1, mn_m8, mn_eq, mn_lt, mn_le, mn_eq0, mn_0eq, mn_lt0, mn_0lt, mn_le0, mn_0le, mn_eqm, mn_meq, mn_ltm, mn_mlt, mn_lem, mn_mle, mn_mm1, mn_mm2, mn_mm3, mn_mm4, mn_mm5, mn_mm6, mn_and, mn_or, mn_an, mn_shl, mn_shr, mn_div, mn_rem, mn_clamp, mn_in, mn_inm, mn_nz, mn_zo, mn_min, mn_max, mn_abs, mn_rfit, mn_cp, mn_les, mn_gre, mn_a127, mn_a15, mn_a1, mn_a255, mn_tn0, mn_tn0e, mn_tnr, mn_tnz, mr_get, mr_ne, mr_put, mu_ne, mu_eq, mj_bk_i, mj_bk_v, mj_bk_x, decide_eq_true_eq, decide_true, decide_false, Bool.false_eq_true, Bool.true_eq_false, reduceCtorEq, mt_le_t, mt_le_f, mt_lt_t, mt_lt_f, mt_eq_t, mt_eq_f, mt_ee, not_true_eq_false, not_false_eq_true, and_true, true_and, and_self, Nat.zero_add, Nat.add_zero, Nat.one_mul, Nat.mul_one, Nat.reduceAdd, Nat.reduceMul, Nat.reduceSub, Nat.reducePow, Nat.reduceDiv, Nat.reduceMod, ↓reduceIte]
theorem c10 {i : Nat} (hi : i < 3) : mj_call X d 10 [.ref 2, .int (nI i)] (mw_U s) = some (.inl (some (.int (s.1 9 i))), mw_U s) := by
  have k2 := mw_c_2
  have h2 : i ≤ 2 := by omega
  simp (disch := first | assumption | exact hf _ | omega) only [b10, b10_0, b10_4, b10_9, b10_13, b10_19, nI_add, mn_mul, mn_sub, mn_m1, mn_m8, mn_eq, mn_lt, mn_le, mn_eq0, mn_0eq, mn_lt0, mn_0lt, mn_le0, mn_0le, mn_eqm, mn_meq, mn_ltm, mn_mlt, mn_lem, mn_mle, mn_mm1, mn_mm2, mn_mm3, mn_mm4, mn_mm5, mn_mm6, mn_and, mn_or, mn_an, mn_shl, mn_shr, mn_div, mn_rem, mn_clamp, mn_in, mn_inm, mn_nz, mn_zo, mn_min, mn_max, mn_abs, mn_rfit, mn_cp, mn_les, mn_gre, mn_a127, mn_a15, mn_a1, mn_a255, mn_tn0, mn_tn0e, mn_tnr, mn_tnz, mr_get, mr_ne, mr_put, mu_ne, mu_eq, mj_bk_i, mj_bk_v, mj_bk_x, decide_eq_true_eq, decide_true, decide_false, Bool.false_eq_true, Bool.true_eq_false, reduceCtorEq, mt_le_t, mt_le_f, mt_lt_t, mt_lt_f, mt_eq_t, mt_eq_f, mt_ee, not_true_eq_false, not_false_eq_true, and_true, true_and, and_self, Nat.zero_add, Nat.add_zero, Nat.one_mul, Nat.mul_one, Nat.reduceAdd, Nat.reduceMul, Nat.reduceSub, Nat.reducePow, Nat.reduceDiv, Nat.reduceMod, ↓reduceIte]
theorem c7 {k1 : Nat} (hk1 : mw_cl k1 = some 3) (hR : mr_is s (k1 + 1) 64 f) : mj_call X (d + 1) 7 [.ref 2, .ref k1] (mw_U s) = some (.inl none, mw_U (mw_p (mw_p (mw_p (mr_set s 4 64 f) 2 2 (nI 0)) 2 3 (nI 0)) 2 7 (nI 0))) := by
  have k2 := mw_c_2
  have k3 := mw_c_3
  simp (disch := first | assumption | exact hf _ | omega) only [b7, b7_0, b7_8, nI_add, mn_mul, mn_sub, mn_m1, mn_m8, mn_eq, mn_lt, mn_le, mn_eq0, mn_0eq, mn_lt0, mn_0lt, mn_le0, mn_0le, mn_eqm, mn_meq, mn_ltm, mn_mlt, mn_lem, mn_mle, mn_mm1, mn_mm2, mn_mm3, mn_mm4, mn_mm5, mn_mm6, mn_and, mn_or, mn_an, mn_shl, mn_shr, mn_div, mn_rem, mn_clamp, mn_in, mn_inm, mn_nz, mn_zo, mn_min, mn_max, mn_abs, mn_rfit, mn_cp, mn_les, mn_gre, mn_a127, mn_a15, mn_a1, mn_a255, mn_tn0, mn_tn0e, mn_tnr, mn_tnz, mr_get, mr_ne, mr_put, mu_ne, mu_eq, mj_bk_i, mj_bk_v, mj_bk_x, decide_eq_true_eq, decide_true, decide_false, Bool.false_eq_true, Bool.true_eq_false, reduceCtorEq, mt_le_t, mt_le_f, mt_lt_t, mt_lt_f, mt_eq_t, mt_eq_f, mt_ee, not_true_eq_false, not_false_eq_true, and_true, true_and, and_self, Nat.zero_add, Nat.add_zero, Nat.one_mul, Nat.mul_one, Nat.reduceAdd, Nat.reduceMul, Nat.reduceSub, Nat.reducePow, Nat.reduceDiv, Nat.reduceMod, ↓reduceIte, c47 mw_c_3 hk1 hR]
def sadd (σ : sS) (i w h : Nat) : sS := (mr_u σ.1 σ.2.2.2 i, mr_u σ.2.1 σ.2.2.2 w, mr_u σ.2.2.1 σ.2.2.2 h, σ.2.2.2 + 1)
theorem c11 (hS : BS s 2 σ) (h8 : σ.2.2.2 < 8) {i w h : Nat} : ∃ t, mj_call X d 11 [.ref 2, .int (nI i), .int (nI w), .int (nI h)] (mw_U s) = some (.inl (some (.int (nI (σ.2.2.2 + 1)))), mw_U t) ∧ BS t 2 (sadd σ i w h) ∧ t.2 = s.2 ∧ (∀ c, ¬ c = 2 → ¬ c = 6 → ¬ c = 7 → ¬ c = 8 → t.1 c = s.1 c) ∧ (∀ b, ¬ b = 7 → t.1 2 b = s.1 2 b) := by
  have k2 := mw_c_2
  obtain ⟨e7, hr⟩ := hS
  have e4 : ∀ (n : Nat) (v : Int32), (mw_p s 6 n v).1 2 7 = nI σ.2.2.2 := fun n v => e7
  have e5 : ∀ (n m : Nat) (v w : Int32), (mw_p (mw_p s 6 n v) 7 m w).1 2 7 = nI σ.2.2.2 := fun _ _ _ _ => e7
  have e6 : ∀ (n m l : Nat) (v w u : Int32), (mw_p (mw_p (mw_p s 6 n v) 7 m w) 8 l u).1 2 7 = nI σ.2.2.2 := fun _ _ _ _ _ _ => e7
  refine ⟨mw_p (mw_p (mw_p (mw_p s 6 σ.2.2.2 (nI i)) 7 σ.2.2.2 (nI w)) 8 σ.2.2.2 (nI h)) 2 7 (nI (σ.2.2.2 + 1)), ?_, ⟨mw_peq, ?_⟩, rfl, ?_, ?_⟩
  · have e8 : (mw_p (mw_p (mw_p (mw_p s 6 σ.2.2.2 (nI i)) 7 σ.2.2.2 (nI w)) 8 σ.2.2.2 (nI h)) 2 7 (nI (σ.2.2.2 + 1))).1 2 7 = nI (σ.2.2.2 + 1) := mw_peq
    rw [b11, b11_0 k2, e7]
    simp (disch := first | assumption | exact hf _ | omega) only [b11, b11_0, b11_9, b11_49, nI_add, mn_mul, mn_sub, mn_m1, mn_m8, mn_eq, mn_lt, mn_le, mn_eq0, mn_0eq, mn_lt0, mn_0lt, mn_le0, mn_0le, mn_eqm, mn_meq, mn_ltm, mn_mlt, mn_lem, mn_mle, mn_mm1, mn_mm2, mn_mm3, mn_mm4, mn_mm5, mn_mm6, mn_and, mn_or, mn_an, mn_shl, mn_shr, mn_div, mn_rem, mn_clamp, mn_in, mn_inm, mn_nz, mn_zo, mn_min, mn_max, mn_abs, mn_rfit, mn_cp, mn_les, mn_gre, mn_a127, mn_a15, mn_a1, mn_a255, mn_tn0, mn_tn0e, mn_tnr, mn_tnz, mr_get, mr_ne, mr_put, mu_ne, mu_eq, mj_bk_i, mj_bk_v, mj_bk_x, decide_eq_true_eq, decide_true, decide_false, Bool.false_eq_true, Bool.true_eq_false, reduceCtorEq, mt_le_t, mt_le_f, mt_lt_t, mt_lt_f, mt_eq_t, mt_eq_f, mt_ee, not_true_eq_false, not_false_eq_true, and_true, true_and, and_self, Nat.zero_add, Nat.add_zero, Nat.one_mul, Nat.mul_one, Nat.reduceAdd, Nat.reduceMul, Nat.reduceSub, Nat.reducePow, Nat.reduceDiv, Nat.reduceMod, ↓reduceIte, e7, e4, e5, e6, e8]
  · intro j hj
    have hj : j < σ.2.2.2 + 1 := hj
    unfold sadd
    dsimp only
    simp only [mw_p1]
    by_cases he : j = σ.2.2.2
    · subst he
      simp [mr_u]
    · have := hr j (by omega)
      simpa [mr_u, he] using this
  · intro c h2 h6 h7 h8
    funext b
    simp only [mw_p1, h2, h6, h7, h8, false_and, if_false]
  · intro b hb
    simp only [mw_p1, hb, and_false, if_false, show ¬ (2 = 8) by decide, show ¬ (2 = 7) by decide, show ¬ (2 = 6) by decide, false_and]
theorem c12 (hS : BS s 2 σ) (hO : sOK σ) : mj_call X d 12 [.ref 2] (mw_U s) = some (.inl (some (.int (nI (lst σ)))), mw_U s) := by
  have k2 := mw_c_2
  obtain ⟨e7, hr⟩ := hS
  have h8 := hO.1
  rw [b12]
  simp (disch := first | assumption | exact hf _ | omega) only [b12_0]
  obtain ⟨hI, g, e⟩ := mr_for (E := fun i c (_ : Unit) => mj_exec X d 12 4 [some (.ref 2), some (.int (nI c)), some (.int (nI i))] [] (mw_U s)) (F := fun k c => max c (σ.2.1 k)) (I := fun _ c => c ≤ 20) (N := σ.2.2.2) (by
    intro i c _ hi hI
    have h20 := (hO.2 i hi).2.1
    have e5 := (hr i hi).2.1
    refine ⟨by omega, (), ?_⟩
    rw [b12_4 k2]
    simp (disch := first | assumption | exact hf _ | omega) only [b12, b12_0, b12_12, b12_18, b12_35, nI_add, mn_mul, mn_sub, mn_m1, mn_m8, mn_eq, mn_lt, mn_le, mn_eq0, mn_0eq, mn_lt0, mn_0lt, mn_le0, mn_0le, mn_eqm, mn_meq, mn_ltm, mn_mlt, mn_lem, mn_mle, mn_mm1, mn_mm2, mn_mm3, mn_mm4, mn_mm5, mn_mm6, mn_and, mn_or, mn_an, mn_shl, mn_shr, mn_div, mn_rem, mn_clamp, mn_in, mn_inm, mn_nz, mn_zo, mn_min, mn_max, mn_abs, mn_rfit, mn_cp, mn_les, mn_gre, mn_a127, mn_a15, mn_a1, mn_a255, mn_tn0, mn_tn0e, mn_tnr, mn_tnz, mr_get, mr_ne, mr_put, mu_ne, mu_eq, mj_bk_i, mj_bk_v, mj_bk_x, decide_eq_true_eq, decide_true, decide_false, Bool.false_eq_true, Bool.true_eq_false, reduceCtorEq, mt_le_t, mt_le_f, mt_lt_t, mt_lt_f, mt_eq_t, mt_eq_f, mt_ee, not_true_eq_false, not_false_eq_true, and_true, true_and, and_self, Nat.zero_add, Nat.add_zero, Nat.one_mul, Nat.mul_one, Nat.reduceAdd, Nat.reduceMul, Nat.reduceSub, Nat.reducePow, Nat.reduceDiv, Nat.reduceMod, ↓reduceIte, e7, e5]
  ) (a := 0) (by decide) () σ.2.2.2 (Nat.le_refl σ.2.2.2)
  refine e.trans ?_
  rw [b12_4 k2]
  simp (disch := first | assumption | exact hf _ | omega) only [b12, b12_0, b12_12, b12_18, b12_35, nI_add, mn_mul, mn_sub, mn_m1, mn_m8, mn_eq, mn_lt, mn_le, mn_eq0, mn_0eq, mn_lt0, mn_0lt, mn_le0, mn_0le, mn_eqm, mn_meq, mn_ltm, mn_mlt, mn_lem, mn_mle, mn_mm1, mn_mm2, mn_mm3, mn_mm4, mn_mm5, mn_mm6, mn_and, mn_or, mn_an, mn_shl, mn_shr, mn_div, mn_rem, mn_clamp, mn_in, mn_inm, mn_nz, mn_zo, mn_min, mn_max, mn_abs, mn_rfit, mn_cp, mn_les, mn_gre, mn_a127, mn_a15, mn_a1, mn_a255, mn_tn0, mn_tn0e, mn_tnr, mn_tnz, mr_get, mr_ne, mr_put, mu_ne, mu_eq, mj_bk_i, mj_bk_v, mj_bk_x, decide_eq_true_eq, decide_true, decide_false, Bool.false_eq_true, Bool.true_eq_false, reduceCtorEq, mt_le_t, mt_le_f, mt_lt_t, mt_lt_f, mt_eq_t, mt_eq_f, mt_ee, not_true_eq_false, not_false_eq_true, and_true, true_and, and_self, Nat.zero_add, Nat.add_zero, Nat.one_mul, Nat.mul_one, Nat.reduceAdd, Nat.reduceMul, Nat.reduceSub, Nat.reducePow, Nat.reduceDiv, Nat.reduceMod, ↓reduceIte, e7]
  rfl
def fits (g : Nat → Nat) (σ : sS) (w : Nat) : Bool := decide (∀ k, k < σ.2.2.2 → σ.2.1 k = w → fh g (σ.1 k) = σ.2.2.1 k)
theorem c13 {k1 w : Nat} {g : Nat → Nat} (hk1 : mw_cl k1 = some 3) (hR : mr_is s (k1 + 1) 64 g) (hg : ∀ j, g j < 2147483648) (hS : BS s 2 σ) (hO : sOK σ) (hw : w < 2147483648) : mj_call X (d + 1) 13 [.ref 2, .ref k1, .int (nI w)] (mw_U s) = some (.inl (some (.int (nI (fits g σ w).toNat))), mw_U s) := by
  have k2 := mw_c_2
  obtain ⟨e7, hr⟩ := hS
  have h8 := hO.1
  have srch := mr_srch (γ := Unit) (E := fun k _ => mj_exec X (d + 1) 13 2 [some (.ref 2), some (.ref k1), some (.int (nI w)), some (.int (nI k))] [] (mw_U s)) (P := fun k => decide (σ.2.1 k = w ∧ ¬ fh g (σ.1 k) = σ.2.2.1 k)) (I := fun _ _ => True) (N := σ.2.2.2) (by
    intro k _ hk hP _
    obtain ⟨e4, e5, e6⟩ := hr k hk
    obtain ⟨o1, o2, o3⟩ := hO.2 k hk
    have hh : fh g (σ.1 k) < 128 := Nat.mod_lt _ (by decide)
    have hP := of_decide_eq_false hP
    refine ⟨(), trivial, ?_⟩
    rw [b13_2 k2 hk1]
    by_cases q1 : σ.2.1 k = w
    · have q2 : fh g (σ.1 k) = σ.2.2.1 k := Classical.byContradiction (fun z => hP ⟨q1, z⟩)
      simp (disch := first | assumption | exact hf _ | omega) only [b13, b13_0, b13_10, b13_16, b13_26, b13_36, b13_45, b13_47, b13_53, nI_add, mn_mul, mn_sub, mn_m1, mn_m8, mn_eq, mn_lt, mn_le, mn_eq0, mn_0eq, mn_lt0, mn_0lt, mn_le0, mn_0le, mn_eqm, mn_meq, mn_ltm, mn_mlt, mn_lem, mn_mle, mn_mm1, mn_mm2, mn_mm3, mn_mm4, mn_mm5, mn_mm6, mn_and, mn_or, mn_an, mn_shl, mn_shr, mn_div, mn_rem, mn_clamp, mn_in, mn_inm, mn_nz, mn_zo, mn_min, mn_max, mn_abs, mn_rfit, mn_cp, mn_les, mn_gre, mn_a127, mn_a15, mn_a1, mn_a255, mn_tn0, mn_tn0e, mn_tnr, mn_tnz, mr_get, mr_ne, mr_put, mu_ne, mu_eq, mj_bk_i, mj_bk_v, mj_bk_x, decide_eq_true_eq, decide_true, decide_false, Bool.false_eq_true, Bool.true_eq_false, reduceCtorEq, mt_le_t, mt_le_f, mt_lt_t, mt_lt_f, mt_eq_t, mt_eq_f, mt_ee, not_true_eq_false, not_false_eq_true, and_true, true_and, and_self, Nat.zero_add, Nat.add_zero, Nat.one_mul, Nat.mul_one, Nat.reduceAdd, Nat.reduceMul, Nat.reduceSub, Nat.reducePow, Nat.reduceDiv, Nat.reduceMod, ↓reduceIte, e7, e4, e5, e6, q1, r37 hk1 hR hg o1, q2]
    · simp (disch := first | assumption | exact hf _ | omega) only [b13, b13_0, b13_10, b13_16, b13_26, b13_36, b13_45, b13_47, b13_53, nI_add, mn_mul, mn_sub, mn_m1, mn_m8, mn_eq, mn_lt, mn_le, mn_eq0, mn_0eq, mn_lt0, mn_0lt, mn_le0, mn_0le, mn_eqm, mn_meq, mn_ltm, mn_mlt, mn_lem, mn_mle, mn_mm1, mn_mm2, mn_mm3, mn_mm4, mn_mm5, mn_mm6, mn_and, mn_or, mn_an, mn_shl, mn_shr, mn_div, mn_rem, mn_clamp, mn_in, mn_inm, mn_nz, mn_zo, mn_min, mn_max, mn_abs, mn_rfit, mn_cp, mn_les, mn_gre, mn_a127, mn_a15, mn_a1, mn_a255, mn_tn0, mn_tn0e, mn_tnr, mn_tnz, mr_get, mr_ne, mr_put, mu_ne, mu_eq, mj_bk_i, mj_bk_v, mj_bk_x, decide_eq_true_eq, decide_true, decide_false, Bool.false_eq_true, Bool.true_eq_false, reduceCtorEq, mt_le_t, mt_le_f, mt_lt_t, mt_lt_f, mt_eq_t, mt_eq_f, mt_ee, not_true_eq_false, not_false_eq_true, and_true, true_and, and_self, Nat.zero_add, Nat.add_zero, Nat.one_mul, Nat.mul_one, Nat.reduceAdd, Nat.reduceMul, Nat.reduceSub, Nat.reducePow, Nat.reduceDiv, Nat.reduceMod, ↓reduceIte, e7, e4, e5, e6, q1]) (g := ()) trivial
  unfold fits
  rcases first_or (fun k => decide (σ.2.1 k = w ∧ ¬ fh g (σ.1 k) = σ.2.2.1 k)) σ.2.2.2 with ⟨k, hk, hP, hmin⟩ | hall
  · obtain ⟨_, -, e⟩ := srch k (by omega) hmin
    obtain ⟨q1, q2⟩ := of_decide_eq_true hP
    obtain ⟨e4, e5, e6⟩ := hr k hk
    obtain ⟨o1, o2, o3⟩ := hO.2 k hk
    have hh : fh g (σ.1 k) < 128 := Nat.mod_lt _ (by decide)
    rw [decide_eq_false (fun z => q2 (z k hk q1)), b13, b13_0 k2 hk1]
    refine e.trans ?_
    rw [b13_2 k2 hk1]
    simp (disch := first | assumption | exact hf _ | omega) only [b13, b13_0, b13_10, b13_16, b13_26, b13_36, b13_45, b13_47, b13_53, nI_add, mn_mul, mn_sub, mn_m1, mn_m8, mn_eq, mn_lt, mn_le, mn_eq0, mn_0eq, mn_lt0, mn_0lt, mn_le0, mn_0le, mn_eqm, mn_meq, mn_ltm, mn_mlt, mn_lem, mn_mle, mn_mm1, mn_mm2, mn_mm3, mn_mm4, mn_mm5, mn_mm6, mn_and, mn_or, mn_an, mn_shl, mn_shr, mn_div, mn_rem, mn_clamp, mn_in, mn_inm, mn_nz, mn_zo, mn_min, mn_max, mn_abs, mn_rfit, mn_cp, mn_les, mn_gre, mn_a127, mn_a15, mn_a1, mn_a255, mn_tn0, mn_tn0e, mn_tnr, mn_tnz, mr_get, mr_ne, mr_put, mu_ne, mu_eq, mj_bk_i, mj_bk_v, mj_bk_x, decide_eq_true_eq, decide_true, decide_false, Bool.false_eq_true, Bool.true_eq_false, reduceCtorEq, mt_le_t, mt_le_f, mt_lt_t, mt_lt_f, mt_eq_t, mt_eq_f, mt_ee, not_true_eq_false, not_false_eq_true, and_true, true_and, and_self, Nat.zero_add, Nat.add_zero, Nat.one_mul, Nat.mul_one, Nat.reduceAdd, Nat.reduceMul, Nat.reduceSub, Nat.reducePow, Nat.reduceDiv, Nat.reduceMod, ↓reduceIte, e7, e4, e5, e6, q1, r37 hk1 hR hg o1, q2]
    rfl
  · obtain ⟨_, -, e⟩ := srch σ.2.2.2 (Nat.le_refl _) hall
    rw [decide_eq_true (fun k hk q1 => Classical.byContradiction (fun z => of_decide_eq_false (hall k hk) ⟨q1, z⟩)), b13, b13_0 k2 hk1]
    refine e.trans ?_
    rw [b13_2 k2 hk1]
    simp (disch := first | assumption | exact hf _ | omega) only [b13, b13_0, b13_10, b13_16, b13_26, b13_36, b13_45, b13_47, b13_53, nI_add, mn_mul, mn_sub, mn_m1, mn_m8, mn_eq, mn_lt, mn_le, mn_eq0, mn_0eq, mn_lt0, mn_0lt, mn_le0, mn_0le, mn_eqm, mn_meq, mn_ltm, mn_mlt, mn_lem, mn_mle, mn_mm1, mn_mm2, mn_mm3, mn_mm4, mn_mm5, mn_mm6, mn_and, mn_or, mn_an, mn_shl, mn_shr, mn_div, mn_rem, mn_clamp, mn_in, mn_inm, mn_nz, mn_zo, mn_min, mn_max, mn_abs, mn_rfit, mn_cp, mn_les, mn_gre, mn_a127, mn_a15, mn_a1, mn_a255, mn_tn0, mn_tn0e, mn_tnr, mn_tnz, mr_get, mr_ne, mr_put, mu_ne, mu_eq, mj_bk_i, mj_bk_v, mj_bk_x, decide_eq_true_eq, decide_true, decide_false, Bool.false_eq_true, Bool.true_eq_false, reduceCtorEq, mt_le_t, mt_le_f, mt_lt_t, mt_lt_f, mt_eq_t, mt_eq_f, mt_ee, not_true_eq_false, not_false_eq_true, and_true, true_and, and_self, Nat.zero_add, Nat.add_zero, Nat.one_mul, Nat.mul_one, Nat.reduceAdd, Nat.reduceMul, Nat.reduceSub, Nat.reducePow, Nat.reduceDiv, Nat.reduceMod, ↓reduceIte, e7]
    rfl
theorem fits_aw {Q : rQ} {w : Nat} : fits (fwks Q f w) σ w = aw Q f σ w := rfl
end
section
variable {X : mj_X} {d : Nat} {s : mw_S} {f : Nat → Nat} {σ : sS} {P : Nat → Nat → Nat} {a : Nat}
/-- all of Books: the row, the acts, what is seen, the refusals -/
def BA (s : mw_S) (k : Nat) (f : Nat → Nat) (P : Nat → Nat → Nat) (a : Nat) (σ : sS) (st : Nat → Int32) : Prop := mr_is s (k + 2) 64 f ∧ BP s k P a ∧ BS s k σ ∧ ∀ i, i < 3 → s.1 (k + 7) i = st i
theorem c6 {k k1 : Nat} (hk : (k = 2 ∧ k1 = 10) ∨ (k = 10 ∧ k1 = 2)) {st : Nat → Int32} (h : BA s k1 f P a σ st) (h8 : σ.2.2.2 ≤ 8) : ∃ t, mj_call X (d + 1) 6 [.ref k, .ref k1] (mw_U s) = some (.inl none, mw_U t) ∧ BA t k f P a σ st ∧ t.2 = s.2 ∧ (∀ c, c < k ∨ k + 7 < c → t.1 c = s.1 c) := by
  obtain ⟨h1, ⟨h40, e3, o, ho, e2, hr⟩, ⟨e7, hs⟩, ht⟩ := h
  have k2 := mw_c_2
  have k10 := mw_c_10
  have k3 := mw_c_3
  have k11 := mw_c_11
  have n0 : (nI 0).toNatClampNeg = 0 := mn_clamp (by decide)
  have n3 : (nI 3).toNatClampNeg = 3 := mn_clamp (by decide)
  have n8 : (nI 8).toNatClampNeg = 8 := mn_clamp (by decide)
  have nb : (nI 2560).toNatClampNeg = 2560 := mn_clamp (by decide)
  have q1 : mw_cp 2560 2560 (nI 0) (nI 0) (nI 2560) = true := by decide
  have q2 : mw_cp 8 8 (nI 0) (nI 0) (nI 8) = true := by decide
  have q3 : mw_cp 3 3 (nI 0) (nI 0) (nI 3) = true := by decide
  rcases hk with ⟨rfl, rfl⟩ | ⟨rfl, rfl⟩
  · have e0 : mj_call X (d + 1) 6 [.ref 2, .ref 10] (mw_U s) = mj_exec X (d + 1) 6 11 [some (.ref 2), some (.ref 10)] [] (mw_U (mr_set s 4 64 f)) := by
      rw [b6, b6_0 k2 k10, c47 mw_c_3 mw_c_11 h1, mj_bk_v]
    have e := b6_11 (X := X) (d := d + 1) (s := mr_set s 4 64 f) k2 k10
    rw [n0, n3, n8, nb, if_pos q1, if_pos q2, if_pos q2, if_pos q2, if_pos q3] at e
    refine ⟨_, e0.trans e, ?_⟩
    · refine ⟨⟨?_, ⟨h40, ?_, o, ho, ?_, ?_⟩, ⟨?_, ?_⟩, ?_⟩, rfl, ?_⟩
      · intro j hj
        simp [mw_c1, mw_p1, mr_set, hj]
      · simpa [mw_c1, mw_p1, mr_set] using e3
      · simpa [mw_c1, mw_p1, mr_set] using e2
      · intro j hj i hi
        have := hr j hj i hi
        have hb : (o + j) % 40 * 64 + i < 2560 := by have : (o + j) % 40 < 40 := Nat.mod_lt _ (by decide); omega
        simpa [mw_c1, mw_p1, mr_set, hb] using this
      · simpa [mw_c1, mw_p1, mr_set] using e7
      · intro i hi
        have := hs i hi
        have hb : i < 8 := by omega
        simpa [mw_c1, mw_p1, mr_set, hb] using this
      · intro i hi
        have := ht i hi
        simpa [mw_c1, mw_p1, mr_set, hi] using this
      · intro c hc
        have : ¬ c = 2 ∧ ¬ c = 4 ∧ ¬ c = 5 ∧ ¬ c = 6 ∧ ¬ c = 7 ∧ ¬ c = 8 ∧ ¬ c = 9 := by omega
        funext b
        simp [mw_c1, mw_p1, mr_set, this]
  · have e0 : mj_call X (d + 1) 6 [.ref 10, .ref 2] (mw_U s) = mj_exec X (d + 1) 6 11 [some (.ref 10), some (.ref 2)] [] (mw_U (mr_set s 12 64 f)) := by
      rw [b6, b6_0 k10 k2, c47 mw_c_11 mw_c_3 h1, mj_bk_v]
    have e := b6_11 (X := X) (d := d + 1) (s := mr_set s 12 64 f) k10 k2
    rw [n0, n3, n8, nb, if_pos q1, if_pos q2, if_pos q2, if_pos q2, if_pos q3] at e
    refine ⟨_, e0.trans e, ?_⟩
    · refine ⟨⟨?_, ⟨h40, ?_, o, ho, ?_, ?_⟩, ⟨?_, ?_⟩, ?_⟩, rfl, ?_⟩
      · intro j hj
        simp [mw_c1, mw_p1, mr_set, hj]
      · simpa [mw_c1, mw_p1, mr_set] using e3
      · simpa [mw_c1, mw_p1, mr_set] using e2
      · intro j hj i hi
        have := hr j hj i hi
        have hb : (o + j) % 40 * 64 + i < 2560 := by have : (o + j) % 40 < 40 := Nat.mod_lt _ (by decide); omega
        simpa [mw_c1, mw_p1, mr_set, hb] using this
      · simpa [mw_c1, mw_p1, mr_set] using e7
      · intro i hi
        have := hs i hi
        have hb : i < 8 := by omega
        simpa [mw_c1, mw_p1, mr_set, hb] using this
      · intro i hi
        have := ht i hi
        simpa [mw_c1, mw_p1, mr_set, hi] using this
      · intro c hc
        have : ¬ c = 10 ∧ ¬ c = 12 ∧ ¬ c = 13 ∧ ¬ c = 14 ∧ ¬ c = 15 ∧ ¬ c = 16 ∧ ¬ c = 17 := by omega
        funext b
        simp [mw_c1, mw_p1, mr_set, this]
end
