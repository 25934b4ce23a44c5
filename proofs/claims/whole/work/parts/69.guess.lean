/-! Guesses: who may be otherwise -/
theorem BS_kg {s t : mw_S} {σ : sS} (h : BS s 2 σ) (hg : kg s t) : BS t 2 σ := by
  have h1 := hg.2.2 2 (by unfold kM; omega)
  have h2 := hg.2.2 6 (by unfold kM; omega)
  have h3 := hg.2.2 7 (by unfold kM; omega)
  have h4 := hg.2.2 8 (by unfold kM; omega)
  refine ⟨by rw [h1]; exact h.1, fun i hi => ?_⟩
  have := h.2 i hi
  rw [show 2 + 4 = 6 from rfl, show 2 + 5 = 7 from rfl, show 2 + 6 = 8 from rfl] at this ⊢
  rw [h2, h3, h4]
  exact this
theorem kg_36 {s t : mw_S} {g : Nat → Nat} (h : kg s t) : kg s (mr_set t 36 64 g) := kg_trans h (kg_mg (P := fun a => a = 36) (mg_set mg_refl rfl) (fun a ha => by unfold kM; omega))
theorem mod10 {x : Nat} : x - x / 10 * 10 = x % 10 := by omega
theorem nar0 : vp_nar .boolean (nI 0) = nI 0 := by decide
theorem nar1 : vp_nar .boolean (nI 1) = nI 1 := by decide
def m36 (a : Nat) : Prop := a = 20 ∨ a = 21 ∨ a = 36
theorem m36k : ∀ a, m36 a → kM a := fun a h => by unfold m36 at h; unfold kM; omega
section
variable {X : mj_X} {d : Nat} {s : mw_S} {f : Nat → Nat} {σ : sS} {Q : rQ} {L : Nat}
theorem c80 (hF : mr_is s 4 64 f) (hf : ∀ j, f j < 2147483648) {g : Nat} (hg : g < 80) : mj_call X (d + 2) 80 [.ref 34, .ref 3, .int (nI g)] (mw_U s) = some (.inl none, mw_U (mr_set s 36 64 (mr_u f (g / 10) (g % 10)))) := by
  have k3 := mw_c_3
  have k35 := mw_c_35
  have h1 : g / 10 < 8 := by omega
  simp (disch := first | assumption | exact hf _ | omega) only [b80, b80_0, b80_8, b80_12, b80_18, b80_33, nI_add, mn_mul, mn_sub, mn_m1, mn_m8, mn_eq, mn_lt, mn_le, mn_eq0, mn_0eq, mn_lt0, mn_0lt, mn_le0, mn_0le, mn_eqm, mn_meq, mn_ltm, mn_mlt, mn_lem, mn_mle, mn_mm1, mn_mm2, mn_mm3, mn_mm4, mn_mm5, mn_mm6, mn_and, mn_or, mn_an, mn_shl, mn_shr, mn_div, mn_rem, mn_clamp, mn_in, mn_inm, mn_nz, mn_zo, mn_min, mn_max, mn_abs, mn_rfit, mn_cp, mn_les, mn_gre, mn_a127, mn_a15, mn_a1, mn_a255, mn_tn0, mn_tn0e, mn_tnr, mn_tnz, mr_get, mr_ne, mr_put, mu_ne, mu_eq, mj_bk_i, mj_bk_v, mj_bk_x, decide_eq_true_eq, decide_true, decide_false, Bool.false_eq_true, Bool.true_eq_false, reduceCtorEq, mt_le_t, mt_le_f, mt_lt_t, mt_lt_f, mt_eq_t, mt_eq_f, mt_ee, not_true_eq_false, not_false_eq_true, and_true, true_and, and_self, Nat.zero_add, Nat.add_zero, Nat.one_mul, Nat.mul_one, Nat.reduceAdd, Nat.reduceMul, Nat.reduceSub, Nat.reducePow, Nat.reduceDiv, Nat.reduceMod, ↓reduceIte, c47 mw_c_35 k3 hF, c77 k35 hf h1, mod10]
theorem c80m (hF : mr_is s 4 64 f) : mj_call X (d + 2) 80 [.ref 34, .ref 3, .int (-1)] (mw_U s) = some (.inl none, mw_U (mr_set s 36 64 f)) := by
  have k3 := mw_c_3
  have k35 := mw_c_35
  simp (disch := first | assumption | exact hf _ | omega) only [b80, b80_0, b80_8, b80_12, b80_18, b80_33, nI_add, mn_mul, mn_sub, mn_m1, mn_m8, mn_eq, mn_lt, mn_le, mn_eq0, mn_0eq, mn_lt0, mn_0lt, mn_le0, mn_0le, mn_eqm, mn_meq, mn_ltm, mn_mlt, mn_lem, mn_mle, mn_mm1, mn_mm2, mn_mm3, mn_mm4, mn_mm5, mn_mm6, mn_and, mn_or, mn_an, mn_shl, mn_shr, mn_div, mn_rem, mn_clamp, mn_in, mn_inm, mn_nz, mn_zo, mn_min, mn_max, mn_abs, mn_rfit, mn_cp, mn_les, mn_gre, mn_a127, mn_a15, mn_a1, mn_a255, mn_tn0, mn_tn0e, mn_tnr, mn_tnz, mr_get, mr_ne, mr_put, mu_ne, mu_eq, mj_bk_i, mj_bk_v, mj_bk_x, decide_eq_true_eq, decide_true, decide_false, Bool.false_eq_true, Bool.true_eq_false, reduceCtorEq, mt_le_t, mt_le_f, mt_lt_t, mt_lt_f, mt_eq_t, mt_eq_f, mt_ee, not_true_eq_false, not_false_eq_true, and_true, true_and, and_self, Nat.zero_add, Nat.add_zero, Nat.one_mul, Nat.mul_one, Nat.reduceAdd, Nat.reduceMul, Nat.reduceSub, Nat.reducePow, Nat.reduceDiv, Nat.reduceMod, ↓reduceIte, c47 mw_c_35 k3 hF]
theorem c79 {x : Int32} {f' : Nat → Nat} (h80 : ∀ d, mj_call X (d + 2) 80 [.ref 34, .ref 3, .int x] (mw_U s) = some (.inl none, mw_U (mr_set s 36 64 f'))) (hw : wf f' L) (h54 : f' 54 ≤ 999) (hq : rC s 18 Q) (ho : rOK Q) (hS : BS s 2 σ) (hO : sOK σ) : ∃ t, mj_call X (d + 6) 79 [.ref 34, .ref 2, .ref 18, .int x] (mw_U s) = some (.inl (some (.int (nI (asB Q f' σ).toNat))), mw_U t) ∧ mg s t m36 := by
  have k2 := mw_c_2
  have k3 := mw_c_3
  have k18 := mw_c_18
  have k35 := mw_c_35
  have hl := lst_le hO
  have hS' : BS (mr_set s 36 64 f') 2 σ := BS_kg hS (kg_36 kg_refl)
  have kk : ∀ {t : mw_S}, mg s t m36 → kg s t := fun h => kg_mg h m36k
  have m6 : ∀ {t : mw_S} {g : Nat → Nat}, mg s t m36 → mg s (mr_set t 36 64 g) m36 := fun h => mg_set h (Or.inr (Or.inr rfl))
  have step : ∀ (k : Nat) (t : mw_S), k ≤ 20 → mg s t m36 → ∃ t', mg s t' m36 ∧ mj_exec X (d + 6) 79 25 [some (.ref 34), some (.ref 2), some (.ref 18), some (.int x), some (.int (nI (lst σ))), some (.int (nI k))] [] (mw_U (mr_set t 36 64 (fwks Q f' (k - 1)))) = mj_exec X (d + 6) 79 49 [some (.ref 34), some (.ref 2), some (.ref 18), some (.int x), some (.int (nI (lst σ))), some (.int (nI k))] [.int (nI (aw Q f' σ k).toNat)] (mw_U (mr_set t' 36 64 (fwks Q f' k))) := by
    intro k t hk ht
    have hwk := wf_wks (Q := Q) hw k (by omega)
    cases k with
    | zero =>
      refine ⟨t, ht, ?_⟩
      have e13 := c13 (X := X) (d := d + 4) (s := mr_set t 36 64 (fwks Q f' 0)) (k1 := 35) (w := 0) k35 mr_is_set (wf_lt hwk) (BS_kg hS (kk (m6 ht))) hO (by omega)
      rw [fits_aw] at e13
      simp (disch := first | assumption | exact hf _ | omega) only [b79, b79_0, b79_5, b79_9, b79_13, b79_25, b79_30, b79_39, b79_49, b79_52, b79_54, b79_60, nI_add, mn_mul, mn_sub, mn_m1, mn_m8, mn_eq, mn_lt, mn_le, mn_eq0, mn_0eq, mn_lt0, mn_0lt, mn_le0, mn_0le, mn_eqm, mn_meq, mn_ltm, mn_mlt, mn_lem, mn_mle, mn_mm1, mn_mm2, mn_mm3, mn_mm4, mn_mm5, mn_mm6, mn_and, mn_or, mn_an, mn_shl, mn_shr, mn_div, mn_rem, mn_clamp, mn_in, mn_inm, mn_nz, mn_zo, mn_min, mn_max, mn_abs, mn_rfit, mn_cp, mn_les, mn_gre, mn_a127, mn_a15, mn_a1, mn_a255, mn_tn0, mn_tn0e, mn_tnr, mn_tnz, mr_get, mr_ne, mr_put, mu_ne, mu_eq, mj_bk_i, mj_bk_v, mj_bk_x, decide_eq_true_eq, decide_true, decide_false, Bool.false_eq_true, Bool.true_eq_false, reduceCtorEq, mt_le_t, mt_le_f, mt_lt_t, mt_lt_f, mt_eq_t, mt_eq_f, mt_ee, not_true_eq_false, not_false_eq_true, and_true, true_and, and_self, Nat.zero_add, Nat.add_zero, Nat.one_mul, Nat.mul_one, Nat.reduceAdd, Nat.reduceMul, Nat.reduceSub, Nat.reducePow, Nat.reduceDiv, Nat.reduceMod, ↓reduceIte, e13]
    | succ k =>
      have hwk0 := wf_wks (Q := Q) hw k (by omega)
      obtain ⟨t2, e2, g2⟩ := c112 (X := X) (d := d + 1) (s := t) (f := fwks Q f' k) k35 hwk0 (rC_kg hq (kk ht)) ho (n := 1) (by rw [fwks_54]; omega)
      rw [show fwks Q (fwks Q f' k) 1 = fwks Q f' (k + 1) from rfl] at e2
      have ht2 : mg s t2 m36 := mg_trans ht (mg_mono g2 (fun a ha => by unfold m36; omega))
      refine ⟨t2, ht2, ?_⟩
      have e13 := c13 (X := X) (d := d + 4) (s := mr_set t2 36 64 (fwks Q f' (k + 1))) (k1 := 35) (w := k + 1) k35 mr_is_set (wf_lt hwk) (BS_kg hS (kk (m6 ht2))) hO (by omega)
      rw [fits_aw] at e13
      rw [Nat.add_sub_cancel]
      simp (disch := first | assumption | exact hf _ | omega) only [b79, b79_0, b79_5, b79_9, b79_13, b79_25, b79_30, b79_39, b79_49, b79_52, b79_54, b79_60, nI_add, mn_mul, mn_sub, mn_m1, mn_m8, mn_eq, mn_lt, mn_le, mn_eq0, mn_0eq, mn_lt0, mn_0lt, mn_le0, mn_0le, mn_eqm, mn_meq, mn_ltm, mn_mlt, mn_lem, mn_mle, mn_mm1, mn_mm2, mn_mm3, mn_mm4, mn_mm5, mn_mm6, mn_and, mn_or, mn_an, mn_shl, mn_shr, mn_div, mn_rem, mn_clamp, mn_in, mn_inm, mn_nz, mn_zo, mn_min, mn_max, mn_abs, mn_rfit, mn_cp, mn_les, mn_gre, mn_a127, mn_a15, mn_a1, mn_a255, mn_tn0, mn_tn0e, mn_tnr, mn_tnz, mr_get, mr_ne, mr_put, mu_ne, mu_eq, mj_bk_i, mj_bk_v, mj_bk_x, decide_eq_true_eq, decide_true, decide_false, Bool.false_eq_true, Bool.true_eq_false, reduceCtorEq, mt_le_t, mt_le_f, mt_lt_t, mt_lt_f, mt_eq_t, mt_eq_f, mt_ee, not_true_eq_false, not_false_eq_true, and_true, true_and, and_self, Nat.zero_add, Nat.add_zero, Nat.one_mul, Nat.mul_one, Nat.reduceAdd, Nat.reduceMul, Nat.reduceSub, Nat.reducePow, Nat.reduceDiv, Nat.reduceMod, ↓reduceIte, e2, e13]
  have srch := mr_srch (γ := mw_S) (E := fun k t => mj_exec X (d + 6) 79 18 [some (.ref 34), some (.ref 2), some (.ref 18), some (.int x), some (.int (nI (lst σ))), some (.int (nI k))] [] (mw_U (mr_set t 36 64 (fwks Q f' (k - 1))))) (P := fun k => !aw Q f' σ k) (I := fun _ t => mg s t m36) (N := lst σ + 1) (by
    intro k t hk hP ht
    obtain ⟨t', h', e'⟩ := step k t (by omega) ht
    refine ⟨t', h', ?_⟩
    have hP : aw Q f' σ k = true := by simpa using hP
    have hle : ¬ nI (lst σ) < nI k := by rw [mn_lt (by omega) (by omega)]; omega
    rw [b79_18 k2 k18, if_neg hle, e', hP, Nat.add_sub_cancel]
    simp (disch := first | assumption | exact hf _ | omega) only [b79, b79_0, b79_5, b79_9, b79_13, b79_25, b79_30, b79_39, b79_49, b79_52, b79_54, b79_60, nI_add, mn_mul, mn_sub, mn_m1, mn_m8, mn_eq, mn_lt, mn_le, mn_eq0, mn_0eq, mn_lt0, mn_0lt, mn_le0, mn_0le, mn_eqm, mn_meq, mn_ltm, mn_mlt, mn_lem, mn_mle, mn_mm1, mn_mm2, mn_mm3, mn_mm4, mn_mm5, mn_mm6, mn_and, mn_or, mn_an, mn_shl, mn_shr, mn_div, mn_rem, mn_clamp, mn_in, mn_inm, mn_nz, mn_zo, mn_min, mn_max, mn_abs, mn_rfit, mn_cp, mn_les, mn_gre, mn_a127, mn_a15, mn_a1, mn_a255, mn_tn0, mn_tn0e, mn_tnr, mn_tnz, mr_get, mr_ne, mr_put, mu_ne, mu_eq, mj_bk_i, mj_bk_v, mj_bk_x, decide_eq_true_eq, decide_true, decide_false, Bool.false_eq_true, Bool.true_eq_false, reduceCtorEq, mt_le_t, mt_le_f, mt_lt_t, mt_lt_f, mt_eq_t, mt_eq_f, mt_ee, not_true_eq_false, not_false_eq_true, and_true, true_and, and_self, Nat.zero_add, Nat.add_zero, Nat.one_mul, Nat.mul_one, Nat.reduceAdd, Nat.reduceMul, Nat.reduceSub, Nat.reducePow, Nat.reduceDiv, Nat.reduceMod, ↓reduceIte, Bool.toNat_true]) (g := s) mg_refl
  have start : mj_call X (d + 6) 79 [.ref 34, .ref 2, .ref 18, .int x] (mw_U s) = mj_exec X (d + 6) 79 18 [some (.ref 34), some (.ref 2), some (.ref 18), some (.int x), some (.int (nI (lst σ))), some (.int (nI 0))] [] (mw_U (mr_set s 36 64 f')) := by
    simp (disch := first | assumption | exact hf _ | omega) only [b79, b79_0, b79_5, b79_9, b79_13, b79_25, b79_30, b79_39, b79_49, b79_52, b79_54, b79_60, nI_add, mn_mul, mn_sub, mn_m1, mn_m8, mn_eq, mn_lt, mn_le, mn_eq0, mn_0eq, mn_lt0, mn_0lt, mn_le0, mn_0le, mn_eqm, mn_meq, mn_ltm, mn_mlt, mn_lem, mn_mle, mn_mm1, mn_mm2, mn_mm3, mn_mm4, mn_mm5, mn_mm6, mn_and, mn_or, mn_an, mn_shl, mn_shr, mn_div, mn_rem, mn_clamp, mn_in, mn_inm, mn_nz, mn_zo, mn_min, mn_max, mn_abs, mn_rfit, mn_cp, mn_les, mn_gre, mn_a127, mn_a15, mn_a1, mn_a255, mn_tn0, mn_tn0e, mn_tnr, mn_tnz, mr_get, mr_ne, mr_put, mu_ne, mu_eq, mj_bk_i, mj_bk_v, mj_bk_x, decide_eq_true_eq, decide_true, decide_false, Bool.false_eq_true, Bool.true_eq_false, reduceCtorEq, mt_le_t, mt_le_f, mt_lt_t, mt_lt_f, mt_eq_t, mt_eq_f, mt_ee, not_true_eq_false, not_false_eq_true, and_true, true_and, and_self, Nat.zero_add, Nat.add_zero, Nat.one_mul, Nat.mul_one, Nat.reduceAdd, Nat.reduceMul, Nat.reduceSub, Nat.reducePow, Nat.reduceDiv, Nat.reduceMod, ↓reduceIte, c1, h80, c12 hS' hO]
  rw [start]
  rcases first_or (fun k => !aw Q f' σ k) (lst σ + 1) with ⟨k, hk, hP, hmin⟩ | hall
  · obtain ⟨t2, ht2, e2⟩ := srch k (by omega) hmin
    obtain ⟨t', h', e'⟩ := step k t2 (by omega) ht2
    have hP : aw Q f' σ k = false := by simpa using hP
    have ha : asB Q f' σ = false := by
      cases h : asB Q f' σ
      · rfl
      · rw [asB_w.1 h k hk] at hP; cases hP
    refine ⟨_, ?_, m6 (g := fwks Q f' k) h'⟩
    refine e2.trans ?_
    have hle : ¬ nI (lst σ) < nI k := by rw [mn_lt (by omega) (by omega)]; omega
    rw [b79_18 k2 k18, if_neg hle, e', hP, ha]
    simp (disch := first | assumption | exact hf _ | omega) only [b79, b79_0, b79_5, b79_9, b79_13, b79_25, b79_30, b79_39, b79_49, b79_52, b79_54, b79_60, nI_add, mn_mul, mn_sub, mn_m1, mn_m8, mn_eq, mn_lt, mn_le, mn_eq0, mn_0eq, mn_lt0, mn_0lt, mn_le0, mn_0le, mn_eqm, mn_meq, mn_ltm, mn_mlt, mn_lem, mn_mle, mn_mm1, mn_mm2, mn_mm3, mn_mm4, mn_mm5, mn_mm6, mn_and, mn_or, mn_an, mn_shl, mn_shr, mn_div, mn_rem, mn_clamp, mn_in, mn_inm, mn_nz, mn_zo, mn_min, mn_max, mn_abs, mn_rfit, mn_cp, mn_les, mn_gre, mn_a127, mn_a15, mn_a1, mn_a255, mn_tn0, mn_tn0e, mn_tnr, mn_tnz, mr_get, mr_ne, mr_put, mu_ne, mu_eq, mj_bk_i, mj_bk_v, mj_bk_x, decide_eq_true_eq, decide_true, decide_false, Bool.false_eq_true, Bool.true_eq_false, reduceCtorEq, mt_le_t, mt_le_f, mt_lt_t, mt_lt_f, mt_eq_t, mt_eq_f, mt_ee, not_true_eq_false, not_false_eq_true, and_true, true_and, and_self, Nat.zero_add, Nat.add_zero, Nat.one_mul, Nat.mul_one, Nat.reduceAdd, Nat.reduceMul, Nat.reduceSub, Nat.reducePow, Nat.reduceDiv, Nat.reduceMod, ↓reduceIte, Bool.toNat_false]
  · obtain ⟨t2, ht2, e2⟩ := srch (lst σ + 1) (Nat.le_refl _) hall
    have ha : asB Q f' σ = true := asB_w.2 (fun w hw => by simpa using hall w hw)
    refine ⟨_, ?_, m6 (g := fwks Q f' (lst σ + 1 - 1)) ht2⟩
    refine e2.trans ?_
    have hlt : nI (lst σ) < nI (lst σ + 1) := by rw [mn_lt (by omega) (by omega)]; omega
    rw [b79_18 k2 k18, if_pos hlt, ha]
    simp (disch := first | assumption | exact hf _ | omega) only [b79, b79_0, b79_5, b79_9, b79_13, b79_25, b79_30, b79_39, b79_49, b79_52, b79_54, b79_60, nI_add, mn_mul, mn_sub, mn_m1, mn_m8, mn_eq, mn_lt, mn_le, mn_eq0, mn_0eq, mn_lt0, mn_0lt, mn_le0, mn_0le, mn_eqm, mn_meq, mn_ltm, mn_mlt, mn_lem, mn_mle, mn_mm1, mn_mm2, mn_mm3, mn_mm4, mn_mm5, mn_mm6, mn_and, mn_or, mn_an, mn_shl, mn_shr, mn_div, mn_rem, mn_clamp, mn_in, mn_inm, mn_nz, mn_zo, mn_min, mn_max, mn_abs, mn_rfit, mn_cp, mn_les, mn_gre, mn_a127, mn_a15, mn_a1, mn_a255, mn_tn0, mn_tn0e, mn_tnr, mn_tnz, mr_get, mr_ne, mr_put, mu_ne, mu_eq, mj_bk_i, mj_bk_v, mj_bk_x, decide_eq_true_eq, decide_true, decide_false, Bool.false_eq_true, Bool.true_eq_false, reduceCtorEq, mt_le_t, mt_le_f, mt_lt_t, mt_lt_f, mt_eq_t, mt_eq_f, mt_ee, not_true_eq_false, not_false_eq_true, and_true, true_and, and_self, Nat.zero_add, Nat.add_zero, Nat.one_mul, Nat.mul_one, Nat.reduceAdd, Nat.reduceMul, Nat.reduceSub, Nat.reducePow, Nat.reduceDiv, Nat.reduceMod, ↓reduceIte, Bool.toNat_true]
/-- which guesses are right, in row 37 -/
def gR (s : mw_S) (Q : rQ) (f : Nat → Nat) (σ : sS) (n : Nat) : Prop := ∀ g, g < n → s.1 37 g = nI (rt Q f σ g).toNat
theorem c81 (hw : wf f L) (hF : mr_is s 4 64 f) (h54 : f 54 ≤ 999) (hq : rC s 18 Q) (ho : rOK Q) (hS : BS s 2 σ) (hO : sOK σ) : ∃ t, mj_call X (d + 7) 81 [.ref 34, .ref 2, .ref 18] (mw_U s) = some (.inl none, mw_U t) ∧ kg s t ∧ gR t Q f σ 80 := by
  have k2 := mw_c_2
  have k3 := mw_c_3
  have k18 := mw_c_18
  have r37' := mw_r_37
  have hf := wf_lt hw
  have start : mj_call X (d + 7) 81 [.ref 34, .ref 2, .ref 18] (mw_U s) = mj_exec X (d + 7) 81 8 [some (.ref 34), some (.ref 2), some (.ref 18), some (.ref 3), some (.int (nI 0)), none, none] [] (mw_U s) := by
    simp (disch := first | assumption | exact hf _ | omega) only [b81, b81_0, b81_4, b81_15, b81_28, b81_31, b81_37, b81_45, b81_49, b81_50, b81_63, b81_71, b81_74, b81_78, b81_79, b81_86, nI_add, mn_mul, mn_sub, mn_m1, mn_m8, mn_eq, mn_lt, mn_le, mn_eq0, mn_0eq, mn_lt0, mn_0lt, mn_le0, mn_0le, mn_eqm, mn_meq, mn_ltm, mn_mlt, mn_lem, mn_mle, mn_mm1, mn_mm2, mn_mm3, mn_mm4, mn_mm5, mn_mm6, mn_and, mn_or, mn_an, mn_shl, mn_shr, mn_div, mn_rem, mn_clamp, mn_in, mn_inm, mn_nz, mn_zo, mn_min, mn_max, mn_abs, mn_rfit, mn_cp, mn_les, mn_gre, mn_a127, mn_a15, mn_a1, mn_a255, mn_tn0, mn_tn0e, mn_tnr, mn_tnz, mr_get, mr_ne, mr_put, mu_ne, mu_eq, mj_bk_i, mj_bk_v, mj_bk_x, decide_eq_true_eq, decide_true, decide_false, Bool.false_eq_true, Bool.true_eq_false, reduceCtorEq, mt_le_t, mt_le_f, mt_lt_t, mt_lt_f, mt_eq_t, mt_eq_f, mt_ee, not_true_eq_false, not_false_eq_true, and_true, true_and, and_self, Nat.zero_add, Nat.add_zero, Nat.one_mul, Nat.mul_one, Nat.reduceAdd, Nat.reduceMul, Nat.reduceSub, Nat.reducePow, Nat.reduceDiv, Nat.reduceMod, ↓reduceIte, c1]
  rw [start]
  obtain ⟨⟨t, l1, l2⟩, ⟨h1, h2⟩, e⟩ := mr_forg (α := Unit) (γ := mw_S × Option Value × Option Value) (E := fun i _ z => mj_exec X (d + 7) 81 8 [some (.ref 34), some (.ref 2), some (.ref 18), some (.ref 3), some (.int (nI i)), z.2.1, z.2.2] [] (mw_U z.1)) (F := fun _ a => a) (I := fun i _ z => kg s z.1 ∧ gR z.1 Q f σ i) (N := 80) (by
    intro g _ z hg ⟨h1, h2⟩
    obtain ⟨t, l1, l2⟩ := z
    dsimp only at h1 h2 ⊢
    have hp : g / 10 < 8 := by omega
    have hF' : mr_is t 4 64 f := mr_is_kg hF h1 (by unfold kM; omega)
    have h9 := wf_p hw hp
    have fin : ∀ (t' : mw_S), kg s t' → (∀ j, j < g → t'.1 37 j = t.1 37 j) → kg s (mw_p t' 37 g (nI (rt Q f σ g).toNat)) ∧ gR (mw_p t' 37 g (nI (rt Q f σ g).toNat)) Q f σ (g + 1) := by
      intro t' k1 k2
      refine ⟨kg_trans k1 (kg_mg (P := fun a => a = 37) (mg_p mg_refl rfl) (fun a ha => by unfold kM; omega)), fun j hj => ?_⟩
      by_cases he : j = g
      · subst he; rw [mw_peq]
      · rw [mw_pnj he, k2 j (by omega)]; exact h2 j (by omega)
    cases q1 : (f 52).testBit (g / 10)
    · have hrt : rt Q f σ g = false := by unfold rt; rw [q1, Bool.false_and]
      refine ⟨(mw_p t 37 g (nI 0), some (.int (nI (g / 10))), some (.int (nI 0))), ?_, ?_⟩
      · have := fin t h1 (fun _ _ => rfl)
        rw [hrt] at this; exact this
      · rw [b81_8 k2 k18 k3]
        simp (disch := first | assumption | exact hf _ | omega) only [b81, b81_0, b81_4, b81_15, b81_28, b81_31, b81_37, b81_45, b81_49, b81_50, b81_63, b81_71, b81_74, b81_78, b81_79, b81_86, nI_add, mn_mul, mn_sub, mn_m1, mn_m8, mn_eq, mn_lt, mn_le, mn_eq0, mn_0eq, mn_lt0, mn_0lt, mn_le0, mn_0le, mn_eqm, mn_meq, mn_ltm, mn_mlt, mn_lem, mn_mle, mn_mm1, mn_mm2, mn_mm3, mn_mm4, mn_mm5, mn_mm6, mn_and, mn_or, mn_an, mn_shl, mn_shr, mn_div, mn_rem, mn_clamp, mn_in, mn_inm, mn_nz, mn_zo, mn_min, mn_max, mn_abs, mn_rfit, mn_cp, mn_les, mn_gre, mn_a127, mn_a15, mn_a1, mn_a255, mn_tn0, mn_tn0e, mn_tnr, mn_tnz, mr_get, mr_ne, mr_put, mu_ne, mu_eq, mj_bk_i, mj_bk_v, mj_bk_x, decide_eq_true_eq, decide_true, decide_false, Bool.false_eq_true, Bool.true_eq_false, reduceCtorEq, mt_le_t, mt_le_f, mt_lt_t, mt_lt_f, mt_eq_t, mt_eq_f, mt_ee, not_true_eq_false, not_false_eq_true, and_true, true_and, and_self, Nat.zero_add, Nat.add_zero, Nat.one_mul, Nat.mul_one, Nat.reduceAdd, Nat.reduceMul, Nat.reduceSub, Nat.reducePow, Nat.reduceDiv, Nat.reduceMod, ↓reduceIte, nar0, nar1, mod10, r59 k3 hF' hf (show g / 10 < 32 by omega), q1, Bool.toNat_false]
    · by_cases q2 : f (g / 10) = g % 10
      · have hrt : rt Q f σ g = false := by unfold rt; rw [q1, decide_eq_false (fun z => z q2)]; rfl
        refine ⟨(mw_p t 37 g (nI 0), some (.int (nI (g / 10))), some (.int (nI 0))), ?_, ?_⟩
        · have := fin t h1 (fun _ _ => rfl)
          rw [hrt] at this; exact this
        · rw [b81_8 k2 k18 k3]
          simp (disch := first | assumption | exact hf _ | omega) only [b81, b81_0, b81_4, b81_15, b81_28, b81_31, b81_37, b81_45, b81_49, b81_50, b81_63, b81_71, b81_74, b81_78, b81_79, b81_86, nI_add, mn_mul, mn_sub, mn_m1, mn_m8, mn_eq, mn_lt, mn_le, mn_eq0, mn_0eq, mn_lt0, mn_0lt, mn_le0, mn_0le, mn_eqm, mn_meq, mn_ltm, mn_mlt, mn_lem, mn_mle, mn_mm1, mn_mm2, mn_mm3, mn_mm4, mn_mm5, mn_mm6, mn_and, mn_or, mn_an, mn_shl, mn_shr, mn_div, mn_rem, mn_clamp, mn_in, mn_inm, mn_nz, mn_zo, mn_min, mn_max, mn_abs, mn_rfit, mn_cp, mn_les, mn_gre, mn_a127, mn_a15, mn_a1, mn_a255, mn_tn0, mn_tn0e, mn_tnr, mn_tnz, mr_get, mr_ne, mr_put, mu_ne, mu_eq, mj_bk_i, mj_bk_v, mj_bk_x, decide_eq_true_eq, decide_true, decide_false, Bool.false_eq_true, Bool.true_eq_false, reduceCtorEq, mt_le_t, mt_le_f, mt_lt_t, mt_lt_f, mt_eq_t, mt_eq_f, mt_ee, not_true_eq_false, not_false_eq_true, and_true, true_and, and_self, Nat.zero_add, Nat.add_zero, Nat.one_mul, Nat.mul_one, Nat.reduceAdd, Nat.reduceMul, Nat.reduceSub, Nat.reducePow, Nat.reduceDiv, Nat.reduceMod, ↓reduceIte, nar0, nar1, mod10, r59 k3 hF' hf (show g / 10 < 32 by omega), q1, Bool.toNat_true, r38 k3 hF' hf hp, q2]
      · have hrt : rt Q f σ g = asB Q (mr_u f (g / 10) (g % 10)) σ := by unfold rt; rw [q1, decide_eq_true q2]; rfl
        obtain ⟨t2, e2, g2, m2⟩ : ∃ t2, mj_call X (d + 6) 79 [.ref 34, .ref 2, .ref 18, .int (nI g)] (mw_U t) = some (.inl (some (.int (nI (asB Q (mr_u f (g / 10) (g % 10)) σ).toNat))), mw_U t2) ∧ kg t t2 ∧ t2.1 37 = t.1 37 := by
          obtain ⟨t2, e2, g2⟩ := c79 (X := X) (d := d) (s := t) (x := nI g) (f' := mr_u f (g / 10) (g % 10)) (fun d => c80 hF' hf hg) (wf_nv hw hp (show g % 10 ≤ 9 by omega)) (by rw [mu_ne (by omega)]; exact h54) (rC_kg hq h1) ho (BS_kg hS h1) hO
          exact ⟨t2, e2, kg_mg g2 m36k, g2.2 37 (by unfold m36; omega)⟩
        refine ⟨(mw_p t2 37 g (nI (rt Q f σ g).toNat), some (.int (nI (g / 10))), some (.int (nI 1))), fin t2 (kg_trans h1 g2) (fun j _ => by rw [m2]), ?_⟩
        rw [b81_8 k2 k18 k3, hrt]
        cases q3 : asB Q (mr_u f (g / 10) (g % 10)) σ <;> rw [q3] at e2
        · simp (disch := first | assumption | exact hf _ | omega) only [b81, b81_0, b81_4, b81_15, b81_28, b81_31, b81_37, b81_45, b81_49, b81_50, b81_63, b81_71, b81_74, b81_78, b81_79, b81_86, nI_add, mn_mul, mn_sub, mn_m1, mn_m8, mn_eq, mn_lt, mn_le, mn_eq0, mn_0eq, mn_lt0, mn_0lt, mn_le0, mn_0le, mn_eqm, mn_meq, mn_ltm, mn_mlt, mn_lem, mn_mle, mn_mm1, mn_mm2, mn_mm3, mn_mm4, mn_mm5, mn_mm6, mn_and, mn_or, mn_an, mn_shl, mn_shr, mn_div, mn_rem, mn_clamp, mn_in, mn_inm, mn_nz, mn_zo, mn_min, mn_max, mn_abs, mn_rfit, mn_cp, mn_les, mn_gre, mn_a127, mn_a15, mn_a1, mn_a255, mn_tn0, mn_tn0e, mn_tnr, mn_tnz, mr_get, mr_ne, mr_put, mu_ne, mu_eq, mj_bk_i, mj_bk_v, mj_bk_x, decide_eq_true_eq, decide_true, decide_false, Bool.false_eq_true, Bool.true_eq_false, reduceCtorEq, mt_le_t, mt_le_f, mt_lt_t, mt_lt_f, mt_eq_t, mt_eq_f, mt_ee, not_true_eq_false, not_false_eq_true, and_true, true_and, and_self, Nat.zero_add, Nat.add_zero, Nat.one_mul, Nat.mul_one, Nat.reduceAdd, Nat.reduceMul, Nat.reduceSub, Nat.reducePow, Nat.reduceDiv, Nat.reduceMod, ↓reduceIte, nar0, nar1, mod10, r59 k3 hF' hf (show g / 10 < 32 by omega), q1, Bool.toNat_true, r38 k3 hF' hf hp, q2, e2, Bool.toNat_false]
        · simp (disch := first | assumption | exact hf _ | omega) only [b81, b81_0, b81_4, b81_15, b81_28, b81_31, b81_37, b81_45, b81_49, b81_50, b81_63, b81_71, b81_74, b81_78, b81_79, b81_86, nI_add, mn_mul, mn_sub, mn_m1, mn_m8, mn_eq, mn_lt, mn_le, mn_eq0, mn_0eq, mn_lt0, mn_0lt, mn_le0, mn_0le, mn_eqm, mn_meq, mn_ltm, mn_mlt, mn_lem, mn_mle, mn_mm1, mn_mm2, mn_mm3, mn_mm4, mn_mm5, mn_mm6, mn_and, mn_or, mn_an, mn_shl, mn_shr, mn_div, mn_rem, mn_clamp, mn_in, mn_inm, mn_nz, mn_zo, mn_min, mn_max, mn_abs, mn_rfit, mn_cp, mn_les, mn_gre, mn_a127, mn_a15, mn_a1, mn_a255, mn_tn0, mn_tn0e, mn_tnr, mn_tnz, mr_get, mr_ne, mr_put, mu_ne, mu_eq, mj_bk_i, mj_bk_v, mj_bk_x, decide_eq_true_eq, decide_true, decide_false, Bool.false_eq_true, Bool.true_eq_false, reduceCtorEq, mt_le_t, mt_le_f, mt_lt_t, mt_lt_f, mt_eq_t, mt_eq_f, mt_ee, not_true_eq_false, not_false_eq_true, and_true, true_and, and_self, Nat.zero_add, Nat.add_zero, Nat.one_mul, Nat.mul_one, Nat.reduceAdd, Nat.reduceMul, Nat.reduceSub, Nat.reducePow, Nat.reduceDiv, Nat.reduceMod, ↓reduceIte, nar0, nar1, mod10, r59 k3 hF' hf (show g / 10 < 32 by omega), q1, Bool.toNat_true, r38 k3 hF' hf hp, q2, e2]) (a := ()) (g := (s, none, none)) ⟨kg_refl, fun g hg => by omega⟩ 80 (Nat.le_refl 80)
  refine ⟨t, ?_, h1, h2⟩
  refine e.trans ?_
  rw [b81_8 k2 k18 k3]
  simp (disch := first | assumption | exact hf _ | omega) only [b81, b81_0, b81_4, b81_15, b81_28, b81_31, b81_37, b81_45, b81_49, b81_50, b81_63, b81_71, b81_74, b81_78, b81_79, b81_86, nI_add, mn_mul, mn_sub, mn_m1, mn_m8, mn_eq, mn_lt, mn_le, mn_eq0, mn_0eq, mn_lt0, mn_0lt, mn_le0, mn_0le, mn_eqm, mn_meq, mn_ltm, mn_mlt, mn_lem, mn_mle, mn_mm1, mn_mm2, mn_mm3, mn_mm4, mn_mm5, mn_mm6, mn_and, mn_or, mn_an, mn_shl, mn_shr, mn_div, mn_rem, mn_clamp, mn_in, mn_inm, mn_nz, mn_zo, mn_min, mn_max, mn_abs, mn_rfit, mn_cp, mn_les, mn_gre, mn_a127, mn_a15, mn_a1, mn_a255, mn_tn0, mn_tn0e, mn_tnr, mn_tnz, mr_get, mr_ne, mr_put, mu_ne, mu_eq, mj_bk_i, mj_bk_v, mj_bk_x, decide_eq_true_eq, decide_true, decide_false, Bool.false_eq_true, Bool.true_eq_false, reduceCtorEq, mt_le_t, mt_le_f, mt_lt_t, mt_lt_f, mt_eq_t, mt_eq_f, mt_ee, not_true_eq_false, not_false_eq_true, and_true, true_and, and_self, Nat.zero_add, Nat.add_zero, Nat.one_mul, Nat.mul_one, Nat.reduceAdd, Nat.reduceMul, Nat.reduceSub, Nat.reducePow, Nat.reduceDiv, Nat.reduceMod, ↓reduceIte]
end
section
variable {X : mj_X} {d : Nat} {s : mw_S} {f : Nat → Nat} {σ : sS} {Q : rQ} {L : Nat} {w : Int32}
theorem c82 (hR : gR s Q f σ 80) : mj_call X d 82 [.ref 34] (mw_U s) = some (.inl (some (.int (nI (FL Q f σ 80).length))), mw_U s) := by
  rw [b82]
  simp (disch := first | assumption | exact hf _ | omega) only [b82_0]
  obtain ⟨hI, g, e⟩ := mr_for (E := fun i c (_ : Unit) => mj_exec X d 82 4 [some (.ref 34), some (.int (nI c)), some (.int (nI i))] [] (mw_U s)) (F := fun g c => c + (rt Q f σ g).toNat) (I := fun _ _ => True) (N := 80) (by
    intro i c _ hi _
    refine ⟨trivial, (), ?_⟩
    have e := hR i hi
    rw [b82_4]
    cases h : rt Q f σ i <;> rw [h] at e
    · simp (disch := first | assumption | exact hf _ | omega) only [b82, b82_0, b82_10, b82_19, b82_22, b82_28, nI_add, mn_mul, mn_sub, mn_m1, mn_m8, mn_eq, mn_lt, mn_le, mn_eq0, mn_0eq, mn_lt0, mn_0lt, mn_le0, mn_0le, mn_eqm, mn_meq, mn_ltm, mn_mlt, mn_lem, mn_mle, mn_mm1, mn_mm2, mn_mm3, mn_mm4, mn_mm5, mn_mm6, mn_and, mn_or, mn_an, mn_shl, mn_shr, mn_div, mn_rem, mn_clamp, mn_in, mn_inm, mn_nz, mn_zo, mn_min, mn_max, mn_abs, mn_rfit, mn_cp, mn_les, mn_gre, mn_a127, mn_a15, mn_a1, mn_a255, mn_tn0, mn_tn0e, mn_tnr, mn_tnz, mr_get, mr_ne, mr_put, mu_ne, mu_eq, mj_bk_i, mj_bk_v, mj_bk_x, decide_eq_true_eq, decide_true, decide_false, Bool.false_eq_true, Bool.true_eq_false, reduceCtorEq, mt_le_t, mt_le_f, mt_lt_t, mt_lt_f, mt_eq_t, mt_eq_f, mt_ee, not_true_eq_false, not_false_eq_true, and_true, true_and, and_self, Nat.zero_add, Nat.add_zero, Nat.one_mul, Nat.mul_one, Nat.reduceAdd, Nat.reduceMul, Nat.reduceSub, Nat.reducePow, Nat.reduceDiv, Nat.reduceMod, ↓reduceIte, e, Bool.toNat_false]
    · simp (disch := first | assumption | exact hf _ | omega) only [b82, b82_0, b82_10, b82_19, b82_22, b82_28, nI_add, mn_mul, mn_sub, mn_m1, mn_m8, mn_eq, mn_lt, mn_le, mn_eq0, mn_0eq, mn_lt0, mn_0lt, mn_le0, mn_0le, mn_eqm, mn_meq, mn_ltm, mn_mlt, mn_lem, mn_mle, mn_mm1, mn_mm2, mn_mm3, mn_mm4, mn_mm5, mn_mm6, mn_and, mn_or, mn_an, mn_shl, mn_shr, mn_div, mn_rem, mn_clamp, mn_in, mn_inm, mn_nz, mn_zo, mn_min, mn_max, mn_abs, mn_rfit, mn_cp, mn_les, mn_gre, mn_a127, mn_a15, mn_a1, mn_a255, mn_tn0, mn_tn0e, mn_tnr, mn_tnz, mr_get, mr_ne, mr_put, mu_ne, mu_eq, mj_bk_i, mj_bk_v, mj_bk_x, decide_eq_true_eq, decide_true, decide_false, Bool.false_eq_true, Bool.true_eq_false, reduceCtorEq, mt_le_t, mt_le_f, mt_lt_t, mt_lt_f, mt_eq_t, mt_eq_f, mt_ee, not_true_eq_false, not_false_eq_true, and_true, true_and, and_self, Nat.zero_add, Nat.add_zero, Nat.one_mul, Nat.mul_one, Nat.reduceAdd, Nat.reduceMul, Nat.reduceSub, Nat.reducePow, Nat.reduceDiv, Nat.reduceMod, ↓reduceIte, e, Bool.toNat_true]
  ) (a := 0) trivial () 80 (Nat.le_refl 80)
  refine e.trans ?_
  have el : ∀ n, mr_it (fun g c => c + (rt Q f σ g).toNat) n 0 = (FL Q f σ n).length := by
    intro n
    induction n with
    | zero => rfl
    | succ n ih =>
      rw [mr_it, ih, FL_s]
      cases h : rt Q f σ n <;> simp
  rw [el, b82_4]
  simp (disch := first | assumption | exact hf _ | omega) only [b82, b82_0, b82_10, b82_19, b82_22, b82_28, nI_add, mn_mul, mn_sub, mn_m1, mn_m8, mn_eq, mn_lt, mn_le, mn_eq0, mn_0eq, mn_lt0, mn_0lt, mn_le0, mn_0le, mn_eqm, mn_meq, mn_ltm, mn_mlt, mn_lem, mn_mle, mn_mm1, mn_mm2, mn_mm3, mn_mm4, mn_mm5, mn_mm6, mn_and, mn_or, mn_an, mn_shl, mn_shr, mn_div, mn_rem, mn_clamp, mn_in, mn_inm, mn_nz, mn_zo, mn_min, mn_max, mn_abs, mn_rfit, mn_cp, mn_les, mn_gre, mn_a127, mn_a15, mn_a1, mn_a255, mn_tn0, mn_tn0e, mn_tnr, mn_tnz, mr_get, mr_ne, mr_put, mu_ne, mu_eq, mj_bk_i, mj_bk_v, mj_bk_x, decide_eq_true_eq, decide_true, decide_false, Bool.false_eq_true, Bool.true_eq_false, reduceCtorEq, mt_le_t, mt_le_f, mt_lt_t, mt_lt_f, mt_eq_t, mt_eq_f, mt_ee, not_true_eq_false, not_false_eq_true, and_true, true_and, and_self, Nat.zero_add, Nat.add_zero, Nat.one_mul, Nat.mul_one, Nat.reduceAdd, Nat.reduceMul, Nat.reduceSub, Nat.reducePow, Nat.reduceDiv, Nat.reduceMod, ↓reduceIte]
theorem c83 (hR : gR s Q f σ 80) : mj_call X d 83 [.ref 34] (mw_U s) = some (.inl (some (.int (mo (FL Q f σ 80).head?))), mw_U s) := by
  have srch := mr_srch (γ := Unit) (E := fun k _ => mj_exec X d 83 2 [some (.ref 34), some (.int (nI k))] [] (mw_U s)) (P := rt Q f σ) (I := fun _ _ => True) (N := 80) (by
    intro k _ hk hP _
    have e := hR k hk
    rw [hP] at e
    refine ⟨(), trivial, ?_⟩
    rw [b83_2]
    simp (disch := first | assumption | exact hf _ | omega) only [b83, b83_0, b83_8, b83_17, b83_19, b83_25, nI_add, mn_mul, mn_sub, mn_m1, mn_m8, mn_eq, mn_lt, mn_le, mn_eq0, mn_0eq, mn_lt0, mn_0lt, mn_le0, mn_0le, mn_eqm, mn_meq, mn_ltm, mn_mlt, mn_lem, mn_mle, mn_mm1, mn_mm2, mn_mm3, mn_mm4, mn_mm5, mn_mm6, mn_and, mn_or, mn_an, mn_shl, mn_shr, mn_div, mn_rem, mn_clamp, mn_in, mn_inm, mn_nz, mn_zo, mn_min, mn_max, mn_abs, mn_rfit, mn_cp, mn_les, mn_gre, mn_a127, mn_a15, mn_a1, mn_a255, mn_tn0, mn_tn0e, mn_tnr, mn_tnz, mr_get, mr_ne, mr_put, mu_ne, mu_eq, mj_bk_i, mj_bk_v, mj_bk_x, decide_eq_true_eq, decide_true, decide_false, Bool.false_eq_true, Bool.true_eq_false, reduceCtorEq, mt_le_t, mt_le_f, mt_lt_t, mt_lt_f, mt_eq_t, mt_eq_f, mt_ee, not_true_eq_false, not_false_eq_true, and_true, true_and, and_self, Nat.zero_add, Nat.add_zero, Nat.one_mul, Nat.mul_one, Nat.reduceAdd, Nat.reduceMul, Nat.reduceSub, Nat.reducePow, Nat.reduceDiv, Nat.reduceMod, ↓reduceIte, e, Bool.toNat_false]) (g := ()) trivial
  have hh : (FL Q f σ 80).head? = (List.range 80).find? (rt Q f σ) := List.head?_filter
  rw [hh, b83, b83_0]
  rcases first_or (rt Q f σ) 80 with ⟨k, hk, hP, hmin⟩ | hall
  · obtain ⟨_, -, e⟩ := srch k (by omega) hmin
    have e1 := hR k hk
    rw [hP] at e1
    rw [find_range hmin hk hP]
    refine e.trans ?_
    rw [b83_2]
    simp (disch := first | assumption | exact hf _ | omega) only [b83, b83_0, b83_8, b83_17, b83_19, b83_25, nI_add, mn_mul, mn_sub, mn_m1, mn_m8, mn_eq, mn_lt, mn_le, mn_eq0, mn_0eq, mn_lt0, mn_0lt, mn_le0, mn_0le, mn_eqm, mn_meq, mn_ltm, mn_mlt, mn_lem, mn_mle, mn_mm1, mn_mm2, mn_mm3, mn_mm4, mn_mm5, mn_mm6, mn_and, mn_or, mn_an, mn_shl, mn_shr, mn_div, mn_rem, mn_clamp, mn_in, mn_inm, mn_nz, mn_zo, mn_min, mn_max, mn_abs, mn_rfit, mn_cp, mn_les, mn_gre, mn_a127, mn_a15, mn_a1, mn_a255, mn_tn0, mn_tn0e, mn_tnr, mn_tnz, mr_get, mr_ne, mr_put, mu_ne, mu_eq, mj_bk_i, mj_bk_v, mj_bk_x, decide_eq_true_eq, decide_true, decide_false, Bool.false_eq_true, Bool.true_eq_false, reduceCtorEq, mt_le_t, mt_le_f, mt_lt_t, mt_lt_f, mt_eq_t, mt_eq_f, mt_ee, not_true_eq_false, not_false_eq_true, and_true, true_and, and_self, Nat.zero_add, Nat.add_zero, Nat.one_mul, Nat.mul_one, Nat.reduceAdd, Nat.reduceMul, Nat.reduceSub, Nat.reducePow, Nat.reduceDiv, Nat.reduceMod, ↓reduceIte, e1, Bool.toNat_true]
    rfl
  · obtain ⟨_, -, e⟩ := srch 80 (Nat.le_refl _) hall
    rw [find_none hall]
    refine e.trans ?_
    rw [b83_2]
    simp (disch := first | assumption | exact hf _ | omega) only [b83, b83_0, b83_8, b83_17, b83_19, b83_25, nI_add, mn_mul, mn_sub, mn_m1, mn_m8, mn_eq, mn_lt, mn_le, mn_eq0, mn_0eq, mn_lt0, mn_0lt, mn_le0, mn_0le, mn_eqm, mn_meq, mn_ltm, mn_mlt, mn_lem, mn_mle, mn_mm1, mn_mm2, mn_mm3, mn_mm4, mn_mm5, mn_mm6, mn_and, mn_or, mn_an, mn_shl, mn_shr, mn_div, mn_rem, mn_clamp, mn_in, mn_inm, mn_nz, mn_zo, mn_min, mn_max, mn_abs, mn_rfit, mn_cp, mn_les, mn_gre, mn_a127, mn_a15, mn_a1, mn_a255, mn_tn0, mn_tn0e, mn_tnr, mn_tnz, mr_get, mr_ne, mr_put, mu_ne, mu_eq, mj_bk_i, mj_bk_v, mj_bk_x, decide_eq_true_eq, decide_true, decide_false, Bool.false_eq_true, Bool.true_eq_false, reduceCtorEq, mt_le_t, mt_le_f, mt_lt_t, mt_lt_f, mt_eq_t, mt_eq_f, mt_ee, not_true_eq_false, not_false_eq_true, and_true, true_and, and_self, Nat.zero_add, Nat.add_zero, Nat.one_mul, Nat.mul_one, Nat.reduceAdd, Nat.reduceMul, Nat.reduceSub, Nat.reducePow, Nat.reduceDiv, Nat.reduceMod, ↓reduceIte]
    rfl
theorem q189 (hw : wf f L) (hF : mr_is s 4 64 f) (h54 : f 54 ≤ 999) (hq : rC s 18 Q) (ho : rOK Q) (hS : BS s 2 σ) (hO : sOK σ) {w : Nat} (hw2 : w ≤ 2) : ∃ t, mj_call X (d + 8) 189 [.ref 0, .int (nI w)] (mw_U s) = some (.inl (some (.int (nvd Q f σ w))), mw_U t) ∧ kg s t := by
  unfold nvd
  have h0 : w = 0 ∨ w = 1 ∨ w = 2 := by omega
  rcases h0 with rfl | rfl | rfl
  · obtain ⟨t, e, g, hR⟩ := c81 (X := X) (d := d) hw hF h54 hq ho hS hO
    refine ⟨t, ?_, g⟩
    simp (disch := first | assumption | exact hf _ | omega) only [b189, b189_0, b189_5, b189_10, b189_26, b189_29, b189_33, b189_34, b189_35, b189_50, b189_54, b189_61, b189_64, b189_71, nI_add, mn_mul, mn_sub, mn_m1, mn_m8, mn_eq, mn_lt, mn_le, mn_eq0, mn_0eq, mn_lt0, mn_0lt, mn_le0, mn_0le, mn_eqm, mn_meq, mn_ltm, mn_mlt, mn_lem, mn_mle, mn_mm1, mn_mm2, mn_mm3, mn_mm4, mn_mm5, mn_mm6, mn_and, mn_or, mn_an, mn_shl, mn_shr, mn_div, mn_rem, mn_clamp, mn_in, mn_inm, mn_nz, mn_zo, mn_min, mn_max, mn_abs, mn_rfit, mn_cp, mn_les, mn_gre, mn_a127, mn_a15, mn_a1, mn_a255, mn_tn0, mn_tn0e, mn_tnr, mn_tnz, mr_get, mr_ne, mr_put, mu_ne, mu_eq, mj_bk_i, mj_bk_v, mj_bk_x, decide_eq_true_eq, decide_true, decide_false, Bool.false_eq_true, Bool.true_eq_false, reduceCtorEq, mt_le_t, mt_le_f, mt_lt_t, mt_lt_f, mt_eq_t, mt_eq_f, mt_ee, not_true_eq_false, not_false_eq_true, and_true, true_and, and_self, Nat.zero_add, Nat.add_zero, Nat.one_mul, Nat.mul_one, Nat.reduceAdd, Nat.reduceMul, Nat.reduceSub, Nat.reducePow, Nat.reduceDiv, Nat.reduceMod, ↓reduceIte, p169 (show 2 < 1000 by decide) hw2, e, c82 hR]
  · obtain ⟨t, e, g, hR⟩ := c81 (X := X) (d := d) hw hF h54 hq ho hS hO
    refine ⟨t, ?_, g⟩
    simp (disch := first | assumption | exact hf _ | omega) only [b189, b189_0, b189_5, b189_10, b189_26, b189_29, b189_33, b189_34, b189_35, b189_50, b189_54, b189_61, b189_64, b189_71, nI_add, mn_mul, mn_sub, mn_m1, mn_m8, mn_eq, mn_lt, mn_le, mn_eq0, mn_0eq, mn_lt0, mn_0lt, mn_le0, mn_0le, mn_eqm, mn_meq, mn_ltm, mn_mlt, mn_lem, mn_mle, mn_mm1, mn_mm2, mn_mm3, mn_mm4, mn_mm5, mn_mm6, mn_and, mn_or, mn_an, mn_shl, mn_shr, mn_div, mn_rem, mn_clamp, mn_in, mn_inm, mn_nz, mn_zo, mn_min, mn_max, mn_abs, mn_rfit, mn_cp, mn_les, mn_gre, mn_a127, mn_a15, mn_a1, mn_a255, mn_tn0, mn_tn0e, mn_tnr, mn_tnz, mr_get, mr_ne, mr_put, mu_ne, mu_eq, mj_bk_i, mj_bk_v, mj_bk_x, decide_eq_true_eq, decide_true, decide_false, Bool.false_eq_true, Bool.true_eq_false, reduceCtorEq, mt_le_t, mt_le_f, mt_lt_t, mt_lt_f, mt_eq_t, mt_eq_f, mt_ee, not_true_eq_false, not_false_eq_true, and_true, true_and, and_self, Nat.zero_add, Nat.add_zero, Nat.one_mul, Nat.mul_one, Nat.reduceAdd, Nat.reduceMul, Nat.reduceSub, Nat.reducePow, Nat.reduceDiv, Nat.reduceMod, ↓reduceIte, p169 (show 2 < 1000 by decide) hw2, e, c83 hR]
  · obtain ⟨t, e, g⟩ := c79 (X := X) (d := d + 1) (fun d => c80m hF) hw h54 hq ho hS hO
    refine ⟨t, ?_, kg_mg g m36k⟩
    cases h : asB Q f σ <;> rw [h] at e
    · simp (disch := first | assumption | exact hf _ | omega) only [b189, b189_0, b189_5, b189_10, b189_26, b189_29, b189_33, b189_34, b189_35, b189_50, b189_54, b189_61, b189_64, b189_71, nI_add, mn_mul, mn_sub, mn_m1, mn_m8, mn_eq, mn_lt, mn_le, mn_eq0, mn_0eq, mn_lt0, mn_0lt, mn_le0, mn_0le, mn_eqm, mn_meq, mn_ltm, mn_mlt, mn_lem, mn_mle, mn_mm1, mn_mm2, mn_mm3, mn_mm4, mn_mm5, mn_mm6, mn_and, mn_or, mn_an, mn_shl, mn_shr, mn_div, mn_rem, mn_clamp, mn_in, mn_inm, mn_nz, mn_zo, mn_min, mn_max, mn_abs, mn_rfit, mn_cp, mn_les, mn_gre, mn_a127, mn_a15, mn_a1, mn_a255, mn_tn0, mn_tn0e, mn_tnr, mn_tnz, mr_get, mr_ne, mr_put, mu_ne, mu_eq, mj_bk_i, mj_bk_v, mj_bk_x, decide_eq_true_eq, decide_true, decide_false, Bool.false_eq_true, Bool.true_eq_false, reduceCtorEq, mt_le_t, mt_le_f, mt_lt_t, mt_lt_f, mt_eq_t, mt_eq_f, mt_ee, not_true_eq_false, not_false_eq_true, and_true, true_and, and_self, Nat.zero_add, Nat.add_zero, Nat.one_mul, Nat.mul_one, Nat.reduceAdd, Nat.reduceMul, Nat.reduceSub, Nat.reducePow, Nat.reduceDiv, Nat.reduceMod, ↓reduceIte, p169 (show 2 < 1000 by decide) hw2, e, Bool.toNat_false]
    · simp (disch := first | assumption | exact hf _ | omega) only [b189, b189_0, b189_5, b189_10, b189_26, b189_29, b189_33, b189_34, b189_35, b189_50, b189_54, b189_61, b189_64, b189_71, nI_add, mn_mul, mn_sub, mn_m1, mn_m8, mn_eq, mn_lt, mn_le, mn_eq0, mn_0eq, mn_lt0, mn_0lt, mn_le0, mn_0le, mn_eqm, mn_meq, mn_ltm, mn_mlt, mn_lem, mn_mle, mn_mm1, mn_mm2, mn_mm3, mn_mm4, mn_mm5, mn_mm6, mn_and, mn_or, mn_an, mn_shl, mn_shr, mn_div, mn_rem, mn_clamp, mn_in, mn_inm, mn_nz, mn_zo, mn_min, mn_max, mn_abs, mn_rfit, mn_cp, mn_les, mn_gre, mn_a127, mn_a15, mn_a1, mn_a255, mn_tn0, mn_tn0e, mn_tnr, mn_tnz, mr_get, mr_ne, mr_put, mu_ne, mu_eq, mj_bk_i, mj_bk_v, mj_bk_x, decide_eq_true_eq, decide_true, decide_false, Bool.false_eq_true, Bool.true_eq_false, reduceCtorEq, mt_le_t, mt_le_f, mt_lt_t, mt_lt_f, mt_eq_t, mt_eq_f, mt_ee, not_true_eq_false, not_false_eq_true, and_true, true_and, and_self, Nat.zero_add, Nat.add_zero, Nat.one_mul, Nat.mul_one, Nat.reduceAdd, Nat.reduceMul, Nat.reduceSub, Nat.reducePow, Nat.reduceDiv, Nat.reduceMod, ↓reduceIte, p169 (show 2 < 1000 by decide) hw2, e, Bool.toNat_true]
theorem x189 (h : ib 0 2 w = false) : mj_call X (d + 8) 189 [.ref 0, .int w] (mw_U s) = some (.inr 0, mw_U (mw_x s)) := by
  simp (disch := first | assumption | exact hf _ | omega) only [b189, b189_0, b189_5, b189_10, b189_26, b189_29, b189_33, b189_34, b189_35, b189_50, b189_54, b189_61, b189_64, b189_71, nI_add, mn_mul, mn_sub, mn_m1, mn_m8, mn_eq, mn_lt, mn_le, mn_eq0, mn_0eq, mn_lt0, mn_0lt, mn_le0, mn_0le, mn_eqm, mn_meq, mn_ltm, mn_mlt, mn_lem, mn_mle, mn_mm1, mn_mm2, mn_mm3, mn_mm4, mn_mm5, mn_mm6, mn_and, mn_or, mn_an, mn_shl, mn_shr, mn_div, mn_rem, mn_clamp, mn_in, mn_inm, mn_nz, mn_zo, mn_min, mn_max, mn_abs, mn_rfit, mn_cp, mn_les, mn_gre, mn_a127, mn_a15, mn_a1, mn_a255, mn_tn0, mn_tn0e, mn_tnr, mn_tnz, mr_get, mr_ne, mr_put, mu_ne, mu_eq, mj_bk_i, mj_bk_v, mj_bk_x, decide_eq_true_eq, decide_true, decide_false, Bool.false_eq_true, Bool.true_eq_false, reduceCtorEq, mt_le_t, mt_le_f, mt_lt_t, mt_lt_f, mt_eq_t, mt_eq_f, mt_ee, not_true_eq_false, not_false_eq_true, and_true, true_and, and_self, Nat.zero_add, Nat.add_zero, Nat.one_mul, Nat.mul_one, Nat.reduceAdd, Nat.reduceMul, Nat.reduceSub, Nat.reducePow, Nat.reduceDiv, Nat.reduceMod, ↓reduceIte, x169 (show 2 < 1000 by decide) h]
end
