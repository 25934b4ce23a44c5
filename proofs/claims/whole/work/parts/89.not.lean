/-! both readers: nots -/
theorem hl_nots {l : List Nat} {h : Nat} (hl1 : hl l h = some (h + 1)) : ∀ i, hl (l ++ List.replicate i 10010) h = some (h + 1)
  | 0 => by rw [List.replicate_zero, List.append_nil]; exact hl1
  | i + 1 => by
    rw [List.replicate_succ', ← List.append_assoc, hl_app, hl_nots hl1 i, Option.bind_some]
    show (rh1 10010 (h + 1)).bind (hl []) = _
    unfold rh1
    rw [if_neg (by omega), if_pos rfl, if_pos (by omega)]
    rfl
section
variable {X : mj_X} {E : Nat} {tp : Nat → Nat} {n w nd : Nat}
/-- the nots are laid -/
theorem nots_C {a : Nat} {i : Nat} (hi : i ≤ 6) (han : a ≤ 700) : ∀ j l d s, j ≤ i → l.length + j ≤ a → GC s tp n a l → ∃ t, mj_exec X (d + 1) 100 62 [some (.ref 22), some (.int (nI w)), some (.int (nI i)), some (.int (nI 1)), some (.int (nI (i - j)))] [] (mw_U s) = some (.inl (some (.int (nI 1))), mw_U t) ∧ GC t tp n a (l ++ List.replicate j 10010) ∧ fC s t
  | 0, l, d, s, _, _, h => by
    have z1 : mj_rfit (some .boolean) (nI 1) = true := by decide
    refine ⟨s, ?_, by rw [List.replicate_zero, List.append_nil]; exact h, fC_refl⟩
    have hle : i ≤ i - 0 := Nat.le_refl _
    rw [b100_62]
    simp (disch := first | assumption | exact hf _ | omega) only [b100, b100_0, b100_8, b100_15, b100_21, b100_28, b100_34, b100_41, b100_47, b100_52, b100_53, b100_58, b100_68, b100_77, b100_83, nI_add, mn_mul, mn_sub, mn_m1, mn_m8, mn_eq, mn_lt, mn_le, mn_eq0, mn_0eq, mn_lt0, mn_0lt, mn_le0, mn_0le, mn_eqm, mn_meq, mn_ltm, mn_mlt, mn_lem, mn_mle, mn_mm1, mn_mm2, mn_mm3, mn_mm4, mn_mm5, mn_mm6, mn_and, mn_or, mn_an, mn_shl, mn_shr, mn_div, mn_rem, mn_clamp, mn_in, mn_inm, mn_nz, mn_zo, mn_min, mn_max, mn_abs, mn_rfit, mn_cp, mn_les, mn_gre, mn_a127, mn_a15, mn_a1, mn_a255, mn_tn0, mn_tn0e, mn_tnr, mn_tnz, mr_get, mr_ne, mr_put, mu_ne, mu_eq, mj_bk_i, mj_bk_v, mj_bk_x, decide_eq_true_eq, decide_true, decide_false, Bool.false_eq_true, Bool.true_eq_false, reduceCtorEq, mt_le_t, mt_le_f, mt_lt_t, mt_lt_f, mt_eq_t, mt_eq_f, mt_ee, not_true_eq_false, not_false_eq_true, and_true, true_and, and_self, Nat.zero_add, Nat.add_zero, Nat.one_mul, Nat.mul_one, Nat.reduceAdd, Nat.reduceMul, Nat.reduceSub, Nat.reducePow, Nat.reduceDiv, Nat.reduceMod, ↓reduceIte, z1]
  | j + 1, l, d, s, hj, hl_, h => by
    obtain ⟨t, e, g1, g2⟩ := g123 (X := X) (d := d) h (by omega) op_ok.2.2.2.2.2.2.2.2.2.2.2.2.2.2.2.2.2
    obtain ⟨u, e2, g3, g4⟩ := nots_C hi han j (l ++ [10010]) d t (by omega) (by simp; omega) g1
    refine ⟨u, ?_, ?_, fC_trans g2 g4⟩
    · have hlt : ¬ i ≤ i - (j + 1) := by omega
      have e3 : i - (j + 1) + 1 = i - j := by omega
      rw [b100_62]
      simp (disch := first | assumption | exact hf _ | omega) only [b100, b100_0, b100_8, b100_15, b100_21, b100_28, b100_34, b100_41, b100_47, b100_52, b100_53, b100_58, b100_68, b100_77, b100_83, nI_add, mn_mul, mn_sub, mn_m1, mn_m8, mn_eq, mn_lt, mn_le, mn_eq0, mn_0eq, mn_lt0, mn_0lt, mn_le0, mn_0le, mn_eqm, mn_meq, mn_ltm, mn_mlt, mn_lem, mn_mle, mn_mm1, mn_mm2, mn_mm3, mn_mm4, mn_mm5, mn_mm6, mn_and, mn_or, mn_an, mn_shl, mn_shr, mn_div, mn_rem, mn_clamp, mn_in, mn_inm, mn_nz, mn_zo, mn_min, mn_max, mn_abs, mn_rfit, mn_cp, mn_les, mn_gre, mn_a127, mn_a15, mn_a1, mn_a255, mn_tn0, mn_tn0e, mn_tnr, mn_tnz, mr_get, mr_ne, mr_put, mu_ne, mu_eq, mj_bk_i, mj_bk_v, mj_bk_x, decide_eq_true_eq, decide_true, decide_false, Bool.false_eq_true, Bool.true_eq_false, reduceCtorEq, mt_le_t, mt_le_f, mt_lt_t, mt_lt_f, mt_eq_t, mt_eq_f, mt_ee, not_true_eq_false, not_false_eq_true, and_true, true_and, and_self, Nat.zero_add, Nat.add_zero, Nat.one_mul, Nat.mul_one, Nat.reduceAdd, Nat.reduceMul, Nat.reduceSub, Nat.reducePow, Nat.reduceDiv, Nat.reduceMod, ↓reduceIte, hlt, e, e3]
      exact e2
    · rw [List.replicate_succ, ← List.singleton_append, ← List.append_assoc]; exact g3
theorem nots_Cf {i k p : Nat} (hi : i ≤ 6) : ∀ j d s, j ≤ i → s.1 22 3 = nI k → FP s p → ∃ t, mj_exec X (d + 1) 100 62 [some (.ref 22), some (.int (nI w)), some (.int (nI i)), some (.int (nI 0)), some (.int (nI (i - j)))] [] (mw_U s) = some (.inl (some (.int (nI 0))), mw_U t) ∧ t.1 22 3 = nI k ∧ FP t p ∧ fC s t
  | 0, d, s, _, h1, h2 => by
    have z1 : mj_rfit (some .boolean) (nI 0) = true := by decide
    refine ⟨s, ?_, h1, h2, fC_refl⟩
    have hle : i ≤ i - 0 := Nat.le_refl _
    rw [b100_62]
    simp (disch := first | assumption | exact hf _ | omega) only [b100, b100_0, b100_8, b100_15, b100_21, b100_28, b100_34, b100_41, b100_47, b100_52, b100_53, b100_58, b100_68, b100_77, b100_83, nI_add, mn_mul, mn_sub, mn_m1, mn_m8, mn_eq, mn_lt, mn_le, mn_eq0, mn_0eq, mn_lt0, mn_0lt, mn_le0, mn_0le, mn_eqm, mn_meq, mn_ltm, mn_mlt, mn_lem, mn_mle, mn_mm1, mn_mm2, mn_mm3, mn_mm4, mn_mm5, mn_mm6, mn_and, mn_or, mn_an, mn_shl, mn_shr, mn_div, mn_rem, mn_clamp, mn_in, mn_inm, mn_nz, mn_zo, mn_min, mn_max, mn_abs, mn_rfit, mn_cp, mn_les, mn_gre, mn_a127, mn_a15, mn_a1, mn_a255, mn_tn0, mn_tn0e, mn_tnr, mn_tnz, mr_get, mr_ne, mr_put, mu_ne, mu_eq, mj_bk_i, mj_bk_v, mj_bk_x, decide_eq_true_eq, decide_true, decide_false, Bool.false_eq_true, Bool.true_eq_false, reduceCtorEq, mt_le_t, mt_le_f, mt_lt_t, mt_lt_f, mt_eq_t, mt_eq_f, mt_ee, not_true_eq_false, not_false_eq_true, and_true, true_and, and_self, Nat.zero_add, Nat.add_zero, Nat.one_mul, Nat.mul_one, Nat.reduceAdd, Nat.reduceMul, Nat.reduceSub, Nat.reducePow, Nat.reduceDiv, Nat.reduceMod, ↓reduceIte, z1]
  | j + 1, d, s, hj, h1, h2 => by
    obtain ⟨t, e, g1, g2, g3⟩ := g123f (X := X) (d := d) h1 h2 (x := -7)
    obtain ⟨u, e2, g4, g5, g6⟩ := nots_Cf hi j d t (by omega) g1 g2
    refine ⟨u, ?_, g4, g5, fC_trans g3 g6⟩
    have hlt : ¬ i ≤ i - (j + 1) := by omega
    have e3 : i - (j + 1) + 1 = i - j := by omega
    rw [b100_62]
    simp (disch := first | assumption | exact hf _ | omega) only [b100, b100_0, b100_8, b100_15, b100_21, b100_28, b100_34, b100_41, b100_47, b100_52, b100_53, b100_58, b100_68, b100_77, b100_83, nI_add, mn_mul, mn_sub, mn_m1, mn_m8, mn_eq, mn_lt, mn_le, mn_eq0, mn_0eq, mn_lt0, mn_0lt, mn_le0, mn_0le, mn_eqm, mn_meq, mn_ltm, mn_mlt, mn_lem, mn_mle, mn_mm1, mn_mm2, mn_mm3, mn_mm4, mn_mm5, mn_mm6, mn_and, mn_or, mn_an, mn_shl, mn_shr, mn_div, mn_rem, mn_clamp, mn_in, mn_inm, mn_nz, mn_zo, mn_min, mn_max, mn_abs, mn_rfit, mn_cp, mn_les, mn_gre, mn_a127, mn_a15, mn_a1, mn_a255, mn_tn0, mn_tn0e, mn_tnr, mn_tnz, mr_get, mr_ne, mr_put, mu_ne, mu_eq, mj_bk_i, mj_bk_v, mj_bk_x, decide_eq_true_eq, decide_true, decide_false, Bool.false_eq_true, Bool.true_eq_false, reduceCtorEq, mt_le_t, mt_le_f, mt_lt_t, mt_lt_f, mt_eq_t, mt_eq_f, mt_ee, not_true_eq_false, not_false_eq_true, and_true, true_and, and_self, Nat.zero_add, Nat.add_zero, Nat.one_mul, Nat.mul_one, Nat.reduceAdd, Nat.reduceMul, Nat.reduceSub, Nat.reducePow, Nat.reduceDiv, Nat.reduceMod, ↓reduceIte, hlt, e, e3]
    exact e2
theorem nots_R {o : Bool} {a : Nat} {i : Nat} (hi : i ≤ 6) (han : a ≤ 700) {f : Nat → Nat} : ∀ j r d s, j ≤ i → r.length + j ≤ a → GR o s tp n a r → ∃ t, mj_exec X (d + 1) 210 95 [some (.ref 42), some (.int (nI w)), some (.int (nI i)), some (.int (nI (i - j)))] [] (mw_U (mp s f)) = some (.inl none, mw_U (mp t f)) ∧ GR o t tp n a (r ++ List.replicate j 10010) ∧ fE o s t
  | 0, r, d, s, _, _, h => by
    refine ⟨s, ?_, by rw [List.replicate_zero, List.append_nil]; exact h, fE_refl⟩
    have hle : i ≤ i - 0 := Nat.le_refl _
    rw [b210_95]
    simp (disch := first | assumption | exact hf _ | omega) only [b210, b210_0, b210_8, b210_11, b210_17, b210_22, b210_32, b210_36, b210_39, b210_44, b210_50, b210_53, b210_59, b210_62, b210_68, b210_71, b210_76, b210_78, b210_83, b210_88, b210_93, b210_100, b210_106, b210_112, nI_add, mn_mul, mn_sub, mn_m1, mn_m8, mn_eq, mn_lt, mn_le, mn_eq0, mn_0eq, mn_lt0, mn_0lt, mn_le0, mn_0le, mn_eqm, mn_meq, mn_ltm, mn_mlt, mn_lem, mn_mle, mn_mm1, mn_mm2, mn_mm3, mn_mm4, mn_mm5, mn_mm6, mn_and, mn_or, mn_an, mn_shl, mn_shr, mn_div, mn_rem, mn_clamp, mn_in, mn_inm, mn_nz, mn_zo, mn_min, mn_max, mn_abs, mn_rfit, mn_cp, mn_les, mn_gre, mn_a127, mn_a15, mn_a1, mn_a255, mn_tn0, mn_tn0e, mn_tnr, mn_tnz, mr_get, mr_ne, mr_put, mu_ne, mu_eq, mj_bk_i, mj_bk_v, mj_bk_x, decide_eq_true_eq, decide_true, decide_false, Bool.false_eq_true, Bool.true_eq_false, reduceCtorEq, mt_le_t, mt_le_f, mt_lt_t, mt_lt_f, mt_eq_t, mt_eq_f, mt_ee, not_true_eq_false, not_false_eq_true, and_true, true_and, and_self, Nat.zero_add, Nat.add_zero, Nat.one_mul, Nat.mul_one, Nat.reduceAdd, Nat.reduceMul, Nat.reduceSub, Nat.reducePow, Nat.reduceDiv, Nat.reduceMod, ↓reduceIte, mp_h, mp_w, mp_c, mp_s, mp_d, mp_n, mp_54, mp_52, mp_55, mp_l, mp_o, mp_42, mp_45, gh_gp, gw_gp, gc_gp, mw_pne, Nat.or_zero]
  | j + 1, r, d, s, hj, hr, h => by
    obtain ⟨t, e, g1, g2⟩ := c216 (X := X) (d := d) (f := f) h (by omega) op_ok.2.2.2.2.2.2.2.2.1
    obtain ⟨u, e2, g3, g4⟩ := nots_R hi han j (r ++ [10010]) d t (by omega) (by simp; omega) g1
    refine ⟨u, ?_, ?_, fE_trans g2 g4⟩
    · have hlt : ¬ i ≤ i - (j + 1) := by omega
      have e3 : i - (j + 1) + 1 = i - j := by omega
      rw [b210_95]
      simp (disch := first | assumption | exact hf _ | omega) only [b210, b210_0, b210_8, b210_11, b210_17, b210_22, b210_32, b210_36, b210_39, b210_44, b210_50, b210_53, b210_59, b210_62, b210_68, b210_71, b210_76, b210_78, b210_83, b210_88, b210_93, b210_100, b210_106, b210_112, nI_add, mn_mul, mn_sub, mn_m1, mn_m8, mn_eq, mn_lt, mn_le, mn_eq0, mn_0eq, mn_lt0, mn_0lt, mn_le0, mn_0le, mn_eqm, mn_meq, mn_ltm, mn_mlt, mn_lem, mn_mle, mn_mm1, mn_mm2, mn_mm3, mn_mm4, mn_mm5, mn_mm6, mn_and, mn_or, mn_an, mn_shl, mn_shr, mn_div, mn_rem, mn_clamp, mn_in, mn_inm, mn_nz, mn_zo, mn_min, mn_max, mn_abs, mn_rfit, mn_cp, mn_les, mn_gre, mn_a127, mn_a15, mn_a1, mn_a255, mn_tn0, mn_tn0e, mn_tnr, mn_tnz, mr_get, mr_ne, mr_put, mu_ne, mu_eq, mj_bk_i, mj_bk_v, mj_bk_x, decide_eq_true_eq, decide_true, decide_false, Bool.false_eq_true, Bool.true_eq_false, reduceCtorEq, mt_le_t, mt_le_f, mt_lt_t, mt_lt_f, mt_eq_t, mt_eq_f, mt_ee, not_true_eq_false, not_false_eq_true, and_true, true_and, and_self, Nat.zero_add, Nat.add_zero, Nat.one_mul, Nat.mul_one, Nat.reduceAdd, Nat.reduceMul, Nat.reduceSub, Nat.reducePow, Nat.reduceDiv, Nat.reduceMod, ↓reduceIte, mp_h, mp_w, mp_c, mp_s, mp_d, mp_n, mp_54, mp_52, mp_55, mp_l, mp_o, mp_42, mp_45, gh_gp, gw_gp, gc_gp, mw_pne, Nat.or_zero, hlt, e, e3]
      exact e2
    · rw [List.replicate_succ, ← List.singleton_append, ← List.append_assoc]; exact g3
theorem nots_Rf {i k : Nat} (hi : i ≤ 7) (hk : 0 < k) (hk2 : k < 10) {f : Nat → Nat} {s : mw_S} (h22 : s.1 42 22 = nI k) : ∀ j d, j ≤ i → mj_exec X (d + 1) 210 95 [some (.ref 42), some (.int (nI w)), some (.int (nI i)), some (.int (nI (i - j)))] [] (mw_U (mp s f)) = some (.inl none, mw_U (mp s f))
  | 0, d, _ => by
    have hle : i ≤ i - 0 := Nat.le_refl _
    rw [b210_95]
    simp (disch := first | assumption | exact hf _ | omega) only [b210, b210_0, b210_8, b210_11, b210_17, b210_22, b210_32, b210_36, b210_39, b210_44, b210_50, b210_53, b210_59, b210_62, b210_68, b210_71, b210_76, b210_78, b210_83, b210_88, b210_93, b210_100, b210_106, b210_112, nI_add, mn_mul, mn_sub, mn_m1, mn_m8, mn_eq, mn_lt, mn_le, mn_eq0, mn_0eq, mn_lt0, mn_0lt, mn_le0, mn_0le, mn_eqm, mn_meq, mn_ltm, mn_mlt, mn_lem, mn_mle, mn_mm1, mn_mm2, mn_mm3, mn_mm4, mn_mm5, mn_mm6, mn_and, mn_or, mn_an, mn_shl, mn_shr, mn_div, mn_rem, mn_clamp, mn_in, mn_inm, mn_nz, mn_zo, mn_min, mn_max, mn_abs, mn_rfit, mn_cp, mn_les, mn_gre, mn_a127, mn_a15, mn_a1, mn_a255, mn_tn0, mn_tn0e, mn_tnr, mn_tnz, mr_get, mr_ne, mr_put, mu_ne, mu_eq, mj_bk_i, mj_bk_v, mj_bk_x, decide_eq_true_eq, decide_true, decide_false, Bool.false_eq_true, Bool.true_eq_false, reduceCtorEq, mt_le_t, mt_le_f, mt_lt_t, mt_lt_f, mt_eq_t, mt_eq_f, mt_ee, not_true_eq_false, not_false_eq_true, and_true, true_and, and_self, Nat.zero_add, Nat.add_zero, Nat.one_mul, Nat.mul_one, Nat.reduceAdd, Nat.reduceMul, Nat.reduceSub, Nat.reducePow, Nat.reduceDiv, Nat.reduceMod, ↓reduceIte, mp_h, mp_w, mp_c, mp_s, mp_d, mp_n, mp_54, mp_52, mp_55, mp_l, mp_o, mp_42, mp_45, gh_gp, gw_gp, gc_gp, mw_pne, Nat.or_zero]
  | j + 1, d, hj => by
    have hlt : ¬ i ≤ i - (j + 1) := by omega
    have e3 : i - (j + 1) + 1 = i - j := by omega
    rw [b210_95]
    simp (disch := first | assumption | exact hf _ | omega) only [b210, b210_0, b210_8, b210_11, b210_17, b210_22, b210_32, b210_36, b210_39, b210_44, b210_50, b210_53, b210_59, b210_62, b210_68, b210_71, b210_76, b210_78, b210_83, b210_88, b210_93, b210_100, b210_106, b210_112, nI_add, mn_mul, mn_sub, mn_m1, mn_m8, mn_eq, mn_lt, mn_le, mn_eq0, mn_0eq, mn_lt0, mn_0lt, mn_le0, mn_0le, mn_eqm, mn_meq, mn_ltm, mn_mlt, mn_lem, mn_mle, mn_mm1, mn_mm2, mn_mm3, mn_mm4, mn_mm5, mn_mm6, mn_and, mn_or, mn_an, mn_shl, mn_shr, mn_div, mn_rem, mn_clamp, mn_in, mn_inm, mn_nz, mn_zo, mn_min, mn_max, mn_abs, mn_rfit, mn_cp, mn_les, mn_gre, mn_a127, mn_a15, mn_a1, mn_a255, mn_tn0, mn_tn0e, mn_tnr, mn_tnz, mr_get, mr_ne, mr_put, mu_ne, mu_eq, mj_bk_i, mj_bk_v, mj_bk_x, decide_eq_true_eq, decide_true, decide_false, Bool.false_eq_true, Bool.true_eq_false, reduceCtorEq, mt_le_t, mt_le_f, mt_lt_t, mt_lt_f, mt_eq_t, mt_eq_f, mt_ee, not_true_eq_false, not_false_eq_true, and_true, true_and, and_self, Nat.zero_add, Nat.add_zero, Nat.one_mul, Nat.mul_one, Nat.reduceAdd, Nat.reduceMul, Nat.reduceSub, Nat.reducePow, Nat.reduceDiv, Nat.reduceMod, ↓reduceIte, mp_h, mp_w, mp_c, mp_s, mp_d, mp_n, mp_54, mp_52, mp_55, mp_l, mp_o, mp_42, mp_45, gh_gp, gw_gp, gc_gp, mw_pne, Nat.or_zero, hlt, c216b h22, e3]
    exact nots_Rf hi hk hk2 h22 j d (by omega)
theorem L_not (hS : JJ X 102 211 (E + 12) tp n w nd) (hn : n ≤ 700) (o : Bool) : ∀ j i a l r, i + j = 6 → a ≤ n → l.length + i ≤ a → r.length + i ≤ a →
    (∃ a' l', a < a' ∧ a' ≤ n ∧ l'.length ≤ a' - a + i ∧ (∀ h, h + (nd + 1) ≤ 40 → hl l' h = some (h + 1)) ∧ (∀ d s, GC s tp n a l → ∃ t, mj_exec X (d + E + 14) 100 2 [some (.ref 22), some (.int (nI w)), some (.int (nI i)), none, none] [] (mw_U s) = some (.inl (some (.int (nI 1))), mw_U t) ∧ GC t tp n a' (l ++ l') ∧ fC s t) ∧ (∀ d s f, GR o s tp n a r → ∃ t, mj_exec X (d + E + 14) 210 2 [some (.ref 42), some (.int (nI w)), some (.int (nI i)), none] [] (mw_U (mp s f)) = some (.inl none, mw_U (mp t f)) ∧ GR o t tp n a' (r ++ l') ∧ fE o s t)) ∨
    (∃ k p, 0 < k ∧ k < 10 ∧ (∀ d s, GC s tp n a l → ∃ t, mj_exec X (d + E + 14) 100 2 [some (.ref 22), some (.int (nI w)), some (.int (nI i)), none, none] [] (mw_U s) = some (.inl (some (.int (nI 0))), mw_U t) ∧ t.1 22 3 = nI k ∧ FP t p ∧ fC s t) ∧ (∀ d s f, GR o s tp n a r → ∃ t, mj_exec X (d + E + 14) 210 2 [some (.ref 42), some (.int (nI w)), some (.int (nI i)), none] [] (mw_U (mp s f)) = some (.inl none, mw_U (mp t f)) ∧ t.1 42 22 = nI k ∧ t.1 42 23 = nI p ∧ fE o s t)) := by
  have z0 : mj_rfit (some .boolean) (nI 0) = true := by decide
  have eW : ∀ {d : Nat} {s : mw_S} {f : Nat → Nat} {a : Nat} {r : List Nat}, GR o s tp n a r → mj_call X (d + E + 13) 205 [.ref 42, .ref 1000118] (mw_U (mp s f)) = some (.inl (some (.int (nI (tV tp n a 8).toNat))), mw_U (mp s f)) := fun {d s f a r} h => c205 (X := X) (d := d + E + 9) (f := f) h.1 h.2.1 (i := 18) (by decide) (by decide)
  intro j
  induction j with
  | zero =>
    intro i a l r hi han hl_ hr
    have hi : i = 6 := by omega
    subst hi
    have kl := kcl_lt (tp := tp) (n := n) (a := a)
    cases qn : tV tp n a 8
    · have k8 : ¬ kcl tp n a = 208 := by rw [show 208 = 200 + 8 from rfl, kcl_V, qn]; decide
      rcases J_test hS hn o a l r han (by omega) (by omega) with ⟨a1, l1, b1, b2, b3, b4, b5, b6⟩ | ⟨kf, p, b1, b2, b3, b4⟩
      · refine Or.inl ⟨a1, l1 ++ List.replicate 6 10010, b1, b2, by simp; omega, fun h hh => hl_nots (b4 h hh) 6, ?_, ?_⟩
        · intro d s h
          obtain ⟨t, e, g1, g2⟩ := b5 d s h
          rw [← Nat.add_assoc] at e
          obtain ⟨u, e2, g3, g4⟩ := nots_C (X := X) (w := w) (i := 6) (by omega) (show a1 ≤ 700 by omega) 6 (l ++ l1) (d + E + 13) t (by omega) (by simp; omega) g1
          rw [List.append_assoc] at g3
          refine ⟨u, ?_, g3, fC_trans g2 g4⟩
          rw [b100_2]
          simp (disch := first | assumption | exact hf _ | omega) only [b100, b100_0, b100_8, b100_15, b100_21, b100_28, b100_34, b100_41, b100_47, b100_52, b100_53, b100_58, b100_68, b100_77, b100_83, nI_add, mn_mul, mn_sub, mn_m1, mn_m8, mn_eq, mn_lt, mn_le, mn_eq0, mn_0eq, mn_lt0, mn_0lt, mn_le0, mn_0le, mn_eqm, mn_meq, mn_ltm, mn_mlt, mn_lem, mn_mle, mn_mm1, mn_mm2, mn_mm3, mn_mm4, mn_mm5, mn_mm6, mn_and, mn_or, mn_an, mn_shl, mn_shr, mn_div, mn_rem, mn_clamp, mn_in, mn_inm, mn_nz, mn_zo, mn_min, mn_max, mn_abs, mn_rfit, mn_cp, mn_les, mn_gre, mn_a127, mn_a15, mn_a1, mn_a255, mn_tn0, mn_tn0e, mn_tnr, mn_tnz, mr_get, mr_ne, mr_put, mu_ne, mu_eq, mj_bk_i, mj_bk_v, mj_bk_x, decide_eq_true_eq, decide_true, decide_false, Bool.false_eq_true, Bool.true_eq_false, reduceCtorEq, mt_le_t, mt_le_f, mt_lt_t, mt_lt_f, mt_eq_t, mt_eq_f, mt_ee, not_true_eq_false, not_false_eq_true, and_true, true_and, and_self, Nat.zero_add, Nat.add_zero, Nat.one_mul, Nat.mul_one, Nat.reduceAdd, Nat.reduceMul, Nat.reduceSub, Nat.reducePow, Nat.reduceDiv, Nat.reduceMod, ↓reduceIte, c135 h.1, k8, e]
          exact e2
        · intro d s f h
          obtain ⟨t, v', e, g1, g2⟩ := b6 d s f (nI 6) none h
          rw [← Nat.add_assoc] at e
          obtain ⟨u, e2, g3, g4⟩ := nots_R (X := X) (w := w) (f := f) (i := 6) (by omega) (show a1 ≤ 700 by omega) 6 (r ++ l1) (d + E + 13) t (by omega) (by simp; omega) g1
          rw [List.append_assoc] at g3
          refine ⟨u, ?_, g3, fE_trans g2 g4⟩
          rw [b210_2, eW h, mj_bk_i, b210_8, qn, if_pos (by decide), e, b210_93]
          exact e2
      · refine Or.inr ⟨kf, p, b1, b2, ?_, ?_⟩
        · intro d s h
          obtain ⟨t, e, g1, g2, g3⟩ := b3 d s h
          rw [← Nat.add_assoc] at e
          obtain ⟨u, e2, g4, g5, g6⟩ := nots_Cf (X := X) (w := w) (i := 6) (by omega) 6 (d + E + 13) t (by omega) g1 g2
          refine ⟨u, ?_, g4, g5, fC_trans g3 g6⟩
          rw [b100_2]
          simp (disch := first | assumption | exact hf _ | omega) only [b100, b100_0, b100_8, b100_15, b100_21, b100_28, b100_34, b100_41, b100_47, b100_52, b100_53, b100_58, b100_68, b100_77, b100_83, nI_add, mn_mul, mn_sub, mn_m1, mn_m8, mn_eq, mn_lt, mn_le, mn_eq0, mn_0eq, mn_lt0, mn_0lt, mn_le0, mn_0le, mn_eqm, mn_meq, mn_ltm, mn_mlt, mn_lem, mn_mle, mn_mm1, mn_mm2, mn_mm3, mn_mm4, mn_mm5, mn_mm6, mn_and, mn_or, mn_an, mn_shl, mn_shr, mn_div, mn_rem, mn_clamp, mn_in, mn_inm, mn_nz, mn_zo, mn_min, mn_max, mn_abs, mn_rfit, mn_cp, mn_les, mn_gre, mn_a127, mn_a15, mn_a1, mn_a255, mn_tn0, mn_tn0e, mn_tnr, mn_tnz, mr_get, mr_ne, mr_put, mu_ne, mu_eq, mj_bk_i, mj_bk_v, mj_bk_x, decide_eq_true_eq, decide_true, decide_false, Bool.false_eq_true, Bool.true_eq_false, reduceCtorEq, mt_le_t, mt_le_f, mt_lt_t, mt_lt_f, mt_eq_t, mt_eq_f, mt_ee, not_true_eq_false, not_false_eq_true, and_true, true_and, and_self, Nat.zero_add, Nat.add_zero, Nat.one_mul, Nat.mul_one, Nat.reduceAdd, Nat.reduceMul, Nat.reduceSub, Nat.reducePow, Nat.reduceDiv, Nat.reduceMod, ↓reduceIte, c135 h.1, k8, e]
          exact e2
        · intro d s f h
          obtain ⟨t, v', e, ⟨g1, g2⟩, g3⟩ := b4 d s f (nI 6) none h
          rw [← Nat.add_assoc] at e
          have e2 := nots_Rf (X := X) (w := w) (f := f) (i := 6) (by omega) b1 b2 g1 6 (d + E + 13) (by omega)
          refine ⟨t, ?_, g1, g2, g3⟩
          rw [b210_2, eW h, mj_bk_i, b210_8, qn, if_pos (by decide), e, b210_93]
          exact e2
    · have k8 : kcl tp n a = 208 := by rw [show 208 = 200 + 8 from rfl, kcl_V]; exact qn
      refine Or.inr ⟨2, tb tp n a, by decide, by decide, ?_, ?_⟩
      · intro d s h
        obtain ⟨t, e, g1, g2, g3⟩ := g92 (X := X) (d := d + E + 12) (k := 2) h
        refine ⟨t, ?_, g1, g2, g3⟩
        rw [b100_2]
        simp (disch := first | assumption | exact hf _ | omega) only [b100, b100_0, b100_8, b100_15, b100_21, b100_28, b100_34, b100_41, b100_47, b100_52, b100_53, b100_58, b100_68, b100_77, b100_83, nI_add, mn_mul, mn_sub, mn_m1, mn_m8, mn_eq, mn_lt, mn_le, mn_eq0, mn_0eq, mn_lt0, mn_0lt, mn_le0, mn_0le, mn_eqm, mn_meq, mn_ltm, mn_mlt, mn_lem, mn_mle, mn_mm1, mn_mm2, mn_mm3, mn_mm4, mn_mm5, mn_mm6, mn_and, mn_or, mn_an, mn_shl, mn_shr, mn_div, mn_rem, mn_clamp, mn_in, mn_inm, mn_nz, mn_zo, mn_min, mn_max, mn_abs, mn_rfit, mn_cp, mn_les, mn_gre, mn_a127, mn_a15, mn_a1, mn_a255, mn_tn0, mn_tn0e, mn_tnr, mn_tnz, mr_get, mr_ne, mr_put, mu_ne, mu_eq, mj_bk_i, mj_bk_v, mj_bk_x, decide_eq_true_eq, decide_true, decide_false, Bool.false_eq_true, Bool.true_eq_false, reduceCtorEq, mt_le_t, mt_le_f, mt_lt_t, mt_lt_f, mt_eq_t, mt_eq_f, mt_ee, not_true_eq_false, not_false_eq_true, and_true, true_and, and_self, Nat.zero_add, Nat.add_zero, Nat.one_mul, Nat.mul_one, Nat.reduceAdd, Nat.reduceMul, Nat.reduceSub, Nat.reducePow, Nat.reduceDiv, Nat.reduceMod, ↓reduceIte, c135 h.1, k8, e, z0]
      · intro d s f h
        obtain ⟨t, e, g1, g2, g3⟩ := g206 (X := X) (d := d + E + 13) (f := f) (k := 2) h
        refine ⟨t, ?_, g1, g2, g3⟩
        have e2 := nots_Rf (X := X) (w := w) (f := f) (i := 7) (by omega) (by decide) (by decide) g1 7 (d + E + 13) (by omega)
        have st : mj_exec X (d + E + 14) 210 2 [some (.ref 42), some (.int (nI w)), some (.int (nI 6)), none] [] (mw_U (mp s f)) = mj_exec X (d + E + 14) 210 2 [some (.ref 42), some (.int (nI w)), some (.int (nI 7)), none] [] (mw_U (mp t f)) := by
          rw [b210_2]
          simp (disch := first | assumption | exact hf _ | omega) only [b210, b210_0, b210_8, b210_11, b210_17, b210_22, b210_32, b210_36, b210_39, b210_44, b210_50, b210_53, b210_59, b210_62, b210_68, b210_71, b210_76, b210_78, b210_83, b210_88, b210_93, b210_100, b210_106, b210_112, nI_add, mn_mul, mn_sub, mn_m1, mn_m8, mn_eq, mn_lt, mn_le, mn_eq0, mn_0eq, mn_lt0, mn_0lt, mn_le0, mn_0le, mn_eqm, mn_meq, mn_ltm, mn_mlt, mn_lem, mn_mle, mn_mm1, mn_mm2, mn_mm3, mn_mm4, mn_mm5, mn_mm6, mn_and, mn_or, mn_an, mn_shl, mn_shr, mn_div, mn_rem, mn_clamp, mn_in, mn_inm, mn_nz, mn_zo, mn_min, mn_max, mn_abs, mn_rfit, mn_cp, mn_les, mn_gre, mn_a127, mn_a15, mn_a1, mn_a255, mn_tn0, mn_tn0e, mn_tnr, mn_tnz, mr_get, mr_ne, mr_put, mu_ne, mu_eq, mj_bk_i, mj_bk_v, mj_bk_x, decide_eq_true_eq, decide_true, decide_false, Bool.false_eq_true, Bool.true_eq_false, reduceCtorEq, mt_le_t, mt_le_f, mt_lt_t, mt_lt_f, mt_eq_t, mt_eq_f, mt_ee, not_true_eq_false, not_false_eq_true, and_true, true_and, and_self, Nat.zero_add, Nat.add_zero, Nat.one_mul, Nat.mul_one, Nat.reduceAdd, Nat.reduceMul, Nat.reduceSub, Nat.reducePow, Nat.reduceDiv, Nat.reduceMod, ↓reduceIte, mp_h, mp_w, mp_c, mp_s, mp_d, mp_n, mp_54, mp_52, mp_55, mp_l, mp_o, mp_42, mp_45, gh_gp, gw_gp, gc_gp, mw_pne, Nat.or_zero, eW h, qn, Bool.toNat_true, e, g1]
        have eb : mj_call X (d + E + 13) 205 [.ref 42, .ref 1000118] (mw_U (mp t f)) = some (.inl (some (.int (nI 0))), mw_U (mp t f)) := c205b (X := X) (d := d + E + 9) (f := f) (i := 18) (by decide) g1 (by decide) (by decide)
        rw [st, b210_2]
        simp (disch := first | assumption | exact hf _ | omega) only [b210, b210_0, b210_8, b210_11, b210_17, b210_22, b210_32, b210_36, b210_39, b210_44, b210_50, b210_53, b210_59, b210_62, b210_68, b210_71, b210_76, b210_78, b210_83, b210_88, b210_93, b210_100, b210_106, b210_112, nI_add, mn_mul, mn_sub, mn_m1, mn_m8, mn_eq, mn_lt, mn_le, mn_eq0, mn_0eq, mn_lt0, mn_0lt, mn_le0, mn_0le, mn_eqm, mn_meq, mn_ltm, mn_mlt, mn_lem, mn_mle, mn_mm1, mn_mm2, mn_mm3, mn_mm4, mn_mm5, mn_mm6, mn_and, mn_or, mn_an, mn_shl, mn_shr, mn_div, mn_rem, mn_clamp, mn_in, mn_inm, mn_nz, mn_zo, mn_min, mn_max, mn_abs, mn_rfit, mn_cp, mn_les, mn_gre, mn_a127, mn_a15, mn_a1, mn_a255, mn_tn0, mn_tn0e, mn_tnr, mn_tnz, mr_get, mr_ne, mr_put, mu_ne, mu_eq, mj_bk_i, mj_bk_v, mj_bk_x, decide_eq_true_eq, decide_true, decide_false, Bool.false_eq_true, Bool.true_eq_false, reduceCtorEq, mt_le_t, mt_le_f, mt_lt_t, mt_lt_f, mt_eq_t, mt_eq_f, mt_ee, not_true_eq_false, not_false_eq_true, and_true, true_and, and_self, Nat.zero_add, Nat.add_zero, Nat.one_mul, Nat.mul_one, Nat.reduceAdd, Nat.reduceMul, Nat.reduceSub, Nat.reducePow, Nat.reduceDiv, Nat.reduceMod, ↓reduceIte, mp_h, mp_w, mp_c, mp_s, mp_d, mp_n, mp_54, mp_52, mp_55, mp_l, mp_o, mp_42, mp_45, gh_gp, gw_gp, gc_gp, mw_pne, Nat.or_zero, eb, nb211 g1, c208b g1]
        exact e2
  | succ j ih =>
    intro i a l r hi han hl_ hr
    have kl := kcl_lt (tp := tp) (n := n) (a := a)
    have hi6 : ¬ 6 ≤ i := by omega
    have hne6 : ¬ i = 6 := by omega
    cases qn : tV tp n a 8
    · have k8 : ¬ kcl tp n a = 208 := by rw [show 208 = 200 + 8 from rfl, kcl_V, qn]; decide
      rcases J_test hS hn o a l r han (by omega) (by omega) with ⟨a1, l1, b1, b2, b3, b4, b5, b6⟩ | ⟨kf, p, b1, b2, b3, b4⟩
      · refine Or.inl ⟨a1, l1 ++ List.replicate i 10010, b1, b2, by simp; omega, fun h hh => hl_nots (b4 h hh) i, ?_, ?_⟩
        · intro d s h
          obtain ⟨t, e, g1, g2⟩ := b5 d s h
          rw [← Nat.add_assoc] at e
          obtain ⟨u, e2, g3, g4⟩ := nots_C (X := X) (w := w) (i := i) (by omega) (show a1 ≤ 700 by omega) i (l ++ l1) (d + E + 13) t (by omega) (by simp; omega) g1
          rw [List.append_assoc] at g3
          rw [Nat.sub_self] at e2
          refine ⟨u, ?_, g3, fC_trans g2 g4⟩
          rw [b100_2]
          simp (disch := first | assumption | exact hf _ | omega) only [b100, b100_0, b100_8, b100_15, b100_21, b100_28, b100_34, b100_41, b100_47, b100_52, b100_53, b100_58, b100_68, b100_77, b100_83, nI_add, mn_mul, mn_sub, mn_m1, mn_m8, mn_eq, mn_lt, mn_le, mn_eq0, mn_0eq, mn_lt0, mn_0lt, mn_le0, mn_0le, mn_eqm, mn_meq, mn_ltm, mn_mlt, mn_lem, mn_mle, mn_mm1, mn_mm2, mn_mm3, mn_mm4, mn_mm5, mn_mm6, mn_and, mn_or, mn_an, mn_shl, mn_shr, mn_div, mn_rem, mn_clamp, mn_in, mn_inm, mn_nz, mn_zo, mn_min, mn_max, mn_abs, mn_rfit, mn_cp, mn_les, mn_gre, mn_a127, mn_a15, mn_a1, mn_a255, mn_tn0, mn_tn0e, mn_tnr, mn_tnz, mr_get, mr_ne, mr_put, mu_ne, mu_eq, mj_bk_i, mj_bk_v, mj_bk_x, decide_eq_true_eq, decide_true, decide_false, Bool.false_eq_true, Bool.true_eq_false, reduceCtorEq, mt_le_t, mt_le_f, mt_lt_t, mt_lt_f, mt_eq_t, mt_eq_f, mt_ee, not_true_eq_false, not_false_eq_true, and_true, true_and, and_self, Nat.zero_add, Nat.add_zero, Nat.one_mul, Nat.mul_one, Nat.reduceAdd, Nat.reduceMul, Nat.reduceSub, Nat.reducePow, Nat.reduceDiv, Nat.reduceMod, ↓reduceIte, hi6, c135 h.1, k8, e]
          exact e2
        · intro d s f h
          obtain ⟨t, v', e, g1, g2⟩ := b6 d s f (nI i) none h
          rw [← Nat.add_assoc] at e
          obtain ⟨u, e2, g3, g4⟩ := nots_R (X := X) (w := w) (f := f) (i := i) (by omega) (show a1 ≤ 700 by omega) i (r ++ l1) (d + E + 13) t (by omega) (by simp; omega) g1
          rw [List.append_assoc] at g3
          rw [Nat.sub_self] at e2
          refine ⟨u, ?_, g3, fE_trans g2 g4⟩
          rw [b210_2, eW h, mj_bk_i, b210_8, qn, if_pos (by decide), e, b210_93]
          exact e2
      · refine Or.inr ⟨kf, p, b1, b2, ?_, ?_⟩
        · intro d s h
          obtain ⟨t, e, g1, g2, g3⟩ := b3 d s h
          rw [← Nat.add_assoc] at e
          obtain ⟨u, e2, g4, g5, g6⟩ := nots_Cf (X := X) (w := w) (i := i) (by omega) i (d + E + 13) t (by omega) g1 g2
          rw [Nat.sub_self] at e2
          refine ⟨u, ?_, g4, g5, fC_trans g3 g6⟩
          rw [b100_2]
          simp (disch := first | assumption | exact hf _ | omega) only [b100, b100_0, b100_8, b100_15, b100_21, b100_28, b100_34, b100_41, b100_47, b100_52, b100_53, b100_58, b100_68, b100_77, b100_83, nI_add, mn_mul, mn_sub, mn_m1, mn_m8, mn_eq, mn_lt, mn_le, mn_eq0, mn_0eq, mn_lt0, mn_0lt, mn_le0, mn_0le, mn_eqm, mn_meq, mn_ltm, mn_mlt, mn_lem, mn_mle, mn_mm1, mn_mm2, mn_mm3, mn_mm4, mn_mm5, mn_mm6, mn_and, mn_or, mn_an, mn_shl, mn_shr, mn_div, mn_rem, mn_clamp, mn_in, mn_inm, mn_nz, mn_zo, mn_min, mn_max, mn_abs, mn_rfit, mn_cp, mn_les, mn_gre, mn_a127, mn_a15, mn_a1, mn_a255, mn_tn0, mn_tn0e, mn_tnr, mn_tnz, mr_get, mr_ne, mr_put, mu_ne, mu_eq, mj_bk_i, mj_bk_v, mj_bk_x, decide_eq_true_eq, decide_true, decide_false, Bool.false_eq_true, Bool.true_eq_false, reduceCtorEq, mt_le_t, mt_le_f, mt_lt_t, mt_lt_f, mt_eq_t, mt_eq_f, mt_ee, not_true_eq_false, not_false_eq_true, and_true, true_and, and_self, Nat.zero_add, Nat.add_zero, Nat.one_mul, Nat.mul_one, Nat.reduceAdd, Nat.reduceMul, Nat.reduceSub, Nat.reducePow, Nat.reduceDiv, Nat.reduceMod, ↓reduceIte, hi6, c135 h.1, k8, e]
          exact e2
        · intro d s f h
          obtain ⟨t, v', e, ⟨g1, g2⟩, g3⟩ := b4 d s f (nI i) none h
          rw [← Nat.add_assoc] at e
          have e2 := nots_Rf (X := X) (w := w) (f := f) (i := i) (by omega) b1 b2 g1 i (d + E + 13) (by omega)
          rw [Nat.sub_self] at e2
          refine ⟨t, ?_, g1, g2, g3⟩
          rw [b210_2, eW h, mj_bk_i, b210_8, qn, if_pos (by decide), e, b210_93]
          exact e2
    · have k8 : kcl tp n a = 208 := by rw [show 208 = 200 + 8 from rfl, kcl_V]; exact qn
      have q1 : tkd tp n a = 1 := (of_decide_eq_true qn).1
      have hge := tb_ge (tp := tp) (n := n) (a := a)
      have hlt := te_gt (tp := tp) (n := n) (a := a) (by omega)
      have hle := te_le (tp := tp) han
      have goC : ∀ d s, GC s tp n a l → ∃ t, mj_exec X (d + E + 14) 100 2 [some (.ref 22), some (.int (nI w)), some (.int (nI i)), none, none] [] (mw_U s) = mj_exec X (d + E + 14) 100 2 [some (.ref 22), some (.int (nI w)), some (.int (nI (i + 1))), none, none] [] (mw_U t) ∧ GC t tp n (te tp n a) l ∧ fC s t := by
        intro d s h
        obtain ⟨t, e, g1, g2⟩ := g131 (X := X) (d := d + E + 7) h
        refine ⟨t, ?_, g1, g2⟩
        rw [b100_2]
        simp (disch := first | assumption | exact hf _ | omega) only [b100, b100_0, b100_8, b100_15, b100_21, b100_28, b100_34, b100_41, b100_47, b100_52, b100_53, b100_58, b100_68, b100_77, b100_83, nI_add, mn_mul, mn_sub, mn_m1, mn_m8, mn_eq, mn_lt, mn_le, mn_eq0, mn_0eq, mn_lt0, mn_0lt, mn_le0, mn_0le, mn_eqm, mn_meq, mn_ltm, mn_mlt, mn_lem, mn_mle, mn_mm1, mn_mm2, mn_mm3, mn_mm4, mn_mm5, mn_mm6, mn_and, mn_or, mn_an, mn_shl, mn_shr, mn_div, mn_rem, mn_clamp, mn_in, mn_inm, mn_nz, mn_zo, mn_min, mn_max, mn_abs, mn_rfit, mn_cp, mn_les, mn_gre, mn_a127, mn_a15, mn_a1, mn_a255, mn_tn0, mn_tn0e, mn_tnr, mn_tnz, mr_get, mr_ne, mr_put, mu_ne, mu_eq, mj_bk_i, mj_bk_v, mj_bk_x, decide_eq_true_eq, decide_true, decide_false, Bool.false_eq_true, Bool.true_eq_false, reduceCtorEq, mt_le_t, mt_le_f, mt_lt_t, mt_lt_f, mt_eq_t, mt_eq_f, mt_ee, not_true_eq_false, not_false_eq_true, and_true, true_and, and_self, Nat.zero_add, Nat.add_zero, Nat.one_mul, Nat.mul_one, Nat.reduceAdd, Nat.reduceMul, Nat.reduceSub, Nat.reducePow, Nat.reduceDiv, Nat.reduceMod, ↓reduceIte, hi6, c135 h.1, k8, e]
      have goR : ∀ d s f, GR o s tp n a r → ∃ t, mj_exec X (d + E + 14) 210 2 [some (.ref 42), some (.int (nI w)), some (.int (nI i)), none] [] (mw_U (mp s f)) = mj_exec X (d + E + 14) 210 2 [some (.ref 42), some (.int (nI w)), some (.int (nI (i + 1))), none] [] (mw_U (mp t f)) ∧ GR o t tp n (te tp n a) r ∧ fE o s t := by
        intro d s f h
        obtain ⟨t, e, g1, g2⟩ := g198 (X := X) (d := d + E + 11) (f := f) h
        have h22 := h.2.1
        refine ⟨t, ?_, g1, g2⟩
        rw [b210_2]
        simp (disch := first | assumption | exact hf _ | omega) only [b210, b210_0, b210_8, b210_11, b210_17, b210_22, b210_32, b210_36, b210_39, b210_44, b210_50, b210_53, b210_59, b210_62, b210_68, b210_71, b210_76, b210_78, b210_83, b210_88, b210_93, b210_100, b210_106, b210_112, nI_add, mn_mul, mn_sub, mn_m1, mn_m8, mn_eq, mn_lt, mn_le, mn_eq0, mn_0eq, mn_lt0, mn_0lt, mn_le0, mn_0le, mn_eqm, mn_meq, mn_ltm, mn_mlt, mn_lem, mn_mle, mn_mm1, mn_mm2, mn_mm3, mn_mm4, mn_mm5, mn_mm6, mn_and, mn_or, mn_an, mn_shl, mn_shr, mn_div, mn_rem, mn_clamp, mn_in, mn_inm, mn_nz, mn_zo, mn_min, mn_max, mn_abs, mn_rfit, mn_cp, mn_les, mn_gre, mn_a127, mn_a15, mn_a1, mn_a255, mn_tn0, mn_tn0e, mn_tnr, mn_tnz, mr_get, mr_ne, mr_put, mu_ne, mu_eq, mj_bk_i, mj_bk_v, mj_bk_x, decide_eq_true_eq, decide_true, decide_false, Bool.false_eq_true, Bool.true_eq_false, reduceCtorEq, mt_le_t, mt_le_f, mt_lt_t, mt_lt_f, mt_eq_t, mt_eq_f, mt_ee, not_true_eq_false, not_false_eq_true, and_true, true_and, and_self, Nat.zero_add, Nat.add_zero, Nat.one_mul, Nat.mul_one, Nat.reduceAdd, Nat.reduceMul, Nat.reduceSub, Nat.reducePow, Nat.reduceDiv, Nat.reduceMod, ↓reduceIte, mp_h, mp_w, mp_c, mp_s, mp_d, mp_n, mp_54, mp_52, mp_55, mp_l, mp_o, mp_42, mp_45, gh_gp, gw_gp, gc_gp, mw_pne, Nat.or_zero, eW h, qn, Bool.toNat_true, hne6, h22, e]
      rcases ih (i + 1) (te tp n a) l r (by omega) hle (by omega) (by omega) with ⟨a1, l1, b1, b2, b3, b4, b5, b6⟩ | ⟨kf, p, b1, b2, b3, b4⟩
      · refine Or.inl ⟨a1, l1, by omega, b2, by omega, b4, ?_, ?_⟩
        · intro d s h
          obtain ⟨t, e, g1, g2⟩ := goC d s h
          obtain ⟨u, e2, g3, g4⟩ := b5 d t g1
          exact ⟨u, e.trans e2, g3, fC_trans g2 g4⟩
        · intro d s f h
          obtain ⟨t, e, g1, g2⟩ := goR d s f h
          obtain ⟨u, e2, g3, g4⟩ := b6 d t f g1
          exact ⟨u, e.trans e2, g3, fE_trans g2 g4⟩
      · refine Or.inr ⟨kf, p, b1, b2, ?_, ?_⟩
        · intro d s h
          obtain ⟨t, e, g1, g2⟩ := goC d s h
          obtain ⟨u, e2, g3, g4, g5⟩ := b3 d t g1
          exact ⟨u, e.trans e2, g3, g4, fC_trans g2 g5⟩
        · intro d s f h
          obtain ⟨t, e, g1, g2⟩ := goR d s f h
          obtain ⟨u, e2, g3, g4, g5⟩ := b4 d t f g1
          exact ⟨u, e.trans e2, g3, g4, fE_trans g2 g5⟩
theorem J_not (hS : JJ X 102 211 (E + 12) tp n w nd) (hn : n ≤ 700) : JJ X 100 210 (E + 14) tp n w (nd + 1) := by
  intro o a l r han hl_ hr
  rcases L_not hS hn o 6 0 a l r rfl han (by omega) (by omega) with ⟨a1, l1, b1, b2, b3, b4, b5, b6⟩ | ⟨kf, p, b1, b2, b3, b4⟩
  · refine Or.inl ⟨a1, l1, b1, b2, by omega, b4, ?_, ?_⟩
    · intro d s h
      rw [← Nat.add_assoc, b100, b100_0]
      exact b5 d s h
    · intro d s f h
      rw [← Nat.add_assoc, b210, b210_0]
      exact b6 d s f h
  · refine Or.inr ⟨kf, p, b1, b2, ?_, ?_⟩
    · intro d s h
      rw [← Nat.add_assoc, b100, b100_0]
      exact b3 d s h
    · intro d s f h
      rw [← Nat.add_assoc, b210, b210_0]
      exact b4 d s f h
end
