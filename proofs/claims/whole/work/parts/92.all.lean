/-! both readers: EXPRs within each other -/
section
variable {X : mj_X} {E : Nat} {tp : Nat → Nat} {n w nd : Nat} {a : Nat} {l : List Nat} {k p : Nat}
theorem C104f (hm : may tp n a = false) : JCf X 104 (E + 10) tp n w a l 1 (tb tp n a) := by
  intro d s h
  rw [← Nat.add_assoc]
  have q := of_decide_eq_false hm
  have q1 : ¬ tkd tp n a = 2 := fun z => q (Or.inl z)
  have q2 : ¬ tkd tp n a = 1 := fun z => q (Or.inr (Or.inl z))
  have q3 : tS tp n a 40 = false := by cases hh : tS tp n a 40; rfl; exact absurd (Or.inr (Or.inr hh)) q
  have kl := kcl_lt (tp := tp) (n := n) (a := a)
  have k40 : ¬ kcl tp n a = 40 := by rw [kcl_S (by omega), q3]; decide
  have k2 : ¬ kcl tp n a = 2 := by rw [kcl_2]; exact q1
  obtain ⟨t, e, g1, g2, g3⟩ := g92 (X := X) (d := d + E + 8) (k := 1) h
  refine ⟨t, ?_, g1, g2, g3⟩
  simp (disch := first | assumption | exact hf _ | omega) only [b104, b104_0, b104_7, b104_10, b104_21, b104_31, b104_34, b104_41, b104_44, b104_49, b104_50, b104_57, b104_62, b104_69, b104_76, b104_79, b104_81, b104_88, b104_93, b104_98, b104_99, b104_106, b104_110, b104_115, b104_116, b104_123, b104_126, b104_131, b104_132, b104_143, b104_146, b104_153, nI_add, mn_mul, mn_sub, mn_m1, mn_m8, mn_eq, mn_lt, mn_le, mn_eq0, mn_0eq, mn_lt0, mn_0lt, mn_le0, mn_0le, mn_eqm, mn_meq, mn_ltm, mn_mlt, mn_lem, mn_mle, mn_mm1, mn_mm2, mn_mm3, mn_mm4, mn_mm5, mn_mm6, mn_and, mn_or, mn_an, mn_shl, mn_shr, mn_div, mn_rem, mn_clamp, mn_in, mn_inm, mn_nz, mn_zo, mn_min, mn_max, mn_abs, mn_rfit, mn_cp, mn_les, mn_gre, mn_a127, mn_a15, mn_a1, mn_a255, mn_tn0, mn_tn0e, mn_tnr, mn_tnz, mr_get, mr_ne, mr_put, mu_ne, mu_eq, mj_bk_i, mj_bk_v, mj_bk_x, decide_eq_true_eq, decide_true, decide_false, Bool.false_eq_true, Bool.true_eq_false, reduceCtorEq, mt_le_t, mt_le_f, mt_lt_t, mt_lt_f, mt_eq_t, mt_eq_f, mt_ee, not_true_eq_false, not_false_eq_true, and_true, true_and, and_self, Nat.zero_add, Nat.add_zero, Nat.one_mul, Nat.mul_one, Nat.reduceAdd, Nat.reduceMul, Nat.reduceSub, Nat.reducePow, Nat.reduceDiv, Nat.reduceMod, ↓reduceIte, c140 h.1, c139 h.1, q2, false_and, c135 h.1, k40, k2, Bool.toNat_false, e]
theorem C103f (hP : JCf X 104 (E + 10) tp n w a l k p) : JCf X 103 (E + 11) tp n w a l k p := by
  intro d s h
  have z0 : mj_rfit (some .boolean) (nI 0) = true := by decide
  obtain ⟨t, e, g1, g2, g3⟩ := hP d s h
  refine ⟨t, ?_, g1, g2, g3⟩
  rw [← Nat.add_assoc] at e ⊢
  rw [b103, b103_0, e, mj_bk_i, b103_5, b103_8]
  simp (disch := first | assumption | exact hf _ | omega) only [b103, b103_0, b103_5, b103_15, b103_19, b103_26, b103_35, b103_42, b103_44, b103_51, b103_56, b103_68, b103_73, b103_75, b103_78, b103_84, nI_add, mn_mul, mn_sub, mn_m1, mn_m8, mn_eq, mn_lt, mn_le, mn_eq0, mn_0eq, mn_lt0, mn_0lt, mn_le0, mn_0le, mn_eqm, mn_meq, mn_ltm, mn_mlt, mn_lem, mn_mle, mn_mm1, mn_mm2, mn_mm3, mn_mm4, mn_mm5, mn_mm6, mn_and, mn_or, mn_an, mn_shl, mn_shr, mn_div, mn_rem, mn_clamp, mn_in, mn_inm, mn_nz, mn_zo, mn_min, mn_max, mn_abs, mn_rfit, mn_cp, mn_les, mn_gre, mn_a127, mn_a15, mn_a1, mn_a255, mn_tn0, mn_tn0e, mn_tnr, mn_tnz, mr_get, mr_ne, mr_put, mu_ne, mu_eq, mj_bk_i, mj_bk_v, mj_bk_x, decide_eq_true_eq, decide_true, decide_false, Bool.false_eq_true, Bool.true_eq_false, reduceCtorEq, mt_le_t, mt_le_f, mt_lt_t, mt_lt_f, mt_eq_t, mt_eq_f, mt_ee, not_true_eq_false, not_false_eq_true, and_true, true_and, and_self, Nat.zero_add, Nat.add_zero, Nat.one_mul, Nat.mul_one, Nat.reduceAdd, Nat.reduceMul, Nat.reduceSub, Nat.reducePow, Nat.reduceDiv, Nat.reduceMod, ↓reduceIte, z0]
theorem C102f (hP : JCf X 103 (E + 11) tp n w a l k p) : JCf X 102 (E + 12) tp n w a l k p := by
  intro d s h
  have z0 : mj_rfit (some .boolean) (nI 0) = true := by decide
  obtain ⟨t, e, g1, g2, g3⟩ := hP d s h
  refine ⟨t, ?_, g1, g2, g3⟩
  rw [← Nat.add_assoc] at e ⊢
  rw [b102, b102_0, e, mj_bk_i, b102_5, b102_8]
  simp (disch := first | assumption | exact hf _ | omega) only [b102, b102_0, b102_5, b102_15, b102_19, b102_26, b102_35, b102_42, b102_44, b102_51, b102_56, b102_68, b102_73, b102_75, b102_78, b102_84, nI_add, mn_mul, mn_sub, mn_m1, mn_m8, mn_eq, mn_lt, mn_le, mn_eq0, mn_0eq, mn_lt0, mn_0lt, mn_le0, mn_0le, mn_eqm, mn_meq, mn_ltm, mn_mlt, mn_lem, mn_mle, mn_mm1, mn_mm2, mn_mm3, mn_mm4, mn_mm5, mn_mm6, mn_and, mn_or, mn_an, mn_shl, mn_shr, mn_div, mn_rem, mn_clamp, mn_in, mn_inm, mn_nz, mn_zo, mn_min, mn_max, mn_abs, mn_rfit, mn_cp, mn_les, mn_gre, mn_a127, mn_a15, mn_a1, mn_a255, mn_tn0, mn_tn0e, mn_tnr, mn_tnz, mr_get, mr_ne, mr_put, mu_ne, mu_eq, mj_bk_i, mj_bk_v, mj_bk_x, decide_eq_true_eq, decide_true, decide_false, Bool.false_eq_true, Bool.true_eq_false, reduceCtorEq, mt_le_t, mt_le_f, mt_lt_t, mt_lt_f, mt_eq_t, mt_eq_f, mt_ee, not_true_eq_false, not_false_eq_true, and_true, true_and, and_self, Nat.zero_add, Nat.add_zero, Nat.one_mul, Nat.mul_one, Nat.reduceAdd, Nat.reduceMul, Nat.reduceSub, Nat.reducePow, Nat.reduceDiv, Nat.reduceMod, ↓reduceIte, z0]
theorem C101f (hP : JCf X 102 (E + 12) tp n w a l k p) : JCf X 101 (E + 13) tp n w a l k p := by
  intro d s h
  obtain ⟨t, e, g1, g2, g3⟩ := hP d s h
  refine ⟨t, ?_, g1, g2, g3⟩
  rw [← Nat.add_assoc] at e ⊢
  simp (disch := first | assumption | exact hf _ | omega) only [b101, b101_0, b101_5, b101_8, b101_10, b101_17, b101_24, b101_30, b101_32, b101_39, b101_44, b101_55, b101_60, b101_62, b101_65, nI_add, mn_mul, mn_sub, mn_m1, mn_m8, mn_eq, mn_lt, mn_le, mn_eq0, mn_0eq, mn_lt0, mn_0lt, mn_le0, mn_0le, mn_eqm, mn_meq, mn_ltm, mn_mlt, mn_lem, mn_mle, mn_mm1, mn_mm2, mn_mm3, mn_mm4, mn_mm5, mn_mm6, mn_and, mn_or, mn_an, mn_shl, mn_shr, mn_div, mn_rem, mn_clamp, mn_in, mn_inm, mn_nz, mn_zo, mn_min, mn_max, mn_abs, mn_rfit, mn_cp, mn_les, mn_gre, mn_a127, mn_a15, mn_a1, mn_a255, mn_tn0, mn_tn0e, mn_tnr, mn_tnz, mr_get, mr_ne, mr_put, mu_ne, mu_eq, mj_bk_i, mj_bk_v, mj_bk_x, decide_eq_true_eq, decide_true, decide_false, Bool.false_eq_true, Bool.true_eq_false, reduceCtorEq, mt_le_t, mt_le_f, mt_lt_t, mt_lt_f, mt_eq_t, mt_eq_f, mt_ee, not_true_eq_false, not_false_eq_true, and_true, true_and, and_self, Nat.zero_add, Nat.add_zero, Nat.one_mul, Nat.mul_one, Nat.reduceAdd, Nat.reduceMul, Nat.reduceSub, Nat.reducePow, Nat.reduceDiv, Nat.reduceMod, ↓reduceIte, e]
theorem C100f (hP : JCf X 101 (E + 13) tp n w a l k p) (q : ¬ tkd tp n a = 1) : JCf X 100 (E + 14) tp n w a l k p := by
  intro d s h
  obtain ⟨t, e, g1, g2, g3⟩ := hP d s h
  have kl := kcl_lt (tp := tp) (n := n) (a := a)
  have k8 : ¬ kcl tp n a = 208 := by have := kl.2 q; omega
  rw [← Nat.add_assoc] at e ⊢
  obtain ⟨u, e2, g4, g5, g6⟩ := nots_Cf (X := X) (w := w) (i := 0) (by omega) 0 (d + E + 13) t (by omega) g1 g2
  refine ⟨u, ?_, g4, g5, fC_trans g3 g6⟩
  rw [b100, b100_0, b100_2]
  simp (disch := first | assumption | exact hf _ | omega) only [b100, b100_0, b100_8, b100_15, b100_21, b100_28, b100_34, b100_41, b100_47, b100_52, b100_53, b100_58, b100_68, b100_77, b100_83, nI_add, mn_mul, mn_sub, mn_m1, mn_m8, mn_eq, mn_lt, mn_le, mn_eq0, mn_0eq, mn_lt0, mn_0lt, mn_le0, mn_0le, mn_eqm, mn_meq, mn_ltm, mn_mlt, mn_lem, mn_mle, mn_mm1, mn_mm2, mn_mm3, mn_mm4, mn_mm5, mn_mm6, mn_and, mn_or, mn_an, mn_shl, mn_shr, mn_div, mn_rem, mn_clamp, mn_in, mn_inm, mn_nz, mn_zo, mn_min, mn_max, mn_abs, mn_rfit, mn_cp, mn_les, mn_gre, mn_a127, mn_a15, mn_a1, mn_a255, mn_tn0, mn_tn0e, mn_tnr, mn_tnz, mr_get, mr_ne, mr_put, mu_ne, mu_eq, mj_bk_i, mj_bk_v, mj_bk_x, decide_eq_true_eq, decide_true, decide_false, Bool.false_eq_true, Bool.true_eq_false, reduceCtorEq, mt_le_t, mt_le_f, mt_lt_t, mt_lt_f, mt_eq_t, mt_eq_f, mt_ee, not_true_eq_false, not_false_eq_true, and_true, true_and, and_self, Nat.zero_add, Nat.add_zero, Nat.one_mul, Nat.mul_one, Nat.reduceAdd, Nat.reduceMul, Nat.reduceSub, Nat.reducePow, Nat.reduceDiv, Nat.reduceMod, ↓reduceIte, c135 h.1, k8, e]
  exact e2
theorem C99f (hP : JCf X 100 (E + 14) tp n w a l k p) : JCf X 99 (E + 15) tp n w a l k p := by
  intro d s h
  have z0 : mj_rfit (some .boolean) (nI 0) = true := by decide
  obtain ⟨t, e, g1, g2, g3⟩ := hP d s h
  refine ⟨t, ?_, g1, g2, g3⟩
  rw [← Nat.add_assoc] at e ⊢
  rw [b99, b99_0, e, mj_bk_i, b99_5, b99_8]
  simp (disch := first | assumption | exact hf _ | omega) only [b99, b99_0, b99_5, b99_15, b99_19, b99_26, b99_32, b99_39, b99_44, b99_54, b99_60, nI_add, mn_mul, mn_sub, mn_m1, mn_m8, mn_eq, mn_lt, mn_le, mn_eq0, mn_0eq, mn_lt0, mn_0lt, mn_le0, mn_0le, mn_eqm, mn_meq, mn_ltm, mn_mlt, mn_lem, mn_mle, mn_mm1, mn_mm2, mn_mm3, mn_mm4, mn_mm5, mn_mm6, mn_and, mn_or, mn_an, mn_shl, mn_shr, mn_div, mn_rem, mn_clamp, mn_in, mn_inm, mn_nz, mn_zo, mn_min, mn_max, mn_abs, mn_rfit, mn_cp, mn_les, mn_gre, mn_a127, mn_a15, mn_a1, mn_a255, mn_tn0, mn_tn0e, mn_tnr, mn_tnz, mr_get, mr_ne, mr_put, mu_ne, mu_eq, mj_bk_i, mj_bk_v, mj_bk_x, decide_eq_true_eq, decide_true, decide_false, Bool.false_eq_true, Bool.true_eq_false, reduceCtorEq, mt_le_t, mt_le_f, mt_lt_t, mt_lt_f, mt_eq_t, mt_eq_f, mt_ee, not_true_eq_false, not_false_eq_true, and_true, true_and, and_self, Nat.zero_add, Nat.add_zero, Nat.one_mul, Nat.mul_one, Nat.reduceAdd, Nat.reduceMul, Nat.reduceSub, Nat.reducePow, Nat.reduceDiv, Nat.reduceMod, ↓reduceIte, z0]
theorem J_expr (hP : JJ X 99 209 (E + 15) tp n w nd) (hw : w ≤ 5) (hn : n ≤ 700) : JJ X 98 207 (E + 16) tp n w (nd + 1) := by
  intro o a l r han hl_ hr
  have z0 : mj_rfit (some .boolean) (nI 0) = true := by decide
  have hw6 : w < 6 := by omega
  have hw6' : ¬ w = 6 := by omega
  have h4 := tkd_le (tp := tp) (n := n) (a := a)
  cases qm : may tp n a
  · have q2 : ¬ tkd tp n a = 1 := fun z => of_decide_eq_false qm (Or.inr (Or.inl z))
    have hC : JCf X 99 (E + 15) tp n w a l 1 (tb tp n a) := C99f (C100f (C101f (C102f (C103f (C104f qm)))) q2)
    refine Or.inr ⟨1, tb tp n a, by decide, by decide, ?_, ?_⟩
    · intro d s h
      obtain ⟨t, e, g1, g2, g3⟩ := hC d s h
      refine ⟨t, ?_, g1, g2, g3⟩
      rw [← Nat.add_assoc] at e ⊢
      have st : mj_call X (d + E + 16) 98 [.ref 22, .int (nI w)] (mw_U s) = mj_exec X (d + E + 16) 98 67 [some (.ref 22), some (.int (nI w)), some (.int (nI 0)), some (.int (nI 0))] [] (mw_U t) := by
        simp (disch := first | assumption | exact hf _ | omega) only [b98, b98_0, b98_6, b98_13, b98_17, b98_24, b98_27, b98_34, b98_39, b98_43, b98_44, b98_50, b98_54, b98_55, b98_58, b98_59, b98_64, b98_74, b98_78, b98_85, b98_91, b98_98, b98_103, b98_113, b98_119, nI_add, mn_mul, mn_sub, mn_m1, mn_m8, mn_eq, mn_lt, mn_le, mn_eq0, mn_0eq, mn_lt0, mn_0lt, mn_le0, mn_0le, mn_eqm, mn_meq, mn_ltm, mn_mlt, mn_lem, mn_mle, mn_mm1, mn_mm2, mn_mm3, mn_mm4, mn_mm5, mn_mm6, mn_and, mn_or, mn_an, mn_shl, mn_shr, mn_div, mn_rem, mn_clamp, mn_in, mn_inm, mn_nz, mn_zo, mn_min, mn_max, mn_abs, mn_rfit, mn_cp, mn_les, mn_gre, mn_a127, mn_a15, mn_a1, mn_a255, mn_tn0, mn_tn0e, mn_tnr, mn_tnz, mr_get, mr_ne, mr_put, mu_ne, mu_eq, mj_bk_i, mj_bk_v, mj_bk_x, decide_eq_true_eq, decide_true, decide_false, Bool.false_eq_true, Bool.true_eq_false, reduceCtorEq, mt_le_t, mt_le_f, mt_lt_t, mt_lt_f, mt_eq_t, mt_eq_f, mt_ee, not_true_eq_false, not_false_eq_true, and_true, true_and, and_self, Nat.zero_add, Nat.add_zero, Nat.one_mul, Nat.mul_one, Nat.reduceAdd, Nat.reduceMul, Nat.reduceSub, Nat.reducePow, Nat.reduceDiv, Nat.reduceMod, ↓reduceIte, e]
      rw [st, b98_67]
      simp (disch := first | assumption | exact hf _ | omega) only [b98, b98_0, b98_6, b98_13, b98_17, b98_24, b98_27, b98_34, b98_39, b98_43, b98_44, b98_50, b98_54, b98_55, b98_58, b98_59, b98_64, b98_74, b98_78, b98_85, b98_91, b98_98, b98_103, b98_113, b98_119, nI_add, mn_mul, mn_sub, mn_m1, mn_m8, mn_eq, mn_lt, mn_le, mn_eq0, mn_0eq, mn_lt0, mn_0lt, mn_le0, mn_0le, mn_eqm, mn_meq, mn_ltm, mn_mlt, mn_lem, mn_mle, mn_mm1, mn_mm2, mn_mm3, mn_mm4, mn_mm5, mn_mm6, mn_and, mn_or, mn_an, mn_shl, mn_shr, mn_div, mn_rem, mn_clamp, mn_in, mn_inm, mn_nz, mn_zo, mn_min, mn_max, mn_abs, mn_rfit, mn_cp, mn_les, mn_gre, mn_a127, mn_a15, mn_a1, mn_a255, mn_tn0, mn_tn0e, mn_tnr, mn_tnz, mr_get, mr_ne, mr_put, mu_ne, mu_eq, mj_bk_i, mj_bk_v, mj_bk_x, decide_eq_true_eq, decide_true, decide_false, Bool.false_eq_true, Bool.true_eq_false, reduceCtorEq, mt_le_t, mt_le_f, mt_lt_t, mt_lt_f, mt_eq_t, mt_eq_f, mt_ee, not_true_eq_false, not_false_eq_true, and_true, true_and, and_self, Nat.zero_add, Nat.add_zero, Nat.one_mul, Nat.mul_one, Nat.reduceAdd, Nat.reduceMul, Nat.reduceSub, Nat.reducePow, Nat.reduceDiv, Nat.reduceMod, ↓reduceIte, z0]
    · intro d s f h
      rw [← Nat.add_assoc]
      exact R207f (X := X) (d := d + E + 9) (f := f) h (by omega) (by rw [qm]; rfl) (fun z => by rw [qm] at z; cases z)
  · have stR : ∀ d s f, GR o s tp n a r → ∀ t, mj_call X (d + E + 15) 209 [.ref 42, .int (nI w)] (mw_U (mp s f)) = some (.inl none, mw_U (mp t f)) → mj_call X (d + E + 16) 207 [.ref 42, .int (nI w)] (mw_U (mp s f)) = mj_exec X (d + E + 16) 207 67 [some (.ref 42), some (.int (nI w)), some (.int (nI 1))] [] (mw_U (mp t f)) := by
      intro d s f h t e
      have h18 := h.1.2.2.2.2.1
      have h22 := h.2.1
      by_cases q1 : tkd tp n a = 2
      · simp (disch := first | assumption | exact hf _ | omega) only [b207, b207_0, b207_7, b207_8, b207_16, b207_24, b207_30, b207_33, b207_37, b207_38, b207_43, b207_48, b207_51, b207_57, b207_62, b207_74, b207_77, b207_81, b207_86, b207_92, b207_95, nI_add, mn_mul, mn_sub, mn_m1, mn_m8, mn_eq, mn_lt, mn_le, mn_eq0, mn_0eq, mn_lt0, mn_0lt, mn_le0, mn_0le, mn_eqm, mn_meq, mn_ltm, mn_mlt, mn_lem, mn_mle, mn_mm1, mn_mm2, mn_mm3, mn_mm4, mn_mm5, mn_mm6, mn_and, mn_or, mn_an, mn_shl, mn_shr, mn_div, mn_rem, mn_clamp, mn_in, mn_inm, mn_nz, mn_zo, mn_min, mn_max, mn_abs, mn_rfit, mn_cp, mn_les, mn_gre, mn_a127, mn_a15, mn_a1, mn_a255, mn_tn0, mn_tn0e, mn_tnr, mn_tnz, mr_get, mr_ne, mr_put, mu_ne, mu_eq, mj_bk_i, mj_bk_v, mj_bk_x, decide_eq_true_eq, decide_true, decide_false, Bool.false_eq_true, Bool.true_eq_false, reduceCtorEq, mt_le_t, mt_le_f, mt_lt_t, mt_lt_f, mt_eq_t, mt_eq_f, mt_ee, not_true_eq_false, not_false_eq_true, and_true, true_and, and_self, Nat.zero_add, Nat.add_zero, Nat.one_mul, Nat.mul_one, Nat.reduceAdd, Nat.reduceMul, Nat.reduceSub, Nat.reducePow, Nat.reduceDiv, Nat.reduceMod, ↓reduceIte, mp_h, mp_w, mp_c, mp_s, mp_d, mp_n, mp_54, mp_52, mp_55, mp_l, mp_o, mp_42, mp_45, gh_gp, gw_gp, gc_gp, mw_pne, Nat.or_zero, h22, h18, q1, hw6', e]
      · by_cases q2 : tkd tp n a = 1
        · simp (disch := first | assumption | exact hf _ | omega) only [b207, b207_0, b207_7, b207_8, b207_16, b207_24, b207_30, b207_33, b207_37, b207_38, b207_43, b207_48, b207_51, b207_57, b207_62, b207_74, b207_77, b207_81, b207_86, b207_92, b207_95, nI_add, mn_mul, mn_sub, mn_m1, mn_m8, mn_eq, mn_lt, mn_le, mn_eq0, mn_0eq, mn_lt0, mn_0lt, mn_le0, mn_0le, mn_eqm, mn_meq, mn_ltm, mn_mlt, mn_lem, mn_mle, mn_mm1, mn_mm2, mn_mm3, mn_mm4, mn_mm5, mn_mm6, mn_and, mn_or, mn_an, mn_shl, mn_shr, mn_div, mn_rem, mn_clamp, mn_in, mn_inm, mn_nz, mn_zo, mn_min, mn_max, mn_abs, mn_rfit, mn_cp, mn_les, mn_gre, mn_a127, mn_a15, mn_a1, mn_a255, mn_tn0, mn_tn0e, mn_tnr, mn_tnz, mr_get, mr_ne, mr_put, mu_ne, mu_eq, mj_bk_i, mj_bk_v, mj_bk_x, decide_eq_true_eq, decide_true, decide_false, Bool.false_eq_true, Bool.true_eq_false, reduceCtorEq, mt_le_t, mt_le_f, mt_lt_t, mt_lt_f, mt_eq_t, mt_eq_f, mt_ee, not_true_eq_false, not_false_eq_true, and_true, true_and, and_self, Nat.zero_add, Nat.add_zero, Nat.one_mul, Nat.mul_one, Nat.reduceAdd, Nat.reduceMul, Nat.reduceSub, Nat.reducePow, Nat.reduceDiv, Nat.reduceMod, ↓reduceIte, mp_h, mp_w, mp_c, mp_s, mp_d, mp_n, mp_54, mp_52, mp_55, mp_l, mp_o, mp_42, mp_45, gh_gp, gw_gp, gc_gp, mw_pne, Nat.or_zero, h22, h18, q2, hw6', e]
        · have q3 : tS tp n a 40 = true := by rcases of_decide_eq_true qm with z | z | z; exact absurd z q1; exact absurd z q2; exact z
          simp (disch := first | assumption | exact hf _ | omega) only [b207, b207_0, b207_7, b207_8, b207_16, b207_24, b207_30, b207_33, b207_37, b207_38, b207_43, b207_48, b207_51, b207_57, b207_62, b207_74, b207_77, b207_81, b207_86, b207_92, b207_95, nI_add, mn_mul, mn_sub, mn_m1, mn_m8, mn_eq, mn_lt, mn_le, mn_eq0, mn_0eq, mn_lt0, mn_0lt, mn_le0, mn_0le, mn_eqm, mn_meq, mn_ltm, mn_mlt, mn_lem, mn_mle, mn_mm1, mn_mm2, mn_mm3, mn_mm4, mn_mm5, mn_mm6, mn_and, mn_or, mn_an, mn_shl, mn_shr, mn_div, mn_rem, mn_clamp, mn_in, mn_inm, mn_nz, mn_zo, mn_min, mn_max, mn_abs, mn_rfit, mn_cp, mn_les, mn_gre, mn_a127, mn_a15, mn_a1, mn_a255, mn_tn0, mn_tn0e, mn_tnr, mn_tnz, mr_get, mr_ne, mr_put, mu_ne, mu_eq, mj_bk_i, mj_bk_v, mj_bk_x, decide_eq_true_eq, decide_true, decide_false, Bool.false_eq_true, Bool.true_eq_false, reduceCtorEq, mt_le_t, mt_le_f, mt_lt_t, mt_lt_f, mt_eq_t, mt_eq_f, mt_ee, not_true_eq_false, not_false_eq_true, and_true, true_and, and_self, Nat.zero_add, Nat.add_zero, Nat.one_mul, Nat.mul_one, Nat.reduceAdd, Nat.reduceMul, Nat.reduceSub, Nat.reducePow, Nat.reduceDiv, Nat.reduceMod, ↓reduceIte, mp_h, mp_w, mp_c, mp_s, mp_d, mp_n, mp_54, mp_52, mp_55, mp_l, mp_o, mp_42, mp_45, gh_gp, gw_gp, gc_gp, mw_pne, Nat.or_zero, h22, h18, q1, q2, c208 h.1 h.2.1, q3, Bool.toNat_true, hw6', e]
    have stC : ∀ d s (x : Int32) t, mj_call X (d + E + 15) 99 [.ref 22, .int (nI w)] (mw_U s) = some (.inl (some (.int x)), mw_U t) → mj_call X (d + E + 16) 98 [.ref 22, .int (nI w)] (mw_U s) = mj_exec X (d + E + 16) 98 67 [some (.ref 22), some (.int (nI w)), some (.int x), some (.int (nI 0))] [] (mw_U t) := by
      intro d s x t e
      simp (disch := first | assumption | exact hf _ | omega) only [b98, b98_0, b98_6, b98_13, b98_17, b98_24, b98_27, b98_34, b98_39, b98_43, b98_44, b98_50, b98_54, b98_55, b98_58, b98_59, b98_64, b98_74, b98_78, b98_85, b98_91, b98_98, b98_103, b98_113, b98_119, nI_add, mn_mul, mn_sub, mn_m1, mn_m8, mn_eq, mn_lt, mn_le, mn_eq0, mn_0eq, mn_lt0, mn_0lt, mn_le0, mn_0le, mn_eqm, mn_meq, mn_ltm, mn_mlt, mn_lem, mn_mle, mn_mm1, mn_mm2, mn_mm3, mn_mm4, mn_mm5, mn_mm6, mn_and, mn_or, mn_an, mn_shl, mn_shr, mn_div, mn_rem, mn_clamp, mn_in, mn_inm, mn_nz, mn_zo, mn_min, mn_max, mn_abs, mn_rfit, mn_cp, mn_les, mn_gre, mn_a127, mn_a15, mn_a1, mn_a255, mn_tn0, mn_tn0e, mn_tnr, mn_tnz, mr_get, mr_ne, mr_put, mu_ne, mu_eq, mj_bk_i, mj_bk_v, mj_bk_x, decide_eq_true_eq, decide_true, decide_false, Bool.false_eq_true, Bool.true_eq_false, reduceCtorEq, mt_le_t, mt_le_f, mt_lt_t, mt_lt_f, mt_eq_t, mt_eq_f, mt_ee, not_true_eq_false, not_false_eq_true, and_true, true_and, and_self, Nat.zero_add, Nat.add_zero, Nat.one_mul, Nat.mul_one, Nat.reduceAdd, Nat.reduceMul, Nat.reduceSub, Nat.reducePow, Nat.reduceDiv, Nat.reduceMod, ↓reduceIte, e]
    rcases hP o a l r han hl_ hr with ⟨a1, l1, b1, b2, b3, b4, b5, b6⟩ | ⟨kf, p, b1, b2, b3, b4⟩
    · rcases L_or hP hn o (n - a1) a1 (l ++ l1) (r ++ l1) rfl b2 (by simp; omega) (by simp; omega) with ⟨a2, l2, c1, c2, c3, c4, c5, c6⟩ | ⟨kf, p, c1, c2, c3, c4⟩
      · refine Or.inl ⟨a2, l1 ++ l2, by omega, c2, by simp; omega, fun h hh => c4 h l1 hh (b4 h (by omega)), ?_, ?_⟩
        · intro d s h
          obtain ⟨t, e, g1, g2⟩ := b5 d s h
          obtain ⟨u, e2, g3, g4⟩ := c5 d t 0 (Nat.zero_le _) g1
          rw [List.append_assoc] at g3
          refine ⟨u, ?_, g3, fC_trans g2 g4⟩
          rw [← Nat.add_assoc] at e ⊢
          rw [stC d s _ t e]
          exact e2
        · intro d s f h
          obtain ⟨t, e, g1, g2⟩ := b6 d s f h
          obtain ⟨u, e2, g3, g4⟩ := c6 d t f (nI 1) g1
          rw [List.append_assoc] at g3
          refine ⟨u, ?_, g3, fE_trans g2 g4⟩
          rw [← Nat.add_assoc] at e ⊢
          rw [stR d s f h t e]
          exact e2
      · refine Or.inr ⟨kf, p, c1, c2, ?_, ?_⟩
        · intro d s h
          obtain ⟨t, e, g1, g2⟩ := b5 d s h
          obtain ⟨u, e2, g3, g5, g4⟩ := c3 d t 0 (Nat.zero_le _) g1
          refine ⟨u, ?_, g3, g5, fC_trans g2 g4⟩
          rw [← Nat.add_assoc] at e ⊢
          rw [stC d s _ t e]
          exact e2
        · intro d s f h
          obtain ⟨t, e, g1, g2⟩ := b6 d s f h
          obtain ⟨u, e2, g3, g5, g4⟩ := c4 d t f (nI 1) g1
          refine ⟨u, ?_, g3, g5, fE_trans g2 g4⟩
          rw [← Nat.add_assoc] at e ⊢
          rw [stR d s f h t e]
          exact e2
    · refine Or.inr ⟨kf, p, b1, b2, ?_, ?_⟩
      · intro d s h
        obtain ⟨t, e, g1, g2, g3⟩ := b3 d s h
        refine ⟨t, ?_, g1, g2, g3⟩
        rw [← Nat.add_assoc] at e ⊢
        rw [stC d s _ t e, b98_67]
        simp (disch := first | assumption | exact hf _ | omega) only [b98, b98_0, b98_6, b98_13, b98_17, b98_24, b98_27, b98_34, b98_39, b98_43, b98_44, b98_50, b98_54, b98_55, b98_58, b98_59, b98_64, b98_74, b98_78, b98_85, b98_91, b98_98, b98_103, b98_113, b98_119, nI_add, mn_mul, mn_sub, mn_m1, mn_m8, mn_eq, mn_lt, mn_le, mn_eq0, mn_0eq, mn_lt0, mn_0lt, mn_le0, mn_0le, mn_eqm, mn_meq, mn_ltm, mn_mlt, mn_lem, mn_mle, mn_mm1, mn_mm2, mn_mm3, mn_mm4, mn_mm5, mn_mm6, mn_and, mn_or, mn_an, mn_shl, mn_shr, mn_div, mn_rem, mn_clamp, mn_in, mn_inm, mn_nz, mn_zo, mn_min, mn_max, mn_abs, mn_rfit, mn_cp, mn_les, mn_gre, mn_a127, mn_a15, mn_a1, mn_a255, mn_tn0, mn_tn0e, mn_tnr, mn_tnz, mr_get, mr_ne, mr_put, mu_ne, mu_eq, mj_bk_i, mj_bk_v, mj_bk_x, decide_eq_true_eq, decide_true, decide_false, Bool.false_eq_true, Bool.true_eq_false, reduceCtorEq, mt_le_t, mt_le_f, mt_lt_t, mt_lt_f, mt_eq_t, mt_eq_f, mt_ee, not_true_eq_false, not_false_eq_true, and_true, true_and, and_self, Nat.zero_add, Nat.add_zero, Nat.one_mul, Nat.mul_one, Nat.reduceAdd, Nat.reduceMul, Nat.reduceSub, Nat.reducePow, Nat.reduceDiv, Nat.reduceMod, ↓reduceIte, z0]
      · intro d s f h
        obtain ⟨t, e, g1, g2, g3⟩ := b4 d s f h
        refine ⟨t, ?_, g1, g2, g3⟩
        rw [← Nat.add_assoc] at e ⊢
        have eb : mj_call X (d + E + 15) 205 [.ref 42, .ref 1000120] (mw_U (mp t f)) = some (.inl (some (.int (nI 0))), mw_U (mp t f)) := c205b (X := X) (d := d + E + 11) (f := f) (i := 20) (by decide) g1 b1 b2
        rw [stR d s f h t e, b207_67]
        simp (disch := first | assumption | exact hf _ | omega) only [b207, b207_0, b207_7, b207_8, b207_16, b207_24, b207_30, b207_33, b207_37, b207_38, b207_43, b207_48, b207_51, b207_57, b207_62, b207_74, b207_77, b207_81, b207_86, b207_92, b207_95, nI_add, mn_mul, mn_sub, mn_m1, mn_m8, mn_eq, mn_lt, mn_le, mn_eq0, mn_0eq, mn_lt0, mn_0lt, mn_le0, mn_0le, mn_eqm, mn_meq, mn_ltm, mn_mlt, mn_lem, mn_mle, mn_mm1, mn_mm2, mn_mm3, mn_mm4, mn_mm5, mn_mm6, mn_and, mn_or, mn_an, mn_shl, mn_shr, mn_div, mn_rem, mn_clamp, mn_in, mn_inm, mn_nz, mn_zo, mn_min, mn_max, mn_abs, mn_rfit, mn_cp, mn_les, mn_gre, mn_a127, mn_a15, mn_a1, mn_a255, mn_tn0, mn_tn0e, mn_tnr, mn_tnz, mr_get, mr_ne, mr_put, mu_ne, mu_eq, mj_bk_i, mj_bk_v, mj_bk_x, decide_eq_true_eq, decide_true, decide_false, Bool.false_eq_true, Bool.true_eq_false, reduceCtorEq, mt_le_t, mt_le_f, mt_lt_t, mt_lt_f, mt_eq_t, mt_eq_f, mt_ee, not_true_eq_false, not_false_eq_true, and_true, true_and, and_self, Nat.zero_add, Nat.add_zero, Nat.one_mul, Nat.mul_one, Nat.reduceAdd, Nat.reduceMul, Nat.reduceSub, Nat.reducePow, Nat.reduceDiv, Nat.reduceMod, ↓reduceIte, mp_h, mp_w, mp_c, mp_s, mp_d, mp_n, mp_54, mp_52, mp_55, mp_l, mp_o, mp_42, mp_45, gh_gp, gw_gp, gc_gp, mw_pne, Nat.or_zero, eb]
theorem J_expr6 : JJ X 98 207 (E + 9) tp n 6 nd := by
  intro o a l r han hl_ hr
  have z0 : mj_rfit (some .boolean) (nI 0) = true := by decide
  have h4 := tkd_le (tp := tp) (n := n) (a := a)
  have kl := kcl_lt (tp := tp) (n := n) (a := a)
  refine Or.inr ⟨if may tp n a then 2 else 1, tb tp n a, by split <;> omega, by split <;> omega, ?_, ?_⟩
  · intro d s h
    rw [← Nat.add_assoc]
    obtain ⟨t, e, g1, g2, g3⟩ := g92 (X := X) (d := d + E + 7) (k := if may tp n a then 2 else 1) h
    refine ⟨t, ?_, g1, g2, g3⟩
    cases qm : may tp n a
    · have q := of_decide_eq_false qm
      have q1 : ¬ tkd tp n a = 2 := fun z => q (Or.inl z)
      have q2 : ¬ tkd tp n a = 1 := fun z => q (Or.inr (Or.inl z))
      have q3 : tS tp n a 40 = false := by cases hh : tS tp n a 40; rfl; exact absurd (Or.inr (Or.inr hh)) q
      have k40 : ¬ kcl tp n a = 40 := by rw [kcl_S (by omega), q3]; decide
      have k2 : ¬ kcl tp n a = 2 := by rw [kcl_2]; exact q1
      rw [qm, if_neg (by decide)] at e
      simp (disch := first | assumption | exact hf _ | omega) only [b98, b98_0, b98_6, b98_13, b98_17, b98_24, b98_27, b98_34, b98_39, b98_43, b98_44, b98_50, b98_54, b98_55, b98_58, b98_59, b98_64, b98_74, b98_78, b98_85, b98_91, b98_98, b98_103, b98_113, b98_119, nI_add, mn_mul, mn_sub, mn_m1, mn_m8, mn_eq, mn_lt, mn_le, mn_eq0, mn_0eq, mn_lt0, mn_0lt, mn_le0, mn_0le, mn_eqm, mn_meq, mn_ltm, mn_mlt, mn_lem, mn_mle, mn_mm1, mn_mm2, mn_mm3, mn_mm4, mn_mm5, mn_mm6, mn_and, mn_or, mn_an, mn_shl, mn_shr, mn_div, mn_rem, mn_clamp, mn_in, mn_inm, mn_nz, mn_zo, mn_min, mn_max, mn_abs, mn_rfit, mn_cp, mn_les, mn_gre, mn_a127, mn_a15, mn_a1, mn_a255, mn_tn0, mn_tn0e, mn_tnr, mn_tnz, mr_get, mr_ne, mr_put, mu_ne, mu_eq, mj_bk_i, mj_bk_v, mj_bk_x, decide_eq_true_eq, decide_true, decide_false, Bool.false_eq_true, Bool.true_eq_false, reduceCtorEq, mt_le_t, mt_le_f, mt_lt_t, mt_lt_f, mt_eq_t, mt_eq_f, mt_ee, not_true_eq_false, not_false_eq_true, and_true, true_and, and_self, Nat.zero_add, Nat.add_zero, Nat.one_mul, Nat.mul_one, Nat.reduceAdd, Nat.reduceMul, Nat.reduceSub, Nat.reducePow, Nat.reduceDiv, Nat.reduceMod, ↓reduceIte, c135 h.1, k2, c139 h.1, q2, k40, Bool.toNat_false, e, z0]
    · rw [qm, if_pos rfl] at e
      by_cases q1 : tkd tp n a = 2
      · have k2 : kcl tp n a = 2 := by rw [kcl_2]; exact q1
        simp (disch := first | assumption | exact hf _ | omega) only [b98, b98_0, b98_6, b98_13, b98_17, b98_24, b98_27, b98_34, b98_39, b98_43, b98_44, b98_50, b98_54, b98_55, b98_58, b98_59, b98_64, b98_74, b98_78, b98_85, b98_91, b98_98, b98_103, b98_113, b98_119, nI_add, mn_mul, mn_sub, mn_m1, mn_m8, mn_eq, mn_lt, mn_le, mn_eq0, mn_0eq, mn_lt0, mn_0lt, mn_le0, mn_0le, mn_eqm, mn_meq, mn_ltm, mn_mlt, mn_lem, mn_mle, mn_mm1, mn_mm2, mn_mm3, mn_mm4, mn_mm5, mn_mm6, mn_and, mn_or, mn_an, mn_shl, mn_shr, mn_div, mn_rem, mn_clamp, mn_in, mn_inm, mn_nz, mn_zo, mn_min, mn_max, mn_abs, mn_rfit, mn_cp, mn_les, mn_gre, mn_a127, mn_a15, mn_a1, mn_a255, mn_tn0, mn_tn0e, mn_tnr, mn_tnz, mr_get, mr_ne, mr_put, mu_ne, mu_eq, mj_bk_i, mj_bk_v, mj_bk_x, decide_eq_true_eq, decide_true, decide_false, Bool.false_eq_true, Bool.true_eq_false, reduceCtorEq, mt_le_t, mt_le_f, mt_lt_t, mt_lt_f, mt_eq_t, mt_eq_f, mt_ee, not_true_eq_false, not_false_eq_true, and_true, true_and, and_self, Nat.zero_add, Nat.add_zero, Nat.one_mul, Nat.mul_one, Nat.reduceAdd, Nat.reduceMul, Nat.reduceSub, Nat.reducePow, Nat.reduceDiv, Nat.reduceMod, ↓reduceIte, c135 h.1, k2, e, z0]
      · have k2 : ¬ kcl tp n a = 2 := by rw [kcl_2]; exact q1
        by_cases q2 : tkd tp n a = 1
        · simp (disch := first | assumption | exact hf _ | omega) only [b98, b98_0, b98_6, b98_13, b98_17, b98_24, b98_27, b98_34, b98_39, b98_43, b98_44, b98_50, b98_54, b98_55, b98_58, b98_59, b98_64, b98_74, b98_78, b98_85, b98_91, b98_98, b98_103, b98_113, b98_119, nI_add, mn_mul, mn_sub, mn_m1, mn_m8, mn_eq, mn_lt, mn_le, mn_eq0, mn_0eq, mn_lt0, mn_0lt, mn_le0, mn_0le, mn_eqm, mn_meq, mn_ltm, mn_mlt, mn_lem, mn_mle, mn_mm1, mn_mm2, mn_mm3, mn_mm4, mn_mm5, mn_mm6, mn_and, mn_or, mn_an, mn_shl, mn_shr, mn_div, mn_rem, mn_clamp, mn_in, mn_inm, mn_nz, mn_zo, mn_min, mn_max, mn_abs, mn_rfit, mn_cp, mn_les, mn_gre, mn_a127, mn_a15, mn_a1, mn_a255, mn_tn0, mn_tn0e, mn_tnr, mn_tnz, mr_get, mr_ne, mr_put, mu_ne, mu_eq, mj_bk_i, mj_bk_v, mj_bk_x, decide_eq_true_eq, decide_true, decide_false, Bool.false_eq_true, Bool.true_eq_false, reduceCtorEq, mt_le_t, mt_le_f, mt_lt_t, mt_lt_f, mt_eq_t, mt_eq_f, mt_ee, not_true_eq_false, not_false_eq_true, and_true, true_and, and_self, Nat.zero_add, Nat.add_zero, Nat.one_mul, Nat.mul_one, Nat.reduceAdd, Nat.reduceMul, Nat.reduceSub, Nat.reducePow, Nat.reduceDiv, Nat.reduceMod, ↓reduceIte, c135 h.1, k2, c139 h.1, q2, Bool.toNat_true, e, z0]
        · have q3 : tS tp n a 40 = true := by rcases of_decide_eq_true qm with z | z | z; exact absurd z q1; exact absurd z q2; exact z
          have k40 : kcl tp n a = 40 := by rw [kcl_S (by omega)]; exact q3
          simp (disch := first | assumption | exact hf _ | omega) only [b98, b98_0, b98_6, b98_13, b98_17, b98_24, b98_27, b98_34, b98_39, b98_43, b98_44, b98_50, b98_54, b98_55, b98_58, b98_59, b98_64, b98_74, b98_78, b98_85, b98_91, b98_98, b98_103, b98_113, b98_119, nI_add, mn_mul, mn_sub, mn_m1, mn_m8, mn_eq, mn_lt, mn_le, mn_eq0, mn_0eq, mn_lt0, mn_0lt, mn_le0, mn_0le, mn_eqm, mn_meq, mn_ltm, mn_mlt, mn_lem, mn_mle, mn_mm1, mn_mm2, mn_mm3, mn_mm4, mn_mm5, mn_mm6, mn_and, mn_or, mn_an, mn_shl, mn_shr, mn_div, mn_rem, mn_clamp, mn_in, mn_inm, mn_nz, mn_zo, mn_min, mn_max, mn_abs, mn_rfit, mn_cp, mn_les, mn_gre, mn_a127, mn_a15, mn_a1, mn_a255, mn_tn0, mn_tn0e, mn_tnr, mn_tnz, mr_get, mr_ne, mr_put, mu_ne, mu_eq, mj_bk_i, mj_bk_v, mj_bk_x, decide_eq_true_eq, decide_true, decide_false, Bool.false_eq_true, Bool.true_eq_false, reduceCtorEq, mt_le_t, mt_le_f, mt_lt_t, mt_lt_f, mt_eq_t, mt_eq_f, mt_ee, not_true_eq_false, not_false_eq_true, and_true, true_and, and_self, Nat.zero_add, Nat.add_zero, Nat.one_mul, Nat.mul_one, Nat.reduceAdd, Nat.reduceMul, Nat.reduceSub, Nat.reducePow, Nat.reduceDiv, Nat.reduceMod, ↓reduceIte, c135 h.1, k40, c139 h.1, q2, Bool.toNat_false, e, z0]
  · intro d s f h
    rw [← Nat.add_assoc]
    exact R207f (X := X) (d := d + E + 2) (f := f) h (by omega) rfl (fun _ => rfl)
theorem J_all (hn : n ≤ 700) : ∀ j w, w + j = 6 → JJ X 98 207 (7 * j + 9) tp n w (1 + 5 * j)
  | 0, w, hw => by
    have : w = 6 := by omega
    subst this
    exact J_expr6 (E := 0)
  | j + 1, w, hw => by
    have ih := J_all hn j (w + 1) (by omega)
    have h1 := J_part (E := 7 * j) ih (by omega) hn
    have e1 : max 1 (1 + 5 * j) = 1 + 5 * j := by omega
    rw [e1] at h1
    have h2 := J_expr (J_and (J_not (J_sum (J_prod h1 hn) hn) hn) hn) (by omega) hn
    rw [show 7 * (j + 1) + 9 = 7 * j + 16 by omega, show 1 + 5 * (j + 1) = 1 + 5 * j + 1 + 1 + 1 + 1 + 1 by omega]
    exact h2
theorem J_ex (hn : n ≤ 700) : JJ X 98 207 51 tp n 0 31 := J_all hn 6 0 rfl
end
