/-! both readers: a part -/
theorem rm_val : ∀ v, v < 6 → (-1) - nI v = rm (10000 + v) ∧ (nI (200 + v) - nI 200) - nI 6 = rc (10000 + v) ∧ ¬ nI v = -1 := by decide
theorem hl_1 {c h : Nat} (hc : c < 10006) (hh : h + 1 ≤ 40) : hl [c] h = some (h + 1) := by
  show (rh1 c h).bind (hl []) = _
  unfold rh1
  rw [if_pos hc, if_pos (by omega)]
  rfl
section
variable {X : mj_X} {E : Nat} {tp : Nat → Nat} {n w nd : Nat}
theorem g214 {d : Nat} {s : mw_S} {f : Nat → Nat} {o : Bool} {a : Nat} {r : List Nat} (h : GR o s tp n a r) (hf : nfl tp n a 0 9999 = 0) : ∃ t, mj_call X (d + 3) 214 [.ref 42, .int (nI 0), .int (nI 9999)] (mw_U (mp s f)) = some (.inl (some (.int (nI (nmv tp n a)))), mw_U (mp t f)) ∧ GR o t tp n (te tp n a) r ∧ fE o s t := by
  obtain ⟨t, e, h1, h2⟩ := g198 (X := X) (d := d) (f := f) h
  have e1 := c215 (X := X) (d := d + 1) (f := f) h.1 h.2.1 (lo := 0) (hi := 9999) (by decide) (by decide)
  rw [if_pos hf] at e1
  have h22 := h.2.1
  refine ⟨t, ?_, h1, h2⟩
  simp (disch := first | assumption | exact hf _ | omega) only [b214, b214_0, b214_6, b214_14, b214_18, nI_add, mn_mul, mn_sub, mn_m1, mn_m8, mn_eq, mn_lt, mn_le, mn_eq0, mn_0eq, mn_lt0, mn_0lt, mn_le0, mn_0le, mn_eqm, mn_meq, mn_ltm, mn_mlt, mn_lem, mn_mle, mn_mm1, mn_mm2, mn_mm3, mn_mm4, mn_mm5, mn_mm6, mn_and, mn_or, mn_an, mn_shl, mn_shr, mn_div, mn_rem, mn_clamp, mn_in, mn_inm, mn_nz, mn_zo, mn_min, mn_max, mn_abs, mn_rfit, mn_cp, mn_les, mn_gre, mn_a127, mn_a15, mn_a1, mn_a255, mn_tn0, mn_tn0e, mn_tnr, mn_tnz, mr_get, mr_ne, mr_put, mu_ne, mu_eq, mj_bk_i, mj_bk_v, mj_bk_x, decide_eq_true_eq, decide_true, decide_false, Bool.false_eq_true, Bool.true_eq_false, reduceCtorEq, mt_le_t, mt_le_f, mt_lt_t, mt_lt_f, mt_eq_t, mt_eq_f, mt_ee, not_true_eq_false, not_false_eq_true, and_true, true_and, and_self, Nat.zero_add, Nat.add_zero, Nat.one_mul, Nat.mul_one, Nat.reduceAdd, Nat.reduceMul, Nat.reduceSub, Nat.reducePow, Nat.reduceDiv, Nat.reduceMod, ↓reduceIte, mp_h, mp_w, mp_c, mp_s, mp_d, mp_n, mp_54, mp_52, mp_55, mp_l, mp_o, mp_42, mp_45, gh_gp, gw_gp, gc_gp, mw_pne, Nat.or_zero, e1, h22, e]
theorem g214f {d : Nat} {s : mw_S} {f : Nat → Nat} {o : Bool} {a : Nat} {r : List Nat} (h : GR o s tp n a r) (hf : nfl tp n a 0 9999 = 2) : ∃ t, mj_call X (d + 3) 214 [.ref 42, .int (nI 0), .int (nI 9999)] (mw_U (mp s f)) = some (.inl (some (.int (nI 0))), mw_U (mp t f)) ∧ t.1 42 22 = nI 2 ∧ t.1 42 23 = nI (tb tp n a) ∧ fE o s t := by
  have e1 := c215 (X := X) (d := d + 1) (f := f) h.1 h.2.1 (lo := 0) (hi := 9999) (by decide) (by decide)
  rw [if_neg (by omega), hf] at e1
  have z22 : (mw_p (mw_p s 42 22 (nI 2)) 42 23 (nI (tb tp n a))).1 42 22 = nI 2 := by rw [mw_pnj (by decide), mw_peq]
  refine ⟨_, ?_, z22, mw_peq, fE_trans (fE_p (by omega)) (fE_p (by omega))⟩
  simp (disch := first | assumption | exact hf _ | omega) only [b214, b214_0, b214_6, b214_14, b214_18, nI_add, mn_mul, mn_sub, mn_m1, mn_m8, mn_eq, mn_lt, mn_le, mn_eq0, mn_0eq, mn_lt0, mn_0lt, mn_le0, mn_0le, mn_eqm, mn_meq, mn_ltm, mn_mlt, mn_lem, mn_mle, mn_mm1, mn_mm2, mn_mm3, mn_mm4, mn_mm5, mn_mm6, mn_and, mn_or, mn_an, mn_shl, mn_shr, mn_div, mn_rem, mn_clamp, mn_in, mn_inm, mn_nz, mn_zo, mn_min, mn_max, mn_abs, mn_rfit, mn_cp, mn_les, mn_gre, mn_a127, mn_a15, mn_a1, mn_a255, mn_tn0, mn_tn0e, mn_tnr, mn_tnz, mr_get, mr_ne, mr_put, mu_ne, mu_eq, mj_bk_i, mj_bk_v, mj_bk_x, decide_eq_true_eq, decide_true, decide_false, Bool.false_eq_true, Bool.true_eq_false, reduceCtorEq, mt_le_t, mt_le_f, mt_lt_t, mt_lt_f, mt_eq_t, mt_eq_f, mt_ee, not_true_eq_false, not_false_eq_true, and_true, true_and, and_self, Nat.zero_add, Nat.add_zero, Nat.one_mul, Nat.mul_one, Nat.reduceAdd, Nat.reduceMul, Nat.reduceSub, Nat.reducePow, Nat.reduceDiv, Nat.reduceMod, ↓reduceIte, mp_h, mp_w, mp_c, mp_s, mp_d, mp_n, mp_54, mp_52, mp_55, mp_l, mp_o, mp_42, mp_45, gh_gp, gw_gp, gc_gp, mw_pne, Nat.or_zero, e1, z22]
theorem J_part (hE : JJ X 98 207 (E + 9) tp n (w + 1) nd) (hw : w ≤ 5) (hn : n ≤ 700) : JJ X 104 213 (E + 10) tp n w (max 1 nd) := by
  intro o a l r han hl_ hr
  have hle := te_le (tp := tp) han
  have hge := tb_ge (tp := tp) (n := n) (a := a)
  have h4 := tkd_le (tp := tp) (n := n) (a := a)
  have kl := kcl_lt (tp := tp) (n := n) (a := a)
  have k27 := mw_c_27
  by_cases q1 : tkd tp n a = 1
  · have hlt := te_gt (tp := tp) (n := n) (a := a) (by omega)
    have hbn := tk_lt (tp := tp) (n := n) (a := a) (by omega)
    have kc : kcl tp n a = 200 + wx tp (tb tp n a) (te tp n a) := by unfold kcl; rw [q1]; rfl
    by_cases q2 : wx tp (tb tp n a) (te tp n a) < 6
    · obtain ⟨v1, v2, v3⟩ := rm_val _ q2
      refine Or.inl ⟨te tp n a, [10000 + wx tp (tb tp n a) (te tp n a)], by omega, hle, by simp; omega, fun h hh => hl_1 (by omega) (by omega), ?_, ?_⟩
      · intro d s h
        rw [← Nat.add_assoc]
        have v2' : nI (200 + wx tp (tb tp n a) (te tp n a) - 200) - nI 6 = rc (10000 + wx tp (tb tp n a) (te tp n a)) := by rw [← mn_sub (by omega)]; exact v2
        obtain ⟨t, e, g1, g2⟩ := g123 (X := X) (d := d + E + 9) h (by omega) v2'
        obtain ⟨u, e2, g3, g4⟩ := g131 (X := X) (d := d + E + 3) g1
        refine ⟨u, ?_, g3, fC_trans g2 g4⟩
        simp (disch := first | assumption | exact hf _ | omega) only [b104, b104_0, b104_7, b104_10, b104_21, b104_31, b104_34, b104_41, b104_44, b104_49, b104_50, b104_57, b104_62, b104_69, b104_76, b104_79, b104_81, b104_88, b104_93, b104_98, b104_99, b104_106, b104_110, b104_115, b104_116, b104_123, b104_126, b104_131, b104_132, b104_143, b104_146, b104_153, nI_add, mn_mul, mn_sub, mn_m1, mn_m8, mn_eq, mn_lt, mn_le, mn_eq0, mn_0eq, mn_lt0, mn_0lt, mn_le0, mn_0le, mn_eqm, mn_meq, mn_ltm, mn_mlt, mn_lem, mn_mle, mn_mm1, mn_mm2, mn_mm3, mn_mm4, mn_mm5, mn_mm6, mn_and, mn_or, mn_an, mn_shl, mn_shr, mn_div, mn_rem, mn_clamp, mn_in, mn_inm, mn_nz, mn_zo, mn_min, mn_max, mn_abs, mn_rfit, mn_cp, mn_les, mn_gre, mn_a127, mn_a15, mn_a1, mn_a255, mn_tn0, mn_tn0e, mn_tnr, mn_tnz, mr_get, mr_ne, mr_put, mu_ne, mu_eq, mj_bk_i, mj_bk_v, mj_bk_x, decide_eq_true_eq, decide_true, decide_false, Bool.false_eq_true, Bool.true_eq_false, reduceCtorEq, mt_le_t, mt_le_f, mt_lt_t, mt_lt_f, mt_eq_t, mt_eq_f, mt_ee, not_true_eq_false, not_false_eq_true, and_true, true_and, and_self, Nat.zero_add, Nat.add_zero, Nat.one_mul, Nat.mul_one, Nat.reduceAdd, Nat.reduceMul, Nat.reduceSub, Nat.reducePow, Nat.reduceDiv, Nat.reduceMod, ↓reduceIte, c140 h.1, q1, q2, c135 h.1, kc, Bool.toNat_true, e, e2]
      · intro d s f h
        rw [← Nat.add_assoc]
        obtain ⟨t, e, g1, g2⟩ := c216 (X := X) (d := d + E + 9) (f := f) h (by omega) v1
        obtain ⟨u, e2, g3, g4⟩ := g198 (X := X) (d := d + E + 7) (f := f) g1
        have ew := c204v (X := X) (d := d + E + 4) (f := f) h.1 h.2.1
        rw [if_pos ⟨q1, q2⟩] at ew
        have h18 := h.1.2.2.2.2.1
        have h22 := h.2.1
        have t22 := g1.2.1
        refine ⟨u, ?_, g3, fE_trans g2 g4⟩
        simp (disch := first | assumption | exact hf _ | omega) only [b213, b213_0, b213_7, b213_8, b213_16, b213_25, b213_28, b213_29, b213_37, b213_45, b213_51, b213_56, b213_63, b213_70, b213_74, b213_75, b213_81, b213_88, b213_94, nI_add, mn_mul, mn_sub, mn_m1, mn_m8, mn_eq, mn_lt, mn_le, mn_eq0, mn_0eq, mn_lt0, mn_0lt, mn_le0, mn_0le, mn_eqm, mn_meq, mn_ltm, mn_mlt, mn_lem, mn_mle, mn_mm1, mn_mm2, mn_mm3, mn_mm4, mn_mm5, mn_mm6, mn_and, mn_or, mn_an, mn_shl, mn_shr, mn_div, mn_rem, mn_clamp, mn_in, mn_inm, mn_nz, mn_zo, mn_min, mn_max, mn_abs, mn_rfit, mn_cp, mn_les, mn_gre, mn_a127, mn_a15, mn_a1, mn_a255, mn_tn0, mn_tn0e, mn_tnr, mn_tnz, mr_get, mr_ne, mr_put, mu_ne, mu_eq, mj_bk_i, mj_bk_v, mj_bk_x, decide_eq_true_eq, decide_true, decide_false, Bool.false_eq_true, Bool.true_eq_false, reduceCtorEq, mt_le_t, mt_le_f, mt_lt_t, mt_lt_f, mt_eq_t, mt_eq_f, mt_ee, not_true_eq_false, not_false_eq_true, and_true, true_and, and_self, Nat.zero_add, Nat.add_zero, Nat.one_mul, Nat.mul_one, Nat.reduceAdd, Nat.reduceMul, Nat.reduceSub, Nat.reducePow, Nat.reduceDiv, Nat.reduceMod, ↓reduceIte, mp_h, mp_w, mp_c, mp_s, mp_d, mp_n, mp_54, mp_52, mp_55, mp_l, mp_o, mp_42, mp_45, gh_gp, gw_gp, gc_gp, mw_pne, Nat.or_zero, h22, h18, q1, ew, v3, e, t22, e2]
    · refine Or.inr ⟨3, tb tp n a, by decide, by decide, ?_, ?_⟩
      · intro d s h
        rw [← Nat.add_assoc]
        obtain ⟨t, e, g1, g2, g3⟩ := g92 (X := X) (d := d + E + 8) (k := 3) h
        refine ⟨t, ?_, g1, g2, g3⟩
        simp (disch := first | assumption | exact hf _ | omega) only [b104, b104_0, b104_7, b104_10, b104_21, b104_31, b104_34, b104_41, b104_44, b104_49, b104_50, b104_57, b104_62, b104_69, b104_76, b104_79, b104_81, b104_88, b104_93, b104_98, b104_99, b104_106, b104_110, b104_115, b104_116, b104_123, b104_126, b104_131, b104_132, b104_143, b104_146, b104_153, nI_add, mn_mul, mn_sub, mn_m1, mn_m8, mn_eq, mn_lt, mn_le, mn_eq0, mn_0eq, mn_lt0, mn_0lt, mn_le0, mn_0le, mn_eqm, mn_meq, mn_ltm, mn_mlt, mn_lem, mn_mle, mn_mm1, mn_mm2, mn_mm3, mn_mm4, mn_mm5, mn_mm6, mn_and, mn_or, mn_an, mn_shl, mn_shr, mn_div, mn_rem, mn_clamp, mn_in, mn_inm, mn_nz, mn_zo, mn_min, mn_max, mn_abs, mn_rfit, mn_cp, mn_les, mn_gre, mn_a127, mn_a15, mn_a1, mn_a255, mn_tn0, mn_tn0e, mn_tnr, mn_tnz, mr_get, mr_ne, mr_put, mu_ne, mu_eq, mj_bk_i, mj_bk_v, mj_bk_x, decide_eq_true_eq, decide_true, decide_false, Bool.false_eq_true, Bool.true_eq_false, reduceCtorEq, mt_le_t, mt_le_f, mt_lt_t, mt_lt_f, mt_eq_t, mt_eq_f, mt_ee, not_true_eq_false, not_false_eq_true, and_true, true_and, and_self, Nat.zero_add, Nat.add_zero, Nat.one_mul, Nat.mul_one, Nat.reduceAdd, Nat.reduceMul, Nat.reduceSub, Nat.reducePow, Nat.reduceDiv, Nat.reduceMod, ↓reduceIte, c140 h.1, c139 h.1, q1, q2, and_false, Bool.toNat_false, Bool.toNat_true, e]
      · intro d s f h
        rw [← Nat.add_assoc]
        obtain ⟨t, e, g1, g2, g3⟩ := g206 (X := X) (d := d + E + 9) (f := f) (k := 3) h
        have ew := c204v (X := X) (d := d + E + 4) (f := f) h.1 h.2.1
        rw [if_neg (fun z => q2 z.2)] at ew
        have h18 := h.1.2.2.2.2.1
        have h22 := h.2.1
        refine ⟨t, ?_, g1, g2, g3⟩
        simp (disch := first | assumption | exact hf _ | omega) only [b213, b213_0, b213_7, b213_8, b213_16, b213_25, b213_28, b213_29, b213_37, b213_45, b213_51, b213_56, b213_63, b213_70, b213_74, b213_75, b213_81, b213_88, b213_94, nI_add, mn_mul, mn_sub, mn_m1, mn_m8, mn_eq, mn_lt, mn_le, mn_eq0, mn_0eq, mn_lt0, mn_0lt, mn_le0, mn_0le, mn_eqm, mn_meq, mn_ltm, mn_mlt, mn_lem, mn_mle, mn_mm1, mn_mm2, mn_mm3, mn_mm4, mn_mm5, mn_mm6, mn_and, mn_or, mn_an, mn_shl, mn_shr, mn_div, mn_rem, mn_clamp, mn_in, mn_inm, mn_nz, mn_zo, mn_min, mn_max, mn_abs, mn_rfit, mn_cp, mn_les, mn_gre, mn_a127, mn_a15, mn_a1, mn_a255, mn_tn0, mn_tn0e, mn_tnr, mn_tnz, mr_get, mr_ne, mr_put, mu_ne, mu_eq, mj_bk_i, mj_bk_v, mj_bk_x, decide_eq_true_eq, decide_true, decide_false, Bool.false_eq_true, Bool.true_eq_false, reduceCtorEq, mt_le_t, mt_le_f, mt_lt_t, mt_lt_f, mt_eq_t, mt_eq_f, mt_ee, not_true_eq_false, not_false_eq_true, and_true, true_and, and_self, Nat.zero_add, Nat.add_zero, Nat.one_mul, Nat.mul_one, Nat.reduceAdd, Nat.reduceMul, Nat.reduceSub, Nat.reducePow, Nat.reduceDiv, Nat.reduceMod, ↓reduceIte, mp_h, mp_w, mp_c, mp_s, mp_d, mp_n, mp_54, mp_52, mp_55, mp_l, mp_o, mp_42, mp_45, gh_gp, gw_gp, gc_gp, mw_pne, Nat.or_zero, h22, h18, q1, ew, e, c216b g1, g1]
  · by_cases q2 : tkd tp n a = 2
    · have hlt := te_gt (tp := tp) (n := n) (a := a) (by omega)
      have hbn := tk_lt (tp := tp) (n := n) (a := a) (by omega)
      have kc : kcl tp n a = 2 := by rw [kcl_2]; exact q2
      by_cases q4 : 4 < te tp n a - tb tp n a
      · have hf : nfl tp n a 0 9999 = 2 := by unfold nfl; rw [if_pos q2, if_pos (Or.inl q4)]
        refine Or.inr ⟨2, tb tp n a, by decide, by decide, ?_, ?_⟩
        · intro d s h
          rw [← Nat.add_assoc]
          obtain ⟨t, e, g1, g2, g3⟩ := g92 (X := X) (d := d + E + 8) (k := 2) h
          refine ⟨t, ?_, g1, g2, g3⟩
          simp (disch := first | assumption | exact hf _ | omega) only [b104, b104_0, b104_7, b104_10, b104_21, b104_31, b104_34, b104_41, b104_44, b104_49, b104_50, b104_57, b104_62, b104_69, b104_76, b104_79, b104_81, b104_88, b104_93, b104_98, b104_99, b104_106, b104_110, b104_115, b104_116, b104_123, b104_126, b104_131, b104_132, b104_143, b104_146, b104_153, nI_add, mn_mul, mn_sub, mn_m1, mn_m8, mn_eq, mn_lt, mn_le, mn_eq0, mn_0eq, mn_lt0, mn_0lt, mn_le0, mn_0le, mn_eqm, mn_meq, mn_ltm, mn_mlt, mn_lem, mn_mle, mn_mm1, mn_mm2, mn_mm3, mn_mm4, mn_mm5, mn_mm6, mn_and, mn_or, mn_an, mn_shl, mn_shr, mn_div, mn_rem, mn_clamp, mn_in, mn_inm, mn_nz, mn_zo, mn_min, mn_max, mn_abs, mn_rfit, mn_cp, mn_les, mn_gre, mn_a127, mn_a15, mn_a1, mn_a255, mn_tn0, mn_tn0e, mn_tnr, mn_tnz, mr_get, mr_ne, mr_put, mu_ne, mu_eq, mj_bk_i, mj_bk_v, mj_bk_x, decide_eq_true_eq, decide_true, decide_false, Bool.false_eq_true, Bool.true_eq_false, reduceCtorEq, mt_le_t, mt_le_f, mt_lt_t, mt_lt_f, mt_eq_t, mt_eq_f, mt_ee, not_true_eq_false, not_false_eq_true, and_true, true_and, and_self, Nat.zero_add, Nat.add_zero, Nat.one_mul, Nat.mul_one, Nat.reduceAdd, Nat.reduceMul, Nat.reduceSub, Nat.reducePow, Nat.reduceDiv, Nat.reduceMod, ↓reduceIte, c140 h.1, c139 h.1, q1, false_and, c135 h.1, kc, c138 h.1, q4, Bool.toNat_false, Bool.toNat_true, e]
        · intro d s f h
          rw [← Nat.add_assoc]
          obtain ⟨t, e, g1, g2, g3⟩ := g214f (X := X) (d := d + E + 6) (f := f) h hf
          have h18 := h.1.2.2.2.2.1
          have h22 := h.2.1
          refine ⟨t, ?_, g1, g2, g3⟩
          simp (disch := first | assumption | exact hf _ | omega) only [b213, b213_0, b213_7, b213_8, b213_16, b213_25, b213_28, b213_29, b213_37, b213_45, b213_51, b213_56, b213_63, b213_70, b213_74, b213_75, b213_81, b213_88, b213_94, nI_add, mn_mul, mn_sub, mn_m1, mn_m8, mn_eq, mn_lt, mn_le, mn_eq0, mn_0eq, mn_lt0, mn_0lt, mn_le0, mn_0le, mn_eqm, mn_meq, mn_ltm, mn_mlt, mn_lem, mn_mle, mn_mm1, mn_mm2, mn_mm3, mn_mm4, mn_mm5, mn_mm6, mn_and, mn_or, mn_an, mn_shl, mn_shr, mn_div, mn_rem, mn_clamp, mn_in, mn_inm, mn_nz, mn_zo, mn_min, mn_max, mn_abs, mn_rfit, mn_cp, mn_les, mn_gre, mn_a127, mn_a15, mn_a1, mn_a255, mn_tn0, mn_tn0e, mn_tnr, mn_tnz, mr_get, mr_ne, mr_put, mu_ne, mu_eq, mj_bk_i, mj_bk_v, mj_bk_x, decide_eq_true_eq, decide_true, decide_false, Bool.false_eq_true, Bool.true_eq_false, reduceCtorEq, mt_le_t, mt_le_f, mt_lt_t, mt_lt_f, mt_eq_t, mt_eq_f, mt_ee, not_true_eq_false, not_false_eq_true, and_true, true_and, and_self, Nat.zero_add, Nat.add_zero, Nat.one_mul, Nat.mul_one, Nat.reduceAdd, Nat.reduceMul, Nat.reduceSub, Nat.reducePow, Nat.reduceDiv, Nat.reduceMod, ↓reduceIte, mp_h, mp_w, mp_c, mp_s, mp_d, mp_n, mp_54, mp_52, mp_55, mp_l, mp_o, mp_42, mp_45, gh_gp, gw_gp, gc_gp, mw_pne, Nat.or_zero, h22, h18, q2, e, c216b g1]
      · have hv : nmv tp n a ≤ 9999 := num_ok q2 q4
        have hf : nfl tp n a 0 9999 = 0 := by unfold nfl; rw [if_pos q2, if_neg (by omega)]
        have em : min 9999 (dv tp (tb tp n a) (te tp n a - tb tp n a)) = nmv tp n a := by unfold nmv at hv ⊢; omega
        refine Or.inl ⟨te tp n a, [nmv tp n a], by omega, hle, by simp; omega, fun h hh => hl_1 (by omega) (by omega), ?_, ?_⟩
        · intro d s h
          rw [← Nat.add_assoc]
          obtain ⟨t, e, g1, g2⟩ := g123 (X := X) (d := d + E + 9) h (by omega) (rc_n (show nmv tp n a < 10000 by omega)).symm
          obtain ⟨u, e2, g3, g4⟩ := g131 (X := X) (d := d + E + 3) g1
          refine ⟨u, ?_, g3, fC_trans g2 g4⟩
          simp (disch := first | assumption | exact hf _ | omega) only [b104, b104_0, b104_7, b104_10, b104_21, b104_31, b104_34, b104_41, b104_44, b104_49, b104_50, b104_57, b104_62, b104_69, b104_76, b104_79, b104_81, b104_88, b104_93, b104_98, b104_99, b104_106, b104_110, b104_115, b104_116, b104_123, b104_126, b104_131, b104_132, b104_143, b104_146, b104_153, nI_add, mn_mul, mn_sub, mn_m1, mn_m8, mn_eq, mn_lt, mn_le, mn_eq0, mn_0eq, mn_lt0, mn_0lt, mn_le0, mn_0le, mn_eqm, mn_meq, mn_ltm, mn_mlt, mn_lem, mn_mle, mn_mm1, mn_mm2, mn_mm3, mn_mm4, mn_mm5, mn_mm6, mn_and, mn_or, mn_an, mn_shl, mn_shr, mn_div, mn_rem, mn_clamp, mn_in, mn_inm, mn_nz, mn_zo, mn_min, mn_max, mn_abs, mn_rfit, mn_cp, mn_les, mn_gre, mn_a127, mn_a15, mn_a1, mn_a255, mn_tn0, mn_tn0e, mn_tnr, mn_tnz, mr_get, mr_ne, mr_put, mu_ne, mu_eq, mj_bk_i, mj_bk_v, mj_bk_x, decide_eq_true_eq, decide_true, decide_false, Bool.false_eq_true, Bool.true_eq_false, reduceCtorEq, mt_le_t, mt_le_f, mt_lt_t, mt_lt_f, mt_eq_t, mt_eq_f, mt_ee, not_true_eq_false, not_false_eq_true, and_true, true_and, and_self, Nat.zero_add, Nat.add_zero, Nat.one_mul, Nat.mul_one, Nat.reduceAdd, Nat.reduceMul, Nat.reduceSub, Nat.reducePow, Nat.reduceDiv, Nat.reduceMod, ↓reduceIte, c140 h.1, c139 h.1, q1, false_and, c135 h.1, kc, c138 h.1, q4, Bool.toNat_false, c137 h.1 q2, em, e, e2]
        · intro d s f h
          rw [← Nat.add_assoc]
          obtain ⟨t, e, g1, g2⟩ := g214 (X := X) (d := d + E + 6) (f := f) h hf
          obtain ⟨u, e2, g3, g4⟩ := c216 (X := X) (d := d + E + 9) (f := f) g1 (by omega) (rm_n (show nmv tp n a < 10000 by omega)).symm
          have h18 := h.1.2.2.2.2.1
          have h22 := h.2.1
          refine ⟨u, ?_, g3, fE_trans g2 g4⟩
          simp (disch := first | assumption | exact hf _ | omega) only [b213, b213_0, b213_7, b213_8, b213_16, b213_25, b213_28, b213_29, b213_37, b213_45, b213_51, b213_56, b213_63, b213_70, b213_74, b213_75, b213_81, b213_88, b213_94, nI_add, mn_mul, mn_sub, mn_m1, mn_m8, mn_eq, mn_lt, mn_le, mn_eq0, mn_0eq, mn_lt0, mn_0lt, mn_le0, mn_0le, mn_eqm, mn_meq, mn_ltm, mn_mlt, mn_lem, mn_mle, mn_mm1, mn_mm2, mn_mm3, mn_mm4, mn_mm5, mn_mm6, mn_and, mn_or, mn_an, mn_shl, mn_shr, mn_div, mn_rem, mn_clamp, mn_in, mn_inm, mn_nz, mn_zo, mn_min, mn_max, mn_abs, mn_rfit, mn_cp, mn_les, mn_gre, mn_a127, mn_a15, mn_a1, mn_a255, mn_tn0, mn_tn0e, mn_tnr, mn_tnz, mr_get, mr_ne, mr_put, mu_ne, mu_eq, mj_bk_i, mj_bk_v, mj_bk_x, decide_eq_true_eq, decide_true, decide_false, Bool.false_eq_true, Bool.true_eq_false, reduceCtorEq, mt_le_t, mt_le_f, mt_lt_t, mt_lt_f, mt_eq_t, mt_eq_f, mt_ee, not_true_eq_false, not_false_eq_true, and_true, true_and, and_self, Nat.zero_add, Nat.add_zero, Nat.one_mul, Nat.mul_one, Nat.reduceAdd, Nat.reduceMul, Nat.reduceSub, Nat.reducePow, Nat.reduceDiv, Nat.reduceMod, ↓reduceIte, mp_h, mp_w, mp_c, mp_s, mp_d, mp_n, mp_54, mp_52, mp_55, mp_l, mp_o, mp_42, mp_45, gh_gp, gw_gp, gc_gp, mw_pne, Nat.or_zero, h22, h18, q2, e, e2]
    · have k2 : ¬ kcl tp n a = 2 := by rw [kcl_2]; exact q2
      cases q40 : tS tp n a 40
      · have k40 : ¬ kcl tp n a = 40 := by rw [kcl_S (by omega), q40]; decide
        refine Or.inr ⟨1, tb tp n a, by decide, by decide, ?_, ?_⟩
        · intro d s h
          rw [← Nat.add_assoc]
          obtain ⟨t, e, g1, g2, g3⟩ := g92 (X := X) (d := d + E + 8) (k := 1) h
          refine ⟨t, ?_, g1, g2, g3⟩
          simp (disch := first | assumption | exact hf _ | omega) only [b104, b104_0, b104_7, b104_10, b104_21, b104_31, b104_34, b104_41, b104_44, b104_49, b104_50, b104_57, b104_62, b104_69, b104_76, b104_79, b104_81, b104_88, b104_93, b104_98, b104_99, b104_106, b104_110, b104_115, b104_116, b104_123, b104_126, b104_131, b104_132, b104_143, b104_146, b104_153, nI_add, mn_mul, mn_sub, mn_m1, mn_m8, mn_eq, mn_lt, mn_le, mn_eq0, mn_0eq, mn_lt0, mn_0lt, mn_le0, mn_0le, mn_eqm, mn_meq, mn_ltm, mn_mlt, mn_lem, mn_mle, mn_mm1, mn_mm2, mn_mm3, mn_mm4, mn_mm5, mn_mm6, mn_and, mn_or, mn_an, mn_shl, mn_shr, mn_div, mn_rem, mn_clamp, mn_in, mn_inm, mn_nz, mn_zo, mn_min, mn_max, mn_abs, mn_rfit, mn_cp, mn_les, mn_gre, mn_a127, mn_a15, mn_a1, mn_a255, mn_tn0, mn_tn0e, mn_tnr, mn_tnz, mr_get, mr_ne, mr_put, mu_ne, mu_eq, mj_bk_i, mj_bk_v, mj_bk_x, decide_eq_true_eq, decide_true, decide_false, Bool.false_eq_true, Bool.true_eq_false, reduceCtorEq, mt_le_t, mt_le_f, mt_lt_t, mt_lt_f, mt_eq_t, mt_eq_f, mt_ee, not_true_eq_false, not_false_eq_true, and_true, true_and, and_self, Nat.zero_add, Nat.add_zero, Nat.one_mul, Nat.mul_one, Nat.reduceAdd, Nat.reduceMul, Nat.reduceSub, Nat.reducePow, Nat.reduceDiv, Nat.reduceMod, ↓reduceIte, c140 h.1, c139 h.1, q1, false_and, c135 h.1, k40, k2, Bool.toNat_false, e]
        · intro d s f h
          rw [← Nat.add_assoc]
          obtain ⟨t, e, g1, g2, g3⟩ := g217f (X := X) (d := d + E + 6) (f := f) h (by decide) q40
          have h18 := h.1.2.2.2.2.1
          have h22 := h.2.1
          refine ⟨t, ?_, g1, g2, g3⟩
          simp (disch := first | assumption | exact hf _ | omega) only [b213, b213_0, b213_7, b213_8, b213_16, b213_25, b213_28, b213_29, b213_37, b213_45, b213_51, b213_56, b213_63, b213_70, b213_74, b213_75, b213_81, b213_88, b213_94, nI_add, mn_mul, mn_sub, mn_m1, mn_m8, mn_eq, mn_lt, mn_le, mn_eq0, mn_0eq, mn_lt0, mn_0lt, mn_le0, mn_0le, mn_eqm, mn_meq, mn_ltm, mn_mlt, mn_lem, mn_mle, mn_mm1, mn_mm2, mn_mm3, mn_mm4, mn_mm5, mn_mm6, mn_and, mn_or, mn_an, mn_shl, mn_shr, mn_div, mn_rem, mn_clamp, mn_in, mn_inm, mn_nz, mn_zo, mn_min, mn_max, mn_abs, mn_rfit, mn_cp, mn_les, mn_gre, mn_a127, mn_a15, mn_a1, mn_a255, mn_tn0, mn_tn0e, mn_tnr, mn_tnz, mr_get, mr_ne, mr_put, mu_ne, mu_eq, mj_bk_i, mj_bk_v, mj_bk_x, decide_eq_true_eq, decide_true, decide_false, Bool.false_eq_true, Bool.true_eq_false, reduceCtorEq, mt_le_t, mt_le_f, mt_lt_t, mt_lt_f, mt_eq_t, mt_eq_f, mt_ee, not_true_eq_false, not_false_eq_true, and_true, true_and, and_self, Nat.zero_add, Nat.add_zero, Nat.one_mul, Nat.mul_one, Nat.reduceAdd, Nat.reduceMul, Nat.reduceSub, Nat.reducePow, Nat.reduceDiv, Nat.reduceMod, ↓reduceIte, mp_h, mp_w, mp_c, mp_s, mp_d, mp_n, mp_54, mp_52, mp_55, mp_l, mp_o, mp_42, mp_45, gh_gp, gw_gp, gc_gp, mw_pne, Nat.or_zero, h22, h18, q1, q2, e, nb207 g1, nb217 g1]
      · have k40 : kcl tp n a = 40 := by rw [kcl_S (by omega)]; exact q40
        have n0 : ¬ tkd tp n a = 0 := fun z => by have := (of_decide_eq_true q40).1; omega
        have hlt := te_gt (tp := tp) (n := n) (a := a) n0
        rcases hE o (te tp n a) l r hle (by omega) (by omega) with ⟨a', l', b1, b2, b3, b4, b5, b6⟩ | ⟨k, p, b1, b2, b3, b4⟩
        · have hle2 := te_le (tp := tp) b2
          cases q41 : tS tp n a' 41
          · have k41 : ¬ kcl tp n a' = 41 := by rw [kcl_S (by omega), q41]; decide
            have kl' := kcl_lt (tp := tp) (n := n) (a := a')
            refine Or.inr ⟨1, tb tp n a', by decide, by decide, ?_, ?_⟩
            · intro d s h
              rw [← Nat.add_assoc]
              obtain ⟨t, e, g1, g2⟩ := g131 (X := X) (d := d + E + 3) h
              obtain ⟨u, e2, g3, g4⟩ := b5 d t g1
              rw [← Nat.add_assoc] at e2
              obtain ⟨v, e3, g5, g6, g7⟩ := g92 (X := X) (d := d + E + 8) (k := 1) g3
              refine ⟨v, ?_, g5, g6, fC_trans g2 (fC_trans g4 g7)⟩
              simp (disch := first | assumption | exact hf _ | omega) only [b104, b104_0, b104_7, b104_10, b104_21, b104_31, b104_34, b104_41, b104_44, b104_49, b104_50, b104_57, b104_62, b104_69, b104_76, b104_79, b104_81, b104_88, b104_93, b104_98, b104_99, b104_106, b104_110, b104_115, b104_116, b104_123, b104_126, b104_131, b104_132, b104_143, b104_146, b104_153, nI_add, mn_mul, mn_sub, mn_m1, mn_m8, mn_eq, mn_lt, mn_le, mn_eq0, mn_0eq, mn_lt0, mn_0lt, mn_le0, mn_0le, mn_eqm, mn_meq, mn_ltm, mn_mlt, mn_lem, mn_mle, mn_mm1, mn_mm2, mn_mm3, mn_mm4, mn_mm5, mn_mm6, mn_and, mn_or, mn_an, mn_shl, mn_shr, mn_div, mn_rem, mn_clamp, mn_in, mn_inm, mn_nz, mn_zo, mn_min, mn_max, mn_abs, mn_rfit, mn_cp, mn_les, mn_gre, mn_a127, mn_a15, mn_a1, mn_a255, mn_tn0, mn_tn0e, mn_tnr, mn_tnz, mr_get, mr_ne, mr_put, mu_ne, mu_eq, mj_bk_i, mj_bk_v, mj_bk_x, decide_eq_true_eq, decide_true, decide_false, Bool.false_eq_true, Bool.true_eq_false, reduceCtorEq, mt_le_t, mt_le_f, mt_lt_t, mt_lt_f, mt_eq_t, mt_eq_f, mt_ee, not_true_eq_false, not_false_eq_true, and_true, true_and, and_self, Nat.zero_add, Nat.add_zero, Nat.one_mul, Nat.mul_one, Nat.reduceAdd, Nat.reduceMul, Nat.reduceSub, Nat.reducePow, Nat.reduceDiv, Nat.reduceMod, ↓reduceIte, c140 h.1, c139 h.1, q1, false_and, c135 h.1, k40, Bool.toNat_false, e, e2, c135 g3.1, k41, e3]
            · intro d s f h
              rw [← Nat.add_assoc]
              obtain ⟨t, e, g1, g2⟩ := g217 (X := X) (d := d + E + 6) (f := f) h (by decide) q40
              obtain ⟨u, e2, g3, g4⟩ := b6 d t f g1
              rw [← Nat.add_assoc] at e2
              obtain ⟨v, e3, g5, g6, g7⟩ := g217f (X := X) (d := d + E + 6) (f := f) g3 (by decide) q41
              have h18 := h.1.2.2.2.2.1
              have h22 := h.2.1
              refine ⟨v, ?_, g5, g6, fE_trans g2 (fE_trans g4 g7)⟩
              simp (disch := first | assumption | exact hf _ | omega) only [b213, b213_0, b213_7, b213_8, b213_16, b213_25, b213_28, b213_29, b213_37, b213_45, b213_51, b213_56, b213_63, b213_70, b213_74, b213_75, b213_81, b213_88, b213_94, nI_add, mn_mul, mn_sub, mn_m1, mn_m8, mn_eq, mn_lt, mn_le, mn_eq0, mn_0eq, mn_lt0, mn_0lt, mn_le0, mn_0le, mn_eqm, mn_meq, mn_ltm, mn_mlt, mn_lem, mn_mle, mn_mm1, mn_mm2, mn_mm3, mn_mm4, mn_mm5, mn_mm6, mn_and, mn_or, mn_an, mn_shl, mn_shr, mn_div, mn_rem, mn_clamp, mn_in, mn_inm, mn_nz, mn_zo, mn_min, mn_max, mn_abs, mn_rfit, mn_cp, mn_les, mn_gre, mn_a127, mn_a15, mn_a1, mn_a255, mn_tn0, mn_tn0e, mn_tnr, mn_tnz, mr_get, mr_ne, mr_put, mu_ne, mu_eq, mj_bk_i, mj_bk_v, mj_bk_x, decide_eq_true_eq, decide_true, decide_false, Bool.false_eq_true, Bool.true_eq_false, reduceCtorEq, mt_le_t, mt_le_f, mt_lt_t, mt_lt_f, mt_eq_t, mt_eq_f, mt_ee, not_true_eq_false, not_false_eq_true, and_true, true_and, and_self, Nat.zero_add, Nat.add_zero, Nat.one_mul, Nat.mul_one, Nat.reduceAdd, Nat.reduceMul, Nat.reduceSub, Nat.reducePow, Nat.reduceDiv, Nat.reduceMod, ↓reduceIte, mp_h, mp_w, mp_c, mp_s, mp_d, mp_n, mp_54, mp_52, mp_55, mp_l, mp_o, mp_42, mp_45, gh_gp, gw_gp, gc_gp, mw_pne, Nat.or_zero, h22, h18, q1, q2, e, e2, e3]
          · have k41 : kcl tp n a' = 41 := by rw [kcl_S (by omega)]; exact q41
            have n0' : ¬ tkd tp n a' = 0 := fun z => by have := (of_decide_eq_true q41).1; omega
            have hlt' := te_gt (tp := tp) (n := n) (a := a') n0'
            have hge' := tb_ge (tp := tp) (n := n) (a := a')
            refine Or.inl ⟨te tp n a', l', by omega, hle2, by omega, fun h hh => b4 h (by omega), ?_, ?_⟩
            · intro d s h
              rw [← Nat.add_assoc]
              obtain ⟨t, e, g1, g2⟩ := g131 (X := X) (d := d + E + 3) h
              obtain ⟨u, e2, g3, g4⟩ := b5 d t g1
              rw [← Nat.add_assoc] at e2
              obtain ⟨v, e3, g5, g6⟩ := g131 (X := X) (d := d + E + 3) g3
              refine ⟨v, ?_, g5, fC_trans g2 (fC_trans g4 g6)⟩
              simp (disch := first | assumption | exact hf _ | omega) only [b104, b104_0, b104_7, b104_10, b104_21, b104_31, b104_34, b104_41, b104_44, b104_49, b104_50, b104_57, b104_62, b104_69, b104_76, b104_79, b104_81, b104_88, b104_93, b104_98, b104_99, b104_106, b104_110, b104_115, b104_116, b104_123, b104_126, b104_131, b104_132, b104_143, b104_146, b104_153, nI_add, mn_mul, mn_sub, mn_m1, mn_m8, mn_eq, mn_lt, mn_le, mn_eq0, mn_0eq, mn_lt0, mn_0lt, mn_le0, mn_0le, mn_eqm, mn_meq, mn_ltm, mn_mlt, mn_lem, mn_mle, mn_mm1, mn_mm2, mn_mm3, mn_mm4, mn_mm5, mn_mm6, mn_and, mn_or, mn_an, mn_shl, mn_shr, mn_div, mn_rem, mn_clamp, mn_in, mn_inm, mn_nz, mn_zo, mn_min, mn_max, mn_abs, mn_rfit, mn_cp, mn_les, mn_gre, mn_a127, mn_a15, mn_a1, mn_a255, mn_tn0, mn_tn0e, mn_tnr, mn_tnz, mr_get, mr_ne, mr_put, mu_ne, mu_eq, mj_bk_i, mj_bk_v, mj_bk_x, decide_eq_true_eq, decide_true, decide_false, Bool.false_eq_true, Bool.true_eq_false, reduceCtorEq, mt_le_t, mt_le_f, mt_lt_t, mt_lt_f, mt_eq_t, mt_eq_f, mt_ee, not_true_eq_false, not_false_eq_true, and_true, true_and, and_self, Nat.zero_add, Nat.add_zero, Nat.one_mul, Nat.mul_one, Nat.reduceAdd, Nat.reduceMul, Nat.reduceSub, Nat.reducePow, Nat.reduceDiv, Nat.reduceMod, ↓reduceIte, c140 h.1, c139 h.1, q1, false_and, c135 h.1, k40, Bool.toNat_false, e, e2, c135 g3.1, k41, e3]
            · intro d s f h
              rw [← Nat.add_assoc]
              obtain ⟨t, e, g1, g2⟩ := g217 (X := X) (d := d + E + 6) (f := f) h (by decide) q40
              obtain ⟨u, e2, g3, g4⟩ := b6 d t f g1
              rw [← Nat.add_assoc] at e2
              obtain ⟨v, e3, g5, g6⟩ := g217 (X := X) (d := d + E + 6) (f := f) g3 (by decide) q41
              have h18 := h.1.2.2.2.2.1
              have h22 := h.2.1
              refine ⟨v, ?_, g5, fE_trans g2 (fE_trans g4 g6)⟩
              simp (disch := first | assumption | exact hf _ | omega) only [b213, b213_0, b213_7, b213_8, b213_16, b213_25, b213_28, b213_29, b213_37, b213_45, b213_51, b213_56, b213_63, b213_70, b213_74, b213_75, b213_81, b213_88, b213_94, nI_add, mn_mul, mn_sub, mn_m1, mn_m8, mn_eq, mn_lt, mn_le, mn_eq0, mn_0eq, mn_lt0, mn_0lt, mn_le0, mn_0le, mn_eqm, mn_meq, mn_ltm, mn_mlt, mn_lem, mn_mle, mn_mm1, mn_mm2, mn_mm3, mn_mm4, mn_mm5, mn_mm6, mn_and, mn_or, mn_an, mn_shl, mn_shr, mn_div, mn_rem, mn_clamp, mn_in, mn_inm, mn_nz, mn_zo, mn_min, mn_max, mn_abs, mn_rfit, mn_cp, mn_les, mn_gre, mn_a127, mn_a15, mn_a1, mn_a255, mn_tn0, mn_tn0e, mn_tnr, mn_tnz, mr_get, mr_ne, mr_put, mu_ne, mu_eq, mj_bk_i, mj_bk_v, mj_bk_x, decide_eq_true_eq, decide_true, decide_false, Bool.false_eq_true, Bool.true_eq_false, reduceCtorEq, mt_le_t, mt_le_f, mt_lt_t, mt_lt_f, mt_eq_t, mt_eq_f, mt_ee, not_true_eq_false, not_false_eq_true, and_true, true_and, and_self, Nat.zero_add, Nat.add_zero, Nat.one_mul, Nat.mul_one, Nat.reduceAdd, Nat.reduceMul, Nat.reduceSub, Nat.reducePow, Nat.reduceDiv, Nat.reduceMod, ↓reduceIte, mp_h, mp_w, mp_c, mp_s, mp_d, mp_n, mp_54, mp_52, mp_55, mp_l, mp_o, mp_42, mp_45, gh_gp, gw_gp, gc_gp, mw_pne, Nat.or_zero, h22, h18, q1, q2, e, e2, e3]
        · refine Or.inr ⟨k, p, b1, b2, ?_, ?_⟩
          · intro d s h
            rw [← Nat.add_assoc]
            obtain ⟨t, e, g1, g2⟩ := g131 (X := X) (d := d + E + 3) h
            obtain ⟨u, e2, g3, g4, g5⟩ := b3 d t g1
            rw [← Nat.add_assoc] at e2
            refine ⟨u, ?_, g3, g4, fC_trans g2 g5⟩
            simp (disch := first | assumption | exact hf _ | omega) only [b104, b104_0, b104_7, b104_10, b104_21, b104_31, b104_34, b104_41, b104_44, b104_49, b104_50, b104_57, b104_62, b104_69, b104_76, b104_79, b104_81, b104_88, b104_93, b104_98, b104_99, b104_106, b104_110, b104_115, b104_116, b104_123, b104_126, b104_131, b104_132, b104_143, b104_146, b104_153, nI_add, mn_mul, mn_sub, mn_m1, mn_m8, mn_eq, mn_lt, mn_le, mn_eq0, mn_0eq, mn_lt0, mn_0lt, mn_le0, mn_0le, mn_eqm, mn_meq, mn_ltm, mn_mlt, mn_lem, mn_mle, mn_mm1, mn_mm2, mn_mm3, mn_mm4, mn_mm5, mn_mm6, mn_and, mn_or, mn_an, mn_shl, mn_shr, mn_div, mn_rem, mn_clamp, mn_in, mn_inm, mn_nz, mn_zo, mn_min, mn_max, mn_abs, mn_rfit, mn_cp, mn_les, mn_gre, mn_a127, mn_a15, mn_a1, mn_a255, mn_tn0, mn_tn0e, mn_tnr, mn_tnz, mr_get, mr_ne, mr_put, mu_ne, mu_eq, mj_bk_i, mj_bk_v, mj_bk_x, decide_eq_true_eq, decide_true, decide_false, Bool.false_eq_true, Bool.true_eq_false, reduceCtorEq, mt_le_t, mt_le_f, mt_lt_t, mt_lt_f, mt_eq_t, mt_eq_f, mt_ee, not_true_eq_false, not_false_eq_true, and_true, true_and, and_self, Nat.zero_add, Nat.add_zero, Nat.one_mul, Nat.mul_one, Nat.reduceAdd, Nat.reduceMul, Nat.reduceSub, Nat.reducePow, Nat.reduceDiv, Nat.reduceMod, ↓reduceIte, c140 h.1, c139 h.1, q1, false_and, c135 h.1, k40, Bool.toNat_false, e, e2]
          · intro d s f h
            rw [← Nat.add_assoc]
            obtain ⟨t, e, g1, g2⟩ := g217 (X := X) (d := d + E + 6) (f := f) h (by decide) q40
            obtain ⟨u, e2, g3, g4, g5⟩ := b4 d t f g1
            rw [← Nat.add_assoc] at e2
            have h18 := h.1.2.2.2.2.1
            have h22 := h.2.1
            refine ⟨u, ?_, g3, g4, fE_trans g2 g5⟩
            simp (disch := first | assumption | exact hf _ | omega) only [b213, b213_0, b213_7, b213_8, b213_16, b213_25, b213_28, b213_29, b213_37, b213_45, b213_51, b213_56, b213_63, b213_70, b213_74, b213_75, b213_81, b213_88, b213_94, nI_add, mn_mul, mn_sub, mn_m1, mn_m8, mn_eq, mn_lt, mn_le, mn_eq0, mn_0eq, mn_lt0, mn_0lt, mn_le0, mn_0le, mn_eqm, mn_meq, mn_ltm, mn_mlt, mn_lem, mn_mle, mn_mm1, mn_mm2, mn_mm3, mn_mm4, mn_mm5, mn_mm6, mn_and, mn_or, mn_an, mn_shl, mn_shr, mn_div, mn_rem, mn_clamp, mn_in, mn_inm, mn_nz, mn_zo, mn_min, mn_max, mn_abs, mn_rfit, mn_cp, mn_les, mn_gre, mn_a127, mn_a15, mn_a1, mn_a255, mn_tn0, mn_tn0e, mn_tnr, mn_tnz, mr_get, mr_ne, mr_put, mu_ne, mu_eq, mj_bk_i, mj_bk_v, mj_bk_x, decide_eq_true_eq, decide_true, decide_false, Bool.false_eq_true, Bool.true_eq_false, reduceCtorEq, mt_le_t, mt_le_f, mt_lt_t, mt_lt_f, mt_eq_t, mt_eq_f, mt_ee, not_true_eq_false, not_false_eq_true, and_true, true_and, and_self, Nat.zero_add, Nat.add_zero, Nat.one_mul, Nat.mul_one, Nat.reduceAdd, Nat.reduceMul, Nat.reduceSub, Nat.reducePow, Nat.reduceDiv, Nat.reduceMod, ↓reduceIte, mp_h, mp_w, mp_c, mp_s, mp_d, mp_n, mp_54, mp_52, mp_55, mp_l, mp_o, mp_42, mp_45, gh_gp, gw_gp, gc_gp, mw_pne, Nat.or_zero, h22, h18, q1, q2, e, e2, nb217 g3]
end
