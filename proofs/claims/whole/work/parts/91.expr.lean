/-! both readers: an EXPR -/
section
variable {X : mj_X} {E : Nat} {tp : Nat → Nat} {n w nd : Nat}
theorem J_and (hP : JJ X 100 210 (E + 14) tp n w nd) (hn : n ≤ 700) : JJ X 99 209 (E + 15) tp n w (nd + 1) := by
  intro o a l r han hl_ hr
  have z0 : mj_rfit (some .boolean) (nI 0) = true := by decide
  rcases hP o a l r han hl_ hr with ⟨a1, l1, b1, b2, b3, b4, b5, b6⟩ | ⟨kf, p, b1, b2, b3, b4⟩
  · rcases L_and hP hn o (n - a1) a1 (l ++ l1) (r ++ l1) rfl b2 (by simp; omega) (by simp; omega) with ⟨a2, l2, c1, c2, c3, c4, c5, c6⟩ | ⟨kf, p, c1, c2, c3, c4⟩
    · refine Or.inl ⟨a2, l1 ++ l2, by omega, c2, by simp; omega, fun h hh => c4 h l1 hh (b4 h (by omega)), ?_, ?_⟩
      · intro d s h
        obtain ⟨t, e, g1, g2⟩ := b5 d s h
        obtain ⟨u, e2, g3, g4⟩ := c5 d t 0 (Nat.zero_le _) g1
        rw [List.append_assoc] at g3
        refine ⟨u, ?_, g3, fC_trans g2 g4⟩
        rw [← Nat.add_assoc] at e ⊢
        rw [b99, b99_0, e, mj_bk_i, b99_5]
        exact e2
      · intro d s f h
        obtain ⟨t, e, g1, g2⟩ := b6 d s f h
        obtain ⟨u, e2, g3, g4⟩ := c6 d t f 0 g1
        rw [List.append_assoc] at g3
        refine ⟨u, ?_, g3, fE_trans g2 g4⟩
        rw [← Nat.add_assoc] at e ⊢
        rw [b209, b209_0, e, mj_bk_v]
        exact e2
    · refine Or.inr ⟨kf, p, c1, c2, ?_, ?_⟩
      · intro d s h
        obtain ⟨t, e, g1, g2⟩ := b5 d s h
        obtain ⟨u, e2, g3, g5, g4⟩ := c3 d t 0 (Nat.zero_le _) g1
        refine ⟨u, ?_, g3, g5, fC_trans g2 g4⟩
        rw [← Nat.add_assoc] at e ⊢
        rw [b99, b99_0, e, mj_bk_i, b99_5]
        exact e2
      · intro d s f h
        obtain ⟨t, e, g1, g2⟩ := b6 d s f h
        obtain ⟨u, e2, g3, g5, g4⟩ := c4 d t f 0 g1
        refine ⟨u, ?_, g3, g5, fE_trans g2 g4⟩
        rw [← Nat.add_assoc] at e ⊢
        rw [b209, b209_0, e, mj_bk_v]
        exact e2
  · refine Or.inr ⟨kf, p, b1, b2, ?_, ?_⟩
    · intro d s h
      obtain ⟨t, e, g1, g2, g3⟩ := b3 d s h
      refine ⟨t, ?_, g1, g2, g3⟩
      rw [← Nat.add_assoc] at e ⊢
      rw [b99, b99_0, e, mj_bk_i, b99_5, b99_8]
      simp (disch := first | assumption | exact hf _ | omega) only [b99, b99_0, b99_5, b99_15, b99_19, b99_26, b99_32, b99_39, b99_44, b99_54, b99_60, nI_add, mn_mul, mn_sub, mn_m1, mn_m8, mn_eq, mn_lt, mn_le, mn_eq0, mn_0eq, mn_lt0, mn_0lt, mn_le0, mn_0le, mn_eqm, mn_meq, mn_ltm, mn_mlt, mn_lem, mn_mle, mn_mm1, mn_mm2, mn_mm3, mn_mm4, mn_mm5, mn_mm6, mn_and, mn_or, mn_an, mn_shl, mn_shr, mn_div, mn_rem, mn_clamp, mn_in, mn_inm, mn_nz, mn_zo, mn_min, mn_max, mn_abs, mn_rfit, mn_cp, mn_les, mn_gre, mn_a127, mn_a15, mn_a1, mn_a255, mn_tn0, mn_tn0e, mn_tnr, mn_tnz, mr_get, mr_ne, mr_put, mu_ne, mu_eq, mj_bk_i, mj_bk_v, mj_bk_x, decide_eq_true_eq, decide_true, decide_false, Bool.false_eq_true, Bool.true_eq_false, reduceCtorEq, mt_le_t, mt_le_f, mt_lt_t, mt_lt_f, mt_eq_t, mt_eq_f, mt_ee, not_true_eq_false, not_false_eq_true, and_true, true_and, and_self, Nat.zero_add, Nat.add_zero, Nat.one_mul, Nat.mul_one, Nat.reduceAdd, Nat.reduceMul, Nat.reduceSub, Nat.reducePow, Nat.reduceDiv, Nat.reduceMod, ↓reduceIte, z0]
    · intro d s f h
      obtain ⟨t, e, g1, g2, g3⟩ := b4 d s f h
      refine ⟨t, ?_, g1, g2, g3⟩
      rw [← Nat.add_assoc] at e ⊢
      have eb : mj_call X (d + E + 14) 205 [.ref 42, .ref 1000119] (mw_U (mp t f)) = some (.inl (some (.int (nI 0))), mw_U (mp t f)) := c205b (X := X) (d := d + E + 10) (f := f) (i := 19) (by decide) g1 b1 b2
      have st : mj_call X (d + E + 15) 209 [.ref 42, .int (nI w)] (mw_U (mp s f)) = mj_exec X (d + E + 15) 209 5 [some (.ref 42), some (.int (nI w))] [] (mw_U (mp t f)) := by
        rw [b209, b209_0, e, mj_bk_v]
      rw [st, b209_5]
      simp (disch := first | assumption | exact hf _ | omega) only [b209, b209_0, b209_12, b209_15, b209_19, b209_24, b209_30, b209_33, nI_add, mn_mul, mn_sub, mn_m1, mn_m8, mn_eq, mn_lt, mn_le, mn_eq0, mn_0eq, mn_lt0, mn_0lt, mn_le0, mn_0le, mn_eqm, mn_meq, mn_ltm, mn_mlt, mn_lem, mn_mle, mn_mm1, mn_mm2, mn_mm3, mn_mm4, mn_mm5, mn_mm6, mn_and, mn_or, mn_an, mn_shl, mn_shr, mn_div, mn_rem, mn_clamp, mn_in, mn_inm, mn_nz, mn_zo, mn_min, mn_max, mn_abs, mn_rfit, mn_cp, mn_les, mn_gre, mn_a127, mn_a15, mn_a1, mn_a255, mn_tn0, mn_tn0e, mn_tnr, mn_tnz, mr_get, mr_ne, mr_put, mu_ne, mu_eq, mj_bk_i, mj_bk_v, mj_bk_x, decide_eq_true_eq, decide_true, decide_false, Bool.false_eq_true, Bool.true_eq_false, reduceCtorEq, mt_le_t, mt_le_f, mt_lt_t, mt_lt_f, mt_eq_t, mt_eq_f, mt_ee, not_true_eq_false, not_false_eq_true, and_true, true_and, and_self, Nat.zero_add, Nat.add_zero, Nat.one_mul, Nat.mul_one, Nat.reduceAdd, Nat.reduceMul, Nat.reduceSub, Nat.reducePow, Nat.reduceDiv, Nat.reduceMod, ↓reduceIte, mp_h, mp_w, mp_c, mp_s, mp_d, mp_n, mp_54, mp_52, mp_55, mp_l, mp_o, mp_42, mp_45, gh_gp, gw_gp, gc_gp, mw_pne, Nat.or_zero, eb]
/-- may an EXPR begin with this token -/
def may (tp : Nat → Nat) (n a : Nat) : Bool := decide (tkd tp n a = 2 ∨ tkd tp n a = 1 ∨ tS tp n a 40 = true)
theorem nb210 {d k : Nat} {s : mw_S} {f : Nat → Nat} {x : Int32} (h22 : s.1 42 22 = nI k) (hk : 0 < k) (hk2 : k < 10) : mj_call X (d + 5) 210 [.ref 42, .int x] (mw_U (mp s f)) = some (.inl none, mw_U (mp s f)) := by
  have eb : mj_call X (d + 4) 205 [.ref 42, .ref 1000118] (mw_U (mp s f)) = some (.inl (some (.int (nI 0))), mw_U (mp s f)) := c205b (X := X) (d := d) (f := f) (i := 18) (by decide) h22 hk hk2
  have st : mj_call X (d + 5) 210 [.ref 42, .int x] (mw_U (mp s f)) = mj_exec X (d + 5) 210 95 [some (.ref 42), some (.int x), some (.int (nI 0)), some (.int (nI 0))] [] (mw_U (mp s f)) := by
    rw [b210, b210_0, b210_2]
    simp (disch := first | assumption | exact hf _ | omega) only [b210, b210_0, b210_8, b210_11, b210_17, b210_22, b210_32, b210_36, b210_39, b210_44, b210_50, b210_53, b210_59, b210_62, b210_68, b210_71, b210_76, b210_78, b210_83, b210_88, b210_93, b210_100, b210_106, b210_112, nI_add, mn_mul, mn_sub, mn_m1, mn_m8, mn_eq, mn_lt, mn_le, mn_eq0, mn_0eq, mn_lt0, mn_0lt, mn_le0, mn_0le, mn_eqm, mn_meq, mn_ltm, mn_mlt, mn_lem, mn_mle, mn_mm1, mn_mm2, mn_mm3, mn_mm4, mn_mm5, mn_mm6, mn_and, mn_or, mn_an, mn_shl, mn_shr, mn_div, mn_rem, mn_clamp, mn_in, mn_inm, mn_nz, mn_zo, mn_min, mn_max, mn_abs, mn_rfit, mn_cp, mn_les, mn_gre, mn_a127, mn_a15, mn_a1, mn_a255, mn_tn0, mn_tn0e, mn_tnr, mn_tnz, mr_get, mr_ne, mr_put, mu_ne, mu_eq, mj_bk_i, mj_bk_v, mj_bk_x, decide_eq_true_eq, decide_true, decide_false, Bool.false_eq_true, Bool.true_eq_false, reduceCtorEq, mt_le_t, mt_le_f, mt_lt_t, mt_lt_f, mt_eq_t, mt_eq_f, mt_ee, not_true_eq_false, not_false_eq_true, and_true, true_and, and_self, Nat.zero_add, Nat.add_zero, Nat.one_mul, Nat.mul_one, Nat.reduceAdd, Nat.reduceMul, Nat.reduceSub, Nat.reducePow, Nat.reduceDiv, Nat.reduceMod, ↓reduceIte, mp_h, mp_w, mp_c, mp_s, mp_d, mp_n, mp_54, mp_52, mp_55, mp_l, mp_o, mp_42, mp_45, gh_gp, gw_gp, gc_gp, mw_pne, Nat.or_zero, eb, nb211 h22 hk hk2, c208b h22 hk hk2]
  rw [st, b210_95]
  simp (disch := first | assumption | exact hf _ | omega) only [b210, b210_0, b210_8, b210_11, b210_17, b210_22, b210_32, b210_36, b210_39, b210_44, b210_50, b210_53, b210_59, b210_62, b210_68, b210_71, b210_76, b210_78, b210_83, b210_88, b210_93, b210_100, b210_106, b210_112, nI_add, mn_mul, mn_sub, mn_m1, mn_m8, mn_eq, mn_lt, mn_le, mn_eq0, mn_0eq, mn_lt0, mn_0lt, mn_le0, mn_0le, mn_eqm, mn_meq, mn_ltm, mn_mlt, mn_lem, mn_mle, mn_mm1, mn_mm2, mn_mm3, mn_mm4, mn_mm5, mn_mm6, mn_and, mn_or, mn_an, mn_shl, mn_shr, mn_div, mn_rem, mn_clamp, mn_in, mn_inm, mn_nz, mn_zo, mn_min, mn_max, mn_abs, mn_rfit, mn_cp, mn_les, mn_gre, mn_a127, mn_a15, mn_a1, mn_a255, mn_tn0, mn_tn0e, mn_tnr, mn_tnz, mr_get, mr_ne, mr_put, mu_ne, mu_eq, mj_bk_i, mj_bk_v, mj_bk_x, decide_eq_true_eq, decide_true, decide_false, Bool.false_eq_true, Bool.true_eq_false, reduceCtorEq, mt_le_t, mt_le_f, mt_lt_t, mt_lt_f, mt_eq_t, mt_eq_f, mt_ee, not_true_eq_false, not_false_eq_true, and_true, true_and, and_self, Nat.zero_add, Nat.add_zero, Nat.one_mul, Nat.mul_one, Nat.reduceAdd, Nat.reduceMul, Nat.reduceSub, Nat.reducePow, Nat.reduceDiv, Nat.reduceMod, ↓reduceIte, mp_h, mp_w, mp_c, mp_s, mp_d, mp_n, mp_54, mp_52, mp_55, mp_l, mp_o, mp_42, mp_45, gh_gp, gw_gp, gc_gp, mw_pne, Nat.or_zero]
theorem nb209 {d k : Nat} {s : mw_S} {f : Nat → Nat} {x : Int32} (h22 : s.1 42 22 = nI k) (hk : 0 < k) (hk2 : k < 10) : mj_call X (d + 6) 209 [.ref 42, .int x] (mw_U (mp s f)) = some (.inl none, mw_U (mp s f)) := by
  have eb : mj_call X (d + 5) 205 [.ref 42, .ref 1000119] (mw_U (mp s f)) = some (.inl (some (.int (nI 0))), mw_U (mp s f)) := c205b (X := X) (d := d + 1) (f := f) (i := 19) (by decide) h22 hk hk2
  have st : mj_call X (d + 6) 209 [.ref 42, .int x] (mw_U (mp s f)) = mj_exec X (d + 6) 209 5 [some (.ref 42), some (.int x)] [] (mw_U (mp s f)) := by
    rw [b209, b209_0, nb210 h22 hk hk2, mj_bk_v]
  rw [st, b209_5]
  simp (disch := first | assumption | exact hf _ | omega) only [b209, b209_0, b209_12, b209_15, b209_19, b209_24, b209_30, b209_33, nI_add, mn_mul, mn_sub, mn_m1, mn_m8, mn_eq, mn_lt, mn_le, mn_eq0, mn_0eq, mn_lt0, mn_0lt, mn_le0, mn_0le, mn_eqm, mn_meq, mn_ltm, mn_mlt, mn_lem, mn_mle, mn_mm1, mn_mm2, mn_mm3, mn_mm4, mn_mm5, mn_mm6, mn_and, mn_or, mn_an, mn_shl, mn_shr, mn_div, mn_rem, mn_clamp, mn_in, mn_inm, mn_nz, mn_zo, mn_min, mn_max, mn_abs, mn_rfit, mn_cp, mn_les, mn_gre, mn_a127, mn_a15, mn_a1, mn_a255, mn_tn0, mn_tn0e, mn_tnr, mn_tnz, mr_get, mr_ne, mr_put, mu_ne, mu_eq, mj_bk_i, mj_bk_v, mj_bk_x, decide_eq_true_eq, decide_true, decide_false, Bool.false_eq_true, Bool.true_eq_false, reduceCtorEq, mt_le_t, mt_le_f, mt_lt_t, mt_lt_f, mt_eq_t, mt_eq_f, mt_ee, not_true_eq_false, not_false_eq_true, and_true, true_and, and_self, Nat.zero_add, Nat.add_zero, Nat.one_mul, Nat.mul_one, Nat.reduceAdd, Nat.reduceMul, Nat.reduceSub, Nat.reducePow, Nat.reduceDiv, Nat.reduceMod, ↓reduceIte, mp_h, mp_w, mp_c, mp_s, mp_d, mp_n, mp_54, mp_52, mp_55, mp_l, mp_o, mp_42, mp_45, gh_gp, gw_gp, gc_gp, mw_pne, Nat.or_zero, eb]
/-- the reference refuses an EXPR -/
theorem R207f {d k : Nat} {s : mw_S} {f : Nat → Nat} {o : Bool} {a : Nat} {r : List Nat} (h : GR o s tp n a r) (hw : w ≤ 6) (hk : k = if may tp n a then 2 else 1) (hm : may tp n a = true → w = 6) : ∃ t, mj_call X (d + 7) 207 [.ref 42, .int (nI w)] (mw_U (mp s f)) = some (.inl none, mw_U (mp t f)) ∧ t.1 42 22 = nI k ∧ t.1 42 23 = nI (tb tp n a) ∧ fE o s t := by
  obtain ⟨t, e, g1, g2, g3⟩ := g206 (X := X) (d := d + 6) (f := f) (k := k) h
  have k0 : 0 < k ∧ k < 10 := by rw [hk]; split <;> omega
  have eb : mj_call X (d + 6) 205 [.ref 42, .ref 1000120] (mw_U (mp t f)) = some (.inl (some (.int (nI 0))), mw_U (mp t f)) := c205b (X := X) (d := d + 2) (f := f) (i := 20) (by decide) g1 k0.1 k0.2
  have h18 := h.1.2.2.2.2.1
  have h22 := h.2.1
  have h4 := tkd_le (tp := tp) (n := n) (a := a)
  refine ⟨t, ?_, g1, g2, g3⟩
  have st : ∃ v, mj_call X (d + 7) 207 [.ref 42, .int (nI w)] (mw_U (mp s f)) = mj_exec X (d + 7) 207 67 [some (.ref 42), some (.int (nI w)), some (.int v)] [] (mw_U (mp t f)) := by
    cases qm : may tp n a
    · rw [qm] at hk
      have hk : k = 1 := hk
      subst hk
      have q := of_decide_eq_false qm
      have q1 : ¬ tkd tp n a = 2 := fun z => q (Or.inl z)
      have q2 : ¬ tkd tp n a = 1 := fun z => q (Or.inr (Or.inl z))
      have q3 : tS tp n a 40 = false := by cases hh : tS tp n a 40; rfl; exact absurd (Or.inr (Or.inr hh)) q
      refine ⟨nI 0, ?_⟩
      simp (disch := first | assumption | exact hf _ | omega) only [b207, b207_0, b207_7, b207_8, b207_16, b207_24, b207_30, b207_33, b207_37, b207_38, b207_43, b207_48, b207_51, b207_57, b207_62, b207_74, b207_77, b207_81, b207_86, b207_92, b207_95, nI_add, mn_mul, mn_sub, mn_m1, mn_m8, mn_eq, mn_lt, mn_le, mn_eq0, mn_0eq, mn_lt0, mn_0lt, mn_le0, mn_0le, mn_eqm, mn_meq, mn_ltm, mn_mlt, mn_lem, mn_mle, mn_mm1, mn_mm2, mn_mm3, mn_mm4, mn_mm5, mn_mm6, mn_and, mn_or, mn_an, mn_shl, mn_shr, mn_div, mn_rem, mn_clamp, mn_in, mn_inm, mn_nz, mn_zo, mn_min, mn_max, mn_abs, mn_rfit, mn_cp, mn_les, mn_gre, mn_a127, mn_a15, mn_a1, mn_a255, mn_tn0, mn_tn0e, mn_tnr, mn_tnz, mr_get, mr_ne, mr_put, mu_ne, mu_eq, mj_bk_i, mj_bk_v, mj_bk_x, decide_eq_true_eq, decide_true, decide_false, Bool.false_eq_true, Bool.true_eq_false, reduceCtorEq, mt_le_t, mt_le_f, mt_lt_t, mt_lt_f, mt_eq_t, mt_eq_f, mt_ee, not_true_eq_false, not_false_eq_true, and_true, true_and, and_self, Nat.zero_add, Nat.add_zero, Nat.one_mul, Nat.mul_one, Nat.reduceAdd, Nat.reduceMul, Nat.reduceSub, Nat.reducePow, Nat.reduceDiv, Nat.reduceMod, ↓reduceIte, mp_h, mp_w, mp_c, mp_s, mp_d, mp_n, mp_54, mp_52, mp_55, mp_l, mp_o, mp_42, mp_45, gh_gp, gw_gp, gc_gp, mw_pne, Nat.or_zero, h22, h18, q1, q2, c208 h.1 h.2.1, q3, Bool.toNat_false, e, nb209 g1]
    · rw [qm] at hk
      have hk : k = 2 := hk
      subst hk
      have hw6 := hm qm
      subst hw6
      refine ⟨nI 1, ?_⟩
      by_cases q1 : tkd tp n a = 2
      · simp (disch := first | assumption | exact hf _ | omega) only [b207, b207_0, b207_7, b207_8, b207_16, b207_24, b207_30, b207_33, b207_37, b207_38, b207_43, b207_48, b207_51, b207_57, b207_62, b207_74, b207_77, b207_81, b207_86, b207_92, b207_95, nI_add, mn_mul, mn_sub, mn_m1, mn_m8, mn_eq, mn_lt, mn_le, mn_eq0, mn_0eq, mn_lt0, mn_0lt, mn_le0, mn_0le, mn_eqm, mn_meq, mn_ltm, mn_mlt, mn_lem, mn_mle, mn_mm1, mn_mm2, mn_mm3, mn_mm4, mn_mm5, mn_mm6, mn_and, mn_or, mn_an, mn_shl, mn_shr, mn_div, mn_rem, mn_clamp, mn_in, mn_inm, mn_nz, mn_zo, mn_min, mn_max, mn_abs, mn_rfit, mn_cp, mn_les, mn_gre, mn_a127, mn_a15, mn_a1, mn_a255, mn_tn0, mn_tn0e, mn_tnr, mn_tnz, mr_get, mr_ne, mr_put, mu_ne, mu_eq, mj_bk_i, mj_bk_v, mj_bk_x, decide_eq_true_eq, decide_true, decide_false, Bool.false_eq_true, Bool.true_eq_false, reduceCtorEq, mt_le_t, mt_le_f, mt_lt_t, mt_lt_f, mt_eq_t, mt_eq_f, mt_ee, not_true_eq_false, not_false_eq_true, and_true, true_and, and_self, Nat.zero_add, Nat.add_zero, Nat.one_mul, Nat.mul_one, Nat.reduceAdd, Nat.reduceMul, Nat.reduceSub, Nat.reducePow, Nat.reduceDiv, Nat.reduceMod, ↓reduceIte, mp_h, mp_w, mp_c, mp_s, mp_d, mp_n, mp_54, mp_52, mp_55, mp_l, mp_o, mp_42, mp_45, gh_gp, gw_gp, gc_gp, mw_pne, Nat.or_zero, h22, h18, q1, e, nb209 g1]
      · by_cases q2 : tkd tp n a = 1
        · simp (disch := first | assumption | exact hf _ | omega) only [b207, b207_0, b207_7, b207_8, b207_16, b207_24, b207_30, b207_33, b207_37, b207_38, b207_43, b207_48, b207_51, b207_57, b207_62, b207_74, b207_77, b207_81, b207_86, b207_92, b207_95, nI_add, mn_mul, mn_sub, mn_m1, mn_m8, mn_eq, mn_lt, mn_le, mn_eq0, mn_0eq, mn_lt0, mn_0lt, mn_le0, mn_0le, mn_eqm, mn_meq, mn_ltm, mn_mlt, mn_lem, mn_mle, mn_mm1, mn_mm2, mn_mm3, mn_mm4, mn_mm5, mn_mm6, mn_and, mn_or, mn_an, mn_shl, mn_shr, mn_div, mn_rem, mn_clamp, mn_in, mn_inm, mn_nz, mn_zo, mn_min, mn_max, mn_abs, mn_rfit, mn_cp, mn_les, mn_gre, mn_a127, mn_a15, mn_a1, mn_a255, mn_tn0, mn_tn0e, mn_tnr, mn_tnz, mr_get, mr_ne, mr_put, mu_ne, mu_eq, mj_bk_i, mj_bk_v, mj_bk_x, decide_eq_true_eq, decide_true, decide_false, Bool.false_eq_true, Bool.true_eq_false, reduceCtorEq, mt_le_t, mt_le_f, mt_lt_t, mt_lt_f, mt_eq_t, mt_eq_f, mt_ee, not_true_eq_false, not_false_eq_true, and_true, true_and, and_self, Nat.zero_add, Nat.add_zero, Nat.one_mul, Nat.mul_one, Nat.reduceAdd, Nat.reduceMul, Nat.reduceSub, Nat.reducePow, Nat.reduceDiv, Nat.reduceMod, ↓reduceIte, mp_h, mp_w, mp_c, mp_s, mp_d, mp_n, mp_54, mp_52, mp_55, mp_l, mp_o, mp_42, mp_45, gh_gp, gw_gp, gc_gp, mw_pne, Nat.or_zero, h22, h18, q2, e, nb209 g1]
        · have q3 : tS tp n a 40 = true := by rcases of_decide_eq_true qm with z | z | z; exact absurd z q1; exact absurd z q2; exact z
          simp (disch := first | assumption | exact hf _ | omega) only [b207, b207_0, b207_7, b207_8, b207_16, b207_24, b207_30, b207_33, b207_37, b207_38, b207_43, b207_48, b207_51, b207_57, b207_62, b207_74, b207_77, b207_81, b207_86, b207_92, b207_95, nI_add, mn_mul, mn_sub, mn_m1, mn_m8, mn_eq, mn_lt, mn_le, mn_eq0, mn_0eq, mn_lt0, mn_0lt, mn_le0, mn_0le, mn_eqm, mn_meq, mn_ltm, mn_mlt, mn_lem, mn_mle, mn_mm1, mn_mm2, mn_mm3, mn_mm4, mn_mm5, mn_mm6, mn_and, mn_or, mn_an, mn_shl, mn_shr, mn_div, mn_rem, mn_clamp, mn_in, mn_inm, mn_nz, mn_zo, mn_min, mn_max, mn_abs, mn_rfit, mn_cp, mn_les, mn_gre, mn_a127, mn_a15, mn_a1, mn_a255, mn_tn0, mn_tn0e, mn_tnr, mn_tnz, mr_get, mr_ne, mr_put, mu_ne, mu_eq, mj_bk_i, mj_bk_v, mj_bk_x, decide_eq_true_eq, decide_true, decide_false, Bool.false_eq_true, Bool.true_eq_false, reduceCtorEq, mt_le_t, mt_le_f, mt_lt_t, mt_lt_f, mt_eq_t, mt_eq_f, mt_ee, not_true_eq_false, not_false_eq_true, and_true, true_and, and_self, Nat.zero_add, Nat.add_zero, Nat.one_mul, Nat.mul_one, Nat.reduceAdd, Nat.reduceMul, Nat.reduceSub, Nat.reducePow, Nat.reduceDiv, Nat.reduceMod, ↓reduceIte, mp_h, mp_w, mp_c, mp_s, mp_d, mp_n, mp_54, mp_52, mp_55, mp_l, mp_o, mp_42, mp_45, gh_gp, gw_gp, gc_gp, mw_pne, Nat.or_zero, h22, h18, q1, q2, c208 h.1 h.2.1, q3, Bool.toNat_true, e, nb209 g1]
  obtain ⟨v, st⟩ := st
  rw [st, b207_67]
  simp (disch := first | assumption | exact hf _ | omega) only [b207, b207_0, b207_7, b207_8, b207_16, b207_24, b207_30, b207_33, b207_37, b207_38, b207_43, b207_48, b207_51, b207_57, b207_62, b207_74, b207_77, b207_81, b207_86, b207_92, b207_95, nI_add, mn_mul, mn_sub, mn_m1, mn_m8, mn_eq, mn_lt, mn_le, mn_eq0, mn_0eq, mn_lt0, mn_0lt, mn_le0, mn_0le, mn_eqm, mn_meq, mn_ltm, mn_mlt, mn_lem, mn_mle, mn_mm1, mn_mm2, mn_mm3, mn_mm4, mn_mm5, mn_mm6, mn_and, mn_or, mn_an, mn_shl, mn_shr, mn_div, mn_rem, mn_clamp, mn_in, mn_inm, mn_nz, mn_zo, mn_min, mn_max, mn_abs, mn_rfit, mn_cp, mn_les, mn_gre, mn_a127, mn_a15, mn_a1, mn_a255, mn_tn0, mn_tn0e, mn_tnr, mn_tnz, mr_get, mr_ne, mr_put, mu_ne, mu_eq, mj_bk_i, mj_bk_v, mj_bk_x, decide_eq_true_eq, decide_true, decide_false, Bool.false_eq_true, Bool.true_eq_false, reduceCtorEq, mt_le_t, mt_le_f, mt_lt_t, mt_lt_f, mt_eq_t, mt_eq_f, mt_ee, not_true_eq_false, not_false_eq_true, and_true, true_and, and_self, Nat.zero_add, Nat.add_zero, Nat.one_mul, Nat.mul_one, Nat.reduceAdd, Nat.reduceMul, Nat.reduceSub, Nat.reducePow, Nat.reduceDiv, Nat.reduceMod, ↓reduceIte, mp_h, mp_w, mp_c, mp_s, mp_d, mp_n, mp_54, mp_52, mp_55, mp_l, mp_o, mp_42, mp_45, gh_gp, gw_gp, gc_gp, mw_pne, Nat.or_zero, eb]
end
