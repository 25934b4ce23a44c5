/-! both readers: and, or -/
section
variable {X : mj_X} {E : Nat} {tp : Nat → Nat} {n w nd : Nat}
theorem L_and (hP : JJ X 100 210 (E + 14) tp n w nd) (hn : n ≤ 700) (o : Bool) : ∀ k a l r, n - a = k → a ≤ n → l.length ≤ a → r.length ≤ a →
    (∃ a' l', a ≤ a' ∧ a' ≤ n ∧ l'.length ≤ a' - a ∧ (∀ h l0, h + (nd + 1) ≤ 40 → hl l0 h = some (h + 1) → hl (l0 ++ l') h = some (h + 1)) ∧ (∀ d s i, i ≤ a → GC s tp n a l → ∃ t, mj_exec X (d + E + 15) 99 8 [some (.ref 22), some (.int (nI w)), some (.int (nI 1)), some (.int (nI i))] [] (mw_U s) = some (.inl (some (.int (nI 1))), mw_U t) ∧ GC t tp n a' (l ++ l') ∧ fC s t) ∧ (∀ d s f (v : Int32), GR o s tp n a r → ∃ t, mj_exec X (d + E + 15) 209 5 [some (.ref 42), some (.int (nI w))] [] (mw_U (mp s f)) = some (.inl none, mw_U (mp t f)) ∧ GR o t tp n a' (r ++ l') ∧ fE o s t)) ∨
    (∃ k p, 0 < k ∧ k < 10 ∧ (∀ d s i, i ≤ a → GC s tp n a l → ∃ t, mj_exec X (d + E + 15) 99 8 [some (.ref 22), some (.int (nI w)), some (.int (nI 1)), some (.int (nI i))] [] (mw_U s) = some (.inl (some (.int (nI 0))), mw_U t) ∧ t.1 22 3 = nI k ∧ FP t p ∧ fC s t) ∧ (∀ d s f (v : Int32), GR o s tp n a r → ∃ t, mj_exec X (d + E + 15) 209 5 [some (.ref 42), some (.int (nI w))] [] (mw_U (mp s f)) = some (.inl none, mw_U (mp t f)) ∧ t.1 42 22 = nI k ∧ t.1 42 23 = nI p ∧ fE o s t)) := by
  have z1 : mj_rfit (some .boolean) (nI 1) = true := by decide
  have z0 : mj_rfit (some .boolean) (nI 0) = true := by decide
  have eW : ∀ {d : Nat} {s : mw_S} {f : Nat → Nat} {a : Nat} {r : List Nat}, GR o s tp n a r → mj_call X (d + E + 14) 205 [.ref 42, .ref 1000119] (mw_U (mp s f)) = some (.inl (some (.int (nI (tV tp n a 7).toNat))), mw_U (mp s f)) := fun {d s f a r} h => c205 (X := X) (d := d + E + 10) (f := f) h.1 h.2.1 (i := 19) (by decide) (by decide)
  have eB : ∀ {d k : Nat} {s : mw_S} {f : Nat → Nat}, s.1 42 22 = nI k → 0 < k → k < 10 → mj_call X (d + E + 14) 205 [.ref 42, .ref 1000119] (mw_U (mp s f)) = some (.inl (some (.int (nI 0))), mw_U (mp s f)) := fun {d k s f} h1 h2 h3 => c205b (X := X) (d := d + E + 10) (f := f) (i := 19) (by decide) h1 h2 h3
  intro k
  induction k using Nat.strongRecOn with
  | ind k ih =>
  intro a l r hk han hl_ hr
  have kl := kcl_lt (tp := tp) (n := n) (a := a)
  cases qn : tV tp n a 7
  · have k8 : ¬ kcl tp n a = 207 := by rw [show 207 = 200 + 7 from rfl, kcl_V, qn]; decide
    refine Or.inl ⟨a, [], Nat.le_refl _, han, by simp, fun h l0 _ h0 => by rw [List.append_nil]; exact h0, ?_, ?_⟩
    · intro d s i hi h
      refine ⟨s, ?_, by rw [List.append_nil]; exact h, fC_refl⟩
      rw [b99_8]
      by_cases q7 : 700 ≤ i
      · simp (disch := first | assumption | exact hf _ | omega) only [b99, b99_0, b99_5, b99_15, b99_19, b99_26, b99_32, b99_39, b99_44, b99_54, b99_60, nI_add, mn_mul, mn_sub, mn_m1, mn_m8, mn_eq, mn_lt, mn_le, mn_eq0, mn_0eq, mn_lt0, mn_0lt, mn_le0, mn_0le, mn_eqm, mn_meq, mn_ltm, mn_mlt, mn_lem, mn_mle, mn_mm1, mn_mm2, mn_mm3, mn_mm4, mn_mm5, mn_mm6, mn_and, mn_or, mn_an, mn_shl, mn_shr, mn_div, mn_rem, mn_clamp, mn_in, mn_inm, mn_nz, mn_zo, mn_min, mn_max, mn_abs, mn_rfit, mn_cp, mn_les, mn_gre, mn_a127, mn_a15, mn_a1, mn_a255, mn_tn0, mn_tn0e, mn_tnr, mn_tnz, mr_get, mr_ne, mr_put, mu_ne, mu_eq, mj_bk_i, mj_bk_v, mj_bk_x, decide_eq_true_eq, decide_true, decide_false, Bool.false_eq_true, Bool.true_eq_false, reduceCtorEq, mt_le_t, mt_le_f, mt_lt_t, mt_lt_f, mt_eq_t, mt_eq_f, mt_ee, not_true_eq_false, not_false_eq_true, and_true, true_and, and_self, Nat.zero_add, Nat.add_zero, Nat.one_mul, Nat.mul_one, Nat.reduceAdd, Nat.reduceMul, Nat.reduceSub, Nat.reducePow, Nat.reduceDiv, Nat.reduceMod, ↓reduceIte, q7, z1]
      · simp (disch := first | assumption | exact hf _ | omega) only [b99, b99_0, b99_5, b99_15, b99_19, b99_26, b99_32, b99_39, b99_44, b99_54, b99_60, nI_add, mn_mul, mn_sub, mn_m1, mn_m8, mn_eq, mn_lt, mn_le, mn_eq0, mn_0eq, mn_lt0, mn_0lt, mn_le0, mn_0le, mn_eqm, mn_meq, mn_ltm, mn_mlt, mn_lem, mn_mle, mn_mm1, mn_mm2, mn_mm3, mn_mm4, mn_mm5, mn_mm6, mn_and, mn_or, mn_an, mn_shl, mn_shr, mn_div, mn_rem, mn_clamp, mn_in, mn_inm, mn_nz, mn_zo, mn_min, mn_max, mn_abs, mn_rfit, mn_cp, mn_les, mn_gre, mn_a127, mn_a15, mn_a1, mn_a255, mn_tn0, mn_tn0e, mn_tnr, mn_tnz, mr_get, mr_ne, mr_put, mu_ne, mu_eq, mj_bk_i, mj_bk_v, mj_bk_x, decide_eq_true_eq, decide_true, decide_false, Bool.false_eq_true, Bool.true_eq_false, reduceCtorEq, mt_le_t, mt_le_f, mt_lt_t, mt_lt_f, mt_eq_t, mt_eq_f, mt_ee, not_true_eq_false, not_false_eq_true, and_true, true_and, and_self, Nat.zero_add, Nat.add_zero, Nat.one_mul, Nat.mul_one, Nat.reduceAdd, Nat.reduceMul, Nat.reduceSub, Nat.reducePow, Nat.reduceDiv, Nat.reduceMod, ↓reduceIte, q7, c135 h.1, k8, z1]
    · intro d s f v h
      refine ⟨s, ?_, by rw [List.append_nil]; exact h, fE_refl⟩
      rw [b209_5]
      simp (disch := first | assumption | exact hf _ | omega) only [b209, b209_0, b209_12, b209_15, b209_19, b209_24, b209_30, b209_33, nI_add, mn_mul, mn_sub, mn_m1, mn_m8, mn_eq, mn_lt, mn_le, mn_eq0, mn_0eq, mn_lt0, mn_0lt, mn_le0, mn_0le, mn_eqm, mn_meq, mn_ltm, mn_mlt, mn_lem, mn_mle, mn_mm1, mn_mm2, mn_mm3, mn_mm4, mn_mm5, mn_mm6, mn_and, mn_or, mn_an, mn_shl, mn_shr, mn_div, mn_rem, mn_clamp, mn_in, mn_inm, mn_nz, mn_zo, mn_min, mn_max, mn_abs, mn_rfit, mn_cp, mn_les, mn_gre, mn_a127, mn_a15, mn_a1, mn_a255, mn_tn0, mn_tn0e, mn_tnr, mn_tnz, mr_get, mr_ne, mr_put, mu_ne, mu_eq, mj_bk_i, mj_bk_v, mj_bk_x, decide_eq_true_eq, decide_true, decide_false, Bool.false_eq_true, Bool.true_eq_false, reduceCtorEq, mt_le_t, mt_le_f, mt_lt_t, mt_lt_f, mt_eq_t, mt_eq_f, mt_ee, not_true_eq_false, not_false_eq_true, and_true, true_and, and_self, Nat.zero_add, Nat.add_zero, Nat.one_mul, Nat.mul_one, Nat.reduceAdd, Nat.reduceMul, Nat.reduceSub, Nat.reducePow, Nat.reduceDiv, Nat.reduceMod, ↓reduceIte, mp_h, mp_w, mp_c, mp_s, mp_d, mp_n, mp_54, mp_52, mp_55, mp_l, mp_o, mp_42, mp_45, gh_gp, gw_gp, gc_gp, mw_pne, Nat.or_zero, eW h, qn, Bool.toNat_false]
  · have k8 : kcl tp n a = 207 := by rw [show 207 = 200 + 7 from rfl, kcl_V]; exact qn
    have q1 : tkd tp n a = 1 := (of_decide_eq_true qn).1
    have hbn := tk_lt (tp := tp) (n := n) (a := a) (by omega)
    have hge := tb_ge (tp := tp) (n := n) (a := a)
    have hlt := te_gt (tp := tp) (n := n) (a := a) (by omega)
    have hle := te_le (tp := tp) han
    have stC : ∀ d s i, i ≤ a → GC s tp n a l → ∃ t, mj_exec X (d + E + 15) 99 8 [some (.ref 22), some (.int (nI w)), some (.int (nI 1)), some (.int (nI i))] [] (mw_U s) = mj_exec X (d + E + 15) 99 39 [some (.ref 22), some (.int (nI w)), some (.int (nI 1)), some (.int (nI i))] [] (mw_U t) ∧ GC t tp n (te tp n a) l ∧ fC s t := by
      intro d s i hi h
      obtain ⟨t, e, g1, g2⟩ := g131 (X := X) (d := d + E + 8) h
      refine ⟨t, ?_, g1, g2⟩
      have q7 : ¬ 700 ≤ i := by omega
      rw [b99_8]
      simp (disch := first | assumption | exact hf _ | omega) only [b99, b99_0, b99_5, b99_15, b99_19, b99_26, b99_32, b99_39, b99_44, b99_54, b99_60, nI_add, mn_mul, mn_sub, mn_m1, mn_m8, mn_eq, mn_lt, mn_le, mn_eq0, mn_0eq, mn_lt0, mn_0lt, mn_le0, mn_0le, mn_eqm, mn_meq, mn_ltm, mn_mlt, mn_lem, mn_mle, mn_mm1, mn_mm2, mn_mm3, mn_mm4, mn_mm5, mn_mm6, mn_and, mn_or, mn_an, mn_shl, mn_shr, mn_div, mn_rem, mn_clamp, mn_in, mn_inm, mn_nz, mn_zo, mn_min, mn_max, mn_abs, mn_rfit, mn_cp, mn_les, mn_gre, mn_a127, mn_a15, mn_a1, mn_a255, mn_tn0, mn_tn0e, mn_tnr, mn_tnz, mr_get, mr_ne, mr_put, mu_ne, mu_eq, mj_bk_i, mj_bk_v, mj_bk_x, decide_eq_true_eq, decide_true, decide_false, Bool.false_eq_true, Bool.true_eq_false, reduceCtorEq, mt_le_t, mt_le_f, mt_lt_t, mt_lt_f, mt_eq_t, mt_eq_f, mt_ee, not_true_eq_false, not_false_eq_true, and_true, true_and, and_self, Nat.zero_add, Nat.add_zero, Nat.one_mul, Nat.mul_one, Nat.reduceAdd, Nat.reduceMul, Nat.reduceSub, Nat.reducePow, Nat.reduceDiv, Nat.reduceMod, ↓reduceIte, q7, c135 h.1, k8, e]
    have stR : ∀ d s f (v : Int32), GR o s tp n a r → ∃ t, mj_exec X (d + E + 15) 209 5 [some (.ref 42), some (.int (nI w))] [] (mw_U (mp s f)) = mj_exec X (d + E + 15) 209 19 [some (.ref 42), some (.int (nI w))] [] (mw_U (mp t f)) ∧ GR o t tp n (te tp n a) r ∧ fE o s t := by
      intro d s f v h
      obtain ⟨t, e, g1, g2⟩ := g198 (X := X) (d := d + E + 12) (f := f) h
      refine ⟨t, ?_, g1, g2⟩
      rw [b209_5]
      simp (disch := first | assumption | exact hf _ | omega) only [b209, b209_0, b209_12, b209_15, b209_19, b209_24, b209_30, b209_33, nI_add, mn_mul, mn_sub, mn_m1, mn_m8, mn_eq, mn_lt, mn_le, mn_eq0, mn_0eq, mn_lt0, mn_0lt, mn_le0, mn_0le, mn_eqm, mn_meq, mn_ltm, mn_mlt, mn_lem, mn_mle, mn_mm1, mn_mm2, mn_mm3, mn_mm4, mn_mm5, mn_mm6, mn_and, mn_or, mn_an, mn_shl, mn_shr, mn_div, mn_rem, mn_clamp, mn_in, mn_inm, mn_nz, mn_zo, mn_min, mn_max, mn_abs, mn_rfit, mn_cp, mn_les, mn_gre, mn_a127, mn_a15, mn_a1, mn_a255, mn_tn0, mn_tn0e, mn_tnr, mn_tnz, mr_get, mr_ne, mr_put, mu_ne, mu_eq, mj_bk_i, mj_bk_v, mj_bk_x, decide_eq_true_eq, decide_true, decide_false, Bool.false_eq_true, Bool.true_eq_false, reduceCtorEq, mt_le_t, mt_le_f, mt_lt_t, mt_lt_f, mt_eq_t, mt_eq_f, mt_ee, not_true_eq_false, not_false_eq_true, and_true, true_and, and_self, Nat.zero_add, Nat.add_zero, Nat.one_mul, Nat.mul_one, Nat.reduceAdd, Nat.reduceMul, Nat.reduceSub, Nat.reducePow, Nat.reduceDiv, Nat.reduceMod, ↓reduceIte, mp_h, mp_w, mp_c, mp_s, mp_d, mp_n, mp_54, mp_52, mp_55, mp_l, mp_o, mp_42, mp_45, gh_gp, gw_gp, gc_gp, mw_pne, Nat.or_zero, eW h, qn, Bool.toNat_true, e]
    rcases hP o (te tp n a) l r hle (by omega) (by omega) with ⟨a1, l1, b1, b2, b3, b4, b5, b6⟩ | ⟨kf, p, b1, b2, b3, b4⟩
    · have hr1 : (r ++ (l1 ++ [10011])).length ≤ a1 := by simp; omega
      have hl1 : (l ++ (l1 ++ [10011])).length ≤ a1 := by simp; omega
      have goC : ∀ d s i, i ≤ a → GC s tp n a l → ∃ t, mj_exec X (d + E + 15) 99 8 [some (.ref 22), some (.int (nI w)), some (.int (nI 1)), some (.int (nI i))] [] (mw_U s) = mj_exec X (d + E + 15) 99 8 [some (.ref 22), some (.int (nI w)), some (.int (nI 1)), some (.int (nI (i + 1)))] [] (mw_U t) ∧ GC t tp n a1 (l ++ (l1 ++ [10011])) ∧ fC s t := by
        intro d s i hi h
        obtain ⟨t, e, g1, g2⟩ := stC d s i hi h
        obtain ⟨u, e2, g3, g4⟩ := b5 d t g1
        rw [← Nat.add_assoc] at e2
        obtain ⟨y, e3, g5, g6⟩ := g123 (X := X) (d := d + E + 14) g3 (by simp; omega) op_ok.2.2.2.2.2.2.2.2.2.2.2.2.2.2.2.1
        rw [List.append_assoc] at g5
        refine ⟨y, ?_, g5, fC_trans g2 (fC_trans g4 g6)⟩
        rw [e]
        simp (disch := first | assumption | exact hf _ | omega) only [b99, b99_0, b99_5, b99_15, b99_19, b99_26, b99_32, b99_39, b99_44, b99_54, b99_60, nI_add, mn_mul, mn_sub, mn_m1, mn_m8, mn_eq, mn_lt, mn_le, mn_eq0, mn_0eq, mn_lt0, mn_0lt, mn_le0, mn_0le, mn_eqm, mn_meq, mn_ltm, mn_mlt, mn_lem, mn_mle, mn_mm1, mn_mm2, mn_mm3, mn_mm4, mn_mm5, mn_mm6, mn_and, mn_or, mn_an, mn_shl, mn_shr, mn_div, mn_rem, mn_clamp, mn_in, mn_inm, mn_nz, mn_zo, mn_min, mn_max, mn_abs, mn_rfit, mn_cp, mn_les, mn_gre, mn_a127, mn_a15, mn_a1, mn_a255, mn_tn0, mn_tn0e, mn_tnr, mn_tnz, mr_get, mr_ne, mr_put, mu_ne, mu_eq, mj_bk_i, mj_bk_v, mj_bk_x, decide_eq_true_eq, decide_true, decide_false, Bool.false_eq_true, Bool.true_eq_false, reduceCtorEq, mt_le_t, mt_le_f, mt_lt_t, mt_lt_f, mt_eq_t, mt_eq_f, mt_ee, not_true_eq_false, not_false_eq_true, and_true, true_and, and_self, Nat.zero_add, Nat.add_zero, Nat.one_mul, Nat.mul_one, Nat.reduceAdd, Nat.reduceMul, Nat.reduceSub, Nat.reducePow, Nat.reduceDiv, Nat.reduceMod, ↓reduceIte, e2, e3]
      have goR : ∀ d s f (v : Int32), GR o s tp n a r → ∃ t, mj_exec X (d + E + 15) 209 5 [some (.ref 42), some (.int (nI w))] [] (mw_U (mp s f)) = mj_exec X (d + E + 15) 209 5 [some (.ref 42), some (.int (nI w))] [] (mw_U (mp t f)) ∧ GR o t tp n a1 (r ++ (l1 ++ [10011])) ∧ fE o s t := by
        intro d s f v h
        obtain ⟨t, e, g1, g2⟩ := stR d s f v h
        obtain ⟨u, e2, g3, g4⟩ := b6 d t f g1
        rw [← Nat.add_assoc] at e2
        obtain ⟨y, e3, g5, g6⟩ := c216 (X := X) (d := d + E + 14) (f := f) g3 (by simp; omega) op_ok.2.2.2.2.2.2.1
        rw [List.append_assoc] at g5
        refine ⟨y, ?_, g5, fE_trans g2 (fE_trans g4 g6)⟩
        rw [e]
        simp (disch := first | assumption | exact hf _ | omega) only [b209, b209_0, b209_12, b209_15, b209_19, b209_24, b209_30, b209_33, nI_add, mn_mul, mn_sub, mn_m1, mn_m8, mn_eq, mn_lt, mn_le, mn_eq0, mn_0eq, mn_lt0, mn_0lt, mn_le0, mn_0le, mn_eqm, mn_meq, mn_ltm, mn_mlt, mn_lem, mn_mle, mn_mm1, mn_mm2, mn_mm3, mn_mm4, mn_mm5, mn_mm6, mn_and, mn_or, mn_an, mn_shl, mn_shr, mn_div, mn_rem, mn_clamp, mn_in, mn_inm, mn_nz, mn_zo, mn_min, mn_max, mn_abs, mn_rfit, mn_cp, mn_les, mn_gre, mn_a127, mn_a15, mn_a1, mn_a255, mn_tn0, mn_tn0e, mn_tnr, mn_tnz, mr_get, mr_ne, mr_put, mu_ne, mu_eq, mj_bk_i, mj_bk_v, mj_bk_x, decide_eq_true_eq, decide_true, decide_false, Bool.false_eq_true, Bool.true_eq_false, reduceCtorEq, mt_le_t, mt_le_f, mt_lt_t, mt_lt_f, mt_eq_t, mt_eq_f, mt_ee, not_true_eq_false, not_false_eq_true, and_true, true_and, and_self, Nat.zero_add, Nat.add_zero, Nat.one_mul, Nat.mul_one, Nat.reduceAdd, Nat.reduceMul, Nat.reduceSub, Nat.reducePow, Nat.reduceDiv, Nat.reduceMod, ↓reduceIte, mp_h, mp_w, mp_c, mp_s, mp_d, mp_n, mp_54, mp_52, mp_55, mp_l, mp_o, mp_42, mp_45, gh_gp, gw_gp, gc_gp, mw_pne, Nat.or_zero, e2, e3]
      rcases ih (n - a1) (by omega) a1 (l ++ (l1 ++ [10011])) (r ++ (l1 ++ [10011])) rfl b2 hl1 hr1 with ⟨a2, l2, c1, c2, c3, c4, c5, c6⟩ | ⟨kf, p, c1, c2, c3, c4⟩
      · refine Or.inl ⟨a2, (l1 ++ [10011]) ++ l2, by omega, c2, by simp; omega, ?_, ?_, ?_⟩
        · intro h l0 hh h0
          rw [← List.append_assoc]
          exact c4 h _ hh (hl_op h0 b4 (by decide) (by omega))
        · intro d s i hi h
          obtain ⟨t, e, g1, g2⟩ := goC d s i hi h
          obtain ⟨u, e2, g3, g4⟩ := c5 d t (i + 1) (by omega) g1
          refine ⟨u, e.trans e2, ?_, fC_trans g2 g4⟩
          rw [← List.append_assoc]; exact g3
        · intro d s f v h
          obtain ⟨t, e, g1, g2⟩ := goR d s f v h
          obtain ⟨u, e2, g3, g4⟩ := c6 d t f v g1
          refine ⟨u, e.trans e2, ?_, fE_trans g2 g4⟩
          rw [← List.append_assoc]; exact g3
      · refine Or.inr ⟨kf, p, c1, c2, ?_, ?_⟩
        · intro d s i hi h
          obtain ⟨t, e, g1, g2⟩ := goC d s i hi h
          obtain ⟨u, e2, g3, g5, g4⟩ := c3 d t (i + 1) (by omega) g1
          exact ⟨u, e.trans e2, g3, g5, fC_trans g2 g4⟩
        · intro d s f v h
          obtain ⟨t, e, g1, g2⟩ := goR d s f v h
          obtain ⟨u, e2, g3, g5, g4⟩ := c4 d t f v g1
          exact ⟨u, e.trans e2, g3, g5, fE_trans g2 g4⟩
    · refine Or.inr ⟨kf, p, b1, b2, ?_, ?_⟩
      · intro d s i hi h
        obtain ⟨t, e, g1, g2⟩ := stC d s i hi h
        obtain ⟨u, e2, g3, g4, g5⟩ := b3 d t g1
        rw [← Nat.add_assoc] at e2
        obtain ⟨y, e3, g6, g7, g8⟩ := g123f (X := X) (d := d + E + 14) g3 g4 (x := -8)
        refine ⟨y, ?_, g6, g7, fC_trans g2 (fC_trans g5 g8)⟩
        have st : mj_exec X (d + E + 15) 99 8 [some (.ref 22), some (.int (nI w)), some (.int (nI 1)), some (.int (nI i))] [] (mw_U s) = mj_exec X (d + E + 15) 99 8 [some (.ref 22), some (.int (nI w)), some (.int (nI 0)), some (.int (nI (i + 1)))] [] (mw_U y) := by
          rw [e]
          simp (disch := first | assumption | exact hf _ | omega) only [b99, b99_0, b99_5, b99_15, b99_19, b99_26, b99_32, b99_39, b99_44, b99_54, b99_60, nI_add, mn_mul, mn_sub, mn_m1, mn_m8, mn_eq, mn_lt, mn_le, mn_eq0, mn_0eq, mn_lt0, mn_0lt, mn_le0, mn_0le, mn_eqm, mn_meq, mn_ltm, mn_mlt, mn_lem, mn_mle, mn_mm1, mn_mm2, mn_mm3, mn_mm4, mn_mm5, mn_mm6, mn_and, mn_or, mn_an, mn_shl, mn_shr, mn_div, mn_rem, mn_clamp, mn_in, mn_inm, mn_nz, mn_zo, mn_min, mn_max, mn_abs, mn_rfit, mn_cp, mn_les, mn_gre, mn_a127, mn_a15, mn_a1, mn_a255, mn_tn0, mn_tn0e, mn_tnr, mn_tnz, mr_get, mr_ne, mr_put, mu_ne, mu_eq, mj_bk_i, mj_bk_v, mj_bk_x, decide_eq_true_eq, decide_true, decide_false, Bool.false_eq_true, Bool.true_eq_false, reduceCtorEq, mt_le_t, mt_le_f, mt_lt_t, mt_lt_f, mt_eq_t, mt_eq_f, mt_ee, not_true_eq_false, not_false_eq_true, and_true, true_and, and_self, Nat.zero_add, Nat.add_zero, Nat.one_mul, Nat.mul_one, Nat.reduceAdd, Nat.reduceMul, Nat.reduceSub, Nat.reducePow, Nat.reduceDiv, Nat.reduceMod, ↓reduceIte, e2, e3]
        rw [st, b99_8]
        by_cases q7 : 700 ≤ i + 1
        · simp (disch := first | assumption | exact hf _ | omega) only [b99, b99_0, b99_5, b99_15, b99_19, b99_26, b99_32, b99_39, b99_44, b99_54, b99_60, nI_add, mn_mul, mn_sub, mn_m1, mn_m8, mn_eq, mn_lt, mn_le, mn_eq0, mn_0eq, mn_lt0, mn_0lt, mn_le0, mn_0le, mn_eqm, mn_meq, mn_ltm, mn_mlt, mn_lem, mn_mle, mn_mm1, mn_mm2, mn_mm3, mn_mm4, mn_mm5, mn_mm6, mn_and, mn_or, mn_an, mn_shl, mn_shr, mn_div, mn_rem, mn_clamp, mn_in, mn_inm, mn_nz, mn_zo, mn_min, mn_max, mn_abs, mn_rfit, mn_cp, mn_les, mn_gre, mn_a127, mn_a15, mn_a1, mn_a255, mn_tn0, mn_tn0e, mn_tnr, mn_tnz, mr_get, mr_ne, mr_put, mu_ne, mu_eq, mj_bk_i, mj_bk_v, mj_bk_x, decide_eq_true_eq, decide_true, decide_false, Bool.false_eq_true, Bool.true_eq_false, reduceCtorEq, mt_le_t, mt_le_f, mt_lt_t, mt_lt_f, mt_eq_t, mt_eq_f, mt_ee, not_true_eq_false, not_false_eq_true, and_true, true_and, and_self, Nat.zero_add, Nat.add_zero, Nat.one_mul, Nat.mul_one, Nat.reduceAdd, Nat.reduceMul, Nat.reduceSub, Nat.reducePow, Nat.reduceDiv, Nat.reduceMod, ↓reduceIte, q7, z0]
        · simp (disch := first | assumption | exact hf _ | omega) only [b99, b99_0, b99_5, b99_15, b99_19, b99_26, b99_32, b99_39, b99_44, b99_54, b99_60, nI_add, mn_mul, mn_sub, mn_m1, mn_m8, mn_eq, mn_lt, mn_le, mn_eq0, mn_0eq, mn_lt0, mn_0lt, mn_le0, mn_0le, mn_eqm, mn_meq, mn_ltm, mn_mlt, mn_lem, mn_mle, mn_mm1, mn_mm2, mn_mm3, mn_mm4, mn_mm5, mn_mm6, mn_and, mn_or, mn_an, mn_shl, mn_shr, mn_div, mn_rem, mn_clamp, mn_in, mn_inm, mn_nz, mn_zo, mn_min, mn_max, mn_abs, mn_rfit, mn_cp, mn_les, mn_gre, mn_a127, mn_a15, mn_a1, mn_a255, mn_tn0, mn_tn0e, mn_tnr, mn_tnz, mr_get, mr_ne, mr_put, mu_ne, mu_eq, mj_bk_i, mj_bk_v, mj_bk_x, decide_eq_true_eq, decide_true, decide_false, Bool.false_eq_true, Bool.true_eq_false, reduceCtorEq, mt_le_t, mt_le_f, mt_lt_t, mt_lt_f, mt_eq_t, mt_eq_f, mt_ee, not_true_eq_false, not_false_eq_true, and_true, true_and, and_self, Nat.zero_add, Nat.add_zero, Nat.one_mul, Nat.mul_one, Nat.reduceAdd, Nat.reduceMul, Nat.reduceSub, Nat.reducePow, Nat.reduceDiv, Nat.reduceMod, ↓reduceIte, q7, z0]
      · intro d s f v h
        obtain ⟨t, e, g1, g2⟩ := stR d s f v h
        obtain ⟨u, e2, g3, g4, g5⟩ := b4 d t f g1
        rw [← Nat.add_assoc] at e2
        refine ⟨u, ?_, g3, g4, fE_trans g2 g5⟩
        have st : mj_exec X (d + E + 15) 209 5 [some (.ref 42), some (.int (nI w))] [] (mw_U (mp s f)) = mj_exec X (d + E + 15) 209 5 [some (.ref 42), some (.int (nI w))] [] (mw_U (mp u f)) := by
          rw [e]
          simp (disch := first | assumption | exact hf _ | omega) only [b209, b209_0, b209_12, b209_15, b209_19, b209_24, b209_30, b209_33, nI_add, mn_mul, mn_sub, mn_m1, mn_m8, mn_eq, mn_lt, mn_le, mn_eq0, mn_0eq, mn_lt0, mn_0lt, mn_le0, mn_0le, mn_eqm, mn_meq, mn_ltm, mn_mlt, mn_lem, mn_mle, mn_mm1, mn_mm2, mn_mm3, mn_mm4, mn_mm5, mn_mm6, mn_and, mn_or, mn_an, mn_shl, mn_shr, mn_div, mn_rem, mn_clamp, mn_in, mn_inm, mn_nz, mn_zo, mn_min, mn_max, mn_abs, mn_rfit, mn_cp, mn_les, mn_gre, mn_a127, mn_a15, mn_a1, mn_a255, mn_tn0, mn_tn0e, mn_tnr, mn_tnz, mr_get, mr_ne, mr_put, mu_ne, mu_eq, mj_bk_i, mj_bk_v, mj_bk_x, decide_eq_true_eq, decide_true, decide_false, Bool.false_eq_true, Bool.true_eq_false, reduceCtorEq, mt_le_t, mt_le_f, mt_lt_t, mt_lt_f, mt_eq_t, mt_eq_f, mt_ee, not_true_eq_false, not_false_eq_true, and_true, true_and, and_self, Nat.zero_add, Nat.add_zero, Nat.one_mul, Nat.mul_one, Nat.reduceAdd, Nat.reduceMul, Nat.reduceSub, Nat.reducePow, Nat.reduceDiv, Nat.reduceMod, ↓reduceIte, mp_h, mp_w, mp_c, mp_s, mp_d, mp_n, mp_54, mp_52, mp_55, mp_l, mp_o, mp_42, mp_45, gh_gp, gw_gp, gc_gp, mw_pne, Nat.or_zero, e2, c216b g3]
        rw [st, b209_5]
        simp (disch := first | assumption | exact hf _ | omega) only [b209, b209_0, b209_12, b209_15, b209_19, b209_24, b209_30, b209_33, nI_add, mn_mul, mn_sub, mn_m1, mn_m8, mn_eq, mn_lt, mn_le, mn_eq0, mn_0eq, mn_lt0, mn_0lt, mn_le0, mn_0le, mn_eqm, mn_meq, mn_ltm, mn_mlt, mn_lem, mn_mle, mn_mm1, mn_mm2, mn_mm3, mn_mm4, mn_mm5, mn_mm6, mn_and, mn_or, mn_an, mn_shl, mn_shr, mn_div, mn_rem, mn_clamp, mn_in, mn_inm, mn_nz, mn_zo, mn_min, mn_max, mn_abs, mn_rfit, mn_cp, mn_les, mn_gre, mn_a127, mn_a15, mn_a1, mn_a255, mn_tn0, mn_tn0e, mn_tnr, mn_tnz, mr_get, mr_ne, mr_put, mu_ne, mu_eq, mj_bk_i, mj_bk_v, mj_bk_x, decide_eq_true_eq, decide_true, decide_false, Bool.false_eq_true, Bool.true_eq_false, reduceCtorEq, mt_le_t, mt_le_f, mt_lt_t, mt_lt_f, mt_eq_t, mt_eq_f, mt_ee, not_true_eq_false, not_false_eq_true, and_true, true_and, and_self, Nat.zero_add, Nat.add_zero, Nat.one_mul, Nat.mul_one, Nat.reduceAdd, Nat.reduceMul, Nat.reduceSub, Nat.reducePow, Nat.reduceDiv, Nat.reduceMod, ↓reduceIte, mp_h, mp_w, mp_c, mp_s, mp_d, mp_n, mp_54, mp_52, mp_55, mp_l, mp_o, mp_42, mp_45, gh_gp, gw_gp, gc_gp, mw_pne, Nat.or_zero, eB g3 b1 b2]
theorem L_or (hP : JJ X 99 209 (E + 15) tp n w nd) (hn : n ≤ 700) (o : Bool) : ∀ k a l r, n - a = k → a ≤ n → l.length ≤ a → r.length ≤ a →
    (∃ a' l', a ≤ a' ∧ a' ≤ n ∧ l'.length ≤ a' - a ∧ (∀ h l0, h + (nd + 1) ≤ 40 → hl l0 h = some (h + 1) → hl (l0 ++ l') h = some (h + 1)) ∧ (∀ d s i, i ≤ a → GC s tp n a l → ∃ t, mj_exec X (d + E + 16) 98 67 [some (.ref 22), some (.int (nI w)), some (.int (nI 1)), some (.int (nI i))] [] (mw_U s) = some (.inl (some (.int (nI 1))), mw_U t) ∧ GC t tp n a' (l ++ l') ∧ fC s t) ∧ (∀ d s f (v : Int32), GR o s tp n a r → ∃ t, mj_exec X (d + E + 16) 207 67 [some (.ref 42), some (.int (nI w)), some (.int v)] [] (mw_U (mp s f)) = some (.inl none, mw_U (mp t f)) ∧ GR o t tp n a' (r ++ l') ∧ fE o s t)) ∨
    (∃ k p, 0 < k ∧ k < 10 ∧ (∀ d s i, i ≤ a → GC s tp n a l → ∃ t, mj_exec X (d + E + 16) 98 67 [some (.ref 22), some (.int (nI w)), some (.int (nI 1)), some (.int (nI i))] [] (mw_U s) = some (.inl (some (.int (nI 0))), mw_U t) ∧ t.1 22 3 = nI k ∧ FP t p ∧ fC s t) ∧ (∀ d s f (v : Int32), GR o s tp n a r → ∃ t, mj_exec X (d + E + 16) 207 67 [some (.ref 42), some (.int (nI w)), some (.int v)] [] (mw_U (mp s f)) = some (.inl none, mw_U (mp t f)) ∧ t.1 42 22 = nI k ∧ t.1 42 23 = nI p ∧ fE o s t)) := by
  have z1 : mj_rfit (some .boolean) (nI 1) = true := by decide
  have z0 : mj_rfit (some .boolean) (nI 0) = true := by decide
  have eW : ∀ {d : Nat} {s : mw_S} {f : Nat → Nat} {a : Nat} {r : List Nat}, GR o s tp n a r → mj_call X (d + E + 15) 205 [.ref 42, .ref 1000120] (mw_U (mp s f)) = some (.inl (some (.int (nI (tV tp n a 6).toNat))), mw_U (mp s f)) := fun {d s f a r} h => c205 (X := X) (d := d + E + 11) (f := f) h.1 h.2.1 (i := 20) (by decide) (by decide)
  have eB : ∀ {d k : Nat} {s : mw_S} {f : Nat → Nat}, s.1 42 22 = nI k → 0 < k → k < 10 → mj_call X (d + E + 15) 205 [.ref 42, .ref 1000120] (mw_U (mp s f)) = some (.inl (some (.int (nI 0))), mw_U (mp s f)) := fun {d k s f} h1 h2 h3 => c205b (X := X) (d := d + E + 11) (f := f) (i := 20) (by decide) h1 h2 h3
  intro k
  induction k using Nat.strongRecOn with
  | ind k ih =>
  intro a l r hk han hl_ hr
  have kl := kcl_lt (tp := tp) (n := n) (a := a)
  cases qn : tV tp n a 6
  · have k8 : ¬ kcl tp n a = 206 := by rw [show 206 = 200 + 6 from rfl, kcl_V, qn]; decide
    refine Or.inl ⟨a, [], Nat.le_refl _, han, by simp, fun h l0 _ h0 => by rw [List.append_nil]; exact h0, ?_, ?_⟩
    · intro d s i hi h
      refine ⟨s, ?_, by rw [List.append_nil]; exact h, fC_refl⟩
      rw [b98_67]
      by_cases q7 : 700 ≤ i
      · simp (disch := first | assumption | exact hf _ | omega) only [b98, b98_0, b98_6, b98_13, b98_17, b98_24, b98_27, b98_34, b98_39, b98_43, b98_44, b98_50, b98_54, b98_55, b98_58, b98_59, b98_64, b98_74, b98_78, b98_85, b98_91, b98_98, b98_103, b98_113, b98_119, nI_add, mn_mul, mn_sub, mn_m1, mn_m8, mn_eq, mn_lt, mn_le, mn_eq0, mn_0eq, mn_lt0, mn_0lt, mn_le0, mn_0le, mn_eqm, mn_meq, mn_ltm, mn_mlt, mn_lem, mn_mle, mn_mm1, mn_mm2, mn_mm3, mn_mm4, mn_mm5, mn_mm6, mn_and, mn_or, mn_an, mn_shl, mn_shr, mn_div, mn_rem, mn_clamp, mn_in, mn_inm, mn_nz, mn_zo, mn_min, mn_max, mn_abs, mn_rfit, mn_cp, mn_les, mn_gre, mn_a127, mn_a15, mn_a1, mn_a255, mn_tn0, mn_tn0e, mn_tnr, mn_tnz, mr_get, mr_ne, mr_put, mu_ne, mu_eq, mj_bk_i, mj_bk_v, mj_bk_x, decide_eq_true_eq, decide_true, decide_false, Bool.false_eq_true, Bool.true_eq_false, reduceCtorEq, mt_le_t, mt_le_f, mt_lt_t, mt_lt_f, mt_eq_t, mt_eq_f, mt_ee, not_true_eq_false, not_false_eq_true, and_true, true_and, and_self, Nat.zero_add, Nat.add_zero, Nat.one_mul, Nat.mul_one, Nat.reduceAdd, Nat.reduceMul, Nat.reduceSub, Nat.reducePow, Nat.reduceDiv, Nat.reduceMod, ↓reduceIte, q7, z1]
      · simp (disch := first | assumption | exact hf _ | omega) only [b98, b98_0, b98_6, b98_13, b98_17, b98_24, b98_27, b98_34, b98_39, b98_43, b98_44, b98_50, b98_54, b98_55, b98_58, b98_59, b98_64, b98_74, b98_78, b98_85, b98_91, b98_98, b98_103, b98_113, b98_119, nI_add, mn_mul, mn_sub, mn_m1, mn_m8, mn_eq, mn_lt, mn_le, mn_eq0, mn_0eq, mn_lt0, mn_0lt, mn_le0, mn_0le, mn_eqm, mn_meq, mn_ltm, mn_mlt, mn_lem, mn_mle, mn_mm1, mn_mm2, mn_mm3, mn_mm4, mn_mm5, mn_mm6, mn_and, mn_or, mn_an, mn_shl, mn_shr, mn_div, mn_rem, mn_clamp, mn_in, mn_inm, mn_nz, mn_zo, mn_min, mn_max, mn_abs, mn_rfit, mn_cp, mn_les, mn_gre, mn_a127, mn_a15, mn_a1, mn_a255, mn_tn0, mn_tn0e, mn_tnr, mn_tnz, mr_get, mr_ne, mr_put, mu_ne, mu_eq, mj_bk_i, mj_bk_v, mj_bk_x, decide_eq_true_eq, decide_true, decide_false, Bool.false_eq_true, Bool.true_eq_false, reduceCtorEq, mt_le_t, mt_le_f, mt_lt_t, mt_lt_f, mt_eq_t, mt_eq_f, mt_ee, not_true_eq_false, not_false_eq_true, and_true, true_and, and_self, Nat.zero_add, Nat.add_zero, Nat.one_mul, Nat.mul_one, Nat.reduceAdd, Nat.reduceMul, Nat.reduceSub, Nat.reducePow, Nat.reduceDiv, Nat.reduceMod, ↓reduceIte, q7, c135 h.1, k8, z1]
    · intro d s f v h
      refine ⟨s, ?_, by rw [List.append_nil]; exact h, fE_refl⟩
      rw [b207_67]
      simp (disch := first | assumption | exact hf _ | omega) only [b207, b207_0, b207_7, b207_8, b207_16, b207_24, b207_30, b207_33, b207_37, b207_38, b207_43, b207_48, b207_51, b207_57, b207_62, b207_74, b207_77, b207_81, b207_86, b207_92, b207_95, nI_add, mn_mul, mn_sub, mn_m1, mn_m8, mn_eq, mn_lt, mn_le, mn_eq0, mn_0eq, mn_lt0, mn_0lt, mn_le0, mn_0le, mn_eqm, mn_meq, mn_ltm, mn_mlt, mn_lem, mn_mle, mn_mm1, mn_mm2, mn_mm3, mn_mm4, mn_mm5, mn_mm6, mn_and, mn_or, mn_an, mn_shl, mn_shr, mn_div, mn_rem, mn_clamp, mn_in, mn_inm, mn_nz, mn_zo, mn_min, mn_max, mn_abs, mn_rfit, mn_cp, mn_les, mn_gre, mn_a127, mn_a15, mn_a1, mn_a255, mn_tn0, mn_tn0e, mn_tnr, mn_tnz, mr_get, mr_ne, mr_put, mu_ne, mu_eq, mj_bk_i, mj_bk_v, mj_bk_x, decide_eq_true_eq, decide_true, decide_false, Bool.false_eq_true, Bool.true_eq_false, reduceCtorEq, mt_le_t, mt_le_f, mt_lt_t, mt_lt_f, mt_eq_t, mt_eq_f, mt_ee, not_true_eq_false, not_false_eq_true, and_true, true_and, and_self, Nat.zero_add, Nat.add_zero, Nat.one_mul, Nat.mul_one, Nat.reduceAdd, Nat.reduceMul, Nat.reduceSub, Nat.reducePow, Nat.reduceDiv, Nat.reduceMod, ↓reduceIte, mp_h, mp_w, mp_c, mp_s, mp_d, mp_n, mp_54, mp_52, mp_55, mp_l, mp_o, mp_42, mp_45, gh_gp, gw_gp, gc_gp, mw_pne, Nat.or_zero, eW h, qn, Bool.toNat_false]
  · have k8 : kcl tp n a = 206 := by rw [show 206 = 200 + 6 from rfl, kcl_V]; exact qn
    have q1 : tkd tp n a = 1 := (of_decide_eq_true qn).1
    have hbn := tk_lt (tp := tp) (n := n) (a := a) (by omega)
    have hge := tb_ge (tp := tp) (n := n) (a := a)
    have hlt := te_gt (tp := tp) (n := n) (a := a) (by omega)
    have hle := te_le (tp := tp) han
    have stC : ∀ d s i, i ≤ a → GC s tp n a l → ∃ t, mj_exec X (d + E + 16) 98 67 [some (.ref 22), some (.int (nI w)), some (.int (nI 1)), some (.int (nI i))] [] (mw_U s) = mj_exec X (d + E + 16) 98 98 [some (.ref 22), some (.int (nI w)), some (.int (nI 1)), some (.int (nI i))] [] (mw_U t) ∧ GC t tp n (te tp n a) l ∧ fC s t := by
      intro d s i hi h
      obtain ⟨t, e, g1, g2⟩ := g131 (X := X) (d := d + E + 9) h
      refine ⟨t, ?_, g1, g2⟩
      have q7 : ¬ 700 ≤ i := by omega
      rw [b98_67]
      simp (disch := first | assumption | exact hf _ | omega) only [b98, b98_0, b98_6, b98_13, b98_17, b98_24, b98_27, b98_34, b98_39, b98_43, b98_44, b98_50, b98_54, b98_55, b98_58, b98_59, b98_64, b98_74, b98_78, b98_85, b98_91, b98_98, b98_103, b98_113, b98_119, nI_add, mn_mul, mn_sub, mn_m1, mn_m8, mn_eq, mn_lt, mn_le, mn_eq0, mn_0eq, mn_lt0, mn_0lt, mn_le0, mn_0le, mn_eqm, mn_meq, mn_ltm, mn_mlt, mn_lem, mn_mle, mn_mm1, mn_mm2, mn_mm3, mn_mm4, mn_mm5, mn_mm6, mn_and, mn_or, mn_an, mn_shl, mn_shr, mn_div, mn_rem, mn_clamp, mn_in, mn_inm, mn_nz, mn_zo, mn_min, mn_max, mn_abs, mn_rfit, mn_cp, mn_les, mn_gre, mn_a127, mn_a15, mn_a1, mn_a255, mn_tn0, mn_tn0e, mn_tnr, mn_tnz, mr_get, mr_ne, mr_put, mu_ne, mu_eq, mj_bk_i, mj_bk_v, mj_bk_x, decide_eq_true_eq, decide_true, decide_false, Bool.false_eq_true, Bool.true_eq_false, reduceCtorEq, mt_le_t, mt_le_f, mt_lt_t, mt_lt_f, mt_eq_t, mt_eq_f, mt_ee, not_true_eq_false, not_false_eq_true, and_true, true_and, and_self, Nat.zero_add, Nat.add_zero, Nat.one_mul, Nat.mul_one, Nat.reduceAdd, Nat.reduceMul, Nat.reduceSub, Nat.reducePow, Nat.reduceDiv, Nat.reduceMod, ↓reduceIte, q7, c135 h.1, k8, e]
    have stR : ∀ d s f (v : Int32), GR o s tp n a r → ∃ t, mj_exec X (d + E + 16) 207 67 [some (.ref 42), some (.int (nI w)), some (.int v)] [] (mw_U (mp s f)) = mj_exec X (d + E + 16) 207 81 [some (.ref 42), some (.int (nI w)), some (.int v)] [] (mw_U (mp t f)) ∧ GR o t tp n (te tp n a) r ∧ fE o s t := by
      intro d s f v h
      obtain ⟨t, e, g1, g2⟩ := g198 (X := X) (d := d + E + 13) (f := f) h
      refine ⟨t, ?_, g1, g2⟩
      rw [b207_67]
      simp (disch := first | assumption | exact hf _ | omega) only [b207, b207_0, b207_7, b207_8, b207_16, b207_24, b207_30, b207_33, b207_37, b207_38, b207_43, b207_48, b207_51, b207_57, b207_62, b207_74, b207_77, b207_81, b207_86, b207_92, b207_95, nI_add, mn_mul, mn_sub, mn_m1, mn_m8, mn_eq, mn_lt, mn_le, mn_eq0, mn_0eq, mn_lt0, mn_0lt, mn_le0, mn_0le, mn_eqm, mn_meq, mn_ltm, mn_mlt, mn_lem, mn_mle, mn_mm1, mn_mm2, mn_mm3, mn_mm4, mn_mm5, mn_mm6, mn_and, mn_or, mn_an, mn_shl, mn_shr, mn_div, mn_rem, mn_clamp, mn_in, mn_inm, mn_nz, mn_zo, mn_min, mn_max, mn_abs, mn_rfit, mn_cp, mn_les, mn_gre, mn_a127, mn_a15, mn_a1, mn_a255, mn_tn0, mn_tn0e, mn_tnr, mn_tnz, mr_get, mr_ne, mr_put, mu_ne, mu_eq, mj_bk_i, mj_bk_v, mj_bk_x, decide_eq_true_eq, decide_true, decide_false, Bool.false_eq_true, Bool.true_eq_false, reduceCtorEq, mt_le_t, mt_le_f, mt_lt_t, mt_lt_f, mt_eq_t, mt_eq_f, mt_ee, not_true_eq_false, not_false_eq_true, and_true, true_and, and_self, Nat.zero_add, Nat.add_zero, Nat.one_mul, Nat.mul_one, Nat.reduceAdd, Nat.reduceMul, Nat.reduceSub, Nat.reducePow, Nat.reduceDiv, Nat.reduceMod, ↓reduceIte, mp_h, mp_w, mp_c, mp_s, mp_d, mp_n, mp_54, mp_52, mp_55, mp_l, mp_o, mp_42, mp_45, gh_gp, gw_gp, gc_gp, mw_pne, Nat.or_zero, eW h, qn, Bool.toNat_true, e]
    rcases hP o (te tp n a) l r hle (by omega) (by omega) with ⟨a1, l1, b1, b2, b3, b4, b5, b6⟩ | ⟨kf, p, b1, b2, b3, b4⟩
    · have hr1 : (r ++ (l1 ++ [10012])).length ≤ a1 := by simp; omega
      have hl1 : (l ++ (l1 ++ [10012])).length ≤ a1 := by simp; omega
      have goC : ∀ d s i, i ≤ a → GC s tp n a l → ∃ t, mj_exec X (d + E + 16) 98 67 [some (.ref 22), some (.int (nI w)), some (.int (nI 1)), some (.int (nI i))] [] (mw_U s) = mj_exec X (d + E + 16) 98 67 [some (.ref 22), some (.int (nI w)), some (.int (nI 1)), some (.int (nI (i + 1)))] [] (mw_U t) ∧ GC t tp n a1 (l ++ (l1 ++ [10012])) ∧ fC s t := by
        intro d s i hi h
        obtain ⟨t, e, g1, g2⟩ := stC d s i hi h
        obtain ⟨u, e2, g3, g4⟩ := b5 d t g1
        rw [← Nat.add_assoc] at e2
        obtain ⟨y, e3, g5, g6⟩ := g123 (X := X) (d := d + E + 15) g3 (by simp; omega) op_ok.2.2.2.2.2.2.2.2.2.2.2.2.2.2.2.2.1
        rw [List.append_assoc] at g5
        refine ⟨y, ?_, g5, fC_trans g2 (fC_trans g4 g6)⟩
        rw [e]
        simp (disch := first | assumption | exact hf _ | omega) only [b98, b98_0, b98_6, b98_13, b98_17, b98_24, b98_27, b98_34, b98_39, b98_43, b98_44, b98_50, b98_54, b98_55, b98_58, b98_59, b98_64, b98_74, b98_78, b98_85, b98_91, b98_98, b98_103, b98_113, b98_119, nI_add, mn_mul, mn_sub, mn_m1, mn_m8, mn_eq, mn_lt, mn_le, mn_eq0, mn_0eq, mn_lt0, mn_0lt, mn_le0, mn_0le, mn_eqm, mn_meq, mn_ltm, mn_mlt, mn_lem, mn_mle, mn_mm1, mn_mm2, mn_mm3, mn_mm4, mn_mm5, mn_mm6, mn_and, mn_or, mn_an, mn_shl, mn_shr, mn_div, mn_rem, mn_clamp, mn_in, mn_inm, mn_nz, mn_zo, mn_min, mn_max, mn_abs, mn_rfit, mn_cp, mn_les, mn_gre, mn_a127, mn_a15, mn_a1, mn_a255, mn_tn0, mn_tn0e, mn_tnr, mn_tnz, mr_get, mr_ne, mr_put, mu_ne, mu_eq, mj_bk_i, mj_bk_v, mj_bk_x, decide_eq_true_eq, decide_true, decide_false, Bool.false_eq_true, Bool.true_eq_false, reduceCtorEq, mt_le_t, mt_le_f, mt_lt_t, mt_lt_f, mt_eq_t, mt_eq_f, mt_ee, not_true_eq_false, not_false_eq_true, and_true, true_and, and_self, Nat.zero_add, Nat.add_zero, Nat.one_mul, Nat.mul_one, Nat.reduceAdd, Nat.reduceMul, Nat.reduceSub, Nat.reducePow, Nat.reduceDiv, Nat.reduceMod, ↓reduceIte, e2, e3]
      have goR : ∀ d s f (v : Int32), GR o s tp n a r → ∃ t, mj_exec X (d + E + 16) 207 67 [some (.ref 42), some (.int (nI w)), some (.int v)] [] (mw_U (mp s f)) = mj_exec X (d + E + 16) 207 67 [some (.ref 42), some (.int (nI w)), some (.int v)] [] (mw_U (mp t f)) ∧ GR o t tp n a1 (r ++ (l1 ++ [10012])) ∧ fE o s t := by
        intro d s f v h
        obtain ⟨t, e, g1, g2⟩ := stR d s f v h
        obtain ⟨u, e2, g3, g4⟩ := b6 d t f g1
        rw [← Nat.add_assoc] at e2
        obtain ⟨y, e3, g5, g6⟩ := c216 (X := X) (d := d + E + 15) (f := f) g3 (by simp; omega) op_ok.2.2.2.2.2.2.2.1
        rw [List.append_assoc] at g5
        refine ⟨y, ?_, g5, fE_trans g2 (fE_trans g4 g6)⟩
        rw [e]
        simp (disch := first | assumption | exact hf _ | omega) only [b207, b207_0, b207_7, b207_8, b207_16, b207_24, b207_30, b207_33, b207_37, b207_38, b207_43, b207_48, b207_51, b207_57, b207_62, b207_74, b207_77, b207_81, b207_86, b207_92, b207_95, nI_add, mn_mul, mn_sub, mn_m1, mn_m8, mn_eq, mn_lt, mn_le, mn_eq0, mn_0eq, mn_lt0, mn_0lt, mn_le0, mn_0le, mn_eqm, mn_meq, mn_ltm, mn_mlt, mn_lem, mn_mle, mn_mm1, mn_mm2, mn_mm3, mn_mm4, mn_mm5, mn_mm6, mn_and, mn_or, mn_an, mn_shl, mn_shr, mn_div, mn_rem, mn_clamp, mn_in, mn_inm, mn_nz, mn_zo, mn_min, mn_max, mn_abs, mn_rfit, mn_cp, mn_les, mn_gre, mn_a127, mn_a15, mn_a1, mn_a255, mn_tn0, mn_tn0e, mn_tnr, mn_tnz, mr_get, mr_ne, mr_put, mu_ne, mu_eq, mj_bk_i, mj_bk_v, mj_bk_x, decide_eq_true_eq, decide_true, decide_false, Bool.false_eq_true, Bool.true_eq_false, reduceCtorEq, mt_le_t, mt_le_f, mt_lt_t, mt_lt_f, mt_eq_t, mt_eq_f, mt_ee, not_true_eq_false, not_false_eq_true, and_true, true_and, and_self, Nat.zero_add, Nat.add_zero, Nat.one_mul, Nat.mul_one, Nat.reduceAdd, Nat.reduceMul, Nat.reduceSub, Nat.reducePow, Nat.reduceDiv, Nat.reduceMod, ↓reduceIte, mp_h, mp_w, mp_c, mp_s, mp_d, mp_n, mp_54, mp_52, mp_55, mp_l, mp_o, mp_42, mp_45, gh_gp, gw_gp, gc_gp, mw_pne, Nat.or_zero, e2, e3]
      rcases ih (n - a1) (by omega) a1 (l ++ (l1 ++ [10012])) (r ++ (l1 ++ [10012])) rfl b2 hl1 hr1 with ⟨a2, l2, c1, c2, c3, c4, c5, c6⟩ | ⟨kf, p, c1, c2, c3, c4⟩
      · refine Or.inl ⟨a2, (l1 ++ [10012]) ++ l2, by omega, c2, by simp; omega, ?_, ?_, ?_⟩
        · intro h l0 hh h0
          rw [← List.append_assoc]
          exact c4 h _ hh (hl_op h0 b4 (by decide) (by omega))
        · intro d s i hi h
          obtain ⟨t, e, g1, g2⟩ := goC d s i hi h
          obtain ⟨u, e2, g3, g4⟩ := c5 d t (i + 1) (by omega) g1
          refine ⟨u, e.trans e2, ?_, fC_trans g2 g4⟩
          rw [← List.append_assoc]; exact g3
        · intro d s f v h
          obtain ⟨t, e, g1, g2⟩ := goR d s f v h
          obtain ⟨u, e2, g3, g4⟩ := c6 d t f v g1
          refine ⟨u, e.trans e2, ?_, fE_trans g2 g4⟩
          rw [← List.append_assoc]; exact g3
      · refine Or.inr ⟨kf, p, c1, c2, ?_, ?_⟩
        · intro d s i hi h
          obtain ⟨t, e, g1, g2⟩ := goC d s i hi h
          obtain ⟨u, e2, g3, g5, g4⟩ := c3 d t (i + 1) (by omega) g1
          exact ⟨u, e.trans e2, g3, g5, fC_trans g2 g4⟩
        · intro d s f v h
          obtain ⟨t, e, g1, g2⟩ := goR d s f v h
          obtain ⟨u, e2, g3, g5, g4⟩ := c4 d t f v g1
          exact ⟨u, e.trans e2, g3, g5, fE_trans g2 g4⟩
    · refine Or.inr ⟨kf, p, b1, b2, ?_, ?_⟩
      · intro d s i hi h
        obtain ⟨t, e, g1, g2⟩ := stC d s i hi h
        obtain ⟨u, e2, g3, g4, g5⟩ := b3 d t g1
        rw [← Nat.add_assoc] at e2
        obtain ⟨y, e3, g6, g7, g8⟩ := g123f (X := X) (d := d + E + 15) g3 g4 (x := -9)
        refine ⟨y, ?_, g6, g7, fC_trans g2 (fC_trans g5 g8)⟩
        have st : mj_exec X (d + E + 16) 98 67 [some (.ref 22), some (.int (nI w)), some (.int (nI 1)), some (.int (nI i))] [] (mw_U s) = mj_exec X (d + E + 16) 98 67 [some (.ref 22), some (.int (nI w)), some (.int (nI 0)), some (.int (nI (i + 1)))] [] (mw_U y) := by
          rw [e]
          simp (disch := first | assumption | exact hf _ | omega) only [b98, b98_0, b98_6, b98_13, b98_17, b98_24, b98_27, b98_34, b98_39, b98_43, b98_44, b98_50, b98_54, b98_55, b98_58, b98_59, b98_64, b98_74, b98_78, b98_85, b98_91, b98_98, b98_103, b98_113, b98_119, nI_add, mn_mul, mn_sub, mn_m1, mn_m8, mn_eq, mn_lt, mn_le, mn_eq0, mn_0eq, mn_lt0, mn_0lt, mn_le0, mn_0le, mn_eqm, mn_meq, mn_ltm, mn_mlt, mn_lem, mn_mle, mn_mm1, mn_mm2, mn_mm3, mn_mm4, mn_mm5, mn_mm6, mn_and, mn_or, mn_an, mn_shl, mn_shr, mn_div, mn_rem, mn_clamp, mn_in, mn_inm, mn_nz, mn_zo, mn_min, mn_max, mn_abs, mn_rfit, mn_cp, mn_les, mn_gre, mn_a127, mn_a15, mn_a1, mn_a255, mn_tn0, mn_tn0e, mn_tnr, mn_tnz, mr_get, mr_ne, mr_put, mu_ne, mu_eq, mj_bk_i, mj_bk_v, mj_bk_x, decide_eq_true_eq, decide_true, decide_false, Bool.false_eq_true, Bool.true_eq_false, reduceCtorEq, mt_le_t, mt_le_f, mt_lt_t, mt_lt_f, mt_eq_t, mt_eq_f, mt_ee, not_true_eq_false, not_false_eq_true, and_true, true_and, and_self, Nat.zero_add, Nat.add_zero, Nat.one_mul, Nat.mul_one, Nat.reduceAdd, Nat.reduceMul, Nat.reduceSub, Nat.reducePow, Nat.reduceDiv, Nat.reduceMod, ↓reduceIte, e2, e3]
        rw [st, b98_67]
        by_cases q7 : 700 ≤ i + 1
        · simp (disch := first | assumption | exact hf _ | omega) only [b98, b98_0, b98_6, b98_13, b98_17, b98_24, b98_27, b98_34, b98_39, b98_43, b98_44, b98_50, b98_54, b98_55, b98_58, b98_59, b98_64, b98_74, b98_78, b98_85, b98_91, b98_98, b98_103, b98_113, b98_119, nI_add, mn_mul, mn_sub, mn_m1, mn_m8, mn_eq, mn_lt, mn_le, mn_eq0, mn_0eq, mn_lt0, mn_0lt, mn_le0, mn_0le, mn_eqm, mn_meq, mn_ltm, mn_mlt, mn_lem, mn_mle, mn_mm1, mn_mm2, mn_mm3, mn_mm4, mn_mm5, mn_mm6, mn_and, mn_or, mn_an, mn_shl, mn_shr, mn_div, mn_rem, mn_clamp, mn_in, mn_inm, mn_nz, mn_zo, mn_min, mn_max, mn_abs, mn_rfit, mn_cp, mn_les, mn_gre, mn_a127, mn_a15, mn_a1, mn_a255, mn_tn0, mn_tn0e, mn_tnr, mn_tnz, mr_get, mr_ne, mr_put, mu_ne, mu_eq, mj_bk_i, mj_bk_v, mj_bk_x, decide_eq_true_eq, decide_true, decide_false, Bool.false_eq_true, Bool.true_eq_false, reduceCtorEq, mt_le_t, mt_le_f, mt_lt_t, mt_lt_f, mt_eq_t, mt_eq_f, mt_ee, not_true_eq_false, not_false_eq_true, and_true, true_and, and_self, Nat.zero_add, Nat.add_zero, Nat.one_mul, Nat.mul_one, Nat.reduceAdd, Nat.reduceMul, Nat.reduceSub, Nat.reducePow, Nat.reduceDiv, Nat.reduceMod, ↓reduceIte, q7, z0]
        · simp (disch := first | assumption | exact hf _ | omega) only [b98, b98_0, b98_6, b98_13, b98_17, b98_24, b98_27, b98_34, b98_39, b98_43, b98_44, b98_50, b98_54, b98_55, b98_58, b98_59, b98_64, b98_74, b98_78, b98_85, b98_91, b98_98, b98_103, b98_113, b98_119, nI_add, mn_mul, mn_sub, mn_m1, mn_m8, mn_eq, mn_lt, mn_le, mn_eq0, mn_0eq, mn_lt0, mn_0lt, mn_le0, mn_0le, mn_eqm, mn_meq, mn_ltm, mn_mlt, mn_lem, mn_mle, mn_mm1, mn_mm2, mn_mm3, mn_mm4, mn_mm5, mn_mm6, mn_and, mn_or, mn_an, mn_shl, mn_shr, mn_div, mn_rem, mn_clamp, mn_in, mn_inm, mn_nz, mn_zo, mn_min, mn_max, mn_abs, mn_rfit, mn_cp, mn_les, mn_gre, mn_a127, mn_a15, mn_a1, mn_a255, mn_tn0, mn_tn0e, mn_tnr, mn_tnz, mr_get, mr_ne, mr_put, mu_ne, mu_eq, mj_bk_i, mj_bk_v, mj_bk_x, decide_eq_true_eq, decide_true, decide_false, Bool.false_eq_true, Bool.true_eq_false, reduceCtorEq, mt_le_t, mt_le_f, mt_lt_t, mt_lt_f, mt_eq_t, mt_eq_f, mt_ee, not_true_eq_false, not_false_eq_true, and_true, true_and, and_self, Nat.zero_add, Nat.add_zero, Nat.one_mul, Nat.mul_one, Nat.reduceAdd, Nat.reduceMul, Nat.reduceSub, Nat.reducePow, Nat.reduceDiv, Nat.reduceMod, ↓reduceIte, q7, z0]
      · intro d s f v h
        obtain ⟨t, e, g1, g2⟩ := stR d s f v h
        obtain ⟨u, e2, g3, g4, g5⟩ := b4 d t f g1
        rw [← Nat.add_assoc] at e2
        refine ⟨u, ?_, g3, g4, fE_trans g2 g5⟩
        have st : mj_exec X (d + E + 16) 207 67 [some (.ref 42), some (.int (nI w)), some (.int v)] [] (mw_U (mp s f)) = mj_exec X (d + E + 16) 207 67 [some (.ref 42), some (.int (nI w)), some (.int v)] [] (mw_U (mp u f)) := by
          rw [e]
          simp (disch := first | assumption | exact hf _ | omega) only [b207, b207_0, b207_7, b207_8, b207_16, b207_24, b207_30, b207_33, b207_37, b207_38, b207_43, b207_48, b207_51, b207_57, b207_62, b207_74, b207_77, b207_81, b207_86, b207_92, b207_95, nI_add, mn_mul, mn_sub, mn_m1, mn_m8, mn_eq, mn_lt, mn_le, mn_eq0, mn_0eq, mn_lt0, mn_0lt, mn_le0, mn_0le, mn_eqm, mn_meq, mn_ltm, mn_mlt, mn_lem, mn_mle, mn_mm1, mn_mm2, mn_mm3, mn_mm4, mn_mm5, mn_mm6, mn_and, mn_or, mn_an, mn_shl, mn_shr, mn_div, mn_rem, mn_clamp, mn_in, mn_inm, mn_nz, mn_zo, mn_min, mn_max, mn_abs, mn_rfit, mn_cp, mn_les, mn_gre, mn_a127, mn_a15, mn_a1, mn_a255, mn_tn0, mn_tn0e, mn_tnr, mn_tnz, mr_get, mr_ne, mr_put, mu_ne, mu_eq, mj_bk_i, mj_bk_v, mj_bk_x, decide_eq_true_eq, decide_true, decide_false, Bool.false_eq_true, Bool.true_eq_false, reduceCtorEq, mt_le_t, mt_le_f, mt_lt_t, mt_lt_f, mt_eq_t, mt_eq_f, mt_ee, not_true_eq_false, not_false_eq_true, and_true, true_and, and_self, Nat.zero_add, Nat.add_zero, Nat.one_mul, Nat.mul_one, Nat.reduceAdd, Nat.reduceMul, Nat.reduceSub, Nat.reducePow, Nat.reduceDiv, Nat.reduceMod, ↓reduceIte, mp_h, mp_w, mp_c, mp_s, mp_d, mp_n, mp_54, mp_52, mp_55, mp_l, mp_o, mp_42, mp_45, gh_gp, gw_gp, gc_gp, mw_pne, Nat.or_zero, e2, c216b g3]
        rw [st, b207_67]
        simp (disch := first | assumption | exact hf _ | omega) only [b207, b207_0, b207_7, b207_8, b207_16, b207_24, b207_30, b207_33, b207_37, b207_38, b207_43, b207_48, b207_51, b207_57, b207_62, b207_74, b207_77, b207_81, b207_86, b207_92, b207_95, nI_add, mn_mul, mn_sub, mn_m1, mn_m8, mn_eq, mn_lt, mn_le, mn_eq0, mn_0eq, mn_lt0, mn_0lt, mn_le0, mn_0le, mn_eqm, mn_meq, mn_ltm, mn_mlt, mn_lem, mn_mle, mn_mm1, mn_mm2, mn_mm3, mn_mm4, mn_mm5, mn_mm6, mn_and, mn_or, mn_an, mn_shl, mn_shr, mn_div, mn_rem, mn_clamp, mn_in, mn_inm, mn_nz, mn_zo, mn_min, mn_max, mn_abs, mn_rfit, mn_cp, mn_les, mn_gre, mn_a127, mn_a15, mn_a1, mn_a255, mn_tn0, mn_tn0e, mn_tnr, mn_tnz, mr_get, mr_ne, mr_put, mu_ne, mu_eq, mj_bk_i, mj_bk_v, mj_bk_x, decide_eq_true_eq, decide_true, decide_false, Bool.false_eq_true, Bool.true_eq_false, reduceCtorEq, mt_le_t, mt_le_f, mt_lt_t, mt_lt_f, mt_eq_t, mt_eq_f, mt_ee, not_true_eq_false, not_false_eq_true, and_true, true_and, and_self, Nat.zero_add, Nat.add_zero, Nat.one_mul, Nat.mul_one, Nat.reduceAdd, Nat.reduceMul, Nat.reduceSub, Nat.reducePow, Nat.reduceDiv, Nat.reduceMod, ↓reduceIte, mp_h, mp_w, mp_c, mp_s, mp_d, mp_n, mp_54, mp_52, mp_55, mp_l, mp_o, mp_42, mp_45, gh_gp, gw_gp, gc_gp, mw_pne, Nat.or_zero, eB g3 b1 b2]
end
