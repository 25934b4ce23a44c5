/-! both readers: sums (as products) -/
section
variable {X : mj_X} {E : Nat} {tp : Nat → Nat} {n w nd : Nat}
theorem L_sum (hP : JJ X 103 212 (E + 11) tp n w nd) (hn : n ≤ 700) (o : Bool) : ∀ k a l r, n - a = k → a ≤ n → l.length ≤ a → r.length ≤ a →
    (∃ a' l', a ≤ a' ∧ a' ≤ n ∧ l'.length ≤ a' - a ∧ (∀ h l0, h + (nd + 1) ≤ 40 → hl l0 h = some (h + 1) → hl (l0 ++ l') h = some (h + 1)) ∧ LC X 102 8 (E + 12) tp n w a l (fun x t => x = nI 1 ∧ GC t tp n a' (l ++ l')) ∧ LR X 211 5 (E + 12) tp n w o a r (fun t => GR o t tp n a' (r ++ l'))) ∨
    (∃ k p, 0 < k ∧ k < 10 ∧ LC X 102 8 (E + 12) tp n w a l (fun x t => x = nI 0 ∧ t.1 22 3 = nI k ∧ FP t p) ∧ LR X 211 5 (E + 12) tp n w o a r (fun t => t.1 42 22 = nI k ∧ t.1 42 23 = nI p)) := by
  intro k
  induction k using Nat.strongRecOn with
  | ind k ih =>
  intro a l r hk han hl_ hr
  have k27 := mw_c_27
  have kl := kcl_lt (tp := tp) (n := n) (a := a)
  have z1 : mj_rfit (some .boolean) (nI 1) = true := by decide
  have z0 : mj_rfit (some .boolean) (nI 0) = true := by decide
  by_cases q : tS tp n a 43 = true ∨ tS tp n a 45 = true
  · have q3 : tkd tp n a = 3 := by rcases q with q | q <;> exact (of_decide_eq_true q).1
    have hbn := tk_lt (tp := tp) (n := n) (a := a) (by omega)
    have hge := tb_ge (tp := tp) (n := n) (a := a)
    have hlt := te_gt (tp := tp) (n := n) (a := a) (by omega)
    have hle := te_le (tp := tp) han
    obtain ⟨c, cr, hc, hcc, hcr, hS, hk43⟩ : ∃ c cr, (10011 ≤ c ∧ c ≤ 10018) ∧ cr = rm c ∧ (if kcl tp n a = 43 then (-12 : Int32) else -13) = rc c ∧ (cr = if tS tp n a 43 = true then (-20 : Int32) else -21) ∧ (kcl tp n a = 43 ∨ kcl tp n a = 45) := by
      cases q43 : tS tp n a 43
      · have q45 : tS tp n a 45 = true := by rcases q with q | q; rw [q43] at q; cases q; exact q
        have k43 : ¬ kcl tp n a = 43 := by rw [kcl_S (by omega), q43]; decide
        have k45 : kcl tp n a = 45 := by rw [kcl_S (by omega)]; exact q45
        exact ⟨10016, _, by decide, op_ok.2.2.2.1, by rw [if_neg k43]; exact op_ok.2.2.2.2.2.2.2.2.2.2.2.2.1, rfl, Or.inr k45⟩
      · have k43 : kcl tp n a = 43 := by rw [kcl_S (by omega)]; exact q43
        exact ⟨10015, _, by decide, op_ok.2.2.1, by rw [if_pos k43]; exact op_ok.2.2.2.2.2.2.2.2.2.2.2.1, rfl, Or.inl k43⟩
    have hstepC : ∀ d s i v, i ≤ a → GC s tp n a l → ∃ t, mj_exec X (d + E + 12) 102 8 [some (.ref 22), some (.int (nI w)), some (.int (nI 1)), some (.int (nI i)), v] [] (mw_U s) = mj_exec X (d + E + 12) 102 51 [some (.ref 22), some (.int (nI w)), some (.int (nI 1)), some (.int (nI i)), some (.int (nI (kcl tp n a)))] [] (mw_U t) ∧ GC t tp n (te tp n a) l ∧ fC s t := by
      intro d s i v hi h
      obtain ⟨t, e, g1, g2⟩ := g131 (X := X) (d := d + E + 5) h
      refine ⟨t, ?_, g1, g2⟩
      rw [b102_8]
      rcases hk43 with hk43 | hk43
      · simp (disch := first | assumption | exact hf _ | omega) only [b102, b102_0, b102_5, b102_15, b102_19, b102_26, b102_35, b102_42, b102_44, b102_51, b102_56, b102_68, b102_73, b102_75, b102_78, b102_84, nI_add, mn_mul, mn_sub, mn_m1, mn_m8, mn_eq, mn_lt, mn_le, mn_eq0, mn_0eq, mn_lt0, mn_0lt, mn_le0, mn_0le, mn_eqm, mn_meq, mn_ltm, mn_mlt, mn_lem, mn_mle, mn_mm1, mn_mm2, mn_mm3, mn_mm4, mn_mm5, mn_mm6, mn_and, mn_or, mn_an, mn_shl, mn_shr, mn_div, mn_rem, mn_clamp, mn_in, mn_inm, mn_nz, mn_zo, mn_min, mn_max, mn_abs, mn_rfit, mn_cp, mn_les, mn_gre, mn_a127, mn_a15, mn_a1, mn_a255, mn_tn0, mn_tn0e, mn_tnr, mn_tnz, mr_get, mr_ne, mr_put, mu_ne, mu_eq, mj_bk_i, mj_bk_v, mj_bk_x, decide_eq_true_eq, decide_true, decide_false, Bool.false_eq_true, Bool.true_eq_false, reduceCtorEq, mt_le_t, mt_le_f, mt_lt_t, mt_lt_f, mt_eq_t, mt_eq_f, mt_ee, not_true_eq_false, not_false_eq_true, and_true, true_and, and_self, Nat.zero_add, Nat.add_zero, Nat.one_mul, Nat.mul_one, Nat.reduceAdd, Nat.reduceMul, Nat.reduceSub, Nat.reducePow, Nat.reduceDiv, Nat.reduceMod, ↓reduceIte, c135 h.1, hk43, e]
      · simp (disch := first | assumption | exact hf _ | omega) only [b102, b102_0, b102_5, b102_15, b102_19, b102_26, b102_35, b102_42, b102_44, b102_51, b102_56, b102_68, b102_73, b102_75, b102_78, b102_84, nI_add, mn_mul, mn_sub, mn_m1, mn_m8, mn_eq, mn_lt, mn_le, mn_eq0, mn_0eq, mn_lt0, mn_0lt, mn_le0, mn_0le, mn_eqm, mn_meq, mn_ltm, mn_mlt, mn_lem, mn_mle, mn_mm1, mn_mm2, mn_mm3, mn_mm4, mn_mm5, mn_mm6, mn_and, mn_or, mn_an, mn_shl, mn_shr, mn_div, mn_rem, mn_clamp, mn_in, mn_inm, mn_nz, mn_zo, mn_min, mn_max, mn_abs, mn_rfit, mn_cp, mn_les, mn_gre, mn_a127, mn_a15, mn_a1, mn_a255, mn_tn0, mn_tn0e, mn_tnr, mn_tnz, mr_get, mr_ne, mr_put, mu_ne, mu_eq, mj_bk_i, mj_bk_v, mj_bk_x, decide_eq_true_eq, decide_true, decide_false, Bool.false_eq_true, Bool.true_eq_false, reduceCtorEq, mt_le_t, mt_le_f, mt_lt_t, mt_lt_f, mt_eq_t, mt_eq_f, mt_ee, not_true_eq_false, not_false_eq_true, and_true, true_and, and_self, Nat.zero_add, Nat.add_zero, Nat.one_mul, Nat.mul_one, Nat.reduceAdd, Nat.reduceMul, Nat.reduceSub, Nat.reducePow, Nat.reduceDiv, Nat.reduceMod, ↓reduceIte, c135 h.1, hk43, e]
    have hstepR : ∀ d s f v, GR o s tp n a r → ∃ t, mj_exec X (d + E + 12) 211 5 [some (.ref 42), some (.int (nI w)), v] [] (mw_U (mp s f)) = mj_exec X (d + E + 12) 211 44 [some (.ref 42), some (.int (nI w)), some (.int cr)] [] (mw_U (mp t f)) ∧ GR o t tp n (te tp n a) r ∧ fE o s t := by
      intro d s f v h
      obtain ⟨t, e, g1, g2⟩ := g198 (X := X) (d := d + E + 9) (f := f) h
      refine ⟨t, ?_, g1, g2⟩
      rw [b211_5, hS]
      cases q43 : tS tp n a 43
      · have q45 : tS tp n a 45 = true := by rcases q with q | q; rw [q43] at q; cases q; exact q
        simp (disch := first | assumption | exact hf _ | omega) only [b211, b211_0, b211_11, b211_14, b211_20, b211_23, b211_29, b211_32, b211_37, b211_39, b211_44, b211_49, b211_54, b211_57, nI_add, mn_mul, mn_sub, mn_m1, mn_m8, mn_eq, mn_lt, mn_le, mn_eq0, mn_0eq, mn_lt0, mn_0lt, mn_le0, mn_0le, mn_eqm, mn_meq, mn_ltm, mn_mlt, mn_lem, mn_mle, mn_mm1, mn_mm2, mn_mm3, mn_mm4, mn_mm5, mn_mm6, mn_and, mn_or, mn_an, mn_shl, mn_shr, mn_div, mn_rem, mn_clamp, mn_in, mn_inm, mn_nz, mn_zo, mn_min, mn_max, mn_abs, mn_rfit, mn_cp, mn_les, mn_gre, mn_a127, mn_a15, mn_a1, mn_a255, mn_tn0, mn_tn0e, mn_tnr, mn_tnz, mr_get, mr_ne, mr_put, mu_ne, mu_eq, mj_bk_i, mj_bk_v, mj_bk_x, decide_eq_true_eq, decide_true, decide_false, Bool.false_eq_true, Bool.true_eq_false, reduceCtorEq, mt_le_t, mt_le_f, mt_lt_t, mt_lt_f, mt_eq_t, mt_eq_f, mt_ee, not_true_eq_false, not_false_eq_true, and_true, true_and, and_self, Nat.zero_add, Nat.add_zero, Nat.one_mul, Nat.mul_one, Nat.reduceAdd, Nat.reduceMul, Nat.reduceSub, Nat.reducePow, Nat.reduceDiv, Nat.reduceMod, ↓reduceIte, mp_h, mp_w, mp_c, mp_s, mp_d, mp_n, mp_54, mp_52, mp_55, mp_l, mp_o, mp_42, mp_45, gh_gp, gw_gp, gc_gp, mw_pne, Nat.or_zero, c208 h.1 h.2.1, q43, q45, Bool.toNat_false, Bool.toNat_true, e]
      · simp (disch := first | assumption | exact hf _ | omega) only [b211, b211_0, b211_11, b211_14, b211_20, b211_23, b211_29, b211_32, b211_37, b211_39, b211_44, b211_49, b211_54, b211_57, nI_add, mn_mul, mn_sub, mn_m1, mn_m8, mn_eq, mn_lt, mn_le, mn_eq0, mn_0eq, mn_lt0, mn_0lt, mn_le0, mn_0le, mn_eqm, mn_meq, mn_ltm, mn_mlt, mn_lem, mn_mle, mn_mm1, mn_mm2, mn_mm3, mn_mm4, mn_mm5, mn_mm6, mn_and, mn_or, mn_an, mn_shl, mn_shr, mn_div, mn_rem, mn_clamp, mn_in, mn_inm, mn_nz, mn_zo, mn_min, mn_max, mn_abs, mn_rfit, mn_cp, mn_les, mn_gre, mn_a127, mn_a15, mn_a1, mn_a255, mn_tn0, mn_tn0e, mn_tnr, mn_tnz, mr_get, mr_ne, mr_put, mu_ne, mu_eq, mj_bk_i, mj_bk_v, mj_bk_x, decide_eq_true_eq, decide_true, decide_false, Bool.false_eq_true, Bool.true_eq_false, reduceCtorEq, mt_le_t, mt_le_f, mt_lt_t, mt_lt_f, mt_eq_t, mt_eq_f, mt_ee, not_true_eq_false, not_false_eq_true, and_true, true_and, and_self, Nat.zero_add, Nat.add_zero, Nat.one_mul, Nat.mul_one, Nat.reduceAdd, Nat.reduceMul, Nat.reduceSub, Nat.reducePow, Nat.reduceDiv, Nat.reduceMod, ↓reduceIte, mp_h, mp_w, mp_c, mp_s, mp_d, mp_n, mp_54, mp_52, mp_55, mp_l, mp_o, mp_42, mp_45, gh_gp, gw_gp, gc_gp, mw_pne, Nat.or_zero, c208 h.1 h.2.1, q43, Bool.toNat_true, e]
    rcases hP o (te tp n a) l r hle (by omega) (by omega) with ⟨a1, l1, b1, b2, b3, b4, b5, b6⟩ | ⟨kf, p, b1, b2, b3, b4⟩
    · have hr1 : (r ++ (l1 ++ [c])).length ≤ a1 := by simp; omega
      have hl1 : (l ++ (l1 ++ [c])).length ≤ a1 := by simp; omega
      have goC : ∀ d s i v, i ≤ a → GC s tp n a l → ∃ t, mj_exec X (d + (E + 12)) 102 8 [some (.ref 22), some (.int (nI w)), some (.int (nI 1)), some (.int (nI i)), v] [] (mw_U s) = mj_exec X (d + (E + 12)) 102 8 [some (.ref 22), some (.int (nI w)), some (.int (nI 1)), some (.int (nI (i + 1))), some (.int (nI (kcl tp n a)))] [] (mw_U t) ∧ GC t tp n a1 (l ++ (l1 ++ [c])) ∧ fC s t := by
        intro d s i v hi h
        rw [← Nat.add_assoc]
        obtain ⟨t, e, g1, g2⟩ := hstepC d s i v hi h
        obtain ⟨u, e2, g3, g4⟩ := b5 d t g1
        rw [← Nat.add_assoc] at e2
        obtain ⟨y, e3, g5, g6⟩ := g123 (X := X) (d := d + E + 11) g3 (by simp; omega) hcr
        rw [List.append_assoc] at g5
        refine ⟨y, ?_, g5, fC_trans g2 (fC_trans g4 g6)⟩
        rw [e]
        rcases hk43 with hk43 | hk43
        · rw [if_pos hk43] at e3
          simp (disch := first | assumption | exact hf _ | omega) only [b102, b102_0, b102_5, b102_15, b102_19, b102_26, b102_35, b102_42, b102_44, b102_51, b102_56, b102_68, b102_73, b102_75, b102_78, b102_84, nI_add, mn_mul, mn_sub, mn_m1, mn_m8, mn_eq, mn_lt, mn_le, mn_eq0, mn_0eq, mn_lt0, mn_0lt, mn_le0, mn_0le, mn_eqm, mn_meq, mn_ltm, mn_mlt, mn_lem, mn_mle, mn_mm1, mn_mm2, mn_mm3, mn_mm4, mn_mm5, mn_mm6, mn_and, mn_or, mn_an, mn_shl, mn_shr, mn_div, mn_rem, mn_clamp, mn_in, mn_inm, mn_nz, mn_zo, mn_min, mn_max, mn_abs, mn_rfit, mn_cp, mn_les, mn_gre, mn_a127, mn_a15, mn_a1, mn_a255, mn_tn0, mn_tn0e, mn_tnr, mn_tnz, mr_get, mr_ne, mr_put, mu_ne, mu_eq, mj_bk_i, mj_bk_v, mj_bk_x, decide_eq_true_eq, decide_true, decide_false, Bool.false_eq_true, Bool.true_eq_false, reduceCtorEq, mt_le_t, mt_le_f, mt_lt_t, mt_lt_f, mt_eq_t, mt_eq_f, mt_ee, not_true_eq_false, not_false_eq_true, and_true, true_and, and_self, Nat.zero_add, Nat.add_zero, Nat.one_mul, Nat.mul_one, Nat.reduceAdd, Nat.reduceMul, Nat.reduceSub, Nat.reducePow, Nat.reduceDiv, Nat.reduceMod, ↓reduceIte, e2, hk43, e3]
        · rw [if_neg (by omega)] at e3
          simp (disch := first | assumption | exact hf _ | omega) only [b102, b102_0, b102_5, b102_15, b102_19, b102_26, b102_35, b102_42, b102_44, b102_51, b102_56, b102_68, b102_73, b102_75, b102_78, b102_84, nI_add, mn_mul, mn_sub, mn_m1, mn_m8, mn_eq, mn_lt, mn_le, mn_eq0, mn_0eq, mn_lt0, mn_0lt, mn_le0, mn_0le, mn_eqm, mn_meq, mn_ltm, mn_mlt, mn_lem, mn_mle, mn_mm1, mn_mm2, mn_mm3, mn_mm4, mn_mm5, mn_mm6, mn_and, mn_or, mn_an, mn_shl, mn_shr, mn_div, mn_rem, mn_clamp, mn_in, mn_inm, mn_nz, mn_zo, mn_min, mn_max, mn_abs, mn_rfit, mn_cp, mn_les, mn_gre, mn_a127, mn_a15, mn_a1, mn_a255, mn_tn0, mn_tn0e, mn_tnr, mn_tnz, mr_get, mr_ne, mr_put, mu_ne, mu_eq, mj_bk_i, mj_bk_v, mj_bk_x, decide_eq_true_eq, decide_true, decide_false, Bool.false_eq_true, Bool.true_eq_false, reduceCtorEq, mt_le_t, mt_le_f, mt_lt_t, mt_lt_f, mt_eq_t, mt_eq_f, mt_ee, not_true_eq_false, not_false_eq_true, and_true, true_and, and_self, Nat.zero_add, Nat.add_zero, Nat.one_mul, Nat.mul_one, Nat.reduceAdd, Nat.reduceMul, Nat.reduceSub, Nat.reducePow, Nat.reduceDiv, Nat.reduceMod, ↓reduceIte, e2, hk43, e3]
      have goR : ∀ d s f v, GR o s tp n a r → ∃ t, mj_exec X (d + (E + 12)) 211 5 [some (.ref 42), some (.int (nI w)), v] [] (mw_U (mp s f)) = mj_exec X (d + (E + 12)) 211 5 [some (.ref 42), some (.int (nI w)), some (.int cr)] [] (mw_U (mp t f)) ∧ GR o t tp n a1 (r ++ (l1 ++ [c])) ∧ fE o s t := by
        intro d s f v h
        rw [← Nat.add_assoc]
        obtain ⟨t, e, g1, g2⟩ := hstepR d s f v h
        obtain ⟨u, e2, g3, g4⟩ := b6 d t f g1
        rw [← Nat.add_assoc] at e2
        obtain ⟨y, e3, g5, g6⟩ := c216 (X := X) (d := d + E + 11) (f := f) g3 (by simp; omega) hcc
        rw [List.append_assoc] at g5
        refine ⟨y, ?_, g5, fE_trans g2 (fE_trans g4 g6)⟩
        rw [e]
        simp (disch := first | assumption | exact hf _ | omega) only [b211, b211_0, b211_11, b211_14, b211_20, b211_23, b211_29, b211_32, b211_37, b211_39, b211_44, b211_49, b211_54, b211_57, nI_add, mn_mul, mn_sub, mn_m1, mn_m8, mn_eq, mn_lt, mn_le, mn_eq0, mn_0eq, mn_lt0, mn_0lt, mn_le0, mn_0le, mn_eqm, mn_meq, mn_ltm, mn_mlt, mn_lem, mn_mle, mn_mm1, mn_mm2, mn_mm3, mn_mm4, mn_mm5, mn_mm6, mn_and, mn_or, mn_an, mn_shl, mn_shr, mn_div, mn_rem, mn_clamp, mn_in, mn_inm, mn_nz, mn_zo, mn_min, mn_max, mn_abs, mn_rfit, mn_cp, mn_les, mn_gre, mn_a127, mn_a15, mn_a1, mn_a255, mn_tn0, mn_tn0e, mn_tnr, mn_tnz, mr_get, mr_ne, mr_put, mu_ne, mu_eq, mj_bk_i, mj_bk_v, mj_bk_x, decide_eq_true_eq, decide_true, decide_false, Bool.false_eq_true, Bool.true_eq_false, reduceCtorEq, mt_le_t, mt_le_f, mt_lt_t, mt_lt_f, mt_eq_t, mt_eq_f, mt_ee, not_true_eq_false, not_false_eq_true, and_true, true_and, and_self, Nat.zero_add, Nat.add_zero, Nat.one_mul, Nat.mul_one, Nat.reduceAdd, Nat.reduceMul, Nat.reduceSub, Nat.reducePow, Nat.reduceDiv, Nat.reduceMod, ↓reduceIte, mp_h, mp_w, mp_c, mp_s, mp_d, mp_n, mp_54, mp_52, mp_55, mp_l, mp_o, mp_42, mp_45, gh_gp, gw_gp, gc_gp, mw_pne, Nat.or_zero, e2, e3]
      rcases ih (n - a1) (by omega) a1 (l ++ (l1 ++ [c])) (r ++ (l1 ++ [c])) rfl b2 hl1 hr1 with ⟨a2, l2, c1, c2, c3, c4, c5, c6⟩ | ⟨kf, p, c1, c2, c3, c4⟩
      · refine Or.inl ⟨a2, (l1 ++ [c]) ++ l2, by omega, c2, by simp; omega, ?_, ?_, ?_⟩
        · intro h l0 hh h0
          rw [← List.append_assoc]
          exact c4 h _ hh (hl_op h0 b4 hc (by omega))
        · intro d s i v hi h
          obtain ⟨t, e, g1, g2⟩ := goC d s i v hi h
          obtain ⟨u, x, e2, g3, g4⟩ := c5 d t (i + 1) (some (.int (nI (kcl tp n a)))) (by omega) g1
          refine ⟨u, x, e.trans e2, ?_, fC_trans g2 g4⟩
          rw [← List.append_assoc]; exact g3
        · intro d s f v h
          obtain ⟨t, e, g1, g2⟩ := goR d s f v h
          obtain ⟨u, e2, g3, g4⟩ := c6 d t f (some (.int cr)) g1
          refine ⟨u, e.trans e2, ?_, fE_trans g2 g4⟩
          rw [← List.append_assoc]; exact g3
      · refine Or.inr ⟨kf, p, c1, c2, ?_, ?_⟩
        · intro d s i v hi h
          obtain ⟨t, e, g1, g2⟩ := goC d s i v hi h
          obtain ⟨u, x, e2, g3, g4⟩ := c3 d t (i + 1) (some (.int (nI (kcl tp n a)))) (by omega) g1
          exact ⟨u, x, e.trans e2, g3, fC_trans g2 g4⟩
        · intro d s f v h
          obtain ⟨t, e, g1, g2⟩ := goR d s f v h
          obtain ⟨u, e2, g3, g4⟩ := c4 d t f (some (.int cr)) g1
          exact ⟨u, e.trans e2, g3, fE_trans g2 g4⟩
    · refine Or.inr ⟨kf, p, b1, b2, ?_, ?_⟩
      · intro d s i v hi h
        rw [← Nat.add_assoc]
        obtain ⟨t, e, g1, g2⟩ := hstepC d s i v hi h
        obtain ⟨u, e2, g3, g4, g5⟩ := b3 d t g1
        rw [← Nat.add_assoc] at e2
        obtain ⟨y, e3, g6, g7, g8⟩ := g123f (X := X) (d := d + E + 11) g3 g4 (x := if kcl tp n a = 43 then (-12 : Int32) else -13)
        refine ⟨y, nI 0, ?_, ⟨rfl, g6, g7⟩, fC_trans g2 (fC_trans g5 g8)⟩
        have st : mj_exec X (d + E + 12) 102 8 [some (.ref 22), some (.int (nI w)), some (.int (nI 1)), some (.int (nI i)), v] [] (mw_U s) = mj_exec X (d + E + 12) 102 8 [some (.ref 22), some (.int (nI w)), some (.int (nI 0)), some (.int (nI (i + 1))), some (.int (nI (kcl tp n a)))] [] (mw_U y) := by
          rw [e]
          rcases hk43 with hk43 | hk43
          · rw [if_pos hk43] at e3
            simp (disch := first | assumption | exact hf _ | omega) only [b102, b102_0, b102_5, b102_15, b102_19, b102_26, b102_35, b102_42, b102_44, b102_51, b102_56, b102_68, b102_73, b102_75, b102_78, b102_84, nI_add, mn_mul, mn_sub, mn_m1, mn_m8, mn_eq, mn_lt, mn_le, mn_eq0, mn_0eq, mn_lt0, mn_0lt, mn_le0, mn_0le, mn_eqm, mn_meq, mn_ltm, mn_mlt, mn_lem, mn_mle, mn_mm1, mn_mm2, mn_mm3, mn_mm4, mn_mm5, mn_mm6, mn_and, mn_or, mn_an, mn_shl, mn_shr, mn_div, mn_rem, mn_clamp, mn_in, mn_inm, mn_nz, mn_zo, mn_min, mn_max, mn_abs, mn_rfit, mn_cp, mn_les, mn_gre, mn_a127, mn_a15, mn_a1, mn_a255, mn_tn0, mn_tn0e, mn_tnr, mn_tnz, mr_get, mr_ne, mr_put, mu_ne, mu_eq, mj_bk_i, mj_bk_v, mj_bk_x, decide_eq_true_eq, decide_true, decide_false, Bool.false_eq_true, Bool.true_eq_false, reduceCtorEq, mt_le_t, mt_le_f, mt_lt_t, mt_lt_f, mt_eq_t, mt_eq_f, mt_ee, not_true_eq_false, not_false_eq_true, and_true, true_and, and_self, Nat.zero_add, Nat.add_zero, Nat.one_mul, Nat.mul_one, Nat.reduceAdd, Nat.reduceMul, Nat.reduceSub, Nat.reducePow, Nat.reduceDiv, Nat.reduceMod, ↓reduceIte, e2, hk43, e3]
          · rw [if_neg (by omega)] at e3
            simp (disch := first | assumption | exact hf _ | omega) only [b102, b102_0, b102_5, b102_15, b102_19, b102_26, b102_35, b102_42, b102_44, b102_51, b102_56, b102_68, b102_73, b102_75, b102_78, b102_84, nI_add, mn_mul, mn_sub, mn_m1, mn_m8, mn_eq, mn_lt, mn_le, mn_eq0, mn_0eq, mn_lt0, mn_0lt, mn_le0, mn_0le, mn_eqm, mn_meq, mn_ltm, mn_mlt, mn_lem, mn_mle, mn_mm1, mn_mm2, mn_mm3, mn_mm4, mn_mm5, mn_mm6, mn_and, mn_or, mn_an, mn_shl, mn_shr, mn_div, mn_rem, mn_clamp, mn_in, mn_inm, mn_nz, mn_zo, mn_min, mn_max, mn_abs, mn_rfit, mn_cp, mn_les, mn_gre, mn_a127, mn_a15, mn_a1, mn_a255, mn_tn0, mn_tn0e, mn_tnr, mn_tnz, mr_get, mr_ne, mr_put, mu_ne, mu_eq, mj_bk_i, mj_bk_v, mj_bk_x, decide_eq_true_eq, decide_true, decide_false, Bool.false_eq_true, Bool.true_eq_false, reduceCtorEq, mt_le_t, mt_le_f, mt_lt_t, mt_lt_f, mt_eq_t, mt_eq_f, mt_ee, not_true_eq_false, not_false_eq_true, and_true, true_and, and_self, Nat.zero_add, Nat.add_zero, Nat.one_mul, Nat.mul_one, Nat.reduceAdd, Nat.reduceMul, Nat.reduceSub, Nat.reducePow, Nat.reduceDiv, Nat.reduceMod, ↓reduceIte, e2, hk43, e3]
        rw [st, b102_8]
        by_cases q7 : 700 ≤ i + 1
        · simp (disch := first | assumption | exact hf _ | omega) only [b102, b102_0, b102_5, b102_15, b102_19, b102_26, b102_35, b102_42, b102_44, b102_51, b102_56, b102_68, b102_73, b102_75, b102_78, b102_84, nI_add, mn_mul, mn_sub, mn_m1, mn_m8, mn_eq, mn_lt, mn_le, mn_eq0, mn_0eq, mn_lt0, mn_0lt, mn_le0, mn_0le, mn_eqm, mn_meq, mn_ltm, mn_mlt, mn_lem, mn_mle, mn_mm1, mn_mm2, mn_mm3, mn_mm4, mn_mm5, mn_mm6, mn_and, mn_or, mn_an, mn_shl, mn_shr, mn_div, mn_rem, mn_clamp, mn_in, mn_inm, mn_nz, mn_zo, mn_min, mn_max, mn_abs, mn_rfit, mn_cp, mn_les, mn_gre, mn_a127, mn_a15, mn_a1, mn_a255, mn_tn0, mn_tn0e, mn_tnr, mn_tnz, mr_get, mr_ne, mr_put, mu_ne, mu_eq, mj_bk_i, mj_bk_v, mj_bk_x, decide_eq_true_eq, decide_true, decide_false, Bool.false_eq_true, Bool.true_eq_false, reduceCtorEq, mt_le_t, mt_le_f, mt_lt_t, mt_lt_f, mt_eq_t, mt_eq_f, mt_ee, not_true_eq_false, not_false_eq_true, and_true, true_and, and_self, Nat.zero_add, Nat.add_zero, Nat.one_mul, Nat.mul_one, Nat.reduceAdd, Nat.reduceMul, Nat.reduceSub, Nat.reducePow, Nat.reduceDiv, Nat.reduceMod, ↓reduceIte, q7, z0]
        · simp (disch := first | assumption | exact hf _ | omega) only [b102, b102_0, b102_5, b102_15, b102_19, b102_26, b102_35, b102_42, b102_44, b102_51, b102_56, b102_68, b102_73, b102_75, b102_78, b102_84, nI_add, mn_mul, mn_sub, mn_m1, mn_m8, mn_eq, mn_lt, mn_le, mn_eq0, mn_0eq, mn_lt0, mn_0lt, mn_le0, mn_0le, mn_eqm, mn_meq, mn_ltm, mn_mlt, mn_lem, mn_mle, mn_mm1, mn_mm2, mn_mm3, mn_mm4, mn_mm5, mn_mm6, mn_and, mn_or, mn_an, mn_shl, mn_shr, mn_div, mn_rem, mn_clamp, mn_in, mn_inm, mn_nz, mn_zo, mn_min, mn_max, mn_abs, mn_rfit, mn_cp, mn_les, mn_gre, mn_a127, mn_a15, mn_a1, mn_a255, mn_tn0, mn_tn0e, mn_tnr, mn_tnz, mr_get, mr_ne, mr_put, mu_ne, mu_eq, mj_bk_i, mj_bk_v, mj_bk_x, decide_eq_true_eq, decide_true, decide_false, Bool.false_eq_true, Bool.true_eq_false, reduceCtorEq, mt_le_t, mt_le_f, mt_lt_t, mt_lt_f, mt_eq_t, mt_eq_f, mt_ee, not_true_eq_false, not_false_eq_true, and_true, true_and, and_self, Nat.zero_add, Nat.add_zero, Nat.one_mul, Nat.mul_one, Nat.reduceAdd, Nat.reduceMul, Nat.reduceSub, Nat.reducePow, Nat.reduceDiv, Nat.reduceMod, ↓reduceIte, q7, z0]
      · intro d s f v h
        rw [← Nat.add_assoc]
        obtain ⟨t, e, g1, g2⟩ := hstepR d s f v h
        obtain ⟨u, e2, g3, g4, g5⟩ := b4 d t f g1
        rw [← Nat.add_assoc] at e2
        refine ⟨u, ?_, ⟨g3, g4⟩, fE_trans g2 g5⟩
        have st : mj_exec X (d + E + 12) 211 5 [some (.ref 42), some (.int (nI w)), v] [] (mw_U (mp s f)) = mj_exec X (d + E + 12) 211 5 [some (.ref 42), some (.int (nI w)), some (.int cr)] [] (mw_U (mp u f)) := by
          rw [e]
          simp (disch := first | assumption | exact hf _ | omega) only [b211, b211_0, b211_11, b211_14, b211_20, b211_23, b211_29, b211_32, b211_37, b211_39, b211_44, b211_49, b211_54, b211_57, nI_add, mn_mul, mn_sub, mn_m1, mn_m8, mn_eq, mn_lt, mn_le, mn_eq0, mn_0eq, mn_lt0, mn_0lt, mn_le0, mn_0le, mn_eqm, mn_meq, mn_ltm, mn_mlt, mn_lem, mn_mle, mn_mm1, mn_mm2, mn_mm3, mn_mm4, mn_mm5, mn_mm6, mn_and, mn_or, mn_an, mn_shl, mn_shr, mn_div, mn_rem, mn_clamp, mn_in, mn_inm, mn_nz, mn_zo, mn_min, mn_max, mn_abs, mn_rfit, mn_cp, mn_les, mn_gre, mn_a127, mn_a15, mn_a1, mn_a255, mn_tn0, mn_tn0e, mn_tnr, mn_tnz, mr_get, mr_ne, mr_put, mu_ne, mu_eq, mj_bk_i, mj_bk_v, mj_bk_x, decide_eq_true_eq, decide_true, decide_false, Bool.false_eq_true, Bool.true_eq_false, reduceCtorEq, mt_le_t, mt_le_f, mt_lt_t, mt_lt_f, mt_eq_t, mt_eq_f, mt_ee, not_true_eq_false, not_false_eq_true, and_true, true_and, and_self, Nat.zero_add, Nat.add_zero, Nat.one_mul, Nat.mul_one, Nat.reduceAdd, Nat.reduceMul, Nat.reduceSub, Nat.reducePow, Nat.reduceDiv, Nat.reduceMod, ↓reduceIte, mp_h, mp_w, mp_c, mp_s, mp_d, mp_n, mp_54, mp_52, mp_55, mp_l, mp_o, mp_42, mp_45, gh_gp, gw_gp, gc_gp, mw_pne, Nat.or_zero, e2, c216b g3]
        rw [st, b211_5]
        simp (disch := first | assumption | exact hf _ | omega) only [b211, b211_0, b211_11, b211_14, b211_20, b211_23, b211_29, b211_32, b211_37, b211_39, b211_44, b211_49, b211_54, b211_57, nI_add, mn_mul, mn_sub, mn_m1, mn_m8, mn_eq, mn_lt, mn_le, mn_eq0, mn_0eq, mn_lt0, mn_0lt, mn_le0, mn_0le, mn_eqm, mn_meq, mn_ltm, mn_mlt, mn_lem, mn_mle, mn_mm1, mn_mm2, mn_mm3, mn_mm4, mn_mm5, mn_mm6, mn_and, mn_or, mn_an, mn_shl, mn_shr, mn_div, mn_rem, mn_clamp, mn_in, mn_inm, mn_nz, mn_zo, mn_min, mn_max, mn_abs, mn_rfit, mn_cp, mn_les, mn_gre, mn_a127, mn_a15, mn_a1, mn_a255, mn_tn0, mn_tn0e, mn_tnr, mn_tnz, mr_get, mr_ne, mr_put, mu_ne, mu_eq, mj_bk_i, mj_bk_v, mj_bk_x, decide_eq_true_eq, decide_true, decide_false, Bool.false_eq_true, Bool.true_eq_false, reduceCtorEq, mt_le_t, mt_le_f, mt_lt_t, mt_lt_f, mt_eq_t, mt_eq_f, mt_ee, not_true_eq_false, not_false_eq_true, and_true, true_and, and_self, Nat.zero_add, Nat.add_zero, Nat.one_mul, Nat.mul_one, Nat.reduceAdd, Nat.reduceMul, Nat.reduceSub, Nat.reducePow, Nat.reduceDiv, Nat.reduceMod, ↓reduceIte, mp_h, mp_w, mp_c, mp_s, mp_d, mp_n, mp_54, mp_52, mp_55, mp_l, mp_o, mp_42, mp_45, gh_gp, gw_gp, gc_gp, mw_pne, Nat.or_zero, c208b g3 b1 b2]
  · have n43 : tS tp n a 43 = false := by cases h : tS tp n a 43; rfl; exact absurd (Or.inl h) q
    have n45 : tS tp n a 45 = false := by cases h : tS tp n a 45; rfl; exact absurd (Or.inr h) q
    have k43 : ¬ kcl tp n a = 43 := by rw [kcl_S (by omega), n43]; decide
    have k45 : ¬ kcl tp n a = 45 := by rw [kcl_S (by omega), n45]; decide
    refine Or.inl ⟨a, [], Nat.le_refl _, han, by simp, fun h l0 _ h0 => by rw [List.append_nil]; exact h0, ?_, ?_⟩
    · intro d s i v hi h
      rw [← Nat.add_assoc]
      refine ⟨s, nI 1, ?_, ⟨rfl, by rw [List.append_nil]; exact h⟩, fC_refl⟩
      rw [b102_8]
      by_cases q7 : 700 ≤ i
      · simp (disch := first | assumption | exact hf _ | omega) only [b102, b102_0, b102_5, b102_15, b102_19, b102_26, b102_35, b102_42, b102_44, b102_51, b102_56, b102_68, b102_73, b102_75, b102_78, b102_84, nI_add, mn_mul, mn_sub, mn_m1, mn_m8, mn_eq, mn_lt, mn_le, mn_eq0, mn_0eq, mn_lt0, mn_0lt, mn_le0, mn_0le, mn_eqm, mn_meq, mn_ltm, mn_mlt, mn_lem, mn_mle, mn_mm1, mn_mm2, mn_mm3, mn_mm4, mn_mm5, mn_mm6, mn_and, mn_or, mn_an, mn_shl, mn_shr, mn_div, mn_rem, mn_clamp, mn_in, mn_inm, mn_nz, mn_zo, mn_min, mn_max, mn_abs, mn_rfit, mn_cp, mn_les, mn_gre, mn_a127, mn_a15, mn_a1, mn_a255, mn_tn0, mn_tn0e, mn_tnr, mn_tnz, mr_get, mr_ne, mr_put, mu_ne, mu_eq, mj_bk_i, mj_bk_v, mj_bk_x, decide_eq_true_eq, decide_true, decide_false, Bool.false_eq_true, Bool.true_eq_false, reduceCtorEq, mt_le_t, mt_le_f, mt_lt_t, mt_lt_f, mt_eq_t, mt_eq_f, mt_ee, not_true_eq_false, not_false_eq_true, and_true, true_and, and_self, Nat.zero_add, Nat.add_zero, Nat.one_mul, Nat.mul_one, Nat.reduceAdd, Nat.reduceMul, Nat.reduceSub, Nat.reducePow, Nat.reduceDiv, Nat.reduceMod, ↓reduceIte, q7, z1]
      · simp (disch := first | assumption | exact hf _ | omega) only [b102, b102_0, b102_5, b102_15, b102_19, b102_26, b102_35, b102_42, b102_44, b102_51, b102_56, b102_68, b102_73, b102_75, b102_78, b102_84, nI_add, mn_mul, mn_sub, mn_m1, mn_m8, mn_eq, mn_lt, mn_le, mn_eq0, mn_0eq, mn_lt0, mn_0lt, mn_le0, mn_0le, mn_eqm, mn_meq, mn_ltm, mn_mlt, mn_lem, mn_mle, mn_mm1, mn_mm2, mn_mm3, mn_mm4, mn_mm5, mn_mm6, mn_and, mn_or, mn_an, mn_shl, mn_shr, mn_div, mn_rem, mn_clamp, mn_in, mn_inm, mn_nz, mn_zo, mn_min, mn_max, mn_abs, mn_rfit, mn_cp, mn_les, mn_gre, mn_a127, mn_a15, mn_a1, mn_a255, mn_tn0, mn_tn0e, mn_tnr, mn_tnz, mr_get, mr_ne, mr_put, mu_ne, mu_eq, mj_bk_i, mj_bk_v, mj_bk_x, decide_eq_true_eq, decide_true, decide_false, Bool.false_eq_true, Bool.true_eq_false, reduceCtorEq, mt_le_t, mt_le_f, mt_lt_t, mt_lt_f, mt_eq_t, mt_eq_f, mt_ee, not_true_eq_false, not_false_eq_true, and_true, true_and, and_self, Nat.zero_add, Nat.add_zero, Nat.one_mul, Nat.mul_one, Nat.reduceAdd, Nat.reduceMul, Nat.reduceSub, Nat.reducePow, Nat.reduceDiv, Nat.reduceMod, ↓reduceIte, q7, c135 h.1, k43, k45]
    · intro d s f v h
      rw [← Nat.add_assoc]
      refine ⟨s, ?_, by rw [List.append_nil]; exact h, fE_refl⟩
      rw [b211_5]
      simp (disch := first | assumption | exact hf _ | omega) only [b211, b211_0, b211_11, b211_14, b211_20, b211_23, b211_29, b211_32, b211_37, b211_39, b211_44, b211_49, b211_54, b211_57, nI_add, mn_mul, mn_sub, mn_m1, mn_m8, mn_eq, mn_lt, mn_le, mn_eq0, mn_0eq, mn_lt0, mn_0lt, mn_le0, mn_0le, mn_eqm, mn_meq, mn_ltm, mn_mlt, mn_lem, mn_mle, mn_mm1, mn_mm2, mn_mm3, mn_mm4, mn_mm5, mn_mm6, mn_and, mn_or, mn_an, mn_shl, mn_shr, mn_div, mn_rem, mn_clamp, mn_in, mn_inm, mn_nz, mn_zo, mn_min, mn_max, mn_abs, mn_rfit, mn_cp, mn_les, mn_gre, mn_a127, mn_a15, mn_a1, mn_a255, mn_tn0, mn_tn0e, mn_tnr, mn_tnz, mr_get, mr_ne, mr_put, mu_ne, mu_eq, mj_bk_i, mj_bk_v, mj_bk_x, decide_eq_true_eq, decide_true, decide_false, Bool.false_eq_true, Bool.true_eq_false, reduceCtorEq, mt_le_t, mt_le_f, mt_lt_t, mt_lt_f, mt_eq_t, mt_eq_f, mt_ee, not_true_eq_false, not_false_eq_true, and_true, true_and, and_self, Nat.zero_add, Nat.add_zero, Nat.one_mul, Nat.mul_one, Nat.reduceAdd, Nat.reduceMul, Nat.reduceSub, Nat.reducePow, Nat.reduceDiv, Nat.reduceMod, ↓reduceIte, mp_h, mp_w, mp_c, mp_s, mp_d, mp_n, mp_54, mp_52, mp_55, mp_l, mp_o, mp_42, mp_45, gh_gp, gw_gp, gc_gp, mw_pne, Nat.or_zero, c208 h.1 h.2.1, n43, n45, Bool.toNat_false]
theorem J_sum (hP : JJ X 103 212 (E + 11) tp n w nd) (hn : n ≤ 700) : JJ X 102 211 (E + 12) tp n w (nd + 1) := by
  intro o a l r han hl_ hr
  rcases hP o a l r han hl_ hr with ⟨a1, l1, b1, b2, b3, b4, b5, b6⟩ | ⟨kf, p, b1, b2, b3, b4⟩
  · rcases L_sum hP hn o (n - a1) a1 (l ++ l1) (r ++ l1) rfl b2 (by simp; omega) (by simp; omega) with ⟨a2, l2, c1, c2, c3, c4, c5, c6⟩ | ⟨kf, p, c1, c2, c3, c4⟩
    · refine Or.inl ⟨a2, l1 ++ l2, by omega, c2, by simp; omega, fun h hh => c4 h l1 hh (b4 h (by omega)), ?_, ?_⟩
      · intro d s h
        obtain ⟨t, e, g1, g2⟩ := b5 d s h
        obtain ⟨u, x, e2, ⟨rfl, g3⟩, g4⟩ := c5 d t 0 none (Nat.zero_le _) g1
        rw [List.append_assoc] at g3
        refine ⟨u, ?_, g3, fC_trans g2 g4⟩
        rw [← Nat.add_assoc] at e e2 ⊢
        rw [b102, b102_0, e, mj_bk_i, b102_5]
        exact e2
      · intro d s f h
        obtain ⟨t, e, g1, g2⟩ := b6 d s f h
        obtain ⟨u, e2, g3, g4⟩ := c6 d t f none g1
        rw [List.append_assoc] at g3
        refine ⟨u, ?_, g3, fE_trans g2 g4⟩
        rw [← Nat.add_assoc] at e e2 ⊢
        rw [b211, b211_0, e, mj_bk_v]
        exact e2
    · refine Or.inr ⟨kf, p, c1, c2, ?_, ?_⟩
      · intro d s h
        obtain ⟨t, e, g1, g2⟩ := b5 d s h
        obtain ⟨u, x, e2, ⟨rfl, g3, g5⟩, g4⟩ := c3 d t 0 none (Nat.zero_le _) g1
        refine ⟨u, ?_, g3, g5, fC_trans g2 g4⟩
        rw [← Nat.add_assoc] at e e2 ⊢
        rw [b102, b102_0, e, mj_bk_i, b102_5]
        exact e2
      · intro d s f h
        obtain ⟨t, e, g1, g2⟩ := b6 d s f h
        obtain ⟨u, e2, ⟨g3, g5⟩, g4⟩ := c4 d t f none g1
        refine ⟨u, ?_, g3, g5, fE_trans g2 g4⟩
        rw [← Nat.add_assoc] at e e2 ⊢
        rw [b211, b211_0, e, mj_bk_v]
        exact e2
  · have z0 : mj_rfit (some .boolean) (nI 0) = true := by decide
    refine Or.inr ⟨kf, p, b1, b2, ?_, ?_⟩
    · intro d s h
      obtain ⟨t, e, g1, g2, g3⟩ := b3 d s h
      refine ⟨t, ?_, g1, g2, g3⟩
      rw [← Nat.add_assoc] at e ⊢
      rw [b102, b102_0, e, mj_bk_i, b102_5, b102_8]
      simp (disch := first | assumption | exact hf _ | omega) only [b102, b102_0, b102_5, b102_15, b102_19, b102_26, b102_35, b102_42, b102_44, b102_51, b102_56, b102_68, b102_73, b102_75, b102_78, b102_84, nI_add, mn_mul, mn_sub, mn_m1, mn_m8, mn_eq, mn_lt, mn_le, mn_eq0, mn_0eq, mn_lt0, mn_0lt, mn_le0, mn_0le, mn_eqm, mn_meq, mn_ltm, mn_mlt, mn_lem, mn_mle, mn_mm1, mn_mm2, mn_mm3, mn_mm4, mn_mm5, mn_mm6, mn_and, mn_or, mn_an, mn_shl, mn_shr, mn_div, mn_rem, mn_clamp, mn_in, mn_inm, mn_nz, mn_zo, mn_min, mn_max, mn_abs, mn_rfit, mn_cp, mn_les, mn_gre, mn_a127, mn_a15, mn_a1, mn_a255, mn_tn0, mn_tn0e, mn_tnr, mn_tnz, mr_get, mr_ne, mr_put, mu_ne, mu_eq, mj_bk_i, mj_bk_v, mj_bk_x, decide_eq_true_eq, decide_true, decide_false, Bool.false_eq_true, Bool.true_eq_false, reduceCtorEq, mt_le_t, mt_le_f, mt_lt_t, mt_lt_f, mt_eq_t, mt_eq_f, mt_ee, not_true_eq_false, not_false_eq_true, and_true, true_and, and_self, Nat.zero_add, Nat.add_zero, Nat.one_mul, Nat.mul_one, Nat.reduceAdd, Nat.reduceMul, Nat.reduceSub, Nat.reducePow, Nat.reduceDiv, Nat.reduceMod, ↓reduceIte, z0]
    · intro d s f h
      obtain ⟨t, e, g1, g2, g3⟩ := b4 d s f h
      refine ⟨t, ?_, g1, g2, g3⟩
      rw [← Nat.add_assoc] at e ⊢
      have st : mj_call X (d + E + 12) 211 [.ref 42, .int (nI w)] (mw_U (mp s f)) = mj_exec X (d + E + 12) 211 5 [some (.ref 42), some (.int (nI w)), none] [] (mw_U (mp t f)) := by
        rw [b211, b211_0, e, mj_bk_v]
      rw [st, b211_5]
      simp (disch := first | assumption | exact hf _ | omega) only [b211, b211_0, b211_11, b211_14, b211_20, b211_23, b211_29, b211_32, b211_37, b211_39, b211_44, b211_49, b211_54, b211_57, nI_add, mn_mul, mn_sub, mn_m1, mn_m8, mn_eq, mn_lt, mn_le, mn_eq0, mn_0eq, mn_lt0, mn_0lt, mn_le0, mn_0le, mn_eqm, mn_meq, mn_ltm, mn_mlt, mn_lem, mn_mle, mn_mm1, mn_mm2, mn_mm3, mn_mm4, mn_mm5, mn_mm6, mn_and, mn_or, mn_an, mn_shl, mn_shr, mn_div, mn_rem, mn_clamp, mn_in, mn_inm, mn_nz, mn_zo, mn_min, mn_max, mn_abs, mn_rfit, mn_cp, mn_les, mn_gre, mn_a127, mn_a15, mn_a1, mn_a255, mn_tn0, mn_tn0e, mn_tnr, mn_tnz, mr_get, mr_ne, mr_put, mu_ne, mu_eq, mj_bk_i, mj_bk_v, mj_bk_x, decide_eq_true_eq, decide_true, decide_false, Bool.false_eq_true, Bool.true_eq_false, reduceCtorEq, mt_le_t, mt_le_f, mt_lt_t, mt_lt_f, mt_eq_t, mt_eq_f, mt_ee, not_true_eq_false, not_false_eq_true, and_true, true_and, and_self, Nat.zero_add, Nat.add_zero, Nat.one_mul, Nat.mul_one, Nat.reduceAdd, Nat.reduceMul, Nat.reduceSub, Nat.reducePow, Nat.reduceDiv, Nat.reduceMod, ↓reduceIte, mp_h, mp_w, mp_c, mp_s, mp_d, mp_n, mp_54, mp_52, mp_55, mp_l, mp_o, mp_42, mp_45, gh_gp, gw_gp, gc_gp, mw_pne, Nat.or_zero, c208b g1 b1 b2]
end
