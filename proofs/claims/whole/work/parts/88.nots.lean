/-! both readers: tests, nots -/
def SRo (X : mj_X) (D : Nat) (tp : Nat → Nat) (n w : Nat) (o : Bool) (a : Nat) (r : List Nat) (R : mw_S → Prop) : Prop := ∀ d s f x v, GR o s tp n a r → ∃ t v', mj_exec X (d + D) 210 39 [some (.ref 42), some (.int (nI w)), some (.int x), v] [] (mw_U (mp s f)) = mj_exec X (d + D) 210 93 [some (.ref 42), some (.int (nI w)), some (.int x), v'] [] (mw_U (mp t f)) ∧ R t ∧ fE o s t
section
variable {X : mj_X} {E : Nat} {tp : Nat → Nat} {n w nd : Nat}
theorem J_test (hS : JJ X 102 211 (E + 12) tp n w nd) (hn : n ≤ 700) (o : Bool) (a : Nat) (l r : List Nat) (han : a ≤ n) (hl_ : l.length ≤ a) (hr : r.length ≤ a) :
    (∃ a' l', a < a' ∧ a' ≤ n ∧ l'.length ≤ a' - a ∧ (∀ h, h + (nd + 1) ≤ 40 → hl l' h = some (h + 1)) ∧ JCo X 101 (E + 13) tp n w a l a' l' ∧ SRo X (E + 14) tp n w o a r (fun t => GR o t tp n a' (r ++ l'))) ∨
    (∃ k p, 0 < k ∧ k < 10 ∧ JCf X 101 (E + 13) tp n w a l k p ∧ SRo X (E + 14) tp n w o a r (fun t => t.1 42 22 = nI k ∧ t.1 42 23 = nI p)) := by
  have k27 := mw_c_27
  have z1 : mj_rfit (some .boolean) (nI 1) = true := by decide
  have z0 : mj_rfit (some .boolean) (nI 0) = true := by decide
  rcases hS o a l r han hl_ hr with ⟨a1, l1, b1, b2, b3, b4, b5, b6⟩ | ⟨kf, p, b1, b2, b3, b4⟩
  · have kl := kcl_lt (tp := tp) (n := n) (a := a1)
    by_cases q : tS tp n a1 60 = true ∨ tS tp n a1 61 = true
    · have q3 : tkd tp n a1 = 3 := by rcases q with q | q <;> exact (of_decide_eq_true q).1
      have hge := tb_ge (tp := tp) (n := n) (a := a1)
      have hlt := te_gt (tp := tp) (n := n) (a := a1) (by omega)
      have hle := te_le (tp := tp) b2
      obtain ⟨c, cr, hc, hcc, hcr, hSS, hk60⟩ : ∃ c cr, (10011 ≤ c ∧ c ≤ 10018) ∧ cr = rm c ∧ (if kcl tp n a1 = 60 then (-10 : Int32) else -11) = rc c ∧ (cr = if tS tp n a1 60 = true then (-24 : Int32) else -25) ∧ (kcl tp n a1 = 60 ∨ kcl tp n a1 = 61) := by
        cases q60 : tS tp n a1 60
        · have q61 : tS tp n a1 61 = true := by rcases q with q | q; rw [q60] at q; cases q; exact q
          have k60 : ¬ kcl tp n a1 = 60 := by rw [kcl_S (by omega), q60]; decide
          have k61 : kcl tp n a1 = 61 := by rw [kcl_S (by omega)]; exact q61
          exact ⟨10014, _, by decide, op_ok.2.2.2.2.2.1, by rw [if_neg k60]; exact op_ok.2.2.2.2.2.2.2.2.2.2.2.2.2.2.1, rfl, Or.inr k61⟩
        · have k60 : kcl tp n a1 = 60 := by rw [kcl_S (by omega)]; exact q60
          exact ⟨10013, _, by decide, op_ok.2.2.2.2.1, by rw [if_pos k60]; exact op_ok.2.2.2.2.2.2.2.2.2.2.2.2.2.1, rfl, Or.inl k60⟩
      have hstepR : ∀ d s f x v, GR o s tp n a r → ∃ t, mj_exec X (d + E + 14) 210 39 [some (.ref 42), some (.int (nI w)), some (.int x), v] [] (mw_U (mp s f)) = mj_exec X (d + E + 14) 210 83 [some (.ref 42), some (.int (nI w)), some (.int x), some (.int cr)] [] (mw_U (mp t f)) ∧ GR o t tp n (te tp n a1) (r ++ l1) ∧ fE o s t := by
        intro d s f x v h
        obtain ⟨t, e, g1, g2⟩ := b6 (d + 1) s f h
        rw [show d + 1 + (E + 12) = d + E + 13 by omega] at e
        obtain ⟨u, e2, g3, g4⟩ := g198 (X := X) (d := d + E + 11) (f := f) g1
        refine ⟨u, ?_, g3, fE_trans g2 g4⟩
        rw [hSS]
        cases q60 : tS tp n a1 60
        · have q61 : tS tp n a1 61 = true := by rcases q with q | q; rw [q60] at q; cases q; exact q
          simp (disch := first | assumption | exact hf _ | omega) only [b210, b210_0, b210_8, b210_11, b210_17, b210_22, b210_32, b210_36, b210_39, b210_44, b210_50, b210_53, b210_59, b210_62, b210_68, b210_71, b210_76, b210_78, b210_83, b210_88, b210_93, b210_100, b210_106, b210_112, nI_add, mn_mul, mn_sub, mn_m1, mn_m8, mn_eq, mn_lt, mn_le, mn_eq0, mn_0eq, mn_lt0, mn_0lt, mn_le0, mn_0le, mn_eqm, mn_meq, mn_ltm, mn_mlt, mn_lem, mn_mle, mn_mm1, mn_mm2, mn_mm3, mn_mm4, mn_mm5, mn_mm6, mn_and, mn_or, mn_an, mn_shl, mn_shr, mn_div, mn_rem, mn_clamp, mn_in, mn_inm, mn_nz, mn_zo, mn_min, mn_max, mn_abs, mn_rfit, mn_cp, mn_les, mn_gre, mn_a127, mn_a15, mn_a1, mn_a255, mn_tn0, mn_tn0e, mn_tnr, mn_tnz, mr_get, mr_ne, mr_put, mu_ne, mu_eq, mj_bk_i, mj_bk_v, mj_bk_x, decide_eq_true_eq, decide_true, decide_false, Bool.false_eq_true, Bool.true_eq_false, reduceCtorEq, mt_le_t, mt_le_f, mt_lt_t, mt_lt_f, mt_eq_t, mt_eq_f, mt_ee, not_true_eq_false, not_false_eq_true, and_true, true_and, and_self, Nat.zero_add, Nat.add_zero, Nat.one_mul, Nat.mul_one, Nat.reduceAdd, Nat.reduceMul, Nat.reduceSub, Nat.reducePow, Nat.reduceDiv, Nat.reduceMod, ↓reduceIte, mp_h, mp_w, mp_c, mp_s, mp_d, mp_n, mp_54, mp_52, mp_55, mp_l, mp_o, mp_42, mp_45, gh_gp, gw_gp, gc_gp, mw_pne, Nat.or_zero, e, c208 g1.1 g1.2.1, q60, q61, Bool.toNat_false, Bool.toNat_true, e2]
        · simp (disch := first | assumption | exact hf _ | omega) only [b210, b210_0, b210_8, b210_11, b210_17, b210_22, b210_32, b210_36, b210_39, b210_44, b210_50, b210_53, b210_59, b210_62, b210_68, b210_71, b210_76, b210_78, b210_83, b210_88, b210_93, b210_100, b210_106, b210_112, nI_add, mn_mul, mn_sub, mn_m1, mn_m8, mn_eq, mn_lt, mn_le, mn_eq0, mn_0eq, mn_lt0, mn_0lt, mn_le0, mn_0le, mn_eqm, mn_meq, mn_ltm, mn_mlt, mn_lem, mn_mle, mn_mm1, mn_mm2, mn_mm3, mn_mm4, mn_mm5, mn_mm6, mn_and, mn_or, mn_an, mn_shl, mn_shr, mn_div, mn_rem, mn_clamp, mn_in, mn_inm, mn_nz, mn_zo, mn_min, mn_max, mn_abs, mn_rfit, mn_cp, mn_les, mn_gre, mn_a127, mn_a15, mn_a1, mn_a255, mn_tn0, mn_tn0e, mn_tnr, mn_tnz, mr_get, mr_ne, mr_put, mu_ne, mu_eq, mj_bk_i, mj_bk_v, mj_bk_x, decide_eq_true_eq, decide_true, decide_false, Bool.false_eq_true, Bool.true_eq_false, reduceCtorEq, mt_le_t, mt_le_f, mt_lt_t, mt_lt_f, mt_eq_t, mt_eq_f, mt_ee, not_true_eq_false, not_false_eq_true, and_true, true_and, and_self, Nat.zero_add, Nat.add_zero, Nat.one_mul, Nat.mul_one, Nat.reduceAdd, Nat.reduceMul, Nat.reduceSub, Nat.reducePow, Nat.reduceDiv, Nat.reduceMod, ↓reduceIte, mp_h, mp_w, mp_c, mp_s, mp_d, mp_n, mp_54, mp_52, mp_55, mp_l, mp_o, mp_42, mp_45, gh_gp, gw_gp, gc_gp, mw_pne, Nat.or_zero, e, c208 g1.1 g1.2.1, q60, Bool.toNat_true, e2]
      have hstepC : ∀ d s, GC s tp n a l → ∃ t, mj_call X (d + E + 13) 101 [.ref 22, .int (nI w)] (mw_U s) = mj_exec X (d + E + 13) 101 39 [some (.ref 22), some (.int (nI w)), some (.int (nI (kcl tp n a1))), none] [] (mw_U t) ∧ GC t tp n (te tp n a1) (l ++ l1) ∧ fC s t := by
        intro d s h
        obtain ⟨t, e, g1, g2⟩ := b5 d s h
        rw [← Nat.add_assoc] at e
        obtain ⟨u, e2, g3, g4⟩ := g131 (X := X) (d := d + E + 6) g1
        refine ⟨u, ?_, g3, fC_trans g2 g4⟩
        rcases hk60 with hk60 | hk60
        · simp (disch := first | assumption | exact hf _ | omega) only [b101, b101_0, b101_5, b101_8, b101_10, b101_17, b101_24, b101_30, b101_32, b101_39, b101_44, b101_55, b101_60, b101_62, b101_65, nI_add, mn_mul, mn_sub, mn_m1, mn_m8, mn_eq, mn_lt, mn_le, mn_eq0, mn_0eq, mn_lt0, mn_0lt, mn_le0, mn_0le, mn_eqm, mn_meq, mn_ltm, mn_mlt, mn_lem, mn_mle, mn_mm1, mn_mm2, mn_mm3, mn_mm4, mn_mm5, mn_mm6, mn_and, mn_or, mn_an, mn_shl, mn_shr, mn_div, mn_rem, mn_clamp, mn_in, mn_inm, mn_nz, mn_zo, mn_min, mn_max, mn_abs, mn_rfit, mn_cp, mn_les, mn_gre, mn_a127, mn_a15, mn_a1, mn_a255, mn_tn0, mn_tn0e, mn_tnr, mn_tnz, mr_get, mr_ne, mr_put, mu_ne, mu_eq, mj_bk_i, mj_bk_v, mj_bk_x, decide_eq_true_eq, decide_true, decide_false, Bool.false_eq_true, Bool.true_eq_false, reduceCtorEq, mt_le_t, mt_le_f, mt_lt_t, mt_lt_f, mt_eq_t, mt_eq_f, mt_ee, not_true_eq_false, not_false_eq_true, and_true, true_and, and_self, Nat.zero_add, Nat.add_zero, Nat.one_mul, Nat.mul_one, Nat.reduceAdd, Nat.reduceMul, Nat.reduceSub, Nat.reducePow, Nat.reduceDiv, Nat.reduceMod, ↓reduceIte, e, c135 g1.1, hk60, e2]
        · simp (disch := first | assumption | exact hf _ | omega) only [b101, b101_0, b101_5, b101_8, b101_10, b101_17, b101_24, b101_30, b101_32, b101_39, b101_44, b101_55, b101_60, b101_62, b101_65, nI_add, mn_mul, mn_sub, mn_m1, mn_m8, mn_eq, mn_lt, mn_le, mn_eq0, mn_0eq, mn_lt0, mn_0lt, mn_le0, mn_0le, mn_eqm, mn_meq, mn_ltm, mn_mlt, mn_lem, mn_mle, mn_mm1, mn_mm2, mn_mm3, mn_mm4, mn_mm5, mn_mm6, mn_and, mn_or, mn_an, mn_shl, mn_shr, mn_div, mn_rem, mn_clamp, mn_in, mn_inm, mn_nz, mn_zo, mn_min, mn_max, mn_abs, mn_rfit, mn_cp, mn_les, mn_gre, mn_a127, mn_a15, mn_a1, mn_a255, mn_tn0, mn_tn0e, mn_tnr, mn_tnz, mr_get, mr_ne, mr_put, mu_ne, mu_eq, mj_bk_i, mj_bk_v, mj_bk_x, decide_eq_true_eq, decide_true, decide_false, Bool.false_eq_true, Bool.true_eq_false, reduceCtorEq, mt_le_t, mt_le_f, mt_lt_t, mt_lt_f, mt_eq_t, mt_eq_f, mt_ee, not_true_eq_false, not_false_eq_true, and_true, true_and, and_self, Nat.zero_add, Nat.add_zero, Nat.one_mul, Nat.mul_one, Nat.reduceAdd, Nat.reduceMul, Nat.reduceSub, Nat.reducePow, Nat.reduceDiv, Nat.reduceMod, ↓reduceIte, e, c135 g1.1, hk60, e2]
      rcases hS o (te tp n a1) (l ++ l1) (r ++ l1) hle (by simp; omega) (by simp; omega) with ⟨a2, l2, c1, c2, c3, c4, c5, c6⟩ | ⟨kf, p, c1, c2, c3, c4⟩
      · refine Or.inl ⟨a2, l1 ++ (l2 ++ [c]), by omega, c2, by simp; omega, fun h hh => hl_op (b4 h (by omega)) c4 hc (by omega), ?_, ?_⟩
        · intro d s h
          rw [← Nat.add_assoc]
          obtain ⟨t, e, g1, g2⟩ := hstepC d s h
          obtain ⟨u, e2, g3, g4⟩ := c5 d t g1
          rw [← Nat.add_assoc] at e2
          obtain ⟨y, e3, g5, g6⟩ := g123 (X := X) (d := d + E + 12) g3 (by simp; omega) hcr
          rw [List.append_assoc, List.append_assoc] at g5
          refine ⟨y, ?_, g5, fC_trans g2 (fC_trans g4 g6)⟩
          rw [e]
          rcases hk60 with hk60 | hk60
          · rw [if_pos hk60] at e3
            simp (disch := first | assumption | exact hf _ | omega) only [b101, b101_0, b101_5, b101_8, b101_10, b101_17, b101_24, b101_30, b101_32, b101_39, b101_44, b101_55, b101_60, b101_62, b101_65, nI_add, mn_mul, mn_sub, mn_m1, mn_m8, mn_eq, mn_lt, mn_le, mn_eq0, mn_0eq, mn_lt0, mn_0lt, mn_le0, mn_0le, mn_eqm, mn_meq, mn_ltm, mn_mlt, mn_lem, mn_mle, mn_mm1, mn_mm2, mn_mm3, mn_mm4, mn_mm5, mn_mm6, mn_and, mn_or, mn_an, mn_shl, mn_shr, mn_div, mn_rem, mn_clamp, mn_in, mn_inm, mn_nz, mn_zo, mn_min, mn_max, mn_abs, mn_rfit, mn_cp, mn_les, mn_gre, mn_a127, mn_a15, mn_a1, mn_a255, mn_tn0, mn_tn0e, mn_tnr, mn_tnz, mr_get, mr_ne, mr_put, mu_ne, mu_eq, mj_bk_i, mj_bk_v, mj_bk_x, decide_eq_true_eq, decide_true, decide_false, Bool.false_eq_true, Bool.true_eq_false, reduceCtorEq, mt_le_t, mt_le_f, mt_lt_t, mt_lt_f, mt_eq_t, mt_eq_f, mt_ee, not_true_eq_false, not_false_eq_true, and_true, true_and, and_self, Nat.zero_add, Nat.add_zero, Nat.one_mul, Nat.mul_one, Nat.reduceAdd, Nat.reduceMul, Nat.reduceSub, Nat.reducePow, Nat.reduceDiv, Nat.reduceMod, ↓reduceIte, e2, hk60, e3, z1]
          · rw [if_neg (by omega)] at e3
            simp (disch := first | assumption | exact hf _ | omega) only [b101, b101_0, b101_5, b101_8, b101_10, b101_17, b101_24, b101_30, b101_32, b101_39, b101_44, b101_55, b101_60, b101_62, b101_65, nI_add, mn_mul, mn_sub, mn_m1, mn_m8, mn_eq, mn_lt, mn_le, mn_eq0, mn_0eq, mn_lt0, mn_0lt, mn_le0, mn_0le, mn_eqm, mn_meq, mn_ltm, mn_mlt, mn_lem, mn_mle, mn_mm1, mn_mm2, mn_mm3, mn_mm4, mn_mm5, mn_mm6, mn_and, mn_or, mn_an, mn_shl, mn_shr, mn_div, mn_rem, mn_clamp, mn_in, mn_inm, mn_nz, mn_zo, mn_min, mn_max, mn_abs, mn_rfit, mn_cp, mn_les, mn_gre, mn_a127, mn_a15, mn_a1, mn_a255, mn_tn0, mn_tn0e, mn_tnr, mn_tnz, mr_get, mr_ne, mr_put, mu_ne, mu_eq, mj_bk_i, mj_bk_v, mj_bk_x, decide_eq_true_eq, decide_true, decide_false, Bool.false_eq_true, Bool.true_eq_false, reduceCtorEq, mt_le_t, mt_le_f, mt_lt_t, mt_lt_f, mt_eq_t, mt_eq_f, mt_ee, not_true_eq_false, not_false_eq_true, and_true, true_and, and_self, Nat.zero_add, Nat.add_zero, Nat.one_mul, Nat.mul_one, Nat.reduceAdd, Nat.reduceMul, Nat.reduceSub, Nat.reducePow, Nat.reduceDiv, Nat.reduceMod, ↓reduceIte, e2, hk60, e3, z1]
        · intro d s f x v h
          rw [← Nat.add_assoc]
          obtain ⟨t, e, g1, g2⟩ := hstepR d s f x v h
          obtain ⟨u, e2, g3, g4⟩ := c6 (d + 1) t f g1
          rw [show d + 1 + (E + 12) = d + E + 13 by omega] at e2
          obtain ⟨y, e3, g5, g6⟩ := c216 (X := X) (d := d + E + 13) (f := f) g3 (by simp; omega) hcc
          rw [List.append_assoc, List.append_assoc] at g5
          refine ⟨y, some (.int cr), ?_, g5, fE_trans g2 (fE_trans g4 g6)⟩
          rw [e, b210_83, e2, mj_bk_v, b210_88, e3, mj_bk_v]
      · refine Or.inr ⟨kf, p, c1, c2, ?_, ?_⟩
        · intro d s h
          rw [← Nat.add_assoc]
          obtain ⟨t, e, g1, g2⟩ := hstepC d s h
          obtain ⟨u, e2, g3, g4, g5⟩ := c3 d t g1
          rw [← Nat.add_assoc] at e2
          obtain ⟨y, e3, g6, g7, g8⟩ := g123f (X := X) (d := d + E + 12) g3 g4 (x := if kcl tp n a1 = 60 then (-10 : Int32) else -11)
          refine ⟨y, ?_, g6, g7, fC_trans g2 (fC_trans g5 g8)⟩
          rw [e]
          rcases hk60 with hk60 | hk60
          · rw [if_pos hk60] at e3
            simp (disch := first | assumption | exact hf _ | omega) only [b101, b101_0, b101_5, b101_8, b101_10, b101_17, b101_24, b101_30, b101_32, b101_39, b101_44, b101_55, b101_60, b101_62, b101_65, nI_add, mn_mul, mn_sub, mn_m1, mn_m8, mn_eq, mn_lt, mn_le, mn_eq0, mn_0eq, mn_lt0, mn_0lt, mn_le0, mn_0le, mn_eqm, mn_meq, mn_ltm, mn_mlt, mn_lem, mn_mle, mn_mm1, mn_mm2, mn_mm3, mn_mm4, mn_mm5, mn_mm6, mn_and, mn_or, mn_an, mn_shl, mn_shr, mn_div, mn_rem, mn_clamp, mn_in, mn_inm, mn_nz, mn_zo, mn_min, mn_max, mn_abs, mn_rfit, mn_cp, mn_les, mn_gre, mn_a127, mn_a15, mn_a1, mn_a255, mn_tn0, mn_tn0e, mn_tnr, mn_tnz, mr_get, mr_ne, mr_put, mu_ne, mu_eq, mj_bk_i, mj_bk_v, mj_bk_x, decide_eq_true_eq, decide_true, decide_false, Bool.false_eq_true, Bool.true_eq_false, reduceCtorEq, mt_le_t, mt_le_f, mt_lt_t, mt_lt_f, mt_eq_t, mt_eq_f, mt_ee, not_true_eq_false, not_false_eq_true, and_true, true_and, and_self, Nat.zero_add, Nat.add_zero, Nat.one_mul, Nat.mul_one, Nat.reduceAdd, Nat.reduceMul, Nat.reduceSub, Nat.reducePow, Nat.reduceDiv, Nat.reduceMod, ↓reduceIte, e2, hk60, e3, z0]
          · rw [if_neg (by omega)] at e3
            simp (disch := first | assumption | exact hf _ | omega) only [b101, b101_0, b101_5, b101_8, b101_10, b101_17, b101_24, b101_30, b101_32, b101_39, b101_44, b101_55, b101_60, b101_62, b101_65, nI_add, mn_mul, mn_sub, mn_m1, mn_m8, mn_eq, mn_lt, mn_le, mn_eq0, mn_0eq, mn_lt0, mn_0lt, mn_le0, mn_0le, mn_eqm, mn_meq, mn_ltm, mn_mlt, mn_lem, mn_mle, mn_mm1, mn_mm2, mn_mm3, mn_mm4, mn_mm5, mn_mm6, mn_and, mn_or, mn_an, mn_shl, mn_shr, mn_div, mn_rem, mn_clamp, mn_in, mn_inm, mn_nz, mn_zo, mn_min, mn_max, mn_abs, mn_rfit, mn_cp, mn_les, mn_gre, mn_a127, mn_a15, mn_a1, mn_a255, mn_tn0, mn_tn0e, mn_tnr, mn_tnz, mr_get, mr_ne, mr_put, mu_ne, mu_eq, mj_bk_i, mj_bk_v, mj_bk_x, decide_eq_true_eq, decide_true, decide_false, Bool.false_eq_true, Bool.true_eq_false, reduceCtorEq, mt_le_t, mt_le_f, mt_lt_t, mt_lt_f, mt_eq_t, mt_eq_f, mt_ee, not_true_eq_false, not_false_eq_true, and_true, true_and, and_self, Nat.zero_add, Nat.add_zero, Nat.one_mul, Nat.mul_one, Nat.reduceAdd, Nat.reduceMul, Nat.reduceSub, Nat.reducePow, Nat.reduceDiv, Nat.reduceMod, ↓reduceIte, e2, hk60, e3, z0]
        · intro d s f x v h
          rw [← Nat.add_assoc]
          obtain ⟨t, e, g1, g2⟩ := hstepR d s f x v h
          obtain ⟨u, e2, g3, g4, g5⟩ := c4 (d + 1) t f g1
          rw [show d + 1 + (E + 12) = d + E + 13 by omega] at e2
          refine ⟨u, some (.int cr), ?_, ⟨g3, g4⟩, fE_trans g2 g5⟩
          rw [e, b210_83, e2, mj_bk_v, b210_88, c216b g3 c1 c2, mj_bk_v]
    · have n60 : tS tp n a1 60 = false := by cases h : tS tp n a1 60; rfl; exact absurd (Or.inl h) q
      have n61 : tS tp n a1 61 = false := by cases h : tS tp n a1 61; rfl; exact absurd (Or.inr h) q
      have k60 : ¬ kcl tp n a1 = 60 := by rw [kcl_S (by omega), n60]; decide
      have k61 : ¬ kcl tp n a1 = 61 := by rw [kcl_S (by omega), n61]; decide
      refine Or.inl ⟨a1, l1, b1, b2, b3, fun h hh => b4 h (by omega), ?_, ?_⟩
      · intro d s h
        obtain ⟨t, e, g1, g2⟩ := b5 d s h
        rw [← Nat.add_assoc] at e ⊢
        refine ⟨t, ?_, g1, g2⟩
        simp (disch := first | assumption | exact hf _ | omega) only [b101, b101_0, b101_5, b101_8, b101_10, b101_17, b101_24, b101_30, b101_32, b101_39, b101_44, b101_55, b101_60, b101_62, b101_65, nI_add, mn_mul, mn_sub, mn_m1, mn_m8, mn_eq, mn_lt, mn_le, mn_eq0, mn_0eq, mn_lt0, mn_0lt, mn_le0, mn_0le, mn_eqm, mn_meq, mn_ltm, mn_mlt, mn_lem, mn_mle, mn_mm1, mn_mm2, mn_mm3, mn_mm4, mn_mm5, mn_mm6, mn_and, mn_or, mn_an, mn_shl, mn_shr, mn_div, mn_rem, mn_clamp, mn_in, mn_inm, mn_nz, mn_zo, mn_min, mn_max, mn_abs, mn_rfit, mn_cp, mn_les, mn_gre, mn_a127, mn_a15, mn_a1, mn_a255, mn_tn0, mn_tn0e, mn_tnr, mn_tnz, mr_get, mr_ne, mr_put, mu_ne, mu_eq, mj_bk_i, mj_bk_v, mj_bk_x, decide_eq_true_eq, decide_true, decide_false, Bool.false_eq_true, Bool.true_eq_false, reduceCtorEq, mt_le_t, mt_le_f, mt_lt_t, mt_lt_f, mt_eq_t, mt_eq_f, mt_ee, not_true_eq_false, not_false_eq_true, and_true, true_and, and_self, Nat.zero_add, Nat.add_zero, Nat.one_mul, Nat.mul_one, Nat.reduceAdd, Nat.reduceMul, Nat.reduceSub, Nat.reducePow, Nat.reduceDiv, Nat.reduceMod, ↓reduceIte, e, c135 g1.1, k60, k61]
      · intro d s f x v h
        rw [← Nat.add_assoc]
        obtain ⟨t, e, g1, g2⟩ := b6 (d + 1) s f h
        rw [show d + 1 + (E + 12) = d + E + 13 by omega] at e
        refine ⟨t, v, ?_, g1, g2⟩
        simp (disch := first | assumption | exact hf _ | omega) only [b210, b210_0, b210_8, b210_11, b210_17, b210_22, b210_32, b210_36, b210_39, b210_44, b210_50, b210_53, b210_59, b210_62, b210_68, b210_71, b210_76, b210_78, b210_83, b210_88, b210_93, b210_100, b210_106, b210_112, nI_add, mn_mul, mn_sub, mn_m1, mn_m8, mn_eq, mn_lt, mn_le, mn_eq0, mn_0eq, mn_lt0, mn_0lt, mn_le0, mn_0le, mn_eqm, mn_meq, mn_ltm, mn_mlt, mn_lem, mn_mle, mn_mm1, mn_mm2, mn_mm3, mn_mm4, mn_mm5, mn_mm6, mn_and, mn_or, mn_an, mn_shl, mn_shr, mn_div, mn_rem, mn_clamp, mn_in, mn_inm, mn_nz, mn_zo, mn_min, mn_max, mn_abs, mn_rfit, mn_cp, mn_les, mn_gre, mn_a127, mn_a15, mn_a1, mn_a255, mn_tn0, mn_tn0e, mn_tnr, mn_tnz, mr_get, mr_ne, mr_put, mu_ne, mu_eq, mj_bk_i, mj_bk_v, mj_bk_x, decide_eq_true_eq, decide_true, decide_false, Bool.false_eq_true, Bool.true_eq_false, reduceCtorEq, mt_le_t, mt_le_f, mt_lt_t, mt_lt_f, mt_eq_t, mt_eq_f, mt_ee, not_true_eq_false, not_false_eq_true, and_true, true_and, and_self, Nat.zero_add, Nat.add_zero, Nat.one_mul, Nat.mul_one, Nat.reduceAdd, Nat.reduceMul, Nat.reduceSub, Nat.reducePow, Nat.reduceDiv, Nat.reduceMod, ↓reduceIte, mp_h, mp_w, mp_c, mp_s, mp_d, mp_n, mp_54, mp_52, mp_55, mp_l, mp_o, mp_42, mp_45, gh_gp, gw_gp, gc_gp, mw_pne, Nat.or_zero, e, c208 g1.1 g1.2.1, n60, n61, Bool.toNat_false]
  · refine Or.inr ⟨kf, p, b1, b2, ?_, ?_⟩
    · intro d s h
      obtain ⟨t, e, g1, g2, g3⟩ := b3 d s h
      rw [← Nat.add_assoc] at e ⊢
      refine ⟨t, ?_, g1, g2, g3⟩
      simp (disch := first | assumption | exact hf _ | omega) only [b101, b101_0, b101_5, b101_8, b101_10, b101_17, b101_24, b101_30, b101_32, b101_39, b101_44, b101_55, b101_60, b101_62, b101_65, nI_add, mn_mul, mn_sub, mn_m1, mn_m8, mn_eq, mn_lt, mn_le, mn_eq0, mn_0eq, mn_lt0, mn_0lt, mn_le0, mn_0le, mn_eqm, mn_meq, mn_ltm, mn_mlt, mn_lem, mn_mle, mn_mm1, mn_mm2, mn_mm3, mn_mm4, mn_mm5, mn_mm6, mn_and, mn_or, mn_an, mn_shl, mn_shr, mn_div, mn_rem, mn_clamp, mn_in, mn_inm, mn_nz, mn_zo, mn_min, mn_max, mn_abs, mn_rfit, mn_cp, mn_les, mn_gre, mn_a127, mn_a15, mn_a1, mn_a255, mn_tn0, mn_tn0e, mn_tnr, mn_tnz, mr_get, mr_ne, mr_put, mu_ne, mu_eq, mj_bk_i, mj_bk_v, mj_bk_x, decide_eq_true_eq, decide_true, decide_false, Bool.false_eq_true, Bool.true_eq_false, reduceCtorEq, mt_le_t, mt_le_f, mt_lt_t, mt_lt_f, mt_eq_t, mt_eq_f, mt_ee, not_true_eq_false, not_false_eq_true, and_true, true_and, and_self, Nat.zero_add, Nat.add_zero, Nat.one_mul, Nat.mul_one, Nat.reduceAdd, Nat.reduceMul, Nat.reduceSub, Nat.reducePow, Nat.reduceDiv, Nat.reduceMod, ↓reduceIte, e]
    · intro d s f x v h
      rw [← Nat.add_assoc]
      obtain ⟨t, e, g1, g2, g3⟩ := b4 (d + 1) s f h
      rw [show d + 1 + (E + 12) = d + E + 13 by omega] at e
      refine ⟨t, v, ?_, ⟨g1, g2⟩, g3⟩
      simp (disch := first | assumption | exact hf _ | omega) only [b210, b210_0, b210_8, b210_11, b210_17, b210_22, b210_32, b210_36, b210_39, b210_44, b210_50, b210_53, b210_59, b210_62, b210_68, b210_71, b210_76, b210_78, b210_83, b210_88, b210_93, b210_100, b210_106, b210_112, nI_add, mn_mul, mn_sub, mn_m1, mn_m8, mn_eq, mn_lt, mn_le, mn_eq0, mn_0eq, mn_lt0, mn_0lt, mn_le0, mn_0le, mn_eqm, mn_meq, mn_ltm, mn_mlt, mn_lem, mn_mle, mn_mm1, mn_mm2, mn_mm3, mn_mm4, mn_mm5, mn_mm6, mn_and, mn_or, mn_an, mn_shl, mn_shr, mn_div, mn_rem, mn_clamp, mn_in, mn_inm, mn_nz, mn_zo, mn_min, mn_max, mn_abs, mn_rfit, mn_cp, mn_les, mn_gre, mn_a127, mn_a15, mn_a1, mn_a255, mn_tn0, mn_tn0e, mn_tnr, mn_tnz, mr_get, mr_ne, mr_put, mu_ne, mu_eq, mj_bk_i, mj_bk_v, mj_bk_x, decide_eq_true_eq, decide_true, decide_false, Bool.false_eq_true, Bool.true_eq_false, reduceCtorEq, mt_le_t, mt_le_f, mt_lt_t, mt_lt_f, mt_eq_t, mt_eq_f, mt_ee, not_true_eq_false, not_false_eq_true, and_true, true_and, and_self, Nat.zero_add, Nat.add_zero, Nat.one_mul, Nat.mul_one, Nat.reduceAdd, Nat.reduceMul, Nat.reduceSub, Nat.reducePow, Nat.reduceDiv, Nat.reduceMod, ↓reduceIte, mp_h, mp_w, mp_c, mp_s, mp_d, mp_n, mp_54, mp_52, mp_55, mp_l, mp_o, mp_42, mp_45, gh_gp, gw_gp, gc_gp, mw_pne, Nat.or_zero, e, c208b g1]
end
