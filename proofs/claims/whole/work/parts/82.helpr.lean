/-! the reference: words, numbers, what it lays -/
def sw (i : Nat) : Nat := [15, 15, 15, 15, 15, 15, 15, 15, 9, 10, 0, 1, 2, 3, 4, 5, 13, 14, 8, 7, 6, 11, 12].getD i 15
theorem sw_ok : ∀ i, i < 23 → 8 ≤ i → sw i < 15 ∧ slen i = wlen (sw i) ∧ slen i < 10 ∧ 0 < slen i ∧ ∀ k, k < slen i → sch i k = wch (sw i) k ∧ wch (sw i) k < 128 := by decide +kernel
section
variable {X : mj_X} {d : Nat} {s t : mw_S} {f : Nat → Nat} {tp : Nat → Nat} {n a : Nat}
theorem c205 (h : TR s tp n a) (h22 : s.1 42 22 = nI 0) {i : Nat} (hi : i < 23) (h8 : 8 ≤ i) : mj_call X (d + 4) 205 [.ref 42, .ref (1000100 + i)] (mw_U (mp s f)) = some (.inl (some (.int (nI (tV tp n a (sw i)).toNat))), mw_U (mp s f)) := by
  obtain ⟨ha, hn, h17, h16, h18, h19, h20, h21, h56⟩ := h
  have h0 : 1000100 ≤ 1000100 + i ∧ 1000100 + i < 1000123 := by omega
  obtain ⟨w1, w2, w3, w4, w5⟩ := sw_ok i hi h8
  have g := te_ge tp n a
  have l := te_le (tp := tp) ha
  have e337 : ∀ d, mj_call X (d + 1) 337 [.ref (1000100 + i)] (mw_U (mp s f)) = some (.inl (some (.int (nI (slen i)))), mw_U (mp s f)) := fun d => c337 hi
  have fin : ∀ (o : Bool) (k : Nat), k ≤ slen i → (o = true → k = slen i) → mj_exec X (d + 4) 205 39 [some (.ref 42), some (.ref (1000100 + i)), some (.int (nI o.toNat)), some (.int (nI k))] [] (mw_U (mp s f)) = some (.inl (some (.int (nI o.toNat))), mw_U (mp s f)) := by
    intro o k hk ho
    rw [b205_39 h0]
    cases o
    · simp (disch := first | assumption | exact hf _ | omega) only [b205, b205_0, b205_7, b205_15, b205_19, b205_31, b205_35, b205_36, b205_43, b205_48, b205_51, b205_56, b205_70, b205_74, b205_75, b205_82, nI_add, mn_mul, mn_sub, mn_m1, mn_m8, mn_eq, mn_lt, mn_le, mn_eq0, mn_0eq, mn_lt0, mn_0lt, mn_le0, mn_0le, mn_eqm, mn_meq, mn_ltm, mn_mlt, mn_lem, mn_mle, mn_mm1, mn_mm2, mn_mm3, mn_mm4, mn_mm5, mn_mm6, mn_and, mn_or, mn_an, mn_shl, mn_shr, mn_div, mn_rem, mn_clamp, mn_in, mn_inm, mn_nz, mn_zo, mn_min, mn_max, mn_abs, mn_rfit, mn_cp, mn_les, mn_gre, mn_a127, mn_a15, mn_a1, mn_a255, mn_tn0, mn_tn0e, mn_tnr, mn_tnz, mr_get, mr_ne, mr_put, mu_ne, mu_eq, mj_bk_i, mj_bk_v, mj_bk_x, decide_eq_true_eq, decide_true, decide_false, Bool.false_eq_true, Bool.true_eq_false, reduceCtorEq, mt_le_t, mt_le_f, mt_lt_t, mt_lt_f, mt_eq_t, mt_eq_f, mt_ee, not_true_eq_false, not_false_eq_true, and_true, true_and, and_self, Nat.zero_add, Nat.add_zero, Nat.one_mul, Nat.mul_one, Nat.reduceAdd, Nat.reduceMul, Nat.reduceSub, Nat.reducePow, Nat.reduceDiv, Nat.reduceMod, ↓reduceIte, mp_h, mp_w, mp_c, mp_s, mp_d, mp_n, mp_54, mp_52, mp_55, mp_l, mp_o, mp_42, mp_45, gh_gp, gw_gp, gc_gp, mw_pne, Nat.or_zero, Bool.toNat_false]
    · have hk := ho rfl
      subst hk
      simp (disch := first | assumption | exact hf _ | omega) only [b205, b205_0, b205_7, b205_15, b205_19, b205_31, b205_35, b205_36, b205_43, b205_48, b205_51, b205_56, b205_70, b205_74, b205_75, b205_82, nI_add, mn_mul, mn_sub, mn_m1, mn_m8, mn_eq, mn_lt, mn_le, mn_eq0, mn_0eq, mn_lt0, mn_0lt, mn_le0, mn_0le, mn_eqm, mn_meq, mn_ltm, mn_mlt, mn_lem, mn_mle, mn_mm1, mn_mm2, mn_mm3, mn_mm4, mn_mm5, mn_mm6, mn_and, mn_or, mn_an, mn_shl, mn_shr, mn_div, mn_rem, mn_clamp, mn_in, mn_inm, mn_nz, mn_zo, mn_min, mn_max, mn_abs, mn_rfit, mn_cp, mn_les, mn_gre, mn_a127, mn_a15, mn_a1, mn_a255, mn_tn0, mn_tn0e, mn_tnr, mn_tnz, mr_get, mr_ne, mr_put, mu_ne, mu_eq, mj_bk_i, mj_bk_v, mj_bk_x, decide_eq_true_eq, decide_true, decide_false, Bool.false_eq_true, Bool.true_eq_false, reduceCtorEq, mt_le_t, mt_le_f, mt_lt_t, mt_lt_f, mt_eq_t, mt_eq_f, mt_ee, not_true_eq_false, not_false_eq_true, and_true, true_and, and_self, Nat.zero_add, Nat.add_zero, Nat.one_mul, Nat.mul_one, Nat.reduceAdd, Nat.reduceMul, Nat.reduceSub, Nat.reducePow, Nat.reduceDiv, Nat.reduceMod, ↓reduceIte, mp_h, mp_w, mp_c, mp_s, mp_d, mp_n, mp_54, mp_52, mp_55, mp_l, mp_o, mp_42, mp_45, gh_gp, gw_gp, gc_gp, mw_pne, Nat.or_zero, Bool.toNat_true, e337]
  have h4 := tkd_le (tp := tp) (n := n) (a := a)
  by_cases q : tkd tp n a = 1
  · have hb := tk_lt (tp := tp) (n := n) (a := a) (by omega)
    by_cases q2 : te tp n a - tb tp n a = slen i
    · have start : mj_call X (d + 4) 205 [.ref 42, .ref (1000100 + i)] (mw_U (mp s f)) = mj_exec X (d + 4) 205 39 [some (.ref 42), some (.ref (1000100 + i)), some (.int (nI true.toNat)), some (.int (nI 0))] [] (mw_U (mp s f)) := by
        have q2' : slen i = te tp n a - tb tp n a := q2.symm
        have ee : nI (te tp n a) - nI (tb tp n a) = nI (slen i) := by rw [mn_sub g, q2]
        simp (disch := first | assumption | exact hf _ | omega) only [b205, b205_0, b205_7, b205_15, b205_19, b205_31, b205_35, b205_36, b205_43, b205_48, b205_51, b205_56, b205_70, b205_74, b205_75, b205_82, nI_add, mn_mul, mn_sub, mn_m1, mn_m8, mn_eq, mn_lt, mn_le, mn_eq0, mn_0eq, mn_lt0, mn_0lt, mn_le0, mn_0le, mn_eqm, mn_meq, mn_ltm, mn_mlt, mn_lem, mn_mle, mn_mm1, mn_mm2, mn_mm3, mn_mm4, mn_mm5, mn_mm6, mn_and, mn_or, mn_an, mn_shl, mn_shr, mn_div, mn_rem, mn_clamp, mn_in, mn_inm, mn_nz, mn_zo, mn_min, mn_max, mn_abs, mn_rfit, mn_cp, mn_les, mn_gre, mn_a127, mn_a15, mn_a1, mn_a255, mn_tn0, mn_tn0e, mn_tnr, mn_tnz, mr_get, mr_ne, mr_put, mu_ne, mu_eq, mj_bk_i, mj_bk_v, mj_bk_x, decide_eq_true_eq, decide_true, decide_false, Bool.false_eq_true, Bool.true_eq_false, reduceCtorEq, mt_le_t, mt_le_f, mt_lt_t, mt_lt_f, mt_eq_t, mt_eq_f, mt_ee, not_true_eq_false, not_false_eq_true, and_true, true_and, and_self, Nat.zero_add, Nat.add_zero, Nat.one_mul, Nat.mul_one, Nat.reduceAdd, Nat.reduceMul, Nat.reduceSub, Nat.reducePow, Nat.reduceDiv, Nat.reduceMod, ↓reduceIte, mp_h, mp_w, mp_c, mp_s, mp_d, mp_n, mp_54, mp_52, mp_55, mp_l, mp_o, mp_42, mp_45, gh_gp, gw_gp, gc_gp, mw_pne, Nat.or_zero, h22, h18, q, e337, h20, h21, ee]
        rfl
      have srch := mr_srch (γ := Unit) (E := fun k _ => mj_exec X (d + 4) 205 39 [some (.ref 42), some (.ref (1000100 + i)), some (.int (nI true.toNat)), some (.int (nI k))] [] (mw_U (mp s f))) (P := fun k => !decide (tp (tb tp n a + k) = wch (sw i) k)) (I := fun _ _ => True) (N := slen i) (by
        intro k _ hk hP _
        have hP : tp (tb tp n a + k) = wch (sw i) k := by simpa using hP
        obtain ⟨v1, v2⟩ := w5 k hk
        obtain ⟨t1, t2⟩ := h56 (tb tp n a + k) (by omega)
        refine ⟨(), trivial, ?_⟩
        rw [b205_39 h0]
        simp (disch := first | assumption | exact hf _ | omega) only [b205, b205_0, b205_7, b205_15, b205_19, b205_31, b205_35, b205_36, b205_43, b205_48, b205_51, b205_56, b205_70, b205_74, b205_75, b205_82, nI_add, mn_mul, mn_sub, mn_m1, mn_m8, mn_eq, mn_lt, mn_le, mn_eq0, mn_0eq, mn_lt0, mn_0lt, mn_le0, mn_0le, mn_eqm, mn_meq, mn_ltm, mn_mlt, mn_lem, mn_mle, mn_mm1, mn_mm2, mn_mm3, mn_mm4, mn_mm5, mn_mm6, mn_and, mn_or, mn_an, mn_shl, mn_shr, mn_div, mn_rem, mn_clamp, mn_in, mn_inm, mn_nz, mn_zo, mn_min, mn_max, mn_abs, mn_rfit, mn_cp, mn_les, mn_gre, mn_a127, mn_a15, mn_a1, mn_a255, mn_tn0, mn_tn0e, mn_tnr, mn_tnz, mr_get, mr_ne, mr_put, mu_ne, mu_eq, mj_bk_i, mj_bk_v, mj_bk_x, decide_eq_true_eq, decide_true, decide_false, Bool.false_eq_true, Bool.true_eq_false, reduceCtorEq, mt_le_t, mt_le_f, mt_lt_t, mt_lt_f, mt_eq_t, mt_eq_f, mt_ee, not_true_eq_false, not_false_eq_true, and_true, true_and, and_self, Nat.zero_add, Nat.add_zero, Nat.one_mul, Nat.mul_one, Nat.reduceAdd, Nat.reduceMul, Nat.reduceSub, Nat.reducePow, Nat.reduceDiv, Nat.reduceMod, ↓reduceIte, mp_h, mp_w, mp_c, mp_s, mp_d, mp_n, mp_54, mp_52, mp_55, mp_l, mp_o, mp_42, mp_45, gh_gp, gw_gp, gc_gp, mw_pne, Nat.or_zero, Bool.toNat_true, e337, c339 hi hk, v1, h20, t2, hP]) (g := ()) trivial
      rcases first_or (fun k => !decide (tp (tb tp n a + k) = wch (sw i) k)) (slen i) with ⟨k, hk, hP, hmin⟩ | hall
      · obtain ⟨_, -, e⟩ := srch k (by omega) hmin
        have hP : ¬ tp (tb tp n a + k) = wch (sw i) k := by simpa using hP
        obtain ⟨v1, v2⟩ := w5 k hk
        obtain ⟨t1, t2⟩ := h56 (tb tp n a + k) (by omega)
        have hV : tV tp n a (sw i) = false := by
          unfold tV
          refine decide_eq_false (fun z => hP ?_)
          have := (wx_iff w1).2 z.2
          exact (of_decide_eq_true this).2 k (by omega)
        have hP' : ¬ wch (sw i) k = tp (tb tp n a + k) := fun z => hP z.symm
        rw [hV, start]
        refine e.trans ?_
        have := fin false (k + 1) (by omega) (fun z => by cases z)
        refine Eq.trans ?_ this
        rw [b205_39 h0]
        simp (disch := first | assumption | exact hf _ | omega) only [b205, b205_0, b205_7, b205_15, b205_19, b205_31, b205_35, b205_36, b205_43, b205_48, b205_51, b205_56, b205_70, b205_74, b205_75, b205_82, nI_add, mn_mul, mn_sub, mn_m1, mn_m8, mn_eq, mn_lt, mn_le, mn_eq0, mn_0eq, mn_lt0, mn_0lt, mn_le0, mn_0le, mn_eqm, mn_meq, mn_ltm, mn_mlt, mn_lem, mn_mle, mn_mm1, mn_mm2, mn_mm3, mn_mm4, mn_mm5, mn_mm6, mn_and, mn_or, mn_an, mn_shl, mn_shr, mn_div, mn_rem, mn_clamp, mn_in, mn_inm, mn_nz, mn_zo, mn_min, mn_max, mn_abs, mn_rfit, mn_cp, mn_les, mn_gre, mn_a127, mn_a15, mn_a1, mn_a255, mn_tn0, mn_tn0e, mn_tnr, mn_tnz, mr_get, mr_ne, mr_put, mu_ne, mu_eq, mj_bk_i, mj_bk_v, mj_bk_x, decide_eq_true_eq, decide_true, decide_false, Bool.false_eq_true, Bool.true_eq_false, reduceCtorEq, mt_le_t, mt_le_f, mt_lt_t, mt_lt_f, mt_eq_t, mt_eq_f, mt_ee, not_true_eq_false, not_false_eq_true, and_true, true_and, and_self, Nat.zero_add, Nat.add_zero, Nat.one_mul, Nat.mul_one, Nat.reduceAdd, Nat.reduceMul, Nat.reduceSub, Nat.reducePow, Nat.reduceDiv, Nat.reduceMod, ↓reduceIte, mp_h, mp_w, mp_c, mp_s, mp_d, mp_n, mp_54, mp_52, mp_55, mp_l, mp_o, mp_42, mp_45, gh_gp, gw_gp, gc_gp, mw_pne, Nat.or_zero, Bool.toNat_true, Bool.toNat_false, e337, c339 hi hk, v1, h20, t2, hP']
      · obtain ⟨_, -, e⟩ := srch (slen i) (Nat.le_refl _) hall
        have hV : tV tp n a (sw i) = true := by
          unfold tV
          refine decide_eq_true ⟨q, (wx_iff w1).1 (decide_eq_true ⟨by omega, fun k hk => ?_⟩)⟩
          have := hall k (by omega)
          simpa using this
        rw [hV, start]
        refine e.trans ?_
        exact fin true (slen i) (Nat.le_refl _) (fun _ => rfl)
    · have hV : tV tp n a (sw i) = false := by
        unfold tV
        refine decide_eq_false (fun z => q2 ?_)
        have := (wx_iff w1).2 z.2
        have := (of_decide_eq_true this).1
        omega
      have ee : nI (te tp n a) - nI (tb tp n a) = nI (te tp n a - tb tp n a) := mn_sub g
      have q2' : ¬ slen i = te tp n a - tb tp n a := fun z => q2 z.symm
      have := fin false 0 (by omega) (fun z => by cases z)
      rw [hV]
      refine Eq.trans ?_ this
      simp (disch := first | assumption | exact hf _ | omega) only [b205, b205_0, b205_7, b205_15, b205_19, b205_31, b205_35, b205_36, b205_43, b205_48, b205_51, b205_56, b205_70, b205_74, b205_75, b205_82, nI_add, mn_mul, mn_sub, mn_m1, mn_m8, mn_eq, mn_lt, mn_le, mn_eq0, mn_0eq, mn_lt0, mn_0lt, mn_le0, mn_0le, mn_eqm, mn_meq, mn_ltm, mn_mlt, mn_lem, mn_mle, mn_mm1, mn_mm2, mn_mm3, mn_mm4, mn_mm5, mn_mm6, mn_and, mn_or, mn_an, mn_shl, mn_shr, mn_div, mn_rem, mn_clamp, mn_in, mn_inm, mn_nz, mn_zo, mn_min, mn_max, mn_abs, mn_rfit, mn_cp, mn_les, mn_gre, mn_a127, mn_a15, mn_a1, mn_a255, mn_tn0, mn_tn0e, mn_tnr, mn_tnz, mr_get, mr_ne, mr_put, mu_ne, mu_eq, mj_bk_i, mj_bk_v, mj_bk_x, decide_eq_true_eq, decide_true, decide_false, Bool.false_eq_true, Bool.true_eq_false, reduceCtorEq, mt_le_t, mt_le_f, mt_lt_t, mt_lt_f, mt_eq_t, mt_eq_f, mt_ee, not_true_eq_false, not_false_eq_true, and_true, true_and, and_self, Nat.zero_add, Nat.add_zero, Nat.one_mul, Nat.mul_one, Nat.reduceAdd, Nat.reduceMul, Nat.reduceSub, Nat.reducePow, Nat.reduceDiv, Nat.reduceMod, ↓reduceIte, mp_h, mp_w, mp_c, mp_s, mp_d, mp_n, mp_54, mp_52, mp_55, mp_l, mp_o, mp_42, mp_45, gh_gp, gw_gp, gc_gp, mw_pne, Nat.or_zero, h22, h18, q, e337, h20, h21, ee, q2', Bool.toNat_false]
  · have hV : tV tp n a (sw i) = false := by
      unfold tV
      exact decide_eq_false (fun z => q z.1)
    have := fin false 0 (by omega) (fun z => by cases z)
    rw [hV]
    refine Eq.trans ?_ this
    simp (disch := first | assumption | exact hf _ | omega) only [b205, b205_0, b205_7, b205_15, b205_19, b205_31, b205_35, b205_36, b205_43, b205_48, b205_51, b205_56, b205_70, b205_74, b205_75, b205_82, nI_add, mn_mul, mn_sub, mn_m1, mn_m8, mn_eq, mn_lt, mn_le, mn_eq0, mn_0eq, mn_lt0, mn_0lt, mn_le0, mn_0le, mn_eqm, mn_meq, mn_ltm, mn_mlt, mn_lem, mn_mle, mn_mm1, mn_mm2, mn_mm3, mn_mm4, mn_mm5, mn_mm6, mn_and, mn_or, mn_an, mn_shl, mn_shr, mn_div, mn_rem, mn_clamp, mn_in, mn_inm, mn_nz, mn_zo, mn_min, mn_max, mn_abs, mn_rfit, mn_cp, mn_les, mn_gre, mn_a127, mn_a15, mn_a1, mn_a255, mn_tn0, mn_tn0e, mn_tnr, mn_tnz, mr_get, mr_ne, mr_put, mu_ne, mu_eq, mj_bk_i, mj_bk_v, mj_bk_x, decide_eq_true_eq, decide_true, decide_false, Bool.false_eq_true, Bool.true_eq_false, reduceCtorEq, mt_le_t, mt_le_f, mt_lt_t, mt_lt_f, mt_eq_t, mt_eq_f, mt_ee, not_true_eq_false, not_false_eq_true, and_true, true_and, and_self, Nat.zero_add, Nat.add_zero, Nat.one_mul, Nat.mul_one, Nat.reduceAdd, Nat.reduceMul, Nat.reduceSub, Nat.reducePow, Nat.reduceDiv, Nat.reduceMod, ↓reduceIte, mp_h, mp_w, mp_c, mp_s, mp_d, mp_n, mp_54, mp_52, mp_55, mp_l, mp_o, mp_42, mp_45, gh_gp, gw_gp, gc_gp, mw_pne, Nat.or_zero, h22, h18, q, Bool.toNat_false]
theorem c205b {i k : Nat} (hi : i < 23) (h22 : s.1 42 22 = nI k) (hk : 0 < k) (hk2 : k < 10) : mj_call X (d + 4) 205 [.ref 42, .ref (1000100 + i)] (mw_U (mp s f)) = some (.inl (some (.int (nI 0))), mw_U (mp s f)) := by
  have h0 : 1000100 ≤ 1000100 + i ∧ 1000100 + i < 1000123 := by omega
  have n0 : ¬ k = 0 := by omega
  have st : mj_call X (d + 4) 205 [.ref 42, .ref (1000100 + i)] (mw_U (mp s f)) = mj_exec X (d + 4) 205 39 [some (.ref 42), some (.ref (1000100 + i)), some (.int (nI 0)), some (.int (nI 0))] [] (mw_U (mp s f)) := by
    simp (disch := first | assumption | exact hf _ | omega) only [b205, b205_0, b205_7, b205_15, b205_19, b205_31, b205_35, b205_36, b205_43, b205_48, b205_51, b205_56, b205_70, b205_74, b205_75, b205_82, nI_add, mn_mul, mn_sub, mn_m1, mn_m8, mn_eq, mn_lt, mn_le, mn_eq0, mn_0eq, mn_lt0, mn_0lt, mn_le0, mn_0le, mn_eqm, mn_meq, mn_ltm, mn_mlt, mn_lem, mn_mle, mn_mm1, mn_mm2, mn_mm3, mn_mm4, mn_mm5, mn_mm6, mn_and, mn_or, mn_an, mn_shl, mn_shr, mn_div, mn_rem, mn_clamp, mn_in, mn_inm, mn_nz, mn_zo, mn_min, mn_max, mn_abs, mn_rfit, mn_cp, mn_les, mn_gre, mn_a127, mn_a15, mn_a1, mn_a255, mn_tn0, mn_tn0e, mn_tnr, mn_tnz, mr_get, mr_ne, mr_put, mu_ne, mu_eq, mj_bk_i, mj_bk_v, mj_bk_x, decide_eq_true_eq, decide_true, decide_false, Bool.false_eq_true, Bool.true_eq_false, reduceCtorEq, mt_le_t, mt_le_f, mt_lt_t, mt_lt_f, mt_eq_t, mt_eq_f, mt_ee, not_true_eq_false, not_false_eq_true, and_true, true_and, and_self, Nat.zero_add, Nat.add_zero, Nat.one_mul, Nat.mul_one, Nat.reduceAdd, Nat.reduceMul, Nat.reduceSub, Nat.reducePow, Nat.reduceDiv, Nat.reduceMod, ↓reduceIte, mp_h, mp_w, mp_c, mp_s, mp_d, mp_n, mp_54, mp_52, mp_55, mp_l, mp_o, mp_42, mp_45, gh_gp, gw_gp, gc_gp, mw_pne, Nat.or_zero, h22, n0]
  rw [st, b205_39 h0]
  simp (disch := first | assumption | exact hf _ | omega) only [b205, b205_0, b205_7, b205_15, b205_19, b205_31, b205_35, b205_36, b205_43, b205_48, b205_51, b205_56, b205_70, b205_74, b205_75, b205_82, nI_add, mn_mul, mn_sub, mn_m1, mn_m8, mn_eq, mn_lt, mn_le, mn_eq0, mn_0eq, mn_lt0, mn_0lt, mn_le0, mn_0le, mn_eqm, mn_meq, mn_ltm, mn_mlt, mn_lem, mn_mle, mn_mm1, mn_mm2, mn_mm3, mn_mm4, mn_mm5, mn_mm6, mn_and, mn_or, mn_an, mn_shl, mn_shr, mn_div, mn_rem, mn_clamp, mn_in, mn_inm, mn_nz, mn_zo, mn_min, mn_max, mn_abs, mn_rfit, mn_cp, mn_les, mn_gre, mn_a127, mn_a15, mn_a1, mn_a255, mn_tn0, mn_tn0e, mn_tnr, mn_tnz, mr_get, mr_ne, mr_put, mu_ne, mu_eq, mj_bk_i, mj_bk_v, mj_bk_x, decide_eq_true_eq, decide_true, decide_false, Bool.false_eq_true, Bool.true_eq_false, reduceCtorEq, mt_le_t, mt_le_f, mt_lt_t, mt_lt_f, mt_eq_t, mt_eq_f, mt_ee, not_true_eq_false, not_false_eq_true, and_true, true_and, and_self, Nat.zero_add, Nat.add_zero, Nat.one_mul, Nat.mul_one, Nat.reduceAdd, Nat.reduceMul, Nat.reduceSub, Nat.reducePow, Nat.reduceDiv, Nat.reduceMod, ↓reduceIte, mp_h, mp_w, mp_c, mp_s, mp_d, mp_n, mp_54, mp_52, mp_55, mp_l, mp_o, mp_42, mp_45, gh_gp, gw_gp, gc_gp, mw_pne, Nat.or_zero]
theorem dv_le {b : Nat} : ∀ k, (∀ j, j < k → isD (tp (b + j)) = true) → dv tp b k + 1 ≤ 10 ^ k
  | 0, _ => by show 0 + 1 ≤ 1; omega
  | k + 1, h => by
    have ih := dv_le k (fun j hj => h j (by omega))
    have hd := of_decide_eq_true (h k (by omega))
    show 10 * dv tp b k + (tp (b + k) - 48) + 1 ≤ 10 ^ (k + 1)
    rw [Nat.pow_succ]
    omega
theorem num_ok (h2 : tkd tp n a = 2) (h4 : ¬ 4 < te tp n a - tb tp n a) : dv tp (tb tp n a) (te tp n a - tb tp n a) ≤ 9999 := by
  have het : te tp n a = sc isD tp n (tb tp n a) := by unfold te; rw [h2]; rfl
  have := dv_le (tp := tp) (b := tb tp n a) (te tp n a - tb tp n a) (fun j hj => sc_all (P := isD) (tp := tp) (n := n) (a := tb tp n a) (tb tp n a + j) (by omega) (by omega))
  have h10 : 10 ^ (te tp n a - tb tp n a) ≤ 10 ^ 4 := Nat.pow_le_pow_right (by decide) (by omega)
  omega
/-- the number of a token -/
def nmv (tp : Nat → Nat) (n a : Nat) : Nat := dv tp (tb tp n a) (te tp n a - tb tp n a)
/-- 0: a number from lo to hi; else its fault -/
def nfl (tp : Nat → Nat) (n a lo hi : Nat) : Nat := if tkd tp n a = 2 then (if 4 < te tp n a - tb tp n a ∨ nmv tp n a < lo ∨ hi < nmv tp n a then 2 else 0) else 1
theorem c215 (h : TR s tp n a) (h22 : s.1 42 22 = nI 0) {lo hi : Nat} (hlo : lo < 100000) (hhi : hi ≤ 9999) : mj_call X (d + 1) 215 [.ref 42, .int (nI lo), .int (nI hi)] (mw_U (mp s f)) = if nfl tp n a lo hi = 0 then some (.inl (some (.int (nI (nmv tp n a)))), mw_U (mp s f)) else some (.inl (some (.int (nI 0))), mw_U (mp (mw_p (mw_p s 42 22 (nI (nfl tp n a lo hi))) 42 23 (nI (tb tp n a))) f)) := by
  obtain ⟨ha, hn, h17, h16, h18, h19, h20, h21, h56⟩ := h
  have g := te_ge tp n a
  have l := te_le (tp := tp) ha
  have h4' := tkd_le (tp := tp) (n := n) (a := a)
  unfold nfl
  have z22 : ∀ k b, (mw_p (mw_p s 42 22 (nI k)) 42 23 (nI b)).1 42 22 = nI k := fun k b => by rw [mw_pnj (by decide), mw_peq]
  by_cases q : tkd tp n a = 2
  · have e19 := h19 q
    have ee : nI (te tp n a) - nI (tb tp n a) = nI (te tp n a - tb tp n a) := mn_sub g
    by_cases q4 : 4 < te tp n a - tb tp n a
    · simp (disch := first | assumption | exact hf _ | omega) only [b215, b215_0, b215_7, b215_9, b215_17, b215_22, b215_25, b215_38, b215_46, b215_54, b215_59, b215_66, b215_73, b215_74, nI_add, mn_mul, mn_sub, mn_m1, mn_m8, mn_eq, mn_lt, mn_le, mn_eq0, mn_0eq, mn_lt0, mn_0lt, mn_le0, mn_0le, mn_eqm, mn_meq, mn_ltm, mn_mlt, mn_lem, mn_mle, mn_mm1, mn_mm2, mn_mm3, mn_mm4, mn_mm5, mn_mm6, mn_and, mn_or, mn_an, mn_shl, mn_shr, mn_div, mn_rem, mn_clamp, mn_in, mn_inm, mn_nz, mn_zo, mn_min, mn_max, mn_abs, mn_rfit, mn_cp, mn_les, mn_gre, mn_a127, mn_a15, mn_a1, mn_a255, mn_tn0, mn_tn0e, mn_tnr, mn_tnz, mr_get, mr_ne, mr_put, mu_ne, mu_eq, mj_bk_i, mj_bk_v, mj_bk_x, decide_eq_true_eq, decide_true, decide_false, Bool.false_eq_true, Bool.true_eq_false, reduceCtorEq, mt_le_t, mt_le_f, mt_lt_t, mt_lt_f, mt_eq_t, mt_eq_f, mt_ee, not_true_eq_false, not_false_eq_true, and_true, true_and, and_self, Nat.zero_add, Nat.add_zero, Nat.one_mul, Nat.mul_one, Nat.reduceAdd, Nat.reduceMul, Nat.reduceSub, Nat.reducePow, Nat.reduceDiv, Nat.reduceMod, ↓reduceIte, mp_h, mp_w, mp_c, mp_s, mp_d, mp_n, mp_54, mp_52, mp_55, mp_l, mp_o, mp_42, mp_45, gh_gp, gw_gp, gc_gp, mw_pne, Nat.or_zero, h22, h18, q, h20, h21, ee, q4, c206 h22 h20, z22, true_or]
    · have hv := num_ok q q4
      have em : min 100000 (dv tp (tb tp n a) (te tp n a - tb tp n a)) = nmv tp n a := by unfold nmv; omega
      rw [em] at e19
      have hv' : nmv tp n a ≤ 9999 := hv
      by_cases q5 : nmv tp n a < lo
      · simp (disch := first | assumption | exact hf _ | omega) only [b215, b215_0, b215_7, b215_9, b215_17, b215_22, b215_25, b215_38, b215_46, b215_54, b215_59, b215_66, b215_73, b215_74, nI_add, mn_mul, mn_sub, mn_m1, mn_m8, mn_eq, mn_lt, mn_le, mn_eq0, mn_0eq, mn_lt0, mn_0lt, mn_le0, mn_0le, mn_eqm, mn_meq, mn_ltm, mn_mlt, mn_lem, mn_mle, mn_mm1, mn_mm2, mn_mm3, mn_mm4, mn_mm5, mn_mm6, mn_and, mn_or, mn_an, mn_shl, mn_shr, mn_div, mn_rem, mn_clamp, mn_in, mn_inm, mn_nz, mn_zo, mn_min, mn_max, mn_abs, mn_rfit, mn_cp, mn_les, mn_gre, mn_a127, mn_a15, mn_a1, mn_a255, mn_tn0, mn_tn0e, mn_tnr, mn_tnz, mr_get, mr_ne, mr_put, mu_ne, mu_eq, mj_bk_i, mj_bk_v, mj_bk_x, decide_eq_true_eq, decide_true, decide_false, Bool.false_eq_true, Bool.true_eq_false, reduceCtorEq, mt_le_t, mt_le_f, mt_lt_t, mt_lt_f, mt_eq_t, mt_eq_f, mt_ee, not_true_eq_false, not_false_eq_true, and_true, true_and, and_self, Nat.zero_add, Nat.add_zero, Nat.one_mul, Nat.mul_one, Nat.reduceAdd, Nat.reduceMul, Nat.reduceSub, Nat.reducePow, Nat.reduceDiv, Nat.reduceMod, ↓reduceIte, mp_h, mp_w, mp_c, mp_s, mp_d, mp_n, mp_54, mp_52, mp_55, mp_l, mp_o, mp_42, mp_45, gh_gp, gw_gp, gc_gp, mw_pne, Nat.or_zero, h22, h18, q, h20, h21, ee, q4, e19, q5, c206 h22 h20, z22, true_or, false_or]
      · by_cases q6 : hi < nmv tp n a
        · have q7 : ¬ nmv tp n a ≤ hi := by omega
          simp (disch := first | assumption | exact hf _ | omega) only [b215, b215_0, b215_7, b215_9, b215_17, b215_22, b215_25, b215_38, b215_46, b215_54, b215_59, b215_66, b215_73, b215_74, nI_add, mn_mul, mn_sub, mn_m1, mn_m8, mn_eq, mn_lt, mn_le, mn_eq0, mn_0eq, mn_lt0, mn_0lt, mn_le0, mn_0le, mn_eqm, mn_meq, mn_ltm, mn_mlt, mn_lem, mn_mle, mn_mm1, mn_mm2, mn_mm3, mn_mm4, mn_mm5, mn_mm6, mn_and, mn_or, mn_an, mn_shl, mn_shr, mn_div, mn_rem, mn_clamp, mn_in, mn_inm, mn_nz, mn_zo, mn_min, mn_max, mn_abs, mn_rfit, mn_cp, mn_les, mn_gre, mn_a127, mn_a15, mn_a1, mn_a255, mn_tn0, mn_tn0e, mn_tnr, mn_tnz, mr_get, mr_ne, mr_put, mu_ne, mu_eq, mj_bk_i, mj_bk_v, mj_bk_x, decide_eq_true_eq, decide_true, decide_false, Bool.false_eq_true, Bool.true_eq_false, reduceCtorEq, mt_le_t, mt_le_f, mt_lt_t, mt_lt_f, mt_eq_t, mt_eq_f, mt_ee, not_true_eq_false, not_false_eq_true, and_true, true_and, and_self, Nat.zero_add, Nat.add_zero, Nat.one_mul, Nat.mul_one, Nat.reduceAdd, Nat.reduceMul, Nat.reduceSub, Nat.reducePow, Nat.reduceDiv, Nat.reduceMod, ↓reduceIte, mp_h, mp_w, mp_c, mp_s, mp_d, mp_n, mp_54, mp_52, mp_55, mp_l, mp_o, mp_42, mp_45, gh_gp, gw_gp, gc_gp, mw_pne, Nat.or_zero, h22, h18, q, h20, h21, ee, q4, e19, q5, q6, q7, c206 h22 h20, z22, false_or]
        · have q7 : nmv tp n a ≤ hi := by omega
          simp (disch := first | assumption | exact hf _ | omega) only [b215, b215_0, b215_7, b215_9, b215_17, b215_22, b215_25, b215_38, b215_46, b215_54, b215_59, b215_66, b215_73, b215_74, nI_add, mn_mul, mn_sub, mn_m1, mn_m8, mn_eq, mn_lt, mn_le, mn_eq0, mn_0eq, mn_lt0, mn_0lt, mn_le0, mn_0le, mn_eqm, mn_meq, mn_ltm, mn_mlt, mn_lem, mn_mle, mn_mm1, mn_mm2, mn_mm3, mn_mm4, mn_mm5, mn_mm6, mn_and, mn_or, mn_an, mn_shl, mn_shr, mn_div, mn_rem, mn_clamp, mn_in, mn_inm, mn_nz, mn_zo, mn_min, mn_max, mn_abs, mn_rfit, mn_cp, mn_les, mn_gre, mn_a127, mn_a15, mn_a1, mn_a255, mn_tn0, mn_tn0e, mn_tnr, mn_tnz, mr_get, mr_ne, mr_put, mu_ne, mu_eq, mj_bk_i, mj_bk_v, mj_bk_x, decide_eq_true_eq, decide_true, decide_false, Bool.false_eq_true, Bool.true_eq_false, reduceCtorEq, mt_le_t, mt_le_f, mt_lt_t, mt_lt_f, mt_eq_t, mt_eq_f, mt_ee, not_true_eq_false, not_false_eq_true, and_true, true_and, and_self, Nat.zero_add, Nat.add_zero, Nat.one_mul, Nat.mul_one, Nat.reduceAdd, Nat.reduceMul, Nat.reduceSub, Nat.reducePow, Nat.reduceDiv, Nat.reduceMod, ↓reduceIte, mp_h, mp_w, mp_c, mp_s, mp_d, mp_n, mp_54, mp_52, mp_55, mp_l, mp_o, mp_42, mp_45, gh_gp, gw_gp, gc_gp, mw_pne, Nat.or_zero, h22, h18, q, h20, h21, ee, q4, e19, q5, q6, q7, or_self]
  · simp (disch := first | assumption | exact hf _ | omega) only [b215, b215_0, b215_7, b215_9, b215_17, b215_22, b215_25, b215_38, b215_46, b215_54, b215_59, b215_66, b215_73, b215_74, nI_add, mn_mul, mn_sub, mn_m1, mn_m8, mn_eq, mn_lt, mn_le, mn_eq0, mn_0eq, mn_lt0, mn_0lt, mn_le0, mn_0le, mn_eqm, mn_meq, mn_ltm, mn_mlt, mn_lem, mn_mle, mn_mm1, mn_mm2, mn_mm3, mn_mm4, mn_mm5, mn_mm6, mn_and, mn_or, mn_an, mn_shl, mn_shr, mn_div, mn_rem, mn_clamp, mn_in, mn_inm, mn_nz, mn_zo, mn_min, mn_max, mn_abs, mn_rfit, mn_cp, mn_les, mn_gre, mn_a127, mn_a15, mn_a1, mn_a255, mn_tn0, mn_tn0e, mn_tnr, mn_tnz, mr_get, mr_ne, mr_put, mu_ne, mu_eq, mj_bk_i, mj_bk_v, mj_bk_x, decide_eq_true_eq, decide_true, decide_false, Bool.false_eq_true, Bool.true_eq_false, reduceCtorEq, mt_le_t, mt_le_f, mt_lt_t, mt_lt_f, mt_eq_t, mt_eq_f, mt_ee, not_true_eq_false, not_false_eq_true, and_true, true_and, and_self, Nat.zero_add, Nat.add_zero, Nat.one_mul, Nat.mul_one, Nat.reduceAdd, Nat.reduceMul, Nat.reduceSub, Nat.reducePow, Nat.reduceDiv, Nat.reduceMod, ↓reduceIte, mp_h, mp_w, mp_c, mp_s, mp_d, mp_n, mp_54, mp_52, mp_55, mp_l, mp_o, mp_42, mp_45, gh_gp, gw_gp, gc_gp, mw_pne, Nat.or_zero, h22, h18, q, c206 h22 h20, z22]
end
