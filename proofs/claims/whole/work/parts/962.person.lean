/-! a line that tells a PERSON -/
section
variable {X : mj_X} {d : Nat} {s t t1 t2 t3 : mw_S} {f : Nat → Nat} {tp : Nat → Nat} {n a : Nat} {σ : YS}
theorem m218 {N : Nat} {x v1 v2 : Int32} (h22 : s.1 42 22 = nI 0) (h45 : s.1 45 3 = nI N) (hN : N < 8) (hf8 : f 55 ≤ 8) (e1 : mj_call X d 198 [.ref 42] (mw_U (mp s f)) = some (.inl none, mw_U (mp t1 f))) (h45b : t1.1 45 3 = nI N) (e2 : mj_call X d 214 [.ref 42, .int (nI 0), .int (nI 9)] (mw_U (mp (mw_p t1 46 (8 + N) x) f)) = some (.inl (some (.int v1)), mw_U (mp t2 f))) (e3 : mj_call X d 214 [.ref 42, .int (nI 0), .int (nI 1023)] (mw_U (mp (mw_p t2 47 (8 + N) v1) f)) = some (.inl (some (.int v2)), mw_U (mp t3 f))) (h45c : t3.1 45 3 = nI N) : mj_call X (d + 1) 218 [.ref 42, .int x] (mw_U (mp s f)) = some (.inl none, mw_U (mp (mw_p (mw_p (mw_p t3 48 (8 + N) v2) 49 (8 + N) (-1)) 45 3 (nI (N + 1))) f)) := by
  have n8 : ¬ N = 8 := by omega
  have r47 := mw_r_47; have r48 := mw_r_48; have r49 := mw_r_49
  have w46 : ∀ s v, mw_p (mp s f) 46 (8 + N) v = mp (mw_p s 46 (8 + N) v) f := fun s v => mp_w46 (by omega)
  simp (disch := first | assumption | exact hf _ | omega) only [b218, b218_0, b218_11, b218_16, b218_23, b218_24, b218_28, b218_57, b218_71, nI_add, mn_mul, mn_sub, mn_m1, mn_m8, mn_eq, mn_lt, mn_le, mn_eq0, mn_0eq, mn_lt0, mn_0lt, mn_le0, mn_0le, mn_eqm, mn_meq, mn_ltm, mn_mlt, mn_lem, mn_mle, mn_mm1, mn_mm2, mn_mm3, mn_mm4, mn_mm5, mn_mm6, mn_and, mn_or, mn_an, mn_shl, mn_shr, mn_div, mn_rem, mn_clamp, mn_in, mn_inm, mn_nz, mn_zo, mn_min, mn_max, mn_abs, mn_rfit, mn_cp, mn_les, mn_gre, mn_a127, mn_a15, mn_a1, mn_a255, mn_tn0, mn_tn0e, mn_tnr, mn_tnz, mr_get, mr_ne, mr_put, mu_ne, mu_eq, mj_bk_i, mj_bk_v, mj_bk_x, decide_eq_true_eq, decide_true, decide_false, Bool.false_eq_true, Bool.true_eq_false, reduceCtorEq, mt_le_t, mt_le_f, mt_lt_t, mt_lt_f, mt_eq_t, mt_eq_f, mt_ee, not_true_eq_false, not_false_eq_true, and_true, true_and, and_self, Nat.zero_add, Nat.add_zero, Nat.one_mul, Nat.mul_one, Nat.reduceAdd, Nat.reduceMul, Nat.reduceSub, Nat.reducePow, Nat.reduceDiv, Nat.reduceMod, ↓reduceIte, mp_h, mp_w, mp_c, mp_s, mp_d, mp_n, mp_54, mp_52, mp_55, mp_l, mp_o, mp_42, mp_45, gh_gp, gw_gp, gc_gp, mw_pne, Nat.or_zero, h22, h45, n8, e1, h45b, w46, e2, mp_wo, e3, h45c, mp_w45]
theorem m218f {x : Int32} (h : YR s tp n a σ) (h45 : s.1 45 3 = nI 8) : mj_call X (d + 1) 218 [.ref 42, .int x] (mw_U (mp s f)) = some (.inl none, mw_U (mp (mw_p (mw_p s 42 22 (nI 2)) 42 23 (nI (tb tp n a))) f)) := by
  have h22 := h.2.1
  simp (disch := first | assumption | exact hf _ | omega) only [b218, b218_0, b218_11, b218_16, b218_23, b218_24, b218_28, b218_57, b218_71, nI_add, mn_mul, mn_sub, mn_m1, mn_m8, mn_eq, mn_lt, mn_le, mn_eq0, mn_0eq, mn_lt0, mn_0lt, mn_le0, mn_0le, mn_eqm, mn_meq, mn_ltm, mn_mlt, mn_lem, mn_mle, mn_mm1, mn_mm2, mn_mm3, mn_mm4, mn_mm5, mn_mm6, mn_and, mn_or, mn_an, mn_shl, mn_shr, mn_div, mn_rem, mn_clamp, mn_in, mn_inm, mn_nz, mn_zo, mn_min, mn_max, mn_abs, mn_rfit, mn_cp, mn_les, mn_gre, mn_a127, mn_a15, mn_a1, mn_a255, mn_tn0, mn_tn0e, mn_tnr, mn_tnz, mr_get, mr_ne, mr_put, mu_ne, mu_eq, mj_bk_i, mj_bk_v, mj_bk_x, decide_eq_true_eq, decide_true, decide_false, Bool.false_eq_true, Bool.true_eq_false, reduceCtorEq, mt_le_t, mt_le_f, mt_lt_t, mt_lt_f, mt_eq_t, mt_eq_f, mt_ee, not_true_eq_false, not_false_eq_true, and_true, true_and, and_self, Nat.zero_add, Nat.add_zero, Nat.one_mul, Nat.mul_one, Nat.reduceAdd, Nat.reduceMul, Nat.reduceSub, Nat.reducePow, Nat.reduceDiv, Nat.reduceMod, ↓reduceIte, mp_h, mp_w, mp_c, mp_s, mp_d, mp_n, mp_54, mp_52, mp_55, mp_l, mp_o, mp_42, mp_45, gh_gp, gw_gp, gc_gp, mw_pne, Nat.or_zero, h22, h45, m206 h.1 h.2.1, m42.1]
theorem J_person (b : Bool) (ht : ¬ tkd tp n a = 0) : JL X 91 [.int (nI b.toNat)] 218 [.int (nI b.toNat)] 8 tp n a σ := by
  intro hW
  obtain ⟨han, hn, hG, hW3⟩ := hW
  have z0 : mj_rfit (some .boolean) (nI 0) = true := by decide
  have hg := wf_lt hG.1
  have hN8 := wf_n hG.1
  have a1 := te_lt ht
  have l1 := te_le (tp := tp) (n := n) (a := a) han
  have l2 := te_le (tp := tp) (n := n) (a := te tp n a) l1
  by_cases q8 : σ.1 55 = 8
  · refine Or.inr ⟨2, tb tp n a, by omega, by omega, tb_le han, ?_, ?_⟩
    · intro D s hD h
      obtain ⟨d, rfl⟩ : ∃ d, D = d + 8 := ⟨D - 8, by omega⟩
      refine ⟨_, ?_, l22.1, l22.2, fL_22⟩
      have e1 := r61 (X := X) (d := d + 7) mw_c_25 h.2.1 hg
      have e2 := l92 (X := X) (D := d + 7) (by omega) h (k := 2)
      rw [q8] at e1
      simp (disch := first | assumption | exact hf _ | omega) only [b91, b91_0, b91_7, b91_12, b91_17, b91_18, b91_25, b91_32, b91_38, b91_40, b91_48, b91_54, b91_56, b91_66, nI_add, mn_mul, mn_sub, mn_m1, mn_m8, mn_eq, mn_lt, mn_le, mn_eq0, mn_0eq, mn_lt0, mn_0lt, mn_le0, mn_0le, mn_eqm, mn_meq, mn_ltm, mn_mlt, mn_lem, mn_mle, mn_mm1, mn_mm2, mn_mm3, mn_mm4, mn_mm5, mn_mm6, mn_and, mn_or, mn_an, mn_shl, mn_shr, mn_div, mn_rem, mn_clamp, mn_in, mn_inm, mn_nz, mn_zo, mn_min, mn_max, mn_abs, mn_rfit, mn_cp, mn_les, mn_gre, mn_a127, mn_a15, mn_a1, mn_a255, mn_tn0, mn_tn0e, mn_tnr, mn_tnz, mr_get, mr_ne, mr_put, mu_ne, mu_eq, mj_bk_i, mj_bk_v, mj_bk_x, decide_eq_true_eq, decide_true, decide_false, Bool.false_eq_true, Bool.true_eq_false, reduceCtorEq, mt_le_t, mt_le_f, mt_lt_t, mt_lt_f, mt_eq_t, mt_eq_f, mt_ee, not_true_eq_false, not_false_eq_true, and_true, true_and, and_self, Nat.zero_add, Nat.add_zero, Nat.one_mul, Nat.mul_one, Nat.reduceAdd, Nat.reduceMul, Nat.reduceSub, Nat.reducePow, Nat.reduceDiv, Nat.reduceMod, ↓reduceIte, e1, e2, z0]
    · intro D s f hD hf h
      obtain ⟨d, rfl⟩ : ∃ d, D = d + 8 := ⟨D - 8, by omega⟩
      exact ⟨_, m218f h (by rw [h.2.2.1.1, q8]), m42.1, m42.2, fT_22 fT_refl⟩
  have hN : σ.1 55 < 8 := by omega
  by_cases q1 : nfl tp n (te tp n a) 0 9 = 0
  · by_cases q2 : nfl tp n (te tp n (te tp n a)) 0 1023 = 0
    · obtain ⟨v1, v2, v3⟩ := nfl_v q1
      obtain ⟨w1, w2, w3⟩ := nfl_v q2
      have a2 := te_lt (tp := tp) (n := n) (a := te tp n a) (by omega)
      have a3 := te_lt (tp := tp) (n := n) (a := te tp n (te tp n a)) (by omega)
      have l3 := te_le (tp := tp) (n := n) (a := te tp n (te tp n a)) l2
      refine Or.inl ⟨te tp n (te tp n (te tp n a)), (fad σ.1 (nmv tp n (te tp n a)) (nmv tp n (te tp n (te tp n a))) b, σ.2), by omega, ⟨l3, hn, GI_fad hG hN v3 (by omega), ?_⟩, rfl, ?_, ?_⟩
      · obtain ⟨x1, x2, x3, x4, x5⟩ := hW3
        exact ⟨by show σ.2.1.length ≤ _; omega, by show σ.2.2.1.length ≤ _; omega, by show σ.2.2.2.length ≤ _; omega, x4, x5⟩
      · intro D s hD h
        obtain ⟨d, rfl⟩ : ∃ d, D = d + 8 := ⟨D - 8, by omega⟩
        obtain ⟨t1, e1, h1, f1⟩ := l131 (X := X) (D := d + 7) (by omega) h
        obtain ⟨t2, e2, h2, f2⟩ := l93 (X := X) (D := d + 7) (by omega) h1 (by decide) (by decide) q1
        obtain ⟨t3, e3, h3, f3⟩ := l93 (X := X) (D := d + 7) (by omega) h2 (by decide) (by decide) q2
        refine ⟨_, ?_, YC_set h3, fL_trans (fL_trans f1 (fL_trans f2 f3)) (mg_set mg_refl (by omega))⟩
        have e0 := r61 (X := X) (d := d + 7) mw_c_25 h.2.1 hg
        have e4 := r62 (X := X) (d := d + 6) mw_c_25 h3.2.1 hg (n := nmv tp n (te tp n a)) (w := nmv tp n (te tp n (te tp n a))) (b := b) hN
        have w1 : nmv tp n (te tp n a) < 2147483648 := by omega
        have w2 : nmv tp n (te tp n (te tp n a)) < 2147483648 := by omega
        simp (disch := first | assumption | exact hf _ | omega) only [b91, b91_0, b91_7, b91_12, b91_17, b91_18, b91_25, b91_32, b91_38, b91_40, b91_48, b91_54, b91_56, b91_66, nI_add, mn_mul, mn_sub, mn_m1, mn_m8, mn_eq, mn_lt, mn_le, mn_eq0, mn_0eq, mn_lt0, mn_0lt, mn_le0, mn_0le, mn_eqm, mn_meq, mn_ltm, mn_mlt, mn_lem, mn_mle, mn_mm1, mn_mm2, mn_mm3, mn_mm4, mn_mm5, mn_mm6, mn_and, mn_or, mn_an, mn_shl, mn_shr, mn_div, mn_rem, mn_clamp, mn_in, mn_inm, mn_nz, mn_zo, mn_min, mn_max, mn_abs, mn_rfit, mn_cp, mn_les, mn_gre, mn_a127, mn_a15, mn_a1, mn_a255, mn_tn0, mn_tn0e, mn_tnr, mn_tnz, mr_get, mr_ne, mr_put, mu_ne, mu_eq, mj_bk_i, mj_bk_v, mj_bk_x, decide_eq_true_eq, decide_true, decide_false, Bool.false_eq_true, Bool.true_eq_false, reduceCtorEq, mt_le_t, mt_le_f, mt_lt_t, mt_lt_f, mt_eq_t, mt_eq_f, mt_ee, not_true_eq_false, not_false_eq_true, and_true, true_and, and_self, Nat.zero_add, Nat.add_zero, Nat.one_mul, Nat.mul_one, Nat.reduceAdd, Nat.reduceMul, Nat.reduceSub, Nat.reducePow, Nat.reduceDiv, Nat.reduceMod, ↓reduceIte, e0, hN, e1, e2, e3, e4]
      · intro D s f hD hf h
        obtain ⟨d, rfl⟩ : ∃ d, D = d + 8 := ⟨D - 8, by omega⟩
        obtain ⟨t1, e1, h1, f1⟩ := m198 (X := X) (D := d + 7) (f := f) (by omega) h
        obtain ⟨t2, e2, h2, f2⟩ := m214t (X := X) (D := d + 7) (f := f) (by omega) (TR_w (c := 46) (j := 8 + σ.1 55) (v := nI b.toNat) h1.1 (by decide) (by decide)) (by rw [mw_pne (by decide)]; exact h1.2.1) (by decide) (by decide) q1
        have h22 : t2.1 42 22 = nI 0 := fR_22 f2 (by rw [mw_pne (by decide)]; exact h1.2.1)
        obtain ⟨t3, e3, h3, f3⟩ := m214t (X := X) (D := d + 7) (f := f) (by omega) (TR_w (c := 47) (j := 8 + σ.1 55) (v := nI (nmv tp n (te tp n a))) h2 (by decide) (by decide)) (by rw [mw_pne (by decide)]; exact h22) (by decide) (by decide) q2
        have c3 : ∀ c, ¬ c = 42 → t3.1 c = (mw_p t2 47 (8 + σ.1 55) (nI (nmv tp n (te tp n a)))).1 c := f3.2.1
        have c2 : ∀ c, ¬ c = 42 → t2.1 c = (mw_p t1 46 (8 + σ.1 55) (nI b.toNat)).1 c := f2.2.1
        have c1 : ∀ c, ¬ c = 42 → t1.1 c = s.1 c := f1.2.1
        have cc : ∀ c j, ¬ c = 42 → ¬ c = 46 → ¬ c = 47 → t3.1 c j = s.1 c j := fun c j k1 k2 k3 => by
          rw [c3 c k1, mw_pne k3, c2 c k1, mw_pne k2, c1 c k1]
        have h45 : t3.1 45 3 = nI (σ.1 55) := by rw [cc 45 3 (by decide) (by decide) (by decide)]; exact h.2.2.1.1
        refine ⟨_, m218 h.2.1 h.2.2.1.1 hN hf e1 h1.2.2.1.1 e2 e3 h45, ⟨?_, ?_, ?_, ?_, ?_⟩, ?_⟩
        · exact TR_w (TR_w (TR_w h3 (by decide) (by decide)) (by decide) (by decide)) (by decide) (by decide)
        · rw [mw_pne (by decide), mw_pne (by decide), mw_pne (by decide)]
          exact fR_22 f3 (by rw [mw_pne (by decide)]; exact h22)
        · refine tRL_add hG.1 hN h.2.2.1 (t := mw_p (mw_p (mw_p t3 48 (8 + σ.1 55) _) 49 (8 + σ.1 55) (-1)) 45 3 _) mw_peq ?_ ?_ ?_ ?_ ?_ ?_
          · intro j
            rw [mw_pne (by decide), mw_pne (by decide), mw_pne (by decide), c3 46 (by decide), mw_pne (by decide), c2 46 (by decide), mw_p1, c1 46 (by decide)]
            by_cases q : j = 8 + σ.1 55
            · rw [if_pos ⟨rfl, q⟩, if_pos q]
            · rw [if_neg (fun z => q z.2), if_neg q]
          · intro j
            rw [mw_pne (by decide), mw_pne (by decide), mw_pne (by decide), c3 47 (by decide), mw_p1, c2 47 (by decide), mw_pne (by decide), c1 47 (by decide)]
            by_cases q : j = 8 + σ.1 55
            · rw [if_pos ⟨rfl, q⟩, if_pos q]
            · rw [if_neg (fun z => q z.2), if_neg q]
          · intro j
            rw [mw_pne (by decide), mw_pne (by decide), mw_p1, cc 48 j (by decide) (by decide) (by decide)]
            by_cases q : j = 8 + σ.1 55
            · rw [if_pos ⟨rfl, q⟩, if_pos q]
            · rw [if_neg (fun z => q z.2), if_neg q]
          · intro j
            rw [mw_pne (by decide), mw_p1, mw_pne (by decide), cc 49 j (by decide) (by decide) (by decide)]
            by_cases q : j = 8 + σ.1 55
            · rw [if_pos ⟨rfl, q⟩, if_pos q]
            · rw [if_neg (fun z => q z.2), if_neg q]
          · funext j
            rw [mw_pne (by decide), mw_pne (by decide), mw_pne (by decide), cc 50 j (by decide) (by decide) (by decide)]
          · funext j
            rw [mw_pne (by decide), mw_pne (by decide), mw_pne (by decide), cc 51 j (by decide) (by decide) (by decide)]
        · refine LM_c h.2.2.2.1 ?_ ?_
          · show (mw_p _ 45 3 _).1 45 4 = s.1 45 4
            rw [mw_pnj (by decide), mw_pne (by decide), mw_pne (by decide), cc 45 4 (by decide) (by decide) (by decide)]
          · show (mw_p _ 45 3 _).1 52 = s.1 52
            funext j
            rw [mw_pne (by decide), mw_pne (by decide), mw_pne (by decide), cc 52 j (by decide) (by decide) (by decide)]
        · refine LM_c h.2.2.2.2 ?_ ?_
          · show (mw_p _ 45 3 _).1 45 5 = s.1 45 5
            rw [mw_pnj (by decide), mw_pne (by decide), mw_pne (by decide), cc 45 5 (by decide) (by decide) (by decide)]
          · show (mw_p _ 45 3 _).1 53 = s.1 53
            funext j
            rw [mw_pne (by decide), mw_pne (by decide), mw_pne (by decide), cc 53 j (by decide) (by decide) (by decide)]
        · exact fT_p (fT_p (fT_p (fT_R (fT_p (fT_R (fT_p (fT_R fT_refl f1) (by unfold tA; omega)) f2) (by unfold tA; omega)) f3) (by unfold tA; omega)) (by unfold tA; omega)) (by unfold tA; omega)
    · have k0 : 0 < nfl tp n (te tp n (te tp n a)) 0 1023 := by omega
      have k1 := nfl_lt (tp := tp) (n := n) (a := te tp n (te tp n a)) (lo := 0) (hi := 1023)
      refine Or.inr ⟨_, _, k0, k1, tb_le (tp := tp) (n := n) (a := te tp n (te tp n a)) l2, ?_, ?_⟩
      · intro D s hD h
        obtain ⟨d, rfl⟩ : ∃ d, D = d + 8 := ⟨D - 8, by omega⟩
        obtain ⟨t1, e1, h1, f1⟩ := l131 (X := X) (D := d + 7) (by omega) h
        obtain ⟨t2, e2, h2, f2⟩ := l93 (X := X) (D := d + 7) (by omega) h1 (by decide) (by decide) q1
        have e3 := l93f (X := X) (D := d + 7) (by omega) h2 (by decide) (by decide) q2
        refine ⟨_, ?_, l22.1, l22.2, fL_trans f1 (fL_trans f2 fL_22)⟩
        have e0 := r61 (X := X) (d := d + 7) mw_c_25 h.2.1 hg
        obtain ⟨v1, v2, v3⟩ := nfl_v q1
        have w1 : nmv tp n (te tp n a) < 2147483648 := by omega
        simp (disch := first | assumption | exact hf _ | omega) only [b91, b91_0, b91_7, b91_12, b91_17, b91_18, b91_25, b91_32, b91_38, b91_40, b91_48, b91_54, b91_56, b91_66, nI_add, mn_mul, mn_sub, mn_m1, mn_m8, mn_eq, mn_lt, mn_le, mn_eq0, mn_0eq, mn_lt0, mn_0lt, mn_le0, mn_0le, mn_eqm, mn_meq, mn_ltm, mn_mlt, mn_lem, mn_mle, mn_mm1, mn_mm2, mn_mm3, mn_mm4, mn_mm5, mn_mm6, mn_and, mn_or, mn_an, mn_shl, mn_shr, mn_div, mn_rem, mn_clamp, mn_in, mn_inm, mn_nz, mn_zo, mn_min, mn_max, mn_abs, mn_rfit, mn_cp, mn_les, mn_gre, mn_a127, mn_a15, mn_a1, mn_a255, mn_tn0, mn_tn0e, mn_tnr, mn_tnz, mr_get, mr_ne, mr_put, mu_ne, mu_eq, mj_bk_i, mj_bk_v, mj_bk_x, decide_eq_true_eq, decide_true, decide_false, Bool.false_eq_true, Bool.true_eq_false, reduceCtorEq, mt_le_t, mt_le_f, mt_lt_t, mt_lt_f, mt_eq_t, mt_eq_f, mt_ee, not_true_eq_false, not_false_eq_true, and_true, true_and, and_self, Nat.zero_add, Nat.add_zero, Nat.one_mul, Nat.mul_one, Nat.reduceAdd, Nat.reduceMul, Nat.reduceSub, Nat.reducePow, Nat.reduceDiv, Nat.reduceMod, ↓reduceIte, e0, hN, e1, e2, e3]
      · intro D s f hD hf h
        obtain ⟨d, rfl⟩ : ∃ d, D = d + 8 := ⟨D - 8, by omega⟩
        obtain ⟨t1, e1, h1, f1⟩ := m198 (X := X) (D := d + 7) (f := f) (by omega) h
        obtain ⟨t2, e2, h2, f2⟩ := m214t (X := X) (D := d + 7) (f := f) (by omega) (TR_w (c := 46) (j := 8 + σ.1 55) (v := nI b.toNat) h1.1 (by decide) (by decide)) (by rw [mw_pne (by decide)]; exact h1.2.1) (by decide) (by decide) q1
        have h22 : t2.1 42 22 = nI 0 := fR_22 f2 (by rw [mw_pne (by decide)]; exact h1.2.1)
        have e3 := m214f (X := X) (D := d + 7) (f := f) (by omega) (TR_w (c := 47) (j := 8 + σ.1 55) (v := nI (nmv tp n (te tp n a))) h2 (by decide) (by decide)) (by rw [mw_pne (by decide)]; exact h22) (by decide) (by decide) q2
        refine ⟨_, m218 h.2.1 h.2.2.1.1 hN hf e1 h1.2.2.1.1 e2 e3 ?_, ?_, ?_, ?_⟩
        · rw [mw_pne (by decide), mw_pne (by decide), mw_pne (by decide), f2.2.1 45 (by decide), mw_pne (by decide)]; exact h1.2.2.1.1
        · rw [mw_pne (by decide), mw_pne (by decide), mw_pne (by decide)]; exact m42.1
        · rw [mw_pne (by decide), mw_pne (by decide), mw_pne (by decide)]; exact m42.2
        · exact fT_p (fT_p (fT_p (fT_22 (fT_p (fT_R (fT_p (fT_R fT_refl f1) (by unfold tA; omega)) f2) (by unfold tA; omega))) (by unfold tA; omega)) (by unfold tA; omega)) (by unfold tA; omega)
  · have k0 : 0 < nfl tp n (te tp n a) 0 9 := by omega
    have k1 := nfl_lt (tp := tp) (n := n) (a := te tp n a) (lo := 0) (hi := 9)
    refine Or.inr ⟨_, _, k0, k1, tb_le (tp := tp) (n := n) (a := te tp n a) l1, ?_, ?_⟩
    · intro D s hD h
      obtain ⟨d, rfl⟩ : ∃ d, D = d + 8 := ⟨D - 8, by omega⟩
      obtain ⟨t1, e1, h1, f1⟩ := l131 (X := X) (D := d + 7) (by omega) h
      have e3 := l93f (X := X) (D := d + 7) (by omega) h1 (by decide) (by decide) q1
      refine ⟨_, ?_, l22.1, l22.2, fL_trans f1 fL_22⟩
      have e0 := r61 (X := X) (d := d + 7) mw_c_25 h.2.1 hg
      simp (disch := first | assumption | exact hf _ | omega) only [b91, b91_0, b91_7, b91_12, b91_17, b91_18, b91_25, b91_32, b91_38, b91_40, b91_48, b91_54, b91_56, b91_66, nI_add, mn_mul, mn_sub, mn_m1, mn_m8, mn_eq, mn_lt, mn_le, mn_eq0, mn_0eq, mn_lt0, mn_0lt, mn_le0, mn_0le, mn_eqm, mn_meq, mn_ltm, mn_mlt, mn_lem, mn_mle, mn_mm1, mn_mm2, mn_mm3, mn_mm4, mn_mm5, mn_mm6, mn_and, mn_or, mn_an, mn_shl, mn_shr, mn_div, mn_rem, mn_clamp, mn_in, mn_inm, mn_nz, mn_zo, mn_min, mn_max, mn_abs, mn_rfit, mn_cp, mn_les, mn_gre, mn_a127, mn_a15, mn_a1, mn_a255, mn_tn0, mn_tn0e, mn_tnr, mn_tnz, mr_get, mr_ne, mr_put, mu_ne, mu_eq, mj_bk_i, mj_bk_v, mj_bk_x, decide_eq_true_eq, decide_true, decide_false, Bool.false_eq_true, Bool.true_eq_false, reduceCtorEq, mt_le_t, mt_le_f, mt_lt_t, mt_lt_f, mt_eq_t, mt_eq_f, mt_ee, not_true_eq_false, not_false_eq_true, and_true, true_and, and_self, Nat.zero_add, Nat.add_zero, Nat.one_mul, Nat.mul_one, Nat.reduceAdd, Nat.reduceMul, Nat.reduceSub, Nat.reducePow, Nat.reduceDiv, Nat.reduceMod, ↓reduceIte, e0, hN, e1, e3]
    · intro D s f hD hf h
      obtain ⟨d, rfl⟩ : ∃ d, D = d + 8 := ⟨D - 8, by omega⟩
      obtain ⟨t1, e1, h1, f1⟩ := m198 (X := X) (D := d + 7) (f := f) (by omega) h
      have e2 := m214f (X := X) (D := d + 7) (f := f) (by omega) (TR_w (c := 46) (j := 8 + σ.1 55) (v := nI b.toNat) h1.1 (by decide) (by decide)) (by rw [mw_pne (by decide)]; exact h1.2.1) (by decide) (by decide) q1
      have e3 := m214b (X := X) (D := d + 7) (f := f) (s := mw_p (mw_p (mw_p (mw_p t1 46 (8 + σ.1 55) (nI b.toNat)) 42 22 (nI (nfl tp n (te tp n a) 0 9))) 42 23 (nI (tb tp n (te tp n a)))) 47 (8 + σ.1 55) (nI 0)) (x := nI 0) (y := nI 1023) (by omega) (by rw [mw_pne (by decide)]; exact m42.1) k0 k1
      refine ⟨_, m218 h.2.1 h.2.2.1.1 hN hf e1 h1.2.2.1.1 e2 e3 ?_, ?_, ?_, ?_⟩
      · rw [mw_pne (by decide), mw_pne (by decide), mw_pne (by decide), mw_pne (by decide)]; exact h1.2.2.1.1
      · rw [mw_pne (by decide), mw_pne (by decide), mw_pne (by decide), mw_pne (by decide)]; exact m42.1
      · rw [mw_pne (by decide), mw_pne (by decide), mw_pne (by decide), mw_pne (by decide)]; exact m42.2
      · exact fT_p (fT_p (fT_p (fT_p (fT_22 (fT_p (fT_R fT_refl f1) (by unfold tA; omega))) (by unfold tA; omega)) (by unfold tA; omega)) (by unfold tA; omega)) (by unfold tA; omega)
end
