/-! a line that tells who is WED -/
section
variable {X : mj_X} {d : Nat} {s t : mw_S} {f g : Nat → Nat} {tp : Nat → Nat} {n a : Nat} {σ : YS}
theorem fs_fj {p q r : Nat} : fs (fj g p q) r = if r = q then some p else if r = p then some q else fs g r := by
  unfold fs
  rw [fj_j]
  by_cases h1 : r = q
  · rw [if_pos (show 16 + r = 16 + q by omega), if_pos h1]; rfl
  · rw [if_neg (show ¬ 16 + r = 16 + q by omega), if_neg h1]
    by_cases h2 : r = p
    · rw [if_pos (show 16 + r = 16 + p by omega), if_pos h2]; rfl
    · rw [if_neg (show ¬ 16 + r = 16 + p by omega), if_neg h2]
theorem gh_hi {g' : Nat → Nat} (e : ∀ j, 24 ≤ j → j < 52 → g' j = g j) (k : Nat) : gh g' k = gh g k ∧ gw g' k = gw g k := by
  unfold gh gw
  by_cases q : k / 8 < k % 8
  · have hk := Nat.mod_lt k (show 8 > 0 by decide)
    have hp := fp_lt (p := k / 8) (q := k % 8) (by omega) hk (by omega)
    rw [if_pos q, if_pos q, if_pos q, if_pos q]
    unfold fh fw
    rw [e _ (by omega) (by omega)]
    exact ⟨rfl, rfl⟩
  · rw [if_neg q, if_neg q, if_neg q, if_neg q]
    exact ⟨rfl, rfl⟩
theorem tRL_fj (hN : g 55 ≤ 8) (h : tRL s g) {p q : Nat} (hp : p < 8) (hq : q < 8) (hn : ¬ p = q) : tRL (mw_p (mw_p s 49 (8 + p) (nI q)) 49 (8 + q) (nI p)) (fj g p q) := by
  obtain ⟨h1, h2, h3, h4⟩ := h
  have o : ∀ j, j < 16 ∨ 24 ≤ j → fj g p q j = g j := fun j hj => fj_o hp hq hj
  have e : ∀ c j, ¬ c = 49 → (mw_p (mw_p s 49 (8 + p) (nI q)) 49 (8 + q) (nI p)).1 c j = s.1 c j := fun c j hc => by rw [mw_pne hc, mw_pne hc]
  refine ⟨by rw [e 45 3 (by decide), o 55 (by omega)]; exact h1, ?_, ?_, ?_⟩
  · intro r hr
    rw [o 55 (by omega)] at hr
    obtain ⟨k1, k2, k3, k4⟩ := h2 r hr
    rw [e 46 _ (by decide), e 47 _ (by decide), e 48 _ (by decide), o 53 (by omega)]
    · have r16 : r < 8 := by omega
      rw [o r (by omega), o (8 + r) (by omega), fs_fj]
      refine ⟨k1, k2, k3, ?_⟩
      by_cases q1 : r = q
      · subst q1
        rw [if_pos rfl, mw_peq]; rfl
      · rw [if_neg q1, mw_pnj (by omega)]
        by_cases q2 : r = p
        · subst q2
          rw [if_pos rfl, mw_peq]; rfl
        · rw [if_neg q2, mw_pnj (by omega)]; exact k4
  · intro k hk
    rw [e 50 _ (by decide), (gh_hi (fun j h1 _ => o j (by omega)) k).1]; exact h3 k hk
  · intro k hk h0
    rw [(gh_hi (fun j h1 _ => o j (by omega)) k).1] at h0
    rw [e 51 _ (by decide), (gh_hi (fun j h1 _ => o j (by omega)) k).2]; exact h4 k hk h0
theorem fs_0 {p : Nat} : (fs g p = none) = (g (16 + p) = 0) := by
  unfold fs
  by_cases h : g (16 + p) = 0
  · rw [if_pos h]; simp [h]
  · rw [if_neg h]; simp [h]
theorem fcm_GI (h : GI g) {p q : Nat} (hp : p < g 55) (hq : q < g 55) (hs : fs g p = none) : fcm g p q = decide (¬ p = q ∧ fs g q = none) := by
  unfold fcm fsg
  rw [GI_bit h hp, GI_bit h hq, decide_eq_true (show g (16 + p) = 0 by rw [← fs_0]; exact hs)]
  simp only [Bool.true_and]
  by_cases h1 : p = q <;> by_cases h2 : g (16 + q) = 0 <;> simp [h1, h2, fs_0]
theorem mo_ne {v : Nat} (hW : wf g (g 52)) (hv : v < 8) (h : ¬ fs g v = none) : ∃ w, mo (fs g v) = nI w ∧ w < 8 := by
  cases e : fs g v with
  | none => exact absurd e h
  | some w => exact ⟨w, rfl, (wf_s hW hv e).1⟩
theorem YR_49 (hN : σ.1 55 ≤ 8) (h : YR s tp n a σ) {p q : Nat} (hp : p < 8) (hq : q < 8) (hn : ¬ p = q) : YR (mw_p (mw_p s 49 (8 + p) (nI q)) 49 (8 + q) (nI p)) tp n a (fj σ.1 p q, σ.2) := by
  have e : ∀ c j, ¬ c = 49 → (mw_p (mw_p s 49 (8 + p) (nI q)) 49 (8 + q) (nI p)).1 c j = s.1 c j := fun c j hc => by rw [mw_pne hc, mw_pne hc]
  exact ⟨TR_w (TR_w h.1 (by decide) (by decide)) (by decide) (by decide), by rw [e 42 22 (by decide)]; exact h.2.1, tRL_fj hN h.2.2.1 hp hq hn, LM_c h.2.2.2.1 (e _ _ (by decide)) (funext fun j => e _ _ (by decide)), LM_c h.2.2.2.2 (e _ _ (by decide)) (funext fun j => e _ _ (by decide))⟩
theorem J_wed (ht : ¬ tkd tp n a = 0) : JL X 94 [] 219 [] 8 tp n a σ := by
  intro hW
  obtain ⟨han, hn, hG, hW3⟩ := hW
  have z0 : mj_rfit (some .boolean) (nI 0) = true := by decide
  have hg := wf_lt hG.1
  have hN8 := wf_n hG.1
  have a1 := te_lt ht
  have l1 := te_le (tp := tp) (n := n) (a := a) han
  have l2 := te_le (tp := tp) (n := n) (a := te tp n a) l1
  by_cases q1 : pfl tp n (te tp n a) (σ.1 55) = 0
  · obtain ⟨t1, v1⟩ := pfl_v q1
    have v18 : nmv tp n (te tp n a) < 8 := by omega
    have v1b : nmv tp n (te tp n a) < 2147483648 := by omega
    by_cases q2 : fs σ.1 (nmv tp n (te tp n a)) = none
    · have mo1 : mo (fs σ.1 (nmv tp n (te tp n a))) = -1 := by rw [q2]; rfl
      have a2 := te_lt (tp := tp) (n := n) (a := te tp n a) (by omega)
      by_cases q3 : pfl tp n (te tp n (te tp n a)) (σ.1 55) = 0
      · obtain ⟨t2, v2⟩ := pfl_v q3
        have v28 : nmv tp n (te tp n (te tp n a)) < 8 := by omega
        have v2b : nmv tp n (te tp n (te tp n a)) < 2147483648 := by omega
        have hcm := fcm_GI hG v1 v2 q2
        have a3 := te_lt (tp := tp) (n := n) (a := te tp n (te tp n a)) (by omega)
        have l3 := te_le (tp := tp) (n := n) (a := te tp n (te tp n a)) l2
        by_cases q4 : ¬ nmv tp n (te tp n a) = nmv tp n (te tp n (te tp n a)) ∧ fs σ.1 (nmv tp n (te tp n (te tp n a))) = none
        · have mo2 : mo (fs σ.1 (nmv tp n (te tp n (te tp n a)))) = -1 := by rw [q4.2]; rfl
          rw [decide_eq_true q4] at hcm
          have qn := q4.1
          refine Or.inl ⟨te tp n (te tp n (te tp n a)), (fj σ.1 (nmv tp n (te tp n a)) (nmv tp n (te tp n (te tp n a))), σ.2), by omega, ⟨l3, hn, GI_fj hG v18 v28 hcm, ?_⟩, rfl, ?_, ?_⟩
          · obtain ⟨x1, x2, x3, x4, x5⟩ := hW3
            exact ⟨by show σ.2.1.length ≤ _; omega, by show σ.2.2.1.length ≤ _; omega, by show σ.2.2.2.length ≤ _; omega, x4, x5⟩
          · intro D s hD h
            obtain ⟨d, rfl⟩ : ∃ d, D = d + 8 := ⟨D - 8, by omega⟩
            obtain ⟨t1, e1, h1, f1⟩ := l131 (X := X) (D := d + 7) (by omega) h
            obtain ⟨t2, e2, h2, f2⟩ := l131 (X := X) (D := d + 7) (by omega) h1
            obtain ⟨t3, e3, h3, f3⟩ := l131 (X := X) (D := d + 7) (by omega) h2
            refine ⟨_, ?_, YC_set h3, fL_trans (fL_trans f1 (fL_trans f2 f3)) (mg_set mg_refl (by omega))⟩
            have p1 := l95 (X := X) (D := d + 7) (by omega) h1 hg q1
            have p2 := l95 (X := X) (D := d + 7) (by omega) h2 hg q3
            have s1 := r55 (X := X) (d := d + 6) mw_c_25 h1.2.1 hg v18
            have s2 := r63 (X := X) (d := d + 4) mw_c_25 h2.2.1 hg v18 v28
            have s3 := r65 (X := X) (d := d + 6) mw_c_25 h3.2.1 hg v18 v28
            rw [mo1] at s1
            rw [hcm] at s2
            simp (disch := first | assumption | exact hf _ | omega) only [b94, b94_0, b94_7, b94_11, b94_17, b94_19, b94_27, b94_31, b94_36, b94_37, b94_44, b94_48, b94_54, b94_56, b94_65, b94_68, b94_73, b94_74, b94_81, b94_90, nI_add, mn_mul, mn_sub, mn_m1, mn_m8, mn_eq, mn_lt, mn_le, mn_eq0, mn_0eq, mn_lt0, mn_0lt, mn_le0, mn_0le, mn_eqm, mn_meq, mn_ltm, mn_mlt, mn_lem, mn_mle, mn_mm1, mn_mm2, mn_mm3, mn_mm4, mn_mm5, mn_mm6, mn_and, mn_or, mn_an, mn_shl, mn_shr, mn_div, mn_rem, mn_clamp, mn_in, mn_inm, mn_nz, mn_zo, mn_min, mn_max, mn_abs, mn_rfit, mn_cp, mn_les, mn_gre, mn_a127, mn_a15, mn_a1, mn_a255, mn_tn0, mn_tn0e, mn_tnr, mn_tnz, mr_get, mr_ne, mr_put, mu_ne, mu_eq, mj_bk_i, mj_bk_v, mj_bk_x, decide_eq_true_eq, decide_true, decide_false, Bool.false_eq_true, Bool.true_eq_false, reduceCtorEq, mt_le_t, mt_le_f, mt_lt_t, mt_lt_f, mt_eq_t, mt_eq_f, mt_ee, not_true_eq_false, not_false_eq_true, and_true, true_and, and_self, Nat.zero_add, Nat.add_zero, Nat.one_mul, Nat.mul_one, Nat.reduceAdd, Nat.reduceMul, Nat.reduceSub, Nat.reducePow, Nat.reduceDiv, Nat.reduceMod, ↓reduceIte, e1, p1, s1, e2, p2, s2, Bool.toNat_true, e3, s3]
          · intro D s f hD hf h
            obtain ⟨d, rfl⟩ : ∃ d, D = d + 8 := ⟨D - 8, by omega⟩
            obtain ⟨t1, e1, h1, f1⟩ := m198 (X := X) (D := d + 7) (f := f) (by omega) h
            obtain ⟨t2, e2, h2, f2⟩ := m198 (X := X) (D := d + 7) (f := f) (by omega) h1
            obtain ⟨t3, e3, h3, f3⟩ := m198 (X := X) (D := d + 7) (f := f) (by omega) h2
            have p1 := m220 (X := X) (D := d + 7) (f := f) (by omega) h1 hN8 q1
            have p2 := m220 (X := X) (D := d + 7) (f := f) (by omega) h2 hN8 q3
            have k1 := (h1.2.2.1.2.1 _ v1).2.2.2
            have k2 := (h2.2.2.1.2.1 _ v2).2.2.2
            rw [mo1] at k1
            rw [mo2] at k2
            have b1 := h1.2.1
            have b2 := h2.2.1
            refine ⟨_, ?_, YR_49 hN8 h3 v18 v28 qn, fT_p (fT_p (fT_R (fT_R (fT_R fT_refl f1) f2) f3) (by unfold tA; omega)) (by unfold tA; omega)⟩
            have r49 := mw_r_49
            simp (disch := first | assumption | exact hf _ | omega) only [b219, b219_0, b219_4, b219_8, b219_16, b219_29, b219_34, b219_41, b219_45, b219_49, b219_57, b219_62, b219_75, b219_80, b219_87, b219_88, b219_92, nI_add, mn_mul, mn_sub, mn_m1, mn_m8, mn_eq, mn_lt, mn_le, mn_eq0, mn_0eq, mn_lt0, mn_0lt, mn_le0, mn_0le, mn_eqm, mn_meq, mn_ltm, mn_mlt, mn_lem, mn_mle, mn_mm1, mn_mm2, mn_mm3, mn_mm4, mn_mm5, mn_mm6, mn_and, mn_or, mn_an, mn_shl, mn_shr, mn_div, mn_rem, mn_clamp, mn_in, mn_inm, mn_nz, mn_zo, mn_min, mn_max, mn_abs, mn_rfit, mn_cp, mn_les, mn_gre, mn_a127, mn_a15, mn_a1, mn_a255, mn_tn0, mn_tn0e, mn_tnr, mn_tnz, mr_get, mr_ne, mr_put, mu_ne, mu_eq, mj_bk_i, mj_bk_v, mj_bk_x, decide_eq_true_eq, decide_true, decide_false, Bool.false_eq_true, Bool.true_eq_false, reduceCtorEq, mt_le_t, mt_le_f, mt_lt_t, mt_lt_f, mt_eq_t, mt_eq_f, mt_ee, not_true_eq_false, not_false_eq_true, and_true, true_and, and_self, Nat.zero_add, Nat.add_zero, Nat.one_mul, Nat.mul_one, Nat.reduceAdd, Nat.reduceMul, Nat.reduceSub, Nat.reducePow, Nat.reduceDiv, Nat.reduceMod, ↓reduceIte, mp_h, mp_w, mp_c, mp_s, mp_d, mp_n, mp_54, mp_52, mp_55, mp_l, mp_o, mp_42, mp_45, gh_gp, gw_gp, gc_gp, mw_pne, Nat.or_zero, e1, p1, b1, k1, e2, p2, b2, qn, k2, e3, mp_wo]
        · have hcm : fcm σ.1 (nmv tp n (te tp n a)) (nmv tp n (te tp n (te tp n a))) = false := by rw [hcm]; exact decide_eq_false q4
          refine Or.inr ⟨4, tb tp n (te tp n (te tp n a)), by omega, by omega, tb_le l2, ?_, ?_⟩
          · intro D s hD h
            obtain ⟨d, rfl⟩ : ∃ d, D = d + 8 := ⟨D - 8, by omega⟩
            obtain ⟨t1, e1, h1, f1⟩ := l131 (X := X) (D := d + 7) (by omega) h
            obtain ⟨t2, e2, h2, f2⟩ := l131 (X := X) (D := d + 7) (by omega) h1
            refine ⟨_, ?_, l22.1, l22.2, fL_trans f1 (fL_trans f2 fL_22)⟩
            have p1 := l95 (X := X) (D := d + 7) (by omega) h1 hg q1
            have p2 := l95 (X := X) (D := d + 7) (by omega) h2 hg q3
            have s1 := r55 (X := X) (d := d + 6) mw_c_25 h1.2.1 hg v18
            have s2 := r63 (X := X) (d := d + 4) mw_c_25 h2.2.1 hg v18 v28
            have s3 := l92 (X := X) (D := d + 7) (by omega) h2 (k := 4)
            rw [mo1] at s1
            rw [hcm] at s2
            simp (disch := first | assumption | exact hf _ | omega) only [b94, b94_0, b94_7, b94_11, b94_17, b94_19, b94_27, b94_31, b94_36, b94_37, b94_44, b94_48, b94_54, b94_56, b94_65, b94_68, b94_73, b94_74, b94_81, b94_90, nI_add, mn_mul, mn_sub, mn_m1, mn_m8, mn_eq, mn_lt, mn_le, mn_eq0, mn_0eq, mn_lt0, mn_0lt, mn_le0, mn_0le, mn_eqm, mn_meq, mn_ltm, mn_mlt, mn_lem, mn_mle, mn_mm1, mn_mm2, mn_mm3, mn_mm4, mn_mm5, mn_mm6, mn_and, mn_or, mn_an, mn_shl, mn_shr, mn_div, mn_rem, mn_clamp, mn_in, mn_inm, mn_nz, mn_zo, mn_min, mn_max, mn_abs, mn_rfit, mn_cp, mn_les, mn_gre, mn_a127, mn_a15, mn_a1, mn_a255, mn_tn0, mn_tn0e, mn_tnr, mn_tnz, mr_get, mr_ne, mr_put, mu_ne, mu_eq, mj_bk_i, mj_bk_v, mj_bk_x, decide_eq_true_eq, decide_true, decide_false, Bool.false_eq_true, Bool.true_eq_false, reduceCtorEq, mt_le_t, mt_le_f, mt_lt_t, mt_lt_f, mt_eq_t, mt_eq_f, mt_ee, not_true_eq_false, not_false_eq_true, and_true, true_and, and_self, Nat.zero_add, Nat.add_zero, Nat.one_mul, Nat.mul_one, Nat.reduceAdd, Nat.reduceMul, Nat.reduceSub, Nat.reducePow, Nat.reduceDiv, Nat.reduceMod, ↓reduceIte, e1, p1, s1, e2, p2, s2, Bool.toNat_false, s3, z0]
          · intro D s f hD hf h
            obtain ⟨d, rfl⟩ : ∃ d, D = d + 8 := ⟨D - 8, by omega⟩
            obtain ⟨t1, e1, h1, f1⟩ := m198 (X := X) (D := d + 7) (f := f) (by omega) h
            obtain ⟨t2, e2, h2, f2⟩ := m198 (X := X) (D := d + 7) (f := f) (by omega) h1
            have p1 := m220 (X := X) (D := d + 7) (f := f) (by omega) h1 hN8 q1
            have p2 := m220 (X := X) (D := d + 7) (f := f) (by omega) h2 hN8 q3
            have k1 := (h1.2.2.1.2.1 _ v1).2.2.2
            have k2 := (h2.2.2.1.2.1 _ v2).2.2.2
            rw [mo1] at k1
            have b1 := h1.2.1
            have b2 := h2.2.1
            have e6 := m206 (X := X) (D := d + 7) (f := f) h2.1 h2.2.1 (k := 4)
            refine ⟨_, ?_, m42.1, m42.2, fT_22 (fT_R (fT_R fT_refl f1) f2)⟩
            by_cases q5 : nmv tp n (te tp n a) = nmv tp n (te tp n (te tp n a))
            · rw [q5] at p1 k1
              simp (disch := first | assumption | exact hf _ | omega) only [b219, b219_0, b219_4, b219_8, b219_16, b219_29, b219_34, b219_41, b219_45, b219_49, b219_57, b219_62, b219_75, b219_80, b219_87, b219_88, b219_92, nI_add, mn_mul, mn_sub, mn_m1, mn_m8, mn_eq, mn_lt, mn_le, mn_eq0, mn_0eq, mn_lt0, mn_0lt, mn_le0, mn_0le, mn_eqm, mn_meq, mn_ltm, mn_mlt, mn_lem, mn_mle, mn_mm1, mn_mm2, mn_mm3, mn_mm4, mn_mm5, mn_mm6, mn_and, mn_or, mn_an, mn_shl, mn_shr, mn_div, mn_rem, mn_clamp, mn_in, mn_inm, mn_nz, mn_zo, mn_min, mn_max, mn_abs, mn_rfit, mn_cp, mn_les, mn_gre, mn_a127, mn_a15, mn_a1, mn_a255, mn_tn0, mn_tn0e, mn_tnr, mn_tnz, mr_get, mr_ne, mr_put, mu_ne, mu_eq, mj_bk_i, mj_bk_v, mj_bk_x, decide_eq_true_eq, decide_true, decide_false, Bool.false_eq_true, Bool.true_eq_false, reduceCtorEq, mt_le_t, mt_le_f, mt_lt_t, mt_lt_f, mt_eq_t, mt_eq_f, mt_ee, not_true_eq_false, not_false_eq_true, and_true, true_and, and_self, Nat.zero_add, Nat.add_zero, Nat.one_mul, Nat.mul_one, Nat.reduceAdd, Nat.reduceMul, Nat.reduceSub, Nat.reducePow, Nat.reduceDiv, Nat.reduceMod, ↓reduceIte, mp_h, mp_w, mp_c, mp_s, mp_d, mp_n, mp_54, mp_52, mp_55, mp_l, mp_o, mp_42, mp_45, gh_gp, gw_gp, gc_gp, mw_pne, Nat.or_zero, e1, p1, b1, k1, e2, p2, b2, e6, m42.1]
            · have q6 : ¬ fs σ.1 (nmv tp n (te tp n (te tp n a))) = none := fun z => q4 ⟨q5, z⟩
              obtain ⟨w, x1, x2⟩ := mo_ne hG.1 v28 q6
              rw [x1] at k2
              simp (disch := first | assumption | exact hf _ | omega) only [b219, b219_0, b219_4, b219_8, b219_16, b219_29, b219_34, b219_41, b219_45, b219_49, b219_57, b219_62, b219_75, b219_80, b219_87, b219_88, b219_92, nI_add, mn_mul, mn_sub, mn_m1, mn_m8, mn_eq, mn_lt, mn_le, mn_eq0, mn_0eq, mn_lt0, mn_0lt, mn_le0, mn_0le, mn_eqm, mn_meq, mn_ltm, mn_mlt, mn_lem, mn_mle, mn_mm1, mn_mm2, mn_mm3, mn_mm4, mn_mm5, mn_mm6, mn_and, mn_or, mn_an, mn_shl, mn_shr, mn_div, mn_rem, mn_clamp, mn_in, mn_inm, mn_nz, mn_zo, mn_min, mn_max, mn_abs, mn_rfit, mn_cp, mn_les, mn_gre, mn_a127, mn_a15, mn_a1, mn_a255, mn_tn0, mn_tn0e, mn_tnr, mn_tnz, mr_get, mr_ne, mr_put, mu_ne, mu_eq, mj_bk_i, mj_bk_v, mj_bk_x, decide_eq_true_eq, decide_true, decide_false, Bool.false_eq_true, Bool.true_eq_false, reduceCtorEq, mt_le_t, mt_le_f, mt_lt_t, mt_lt_f, mt_eq_t, mt_eq_f, mt_ee, not_true_eq_false, not_false_eq_true, and_true, true_and, and_self, Nat.zero_add, Nat.add_zero, Nat.one_mul, Nat.mul_one, Nat.reduceAdd, Nat.reduceMul, Nat.reduceSub, Nat.reducePow, Nat.reduceDiv, Nat.reduceMod, ↓reduceIte, mp_h, mp_w, mp_c, mp_s, mp_d, mp_n, mp_54, mp_52, mp_55, mp_l, mp_o, mp_42, mp_45, gh_gp, gw_gp, gc_gp, mw_pne, Nat.or_zero, e1, p1, b1, k1, e2, p2, b2, q5, k2, e6, m42.1]
      · have k0 : 0 < pfl tp n (te tp n (te tp n a)) (σ.1 55) := by omega
        have k1 := pfl_lt (tp := tp) (n := n) (a := te tp n (te tp n a)) (N := σ.1 55)
        refine Or.inr ⟨_, _, k0, k1, tb_le (tp := tp) (n := n) (a := te tp n (te tp n a)) l2, ?_, ?_⟩
        · intro D s hD h
          obtain ⟨d, rfl⟩ : ∃ d, D = d + 8 := ⟨D - 8, by omega⟩
          obtain ⟨t1, e1, h1, f1⟩ := l131 (X := X) (D := d + 7) (by omega) h
          obtain ⟨t2, e2, h2, f2⟩ := l131 (X := X) (D := d + 7) (by omega) h1
          refine ⟨_, ?_, l22.1, l22.2, fL_trans f1 (fL_trans f2 fL_22)⟩
          have p1 := l95 (X := X) (D := d + 7) (by omega) h1 hg q1
          have p2 := l95f (X := X) (D := d + 7) (by omega) h2 hg q3
          have s1 := r55 (X := X) (d := d + 6) mw_c_25 h1.2.1 hg v18
          rw [mo1] at s1
          simp (disch := first | assumption | exact hf _ | omega) only [b94, b94_0, b94_7, b94_11, b94_17, b94_19, b94_27, b94_31, b94_36, b94_37, b94_44, b94_48, b94_54, b94_56, b94_65, b94_68, b94_73, b94_74, b94_81, b94_90, nI_add, mn_mul, mn_sub, mn_m1, mn_m8, mn_eq, mn_lt, mn_le, mn_eq0, mn_0eq, mn_lt0, mn_0lt, mn_le0, mn_0le, mn_eqm, mn_meq, mn_ltm, mn_mlt, mn_lem, mn_mle, mn_mm1, mn_mm2, mn_mm3, mn_mm4, mn_mm5, mn_mm6, mn_and, mn_or, mn_an, mn_shl, mn_shr, mn_div, mn_rem, mn_clamp, mn_in, mn_inm, mn_nz, mn_zo, mn_min, mn_max, mn_abs, mn_rfit, mn_cp, mn_les, mn_gre, mn_a127, mn_a15, mn_a1, mn_a255, mn_tn0, mn_tn0e, mn_tnr, mn_tnz, mr_get, mr_ne, mr_put, mu_ne, mu_eq, mj_bk_i, mj_bk_v, mj_bk_x, decide_eq_true_eq, decide_true, decide_false, Bool.false_eq_true, Bool.true_eq_false, reduceCtorEq, mt_le_t, mt_le_f, mt_lt_t, mt_lt_f, mt_eq_t, mt_eq_f, mt_ee, not_true_eq_false, not_false_eq_true, and_true, true_and, and_self, Nat.zero_add, Nat.add_zero, Nat.one_mul, Nat.mul_one, Nat.reduceAdd, Nat.reduceMul, Nat.reduceSub, Nat.reducePow, Nat.reduceDiv, Nat.reduceMod, ↓reduceIte, e1, p1, s1, e2, p2]
        · intro D s f hD hf h
          obtain ⟨d, rfl⟩ : ∃ d, D = d + 8 := ⟨D - 8, by omega⟩
          obtain ⟨t1, e1, h1, f1⟩ := m198 (X := X) (D := d + 7) (f := f) (by omega) h
          obtain ⟨t2, e2, h2, f2⟩ := m198 (X := X) (D := d + 7) (f := f) (by omega) h1
          have p1 := m220 (X := X) (D := d + 7) (f := f) (by omega) h1 hN8 q1
          have p2 := m220f (X := X) (D := d + 7) (f := f) (by omega) h2 hN8 q3
          have k1 := (h1.2.2.1.2.1 _ v1).2.2.2
          rw [mo1] at k1
          have b1 := h1.2.1
          have n0 : ¬ pfl tp n (te tp n (te tp n a)) (σ.1 55) = 0 := q3
          refine ⟨_, ?_, m42.1, m42.2, fT_22 (fT_R (fT_R fT_refl f1) f2)⟩
          simp (disch := first | assumption | exact hf _ | omega) only [b219, b219_0, b219_4, b219_8, b219_16, b219_29, b219_34, b219_41, b219_45, b219_49, b219_57, b219_62, b219_75, b219_80, b219_87, b219_88, b219_92, nI_add, mn_mul, mn_sub, mn_m1, mn_m8, mn_eq, mn_lt, mn_le, mn_eq0, mn_0eq, mn_lt0, mn_0lt, mn_le0, mn_0le, mn_eqm, mn_meq, mn_ltm, mn_mlt, mn_lem, mn_mle, mn_mm1, mn_mm2, mn_mm3, mn_mm4, mn_mm5, mn_mm6, mn_and, mn_or, mn_an, mn_shl, mn_shr, mn_div, mn_rem, mn_clamp, mn_in, mn_inm, mn_nz, mn_zo, mn_min, mn_max, mn_abs, mn_rfit, mn_cp, mn_les, mn_gre, mn_a127, mn_a15, mn_a1, mn_a255, mn_tn0, mn_tn0e, mn_tnr, mn_tnz, mr_get, mr_ne, mr_put, mu_ne, mu_eq, mj_bk_i, mj_bk_v, mj_bk_x, decide_eq_true_eq, decide_true, decide_false, Bool.false_eq_true, Bool.true_eq_false, reduceCtorEq, mt_le_t, mt_le_f, mt_lt_t, mt_lt_f, mt_eq_t, mt_eq_f, mt_ee, not_true_eq_false, not_false_eq_true, and_true, true_and, and_self, Nat.zero_add, Nat.add_zero, Nat.one_mul, Nat.mul_one, Nat.reduceAdd, Nat.reduceMul, Nat.reduceSub, Nat.reducePow, Nat.reduceDiv, Nat.reduceMod, ↓reduceIte, mp_h, mp_w, mp_c, mp_s, mp_d, mp_n, mp_54, mp_52, mp_55, mp_l, mp_o, mp_42, mp_45, gh_gp, gw_gp, gc_gp, mw_pne, Nat.or_zero, e1, p1, b1, k1, e2, p2, m42.1, n0]
    · refine Or.inr ⟨4, tb tp n (te tp n a), by omega, by omega, tb_le l1, ?_, ?_⟩
      · intro D s hD h
        obtain ⟨d, rfl⟩ : ∃ d, D = d + 8 := ⟨D - 8, by omega⟩
        obtain ⟨t1, e1, h1, f1⟩ := l131 (X := X) (D := d + 7) (by omega) h
        refine ⟨_, ?_, l22.1, l22.2, fL_trans f1 fL_22⟩
        have p1 := l95 (X := X) (D := d + 7) (by omega) h1 hg q1
        have s1 := r55 (X := X) (d := d + 6) mw_c_25 h1.2.1 hg v18
        have s3 := l92 (X := X) (D := d + 7) (by omega) h1 (k := 4)
        obtain ⟨w, x1, x2⟩ := mo_ne hG.1 v18 q2
        rw [x1] at s1
        simp (disch := first | assumption | exact hf _ | omega) only [b94, b94_0, b94_7, b94_11, b94_17, b94_19, b94_27, b94_31, b94_36, b94_37, b94_44, b94_48, b94_54, b94_56, b94_65, b94_68, b94_73, b94_74, b94_81, b94_90, nI_add, mn_mul, mn_sub, mn_m1, mn_m8, mn_eq, mn_lt, mn_le, mn_eq0, mn_0eq, mn_lt0, mn_0lt, mn_le0, mn_0le, mn_eqm, mn_meq, mn_ltm, mn_mlt, mn_lem, mn_mle, mn_mm1, mn_mm2, mn_mm3, mn_mm4, mn_mm5, mn_mm6, mn_and, mn_or, mn_an, mn_shl, mn_shr, mn_div, mn_rem, mn_clamp, mn_in, mn_inm, mn_nz, mn_zo, mn_min, mn_max, mn_abs, mn_rfit, mn_cp, mn_les, mn_gre, mn_a127, mn_a15, mn_a1, mn_a255, mn_tn0, mn_tn0e, mn_tnr, mn_tnz, mr_get, mr_ne, mr_put, mu_ne, mu_eq, mj_bk_i, mj_bk_v, mj_bk_x, decide_eq_true_eq, decide_true, decide_false, Bool.false_eq_true, Bool.true_eq_false, reduceCtorEq, mt_le_t, mt_le_f, mt_lt_t, mt_lt_f, mt_eq_t, mt_eq_f, mt_ee, not_true_eq_false, not_false_eq_true, and_true, true_and, and_self, Nat.zero_add, Nat.add_zero, Nat.one_mul, Nat.mul_one, Nat.reduceAdd, Nat.reduceMul, Nat.reduceSub, Nat.reducePow, Nat.reduceDiv, Nat.reduceMod, ↓reduceIte, e1, p1, s1, s3, z0]
      · intro D s f hD hf h
        obtain ⟨d, rfl⟩ : ∃ d, D = d + 8 := ⟨D - 8, by omega⟩
        obtain ⟨t1, e1, h1, f1⟩ := m198 (X := X) (D := d + 7) (f := f) (by omega) h
        have p1 := m220 (X := X) (D := d + 7) (f := f) (by omega) h1 hN8 q1
        have k1 := (h1.2.2.1.2.1 _ v1).2.2.2
        obtain ⟨w, x1, x2⟩ := mo_ne hG.1 v18 q2
        rw [x1] at k1
        have b1 := h1.2.1
        have e6 := m206 (X := X) (D := d + 7) (f := f) h1.1 h1.2.1 (k := 4)
        have e7 := m220b (X := X) (D := d + 7) (f := f) (s := mw_p (mw_p t1 42 22 (nI 4)) 42 23 (nI (tb tp n (te tp n a)))) (by omega) m42.1 (by decide) (by decide)
        refine ⟨_, ?_, m42.1, m42.2, fT_22 (fT_R fT_refl f1)⟩
        simp (disch := first | assumption | exact hf _ | omega) only [b219, b219_0, b219_4, b219_8, b219_16, b219_29, b219_34, b219_41, b219_45, b219_49, b219_57, b219_62, b219_75, b219_80, b219_87, b219_88, b219_92, nI_add, mn_mul, mn_sub, mn_m1, mn_m8, mn_eq, mn_lt, mn_le, mn_eq0, mn_0eq, mn_lt0, mn_0lt, mn_le0, mn_0le, mn_eqm, mn_meq, mn_ltm, mn_mlt, mn_lem, mn_mle, mn_mm1, mn_mm2, mn_mm3, mn_mm4, mn_mm5, mn_mm6, mn_and, mn_or, mn_an, mn_shl, mn_shr, mn_div, mn_rem, mn_clamp, mn_in, mn_inm, mn_nz, mn_zo, mn_min, mn_max, mn_abs, mn_rfit, mn_cp, mn_les, mn_gre, mn_a127, mn_a15, mn_a1, mn_a255, mn_tn0, mn_tn0e, mn_tnr, mn_tnz, mr_get, mr_ne, mr_put, mu_ne, mu_eq, mj_bk_i, mj_bk_v, mj_bk_x, decide_eq_true_eq, decide_true, decide_false, Bool.false_eq_true, Bool.true_eq_false, reduceCtorEq, mt_le_t, mt_le_f, mt_lt_t, mt_lt_f, mt_eq_t, mt_eq_f, mt_ee, not_true_eq_false, not_false_eq_true, and_true, true_and, and_self, Nat.zero_add, Nat.add_zero, Nat.one_mul, Nat.mul_one, Nat.reduceAdd, Nat.reduceMul, Nat.reduceSub, Nat.reducePow, Nat.reduceDiv, Nat.reduceMod, ↓reduceIte, mp_h, mp_w, mp_c, mp_s, mp_d, mp_n, mp_54, mp_52, mp_55, mp_l, mp_o, mp_42, mp_45, gh_gp, gw_gp, gc_gp, mw_pne, Nat.or_zero, e1, p1, b1, k1, e6, m42.1, e7]
  · have k0 : 0 < pfl tp n (te tp n a) (σ.1 55) := by omega
    have k1 := pfl_lt (tp := tp) (n := n) (a := te tp n a) (N := σ.1 55)
    refine Or.inr ⟨_, _, k0, k1, tb_le (tp := tp) (n := n) (a := te tp n a) l1, ?_, ?_⟩
    · intro D s hD h
      obtain ⟨d, rfl⟩ : ∃ d, D = d + 8 := ⟨D - 8, by omega⟩
      obtain ⟨t1, e1, h1, f1⟩ := l131 (X := X) (D := d + 7) (by omega) h
      refine ⟨_, ?_, l22.1, l22.2, fL_trans f1 fL_22⟩
      have p1 := l95f (X := X) (D := d + 7) (by omega) h1 hg q1
      simp (disch := first | assumption | exact hf _ | omega) only [b94, b94_0, b94_7, b94_11, b94_17, b94_19, b94_27, b94_31, b94_36, b94_37, b94_44, b94_48, b94_54, b94_56, b94_65, b94_68, b94_73, b94_74, b94_81, b94_90, nI_add, mn_mul, mn_sub, mn_m1, mn_m8, mn_eq, mn_lt, mn_le, mn_eq0, mn_0eq, mn_lt0, mn_0lt, mn_le0, mn_0le, mn_eqm, mn_meq, mn_ltm, mn_mlt, mn_lem, mn_mle, mn_mm1, mn_mm2, mn_mm3, mn_mm4, mn_mm5, mn_mm6, mn_and, mn_or, mn_an, mn_shl, mn_shr, mn_div, mn_rem, mn_clamp, mn_in, mn_inm, mn_nz, mn_zo, mn_min, mn_max, mn_abs, mn_rfit, mn_cp, mn_les, mn_gre, mn_a127, mn_a15, mn_a1, mn_a255, mn_tn0, mn_tn0e, mn_tnr, mn_tnz, mr_get, mr_ne, mr_put, mu_ne, mu_eq, mj_bk_i, mj_bk_v, mj_bk_x, decide_eq_true_eq, decide_true, decide_false, Bool.false_eq_true, Bool.true_eq_false, reduceCtorEq, mt_le_t, mt_le_f, mt_lt_t, mt_lt_f, mt_eq_t, mt_eq_f, mt_ee, not_true_eq_false, not_false_eq_true, and_true, true_and, and_self, Nat.zero_add, Nat.add_zero, Nat.one_mul, Nat.mul_one, Nat.reduceAdd, Nat.reduceMul, Nat.reduceSub, Nat.reducePow, Nat.reduceDiv, Nat.reduceMod, ↓reduceIte, e1, p1]
    · intro D s f hD hf h
      obtain ⟨d, rfl⟩ : ∃ d, D = d + 8 := ⟨D - 8, by omega⟩
      obtain ⟨t1, e1, h1, f1⟩ := m198 (X := X) (D := d + 7) (f := f) (by omega) h
      have p1 := m220f (X := X) (D := d + 7) (f := f) (by omega) h1 hN8 q1
      have e7 := m220b (X := X) (D := d + 7) (f := f) (s := mw_p (mw_p t1 42 22 (nI (pfl tp n (te tp n a) (σ.1 55)))) 42 23 (nI (tb tp n (te tp n a)))) (by omega) m42.1 k0 k1
      have n0 : ¬ pfl tp n (te tp n a) (σ.1 55) = 0 := q1
      refine ⟨_, ?_, m42.1, m42.2, fT_22 (fT_R fT_refl f1)⟩
      simp (disch := first | assumption | exact hf _ | omega) only [b219, b219_0, b219_4, b219_8, b219_16, b219_29, b219_34, b219_41, b219_45, b219_49, b219_57, b219_62, b219_75, b219_80, b219_87, b219_88, b219_92, nI_add, mn_mul, mn_sub, mn_m1, mn_m8, mn_eq, mn_lt, mn_le, mn_eq0, mn_0eq, mn_lt0, mn_0lt, mn_le0, mn_0le, mn_eqm, mn_meq, mn_ltm, mn_mlt, mn_lem, mn_mle, mn_mm1, mn_mm2, mn_mm3, mn_mm4, mn_mm5, mn_mm6, mn_and, mn_or, mn_an, mn_shl, mn_shr, mn_div, mn_rem, mn_clamp, mn_in, mn_inm, mn_nz, mn_zo, mn_min, mn_max, mn_abs, mn_rfit, mn_cp, mn_les, mn_gre, mn_a127, mn_a15, mn_a1, mn_a255, mn_tn0, mn_tn0e, mn_tnr, mn_tnz, mr_get, mr_ne, mr_put, mu_ne, mu_eq, mj_bk_i, mj_bk_v, mj_bk_x, decide_eq_true_eq, decide_true, decide_false, Bool.false_eq_true, Bool.true_eq_false, reduceCtorEq, mt_le_t, mt_le_f, mt_lt_t, mt_lt_f, mt_eq_t, mt_eq_f, mt_ee, not_true_eq_false, not_false_eq_true, and_true, true_and, and_self, Nat.zero_add, Nat.add_zero, Nat.one_mul, Nat.mul_one, Nat.reduceAdd, Nat.reduceMul, Nat.reduceSub, Nat.reducePow, Nat.reduceDiv, Nat.reduceMod, ↓reduceIte, mp_h, mp_w, mp_c, mp_s, mp_d, mp_n, mp_54, mp_52, mp_55, mp_l, mp_o, mp_42, mp_45, gh_gp, gw_gp, gc_gp, mw_pne, Nat.or_zero, e1, p1, m42.1, n0, e7]
end
