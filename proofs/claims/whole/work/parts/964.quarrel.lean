/-! a line that tells a QUARREL -/
section
variable {X : mj_X} {d : Nat} {s t t1 t2 t3 t4 t5 : mw_S} {f g : Nat → Nat} {tp : Nat → Nat} {n a : Nat} {σ : YS}
theorem gh_fb {p q h w : Nat} (hp : p < 8) (hq : q < 8) (hn : ¬ p = q) (hh : h < 128) (hw : w < 16) {k : Nat} (hk : k < 64) : gh (fb g (fp p q) h w) k = (if k = gp p q then h else gh g k) ∧ gw (fb g (fp p q) h w) k = (if k = gp p q then w else gw g k) := by
  have hi := fp_lt hp hq hn
  obtain ⟨d1, d2⟩ := gp_d hp hq
  by_cases c : k / 8 < k % 8
  · have hk8 := Nat.mod_lt k (show 8 > 0 by decide)
    have hp2 := fp_lt (p := k / 8) (q := k % 8) (by omega) hk8 (by omega)
    unfold gh gw
    rw [if_pos c, if_pos c, if_pos c, if_pos c]
    unfold fh fw
    rw [fb_j hi (by omega)]
    have iff := gp_fp hk hp hq hn c
    by_cases z : k = gp p q
    · rw [if_pos (show 24 + fp (k / 8) (k % 8) = 24 + fp p q by rw [iff.mpr z]), if_pos z, if_pos z]
      omega
    · rw [if_neg (show ¬ 24 + fp (k / 8) (k % 8) = 24 + fp p q from fun y => z (iff.mp (by omega))), if_neg z, if_neg z]
      exact ⟨rfl, rfl⟩
  · have z : ¬ k = gp p q := fun z => c (by rw [z, d1, d2]; omega)
    unfold gh gw
    rw [if_neg c, if_neg c, if_neg c, if_neg c, if_neg z, if_neg z]
    exact ⟨rfl, rfl⟩
theorem tRL_fb (hN : g 55 ≤ 8) (h : tRL s g) {p q v w : Nat} (hp : p < 8) (hq : q < 8) (hn : ¬ p = q) (hv : v < 128) (hw : w < 16) (e : ∀ c, 45 ≤ c → c ≤ 49 → t.1 c = s.1 c) (e50 : ∀ j, t.1 50 j = if j = 64 + gp p q then nI v else s.1 50 j) (e51 : ∀ j, t.1 51 j = if j = 64 + gp p q then nI w else s.1 51 j) : tRL t (fb g (fp p q) v w) := by
  obtain ⟨h1, h2, h3, h4⟩ := h
  have hi := fp_lt hp hq hn
  have o : ∀ j, j < 56 → ¬ j = 24 + fp p q → fb g (fp p q) v w j = g j := fun j hj hj2 => by rw [fb_j hi hj, if_neg hj2]
  have es : ∀ r, r < 8 → fs (fb g (fp p q) v w) r = fs g r := fun r hr => by
    unfold fs
    rw [o (16 + r) (by omega) (by omega)]
  refine ⟨by rw [e 45 (by decide) (by decide), o 55 (by omega) (by omega)]; exact h1, ?_, ?_, ?_⟩
  · intro r hr
    rw [o 55 (by omega) (by omega)] at hr
    obtain ⟨k1, k2, k3, k4⟩ := h2 r hr
    have r8 : r < 8 := by omega
    rw [e 46 (by decide) (by decide), e 47 (by decide) (by decide), e 48 (by decide) (by decide), e 49 (by decide) (by decide), o 53 (by omega) (by omega), o r (by omega) (by omega), o (8 + r) (by omega) (by omega), es r r8]
    exact ⟨k1, k2, k3, k4⟩
  · intro k hk
    rw [e50, (gh_fb hp hq hn hv hw hk).1]
    by_cases z : k = gp p q
    · rw [if_pos (by omega), if_pos z]
    · rw [if_neg (by omega), if_neg z]; exact h3 k hk
  · intro k hk h0
    rw [(gh_fb hp hq hn hv hw hk).1] at h0
    rw [e51, (gh_fb hp hq hn hv hw hk).2]
    by_cases z : k = gp p q
    · rw [if_pos (by omega), if_pos z]
    · rw [if_neg z] at h0
      rw [if_neg (by omega), if_neg z]; exact h4 k hk h0
theorem m221 {p q : Nat} {v1 v2 : Int32} (hp : p < 8) (hq : q < 8) (hn : ¬ p = q) (e1 : mj_call X d 198 [.ref 42] (mw_U (mp s f)) = some (.inl none, mw_U (mp t1 f))) (p1 : mj_call X d 220 [.ref 42] (mw_U (mp t1 f)) = some (.inl (some (.int (nI p))), mw_U (mp t1 f))) (b1 : t1.1 42 22 = nI 0) (e2 : mj_call X d 198 [.ref 42] (mw_U (mp t1 f)) = some (.inl none, mw_U (mp t2 f))) (p2 : mj_call X d 220 [.ref 42] (mw_U (mp t2 f)) = some (.inl (some (.int (nI q))), mw_U (mp t2 f))) (b2 : t2.1 42 22 = nI 0) (k2 : t2.1 50 (64 + gp p q) = nI 0) (e3 : mj_call X d 198 [.ref 42] (mw_U (mp t2 f)) = some (.inl none, mw_U (mp t3 f))) (e4 : mj_call X d 214 [.ref 42, .int (nI 1), .int (nI 99)] (mw_U (mp t3 f)) = some (.inl (some (.int v1)), mw_U (mp t4 f))) (e5 : mj_call X d 214 [.ref 42, .int (nI 0), .int (nI 9)] (mw_U (mp (mw_p t4 50 (64 + gp p q) v1) f)) = some (.inl (some (.int v2)), mw_U (mp t5 f))) : mj_call X (d + 1) 221 [.ref 42] (mw_U (mp s f)) = some (.inl none, mw_U (mp (mw_p t5 51 (64 + gp p q) v2) f)) := by
  have hgp := gp_lt hp hq
  have r50 := mw_r_50; have r51 := mw_r_51
  simp (disch := first | assumption | exact hf _ | omega) only [b221, b221_0, b221_4, b221_8, b221_16, b221_20, b221_24, b221_32, b221_37, b221_48, b221_53, b221_58, b221_65, b221_66, b221_70, b221_81, b221_89, b221_101, b221_109, nI_add, mn_mul, mn_sub, mn_m1, mn_m8, mn_eq, mn_lt, mn_le, mn_eq0, mn_0eq, mn_lt0, mn_0lt, mn_le0, mn_0le, mn_eqm, mn_meq, mn_ltm, mn_mlt, mn_lem, mn_mle, mn_mm1, mn_mm2, mn_mm3, mn_mm4, mn_mm5, mn_mm6, mn_and, mn_or, mn_an, mn_shl, mn_shr, mn_div, mn_rem, mn_clamp, mn_in, mn_inm, mn_nz, mn_zo, mn_min, mn_max, mn_abs, mn_rfit, mn_cp, mn_les, mn_gre, mn_a127, mn_a15, mn_a1, mn_a255, mn_tn0, mn_tn0e, mn_tnr, mn_tnz, mr_get, mr_ne, mr_put, mu_ne, mu_eq, mj_bk_i, mj_bk_v, mj_bk_x, decide_eq_true_eq, decide_true, decide_false, Bool.false_eq_true, Bool.true_eq_false, reduceCtorEq, mt_le_t, mt_le_f, mt_lt_t, mt_lt_f, mt_eq_t, mt_eq_f, mt_ee, not_true_eq_false, not_false_eq_true, and_true, true_and, and_self, Nat.zero_add, Nat.add_zero, Nat.one_mul, Nat.mul_one, Nat.reduceAdd, Nat.reduceMul, Nat.reduceSub, Nat.reducePow, Nat.reduceDiv, Nat.reduceMod, ↓reduceIte, mp_h, mp_w, mp_c, mp_s, mp_d, mp_n, mp_54, mp_52, mp_55, mp_l, mp_o, mp_42, mp_45, gh_gp, gw_gp, gc_gp, mw_pne, Nat.or_zero, e1, p1, b1, e2, p2, b2, hn, c222, k2, e3, e4, mp_wo, e5]
theorem J_quarrel (ht : ¬ tkd tp n a = 0) : JL X 96 [] 221 [] 8 tp n a σ := by
  intro hW
  obtain ⟨han, hn, hG, hW3⟩ := hW
  have z0 : mj_rfit (some .boolean) (nI 0) = true := by decide
  have hg := wf_lt hG.1
  have hN8 := wf_n hG.1
  have a1 := te_lt ht
  have l1 := te_le (tp := tp) (n := n) (a := a) han
  have l2 := te_le (tp := tp) (n := n) (a := te tp n a) l1
  by_cases q1 : pfl tp n (te tp n a) (σ.1 55) = 0
  · obtain ⟨y1, v1⟩ := pfl_v q1
    have v18 : nmv tp n (te tp n a) < 8 := by omega
    have v1b : nmv tp n (te tp n a) < 2147483648 := by omega
    have a2 := te_lt (tp := tp) (n := n) (a := te tp n a) (by omega)
    by_cases q3 : pfl tp n (te tp n (te tp n a)) (σ.1 55) = 0
    · obtain ⟨y2, v2⟩ := pfl_v q3
      have v28 : nmv tp n (te tp n (te tp n a)) < 8 := by omega
      have v2b : nmv tp n (te tp n (te tp n a)) < 2147483648 := by omega
      have a3 := te_lt (tp := tp) (n := n) (a := te tp n (te tp n a)) (by omega)
      have l3 := te_le (tp := tp) (n := n) (a := te tp n (te tp n a)) l2
      generalize ep : nmv tp n (te tp n a) = p at *
      generalize eq : nmv tp n (te tp n (te tp n a)) = q at *
      generalize ea2 : te tp n (te tp n a) = b2 at *
      by_cases q4 : ¬ p = q ∧ fh σ.1 (fp p q) = 0
      · have qn := q4.1
        have hi := fp_lt v18 v28 qn
        have q0 : ¬ 0 < fh σ.1 (fp p q) := by omega
        by_cases q5 : nfl tp n (te tp n b2) 1 99 = 0
        · obtain ⟨y3, v3, v3'⟩ := nfl_v q5
          have a4 := te_lt (tp := tp) (n := n) (a := te tp n b2) (by omega)
          have l4 := te_le (tp := tp) (n := n) (a := te tp n b2) l3
          by_cases q6 : nfl tp n (te tp n (te tp n b2)) 0 9 = 0
          · obtain ⟨y4, v4, v4'⟩ := nfl_v q6
            have a5 := te_lt (tp := tp) (n := n) (a := te tp n (te tp n b2)) (by omega)
            have l5 := te_le (tp := tp) (n := n) (a := te tp n (te tp n b2)) l4
            generalize eh : nmv tp n (te tp n b2) = h at *
            generalize ew : nmv tp n (te tp n (te tp n b2)) = w at *
            refine Or.inl ⟨te tp n (te tp n (te tp n b2)), (fb σ.1 (fp p q) h w, σ.2), by omega, ⟨l5, hn, GI_fb hG v1 v2 qn v3 v3' v4', ?_⟩, rfl, ?_, ?_⟩
            · obtain ⟨x1, x2, x3, x4, x5⟩ := hW3
              exact ⟨by show σ.2.1.length ≤ _; omega, by show σ.2.2.1.length ≤ _; omega, by show σ.2.2.2.length ≤ _; omega, x4, x5⟩
            · intro D s hD hh
              obtain ⟨d, rfl⟩ : ∃ d, D = d + 8 := ⟨D - 8, by omega⟩
              obtain ⟨t1, e1, h1, f1⟩ := l131 (X := X) (D := d + 7) (by omega) hh
              obtain ⟨t2, e2, h2, f2⟩ := l131 (X := X) (D := d + 7) (by omega) h1
              rw [ea2] at h2
              obtain ⟨t3, e3, h3, f3⟩ := l131 (X := X) (D := d + 7) (by omega) h2
              obtain ⟨t4, e4, h4, f4⟩ := l93 (X := X) (D := d + 7) (by omega) h3 (by decide) (by decide) q5
              obtain ⟨t5, e5, h5, f5⟩ := l93 (X := X) (D := d + 7) (by omega) h4 (by decide) (by decide) q6
              refine ⟨_, ?_, YC_set h5, fL_trans (fL_trans f1 (fL_trans f2 (fL_trans f3 (fL_trans f4 f5)))) (mg_set mg_refl (by omega))⟩
              have p1 := l95 (X := X) (D := d + 7) (by omega) h1 hg q1
              have p2 := l95 (X := X) (D := d + 7) (by omega) h2 hg q3
              have s1 := c153 (X := X) (d := d + 7) (w := t2) v18 v28 qn
              have s2 := r36 (X := X) (d := d + 6) mw_c_25 h2.2.1 hg hi
              have s3 := r57 (X := X) (d := d + 7) mw_c_25 h5.2.1 hg hi (h := h) (w := w) (by omega)
              rw [ep] at p1
              rw [eq] at p2
              rw [eh] at e4
              rw [ew] at e5
              rw [decide_eq_false q0] at s2
              simp (disch := first | assumption | exact hf _ | omega) only [b96, b96_0, b96_7, b96_11, b96_17, b96_19, b96_26, b96_30, b96_36, b96_38, b96_43, b96_49, b96_57, b96_60, b96_65, b96_66, b96_73, b96_80, b96_88, b96_90, b96_97, b96_105, b96_107, b96_119, nI_add, mn_mul, mn_sub, mn_m1, mn_m8, mn_eq, mn_lt, mn_le, mn_eq0, mn_0eq, mn_lt0, mn_0lt, mn_le0, mn_0le, mn_eqm, mn_meq, mn_ltm, mn_mlt, mn_lem, mn_mle, mn_mm1, mn_mm2, mn_mm3, mn_mm4, mn_mm5, mn_mm6, mn_and, mn_or, mn_an, mn_shl, mn_shr, mn_div, mn_rem, mn_clamp, mn_in, mn_inm, mn_nz, mn_zo, mn_min, mn_max, mn_abs, mn_rfit, mn_cp, mn_les, mn_gre, mn_a127, mn_a15, mn_a1, mn_a255, mn_tn0, mn_tn0e, mn_tnr, mn_tnz, mr_get, mr_ne, mr_put, mu_ne, mu_eq, mj_bk_i, mj_bk_v, mj_bk_x, decide_eq_true_eq, decide_true, decide_false, Bool.false_eq_true, Bool.true_eq_false, reduceCtorEq, mt_le_t, mt_le_f, mt_lt_t, mt_lt_f, mt_eq_t, mt_eq_f, mt_ee, not_true_eq_false, not_false_eq_true, and_true, true_and, and_self, Nat.zero_add, Nat.add_zero, Nat.one_mul, Nat.mul_one, Nat.reduceAdd, Nat.reduceMul, Nat.reduceSub, Nat.reducePow, Nat.reduceDiv, Nat.reduceMod, ↓reduceIte, e1, p1, e2, p2, s1, s2, Bool.toNat_false, e3, e4, e5, s3]
            · intro D s f hD hf hh
              obtain ⟨d, rfl⟩ : ∃ d, D = d + 8 := ⟨D - 8, by omega⟩
              obtain ⟨t1, e1, h1, f1⟩ := m198 (X := X) (D := d + 7) (f := f) (by omega) hh
              obtain ⟨t2, e2, h2, f2⟩ := m198 (X := X) (D := d + 7) (f := f) (by omega) h1
              rw [ea2] at h2
              obtain ⟨t3, e3, h3, f3⟩ := m198 (X := X) (D := d + 7) (f := f) (by omega) h2
              obtain ⟨t4, e4, h4, f4⟩ := m214 (X := X) (D := d + 7) (f := f) (by omega) h3 (by decide) (by decide) q5
              obtain ⟨t5, e5, h5, f5⟩ := m214t (X := X) (D := d + 7) (f := f) (by omega) (TR_w (c := 50) (j := 64 + gp p q) (v := nI h) h4.1 (by decide) (by decide)) (by rw [mw_pne (by decide)]; exact h4.2.1) (by decide) (by decide) q6
              have p1 := m220 (X := X) (D := d + 7) (f := f) (by omega) h1 hN8 q1
              have p2 := m220 (X := X) (D := d + 7) (f := f) (by omega) h2 hN8 q3
              rw [ep] at p1
              rw [eq] at p2
              rw [eh] at e4
              rw [ew] at e5
              have k2 : t2.1 50 (64 + gp p q) = nI 0 := by
                rw [h2.2.2.1.2.2.1 _ (gp_lt v18 v28), gh_gp v18 v28]
                unfold fhp
                rw [if_neg qn, q4.2]
              have c5 : ∀ c, ¬ c = 42 → t5.1 c = (mw_p t4 50 (64 + gp p q) (nI h)).1 c := f5.2.1
              have cc : ∀ c j, ¬ c = 42 → ¬ c = 50 → (mw_p t5 51 (64 + gp p q) (nI w)).1 c j = if c = 51 ∧ j = 64 + gp p q then nI w else t4.1 c j := fun c j k1 k2 => by
                rw [mw_p1, c5 c k1, mw_pne k2]
              refine ⟨_, m221 v18 v28 qn e1 p1 h1.2.1 e2 p2 h2.2.1 k2 e3 e4 e5, ⟨TR_w h5 (by decide) (by decide), ?_, tRL_fb hN8 h4.2.2.1 v18 v28 qn (by omega) (by omega) ?_ ?_ ?_, LM_c h4.2.2.2.1 ?_ ?_, LM_c h4.2.2.2.2 ?_ ?_⟩, fT_p (fT_R (fT_p (fT_R (fT_R (fT_R (fT_R fT_refl f1) f2) f3) f4) (by unfold tA; omega)) f5) (by unfold tA; omega)⟩
              · rw [mw_pne (by decide)]
                exact fR_22 f5 (by rw [mw_pne (by decide)]; exact h4.2.1)
              · intro c k1 k2
                funext j
                rw [cc c j (by omega) (by omega), if_neg (by omega)]
              · intro j
                rw [mw_pne (by decide), c5 50 (by decide), mw_p1]
                by_cases z : j = 64 + gp p q
                · rw [if_pos ⟨rfl, z⟩, if_pos z]
                · rw [if_neg (fun y => z y.2), if_neg z]
              · intro j
                rw [cc 51 j (by decide) (by decide)]
                by_cases z : j = 64 + gp p q
                · rw [if_pos ⟨rfl, z⟩, if_pos z]
                · rw [if_neg (fun y => z y.2), if_neg z]
              · rw [cc 45 _ (by decide) (by decide), if_neg (fun z => absurd z.1 (by decide))]
              · funext j
                show (mw_p t5 51 (64 + gp p q) (nI w)).1 52 j = t4.1 52 j
                rw [cc 52 _ (by decide) (by decide), if_neg (fun z => absurd z.1 (by decide))]
              · rw [cc 45 _ (by decide) (by decide), if_neg (fun z => absurd z.1 (by decide))]
              · funext j
                show (mw_p t5 51 (64 + gp p q) (nI w)).1 53 j = t4.1 53 j
                rw [cc 53 _ (by decide) (by decide), if_neg (fun z => absurd z.1 (by decide))]
          · have k0 : 0 < nfl tp n (te tp n (te tp n b2)) 0 9 := by omega
            have k1 := nfl_lt (tp := tp) (n := n) (a := te tp n (te tp n b2)) (lo := 0) (hi := 9)
            generalize eh : nmv tp n (te tp n b2) = h at *
            refine Or.inr ⟨_, _, k0, k1, tb_le (tp := tp) (n := n) (a := te tp n (te tp n b2)) l4, ?_, ?_⟩
            · intro D s hD hh
              obtain ⟨d, rfl⟩ : ∃ d, D = d + 8 := ⟨D - 8, by omega⟩
              obtain ⟨t1, e1, h1, f1⟩ := l131 (X := X) (D := d + 7) (by omega) hh
              obtain ⟨t2, e2, h2, f2⟩ := l131 (X := X) (D := d + 7) (by omega) h1
              rw [ea2] at h2
              obtain ⟨t3, e3, h3, f3⟩ := l131 (X := X) (D := d + 7) (by omega) h2
              obtain ⟨t4, e4, h4, f4⟩ := l93 (X := X) (D := d + 7) (by omega) h3 (by decide) (by decide) q5
              have e5 := l93f (X := X) (D := d + 7) (by omega) h4 (by decide) (by decide) q6
              refine ⟨_, ?_, l22.1, l22.2, fL_trans (fL_trans f1 (fL_trans f2 (fL_trans f3 f4))) fL_22⟩
              have p1 := l95 (X := X) (D := d + 7) (by omega) h1 hg q1
              have p2 := l95 (X := X) (D := d + 7) (by omega) h2 hg q3
              have s1 := c153 (X := X) (d := d + 7) (w := t2) v18 v28 qn
              have s2 := r36 (X := X) (d := d + 6) mw_c_25 h2.2.1 hg hi
              rw [ep] at p1
              rw [eq] at p2
              rw [eh] at e4
              rw [decide_eq_false q0] at s2
              simp (disch := first | assumption | exact hf _ | omega) only [b96, b96_0, b96_7, b96_11, b96_17, b96_19, b96_26, b96_30, b96_36, b96_38, b96_43, b96_49, b96_57, b96_60, b96_65, b96_66, b96_73, b96_80, b96_88, b96_90, b96_97, b96_105, b96_107, b96_119, nI_add, mn_mul, mn_sub, mn_m1, mn_m8, mn_eq, mn_lt, mn_le, mn_eq0, mn_0eq, mn_lt0, mn_0lt, mn_le0, mn_0le, mn_eqm, mn_meq, mn_ltm, mn_mlt, mn_lem, mn_mle, mn_mm1, mn_mm2, mn_mm3, mn_mm4, mn_mm5, mn_mm6, mn_and, mn_or, mn_an, mn_shl, mn_shr, mn_div, mn_rem, mn_clamp, mn_in, mn_inm, mn_nz, mn_zo, mn_min, mn_max, mn_abs, mn_rfit, mn_cp, mn_les, mn_gre, mn_a127, mn_a15, mn_a1, mn_a255, mn_tn0, mn_tn0e, mn_tnr, mn_tnz, mr_get, mr_ne, mr_put, mu_ne, mu_eq, mj_bk_i, mj_bk_v, mj_bk_x, decide_eq_true_eq, decide_true, decide_false, Bool.false_eq_true, Bool.true_eq_false, reduceCtorEq, mt_le_t, mt_le_f, mt_lt_t, mt_lt_f, mt_eq_t, mt_eq_f, mt_ee, not_true_eq_false, not_false_eq_true, and_true, true_and, and_self, Nat.zero_add, Nat.add_zero, Nat.one_mul, Nat.mul_one, Nat.reduceAdd, Nat.reduceMul, Nat.reduceSub, Nat.reducePow, Nat.reduceDiv, Nat.reduceMod, ↓reduceIte, e1, p1, e2, p2, s1, s2, Bool.toNat_false, e3, e4, e5]
            · intro D s f hD hf hh
              obtain ⟨d, rfl⟩ : ∃ d, D = d + 8 := ⟨D - 8, by omega⟩
              obtain ⟨t1, e1, h1, f1⟩ := m198 (X := X) (D := d + 7) (f := f) (by omega) hh
              obtain ⟨t2, e2, h2, f2⟩ := m198 (X := X) (D := d + 7) (f := f) (by omega) h1
              rw [ea2] at h2
              obtain ⟨t3, e3, h3, f3⟩ := m198 (X := X) (D := d + 7) (f := f) (by omega) h2
              obtain ⟨t4, e4, h4, f4⟩ := m214 (X := X) (D := d + 7) (f := f) (by omega) h3 (by decide) (by decide) q5
              have e5 := m214f (X := X) (D := d + 7) (f := f) (by omega) (TR_w (c := 50) (j := 64 + gp p q) (v := nI h) h4.1 (by decide) (by decide)) (by rw [mw_pne (by decide)]; exact h4.2.1) (by decide) (by decide) q6
              have p1 := m220 (X := X) (D := d + 7) (f := f) (by omega) h1 hN8 q1
              have p2 := m220 (X := X) (D := d + 7) (f := f) (by omega) h2 hN8 q3
              rw [ep] at p1
              rw [eq] at p2
              rw [eh] at e4
              have k2 : t2.1 50 (64 + gp p q) = nI 0 := by
                rw [h2.2.2.1.2.2.1 _ (gp_lt v18 v28), gh_gp v18 v28]
                unfold fhp
                rw [if_neg qn, q4.2]
              refine ⟨_, m221 v18 v28 qn e1 p1 h1.2.1 e2 p2 h2.2.1 k2 e3 e4 e5, ?_, ?_, fT_p (fT_22 (fT_p (fT_R (fT_R (fT_R (fT_R fT_refl f1) f2) f3) f4) (by unfold tA; omega))) (by unfold tA; omega)⟩
              · rw [mw_pne (by decide)]; exact m42.1
              · rw [mw_pne (by decide)]; exact m42.2
        · have k0 : 0 < nfl tp n (te tp n b2) 1 99 := by omega
          have k1 := nfl_lt (tp := tp) (n := n) (a := te tp n b2) (lo := 1) (hi := 99)
          refine Or.inr ⟨_, _, k0, k1, tb_le (tp := tp) (n := n) (a := te tp n b2) l3, ?_, ?_⟩
          · intro D s hD hh
            obtain ⟨d, rfl⟩ : ∃ d, D = d + 8 := ⟨D - 8, by omega⟩
            obtain ⟨t1, e1, h1, f1⟩ := l131 (X := X) (D := d + 7) (by omega) hh
            obtain ⟨t2, e2, h2, f2⟩ := l131 (X := X) (D := d + 7) (by omega) h1
            rw [ea2] at h2
            obtain ⟨t3, e3, h3, f3⟩ := l131 (X := X) (D := d + 7) (by omega) h2
            have e4 := l93f (X := X) (D := d + 7) (by omega) h3 (by decide) (by decide) q5
            refine ⟨_, ?_, l22.1, l22.2, fL_trans (fL_trans f1 (fL_trans f2 f3)) fL_22⟩
            have p1 := l95 (X := X) (D := d + 7) (by omega) h1 hg q1
            have p2 := l95 (X := X) (D := d + 7) (by omega) h2 hg q3
            have s1 := c153 (X := X) (d := d + 7) (w := t2) v18 v28 qn
            have s2 := r36 (X := X) (d := d + 6) mw_c_25 h2.2.1 hg hi
            rw [ep] at p1
            rw [eq] at p2
            rw [decide_eq_false q0] at s2
            simp (disch := first | assumption | exact hf _ | omega) only [b96, b96_0, b96_7, b96_11, b96_17, b96_19, b96_26, b96_30, b96_36, b96_38, b96_43, b96_49, b96_57, b96_60, b96_65, b96_66, b96_73, b96_80, b96_88, b96_90, b96_97, b96_105, b96_107, b96_119, nI_add, mn_mul, mn_sub, mn_m1, mn_m8, mn_eq, mn_lt, mn_le, mn_eq0, mn_0eq, mn_lt0, mn_0lt, mn_le0, mn_0le, mn_eqm, mn_meq, mn_ltm, mn_mlt, mn_lem, mn_mle, mn_mm1, mn_mm2, mn_mm3, mn_mm4, mn_mm5, mn_mm6, mn_and, mn_or, mn_an, mn_shl, mn_shr, mn_div, mn_rem, mn_clamp, mn_in, mn_inm, mn_nz, mn_zo, mn_min, mn_max, mn_abs, mn_rfit, mn_cp, mn_les, mn_gre, mn_a127, mn_a15, mn_a1, mn_a255, mn_tn0, mn_tn0e, mn_tnr, mn_tnz, mr_get, mr_ne, mr_put, mu_ne, mu_eq, mj_bk_i, mj_bk_v, mj_bk_x, decide_eq_true_eq, decide_true, decide_false, Bool.false_eq_true, Bool.true_eq_false, reduceCtorEq, mt_le_t, mt_le_f, mt_lt_t, mt_lt_f, mt_eq_t, mt_eq_f, mt_ee, not_true_eq_false, not_false_eq_true, and_true, true_and, and_self, Nat.zero_add, Nat.add_zero, Nat.one_mul, Nat.mul_one, Nat.reduceAdd, Nat.reduceMul, Nat.reduceSub, Nat.reducePow, Nat.reduceDiv, Nat.reduceMod, ↓reduceIte, e1, p1, e2, p2, s1, s2, Bool.toNat_false, e3, e4]
          · intro D s f hD hf hh
            obtain ⟨d, rfl⟩ : ∃ d, D = d + 8 := ⟨D - 8, by omega⟩
            obtain ⟨t1, e1, h1, f1⟩ := m198 (X := X) (D := d + 7) (f := f) (by omega) hh
            obtain ⟨t2, e2, h2, f2⟩ := m198 (X := X) (D := d + 7) (f := f) (by omega) h1
            rw [ea2] at h2
            obtain ⟨t3, e3, h3, f3⟩ := m198 (X := X) (D := d + 7) (f := f) (by omega) h2
            have e4 := m214f (X := X) (D := d + 7) (f := f) (by omega) h3.1 h3.2.1 (by decide) (by decide) q5
            have e5 := m214b (X := X) (D := d + 7) (f := f) (s := mw_p (mw_p (mw_p t3 42 22 (nI (nfl tp n (te tp n b2) 1 99))) 42 23 (nI (tb tp n (te tp n b2)))) 50 (64 + gp p q) (nI 0)) (x := nI 0) (y := nI 9) (by omega) (by rw [mw_pne (by decide)]; exact m42.1) k0 k1
            have p1 := m220 (X := X) (D := d + 7) (f := f) (by omega) h1 hN8 q1
            have p2 := m220 (X := X) (D := d + 7) (f := f) (by omega) h2 hN8 q3
            rw [ep] at p1
            rw [eq] at p2
            have k2 : t2.1 50 (64 + gp p q) = nI 0 := by
              rw [h2.2.2.1.2.2.1 _ (gp_lt v18 v28), gh_gp v18 v28]
              unfold fhp
              rw [if_neg qn, q4.2]
            refine ⟨_, m221 v18 v28 qn e1 p1 h1.2.1 e2 p2 h2.2.1 k2 e3 e4 e5, ?_, ?_, fT_p (fT_p (fT_22 (fT_R (fT_R (fT_R fT_refl f1) f2) f3)) (by unfold tA; omega)) (by unfold tA; omega)⟩
            · rw [mw_pne (by decide), mw_pne (by decide)]; exact m42.1
            · rw [mw_pne (by decide), mw_pne (by decide)]; exact m42.2
      · refine Or.inr ⟨4, tb tp n b2, by omega, by omega, tb_le l2, ?_, ?_⟩
        · intro D s hD hh
          obtain ⟨d, rfl⟩ : ∃ d, D = d + 8 := ⟨D - 8, by omega⟩
          obtain ⟨t1, e1, h1, f1⟩ := l131 (X := X) (D := d + 7) (by omega) hh
          obtain ⟨t2, e2, h2, f2⟩ := l131 (X := X) (D := d + 7) (by omega) h1
          rw [ea2] at h2
          refine ⟨_, ?_, l22.1, l22.2, fL_trans f1 (fL_trans f2 fL_22)⟩
          have p1 := l95 (X := X) (D := d + 7) (by omega) h1 hg q1
          have p2 := l95 (X := X) (D := d + 7) (by omega) h2 hg q3
          have s3 := l92 (X := X) (D := d + 7) (by omega) h2 (k := 4)
          rw [ep] at p1
          rw [eq] at p2
          by_cases qn : p = q
          · have s1 := c153e (X := X) (d := d + 7) (w := t2) v28
            rw [qn] at p1
            simp (disch := first | assumption | exact hf _ | omega) only [b96, b96_0, b96_7, b96_11, b96_17, b96_19, b96_26, b96_30, b96_36, b96_38, b96_43, b96_49, b96_57, b96_60, b96_65, b96_66, b96_73, b96_80, b96_88, b96_90, b96_97, b96_105, b96_107, b96_119, nI_add, mn_mul, mn_sub, mn_m1, mn_m8, mn_eq, mn_lt, mn_le, mn_eq0, mn_0eq, mn_lt0, mn_0lt, mn_le0, mn_0le, mn_eqm, mn_meq, mn_ltm, mn_mlt, mn_lem, mn_mle, mn_mm1, mn_mm2, mn_mm3, mn_mm4, mn_mm5, mn_mm6, mn_and, mn_or, mn_an, mn_shl, mn_shr, mn_div, mn_rem, mn_clamp, mn_in, mn_inm, mn_nz, mn_zo, mn_min, mn_max, mn_abs, mn_rfit, mn_cp, mn_les, mn_gre, mn_a127, mn_a15, mn_a1, mn_a255, mn_tn0, mn_tn0e, mn_tnr, mn_tnz, mr_get, mr_ne, mr_put, mu_ne, mu_eq, mj_bk_i, mj_bk_v, mj_bk_x, decide_eq_true_eq, decide_true, decide_false, Bool.false_eq_true, Bool.true_eq_false, reduceCtorEq, mt_le_t, mt_le_f, mt_lt_t, mt_lt_f, mt_eq_t, mt_eq_f, mt_ee, not_true_eq_false, not_false_eq_true, and_true, true_and, and_self, Nat.zero_add, Nat.add_zero, Nat.one_mul, Nat.mul_one, Nat.reduceAdd, Nat.reduceMul, Nat.reduceSub, Nat.reducePow, Nat.reduceDiv, Nat.reduceMod, ↓reduceIte, e1, p1, e2, p2, s1, s3, z0]
          · have hi := fp_lt v18 v28 qn
            have q0 : 0 < fh σ.1 (fp p q) := Nat.pos_of_ne_zero (fun z => q4 ⟨qn, z⟩)
            have s1 := c153 (X := X) (d := d + 7) (w := t2) v18 v28 qn
            have s2 := r36 (X := X) (d := d + 6) mw_c_25 h2.2.1 hg hi
            rw [decide_eq_true q0] at s2
            simp (disch := first | assumption | exact hf _ | omega) only [b96, b96_0, b96_7, b96_11, b96_17, b96_19, b96_26, b96_30, b96_36, b96_38, b96_43, b96_49, b96_57, b96_60, b96_65, b96_66, b96_73, b96_80, b96_88, b96_90, b96_97, b96_105, b96_107, b96_119, nI_add, mn_mul, mn_sub, mn_m1, mn_m8, mn_eq, mn_lt, mn_le, mn_eq0, mn_0eq, mn_lt0, mn_0lt, mn_le0, mn_0le, mn_eqm, mn_meq, mn_ltm, mn_mlt, mn_lem, mn_mle, mn_mm1, mn_mm2, mn_mm3, mn_mm4, mn_mm5, mn_mm6, mn_and, mn_or, mn_an, mn_shl, mn_shr, mn_div, mn_rem, mn_clamp, mn_in, mn_inm, mn_nz, mn_zo, mn_min, mn_max, mn_abs, mn_rfit, mn_cp, mn_les, mn_gre, mn_a127, mn_a15, mn_a1, mn_a255, mn_tn0, mn_tn0e, mn_tnr, mn_tnz, mr_get, mr_ne, mr_put, mu_ne, mu_eq, mj_bk_i, mj_bk_v, mj_bk_x, decide_eq_true_eq, decide_true, decide_false, Bool.false_eq_true, Bool.true_eq_false, reduceCtorEq, mt_le_t, mt_le_f, mt_lt_t, mt_lt_f, mt_eq_t, mt_eq_f, mt_ee, not_true_eq_false, not_false_eq_true, and_true, true_and, and_self, Nat.zero_add, Nat.add_zero, Nat.one_mul, Nat.mul_one, Nat.reduceAdd, Nat.reduceMul, Nat.reduceSub, Nat.reducePow, Nat.reduceDiv, Nat.reduceMod, ↓reduceIte, e1, p1, e2, p2, s1, s2, Bool.toNat_true, s3, z0]
        · intro D s f hD hf hh
          obtain ⟨d, rfl⟩ : ∃ d, D = d + 8 := ⟨D - 8, by omega⟩
          obtain ⟨t1, e1, h1, f1⟩ := m198 (X := X) (D := d + 7) (f := f) (by omega) hh
          obtain ⟨t2, e2, h2, f2⟩ := m198 (X := X) (D := d + 7) (f := f) (by omega) h1
          rw [ea2] at h2
          have p1 := m220 (X := X) (D := d + 7) (f := f) (by omega) h1 hN8 q1
          have p2 := m220 (X := X) (D := d + 7) (f := f) (by omega) h2 hN8 q3
          rw [ep] at p1
          rw [eq] at p2
          have b1 := h1.2.1
          have bb2 := h2.2.1
          have e6 := m206 (X := X) (D := d + 7) (f := f) h2.1 h2.2.1 (k := 4)
          have hgp := gp_lt v18 v28
          refine ⟨_, ?_, m42.1, m42.2, fT_22 (fT_R (fT_R fT_refl f1) f2)⟩
          have r50 := mw_r_50; have r51 := mw_r_51
          by_cases qn : p = q
          · simp (disch := first | assumption | exact hf _ | omega) only [b221, b221_0, b221_4, b221_8, b221_16, b221_20, b221_24, b221_32, b221_37, b221_48, b221_53, b221_58, b221_65, b221_66, b221_70, b221_81, b221_89, b221_101, b221_109, nI_add, mn_mul, mn_sub, mn_m1, mn_m8, mn_eq, mn_lt, mn_le, mn_eq0, mn_0eq, mn_lt0, mn_0lt, mn_le0, mn_0le, mn_eqm, mn_meq, mn_ltm, mn_mlt, mn_lem, mn_mle, mn_mm1, mn_mm2, mn_mm3, mn_mm4, mn_mm5, mn_mm6, mn_and, mn_or, mn_an, mn_shl, mn_shr, mn_div, mn_rem, mn_clamp, mn_in, mn_inm, mn_nz, mn_zo, mn_min, mn_max, mn_abs, mn_rfit, mn_cp, mn_les, mn_gre, mn_a127, mn_a15, mn_a1, mn_a255, mn_tn0, mn_tn0e, mn_tnr, mn_tnz, mr_get, mr_ne, mr_put, mu_ne, mu_eq, mj_bk_i, mj_bk_v, mj_bk_x, decide_eq_true_eq, decide_true, decide_false, Bool.false_eq_true, Bool.true_eq_false, reduceCtorEq, mt_le_t, mt_le_f, mt_lt_t, mt_lt_f, mt_eq_t, mt_eq_f, mt_ee, not_true_eq_false, not_false_eq_true, and_true, true_and, and_self, Nat.zero_add, Nat.add_zero, Nat.one_mul, Nat.mul_one, Nat.reduceAdd, Nat.reduceMul, Nat.reduceSub, Nat.reducePow, Nat.reduceDiv, Nat.reduceMod, ↓reduceIte, mp_h, mp_w, mp_c, mp_s, mp_d, mp_n, mp_54, mp_52, mp_55, mp_l, mp_o, mp_42, mp_45, gh_gp, gw_gp, gc_gp, mw_pne, Nat.or_zero, e1, p1, b1, e2, p2, bb2, qn, e6, m42.1]
          · have q0 : 0 < fh σ.1 (fp p q) := Nat.pos_of_ne_zero (fun z => q4 ⟨qn, z⟩)
            have k2 : t2.1 50 (64 + gp p q) = nI (fh σ.1 (fp p q)) := by
              rw [h2.2.2.1.2.2.1 _ (gp_lt v18 v28), gh_gp v18 v28]
              unfold fhp
              rw [if_neg qn]
            have hb : fh σ.1 (fp p q) < 128 := Nat.mod_lt _ (by decide)
            have q00 : ¬ fh σ.1 (fp p q) = 0 := by omega
            simp (disch := first | assumption | exact hf _ | omega) only [b221, b221_0, b221_4, b221_8, b221_16, b221_20, b221_24, b221_32, b221_37, b221_48, b221_53, b221_58, b221_65, b221_66, b221_70, b221_81, b221_89, b221_101, b221_109, nI_add, mn_mul, mn_sub, mn_m1, mn_m8, mn_eq, mn_lt, mn_le, mn_eq0, mn_0eq, mn_lt0, mn_0lt, mn_le0, mn_0le, mn_eqm, mn_meq, mn_ltm, mn_mlt, mn_lem, mn_mle, mn_mm1, mn_mm2, mn_mm3, mn_mm4, mn_mm5, mn_mm6, mn_and, mn_or, mn_an, mn_shl, mn_shr, mn_div, mn_rem, mn_clamp, mn_in, mn_inm, mn_nz, mn_zo, mn_min, mn_max, mn_abs, mn_rfit, mn_cp, mn_les, mn_gre, mn_a127, mn_a15, mn_a1, mn_a255, mn_tn0, mn_tn0e, mn_tnr, mn_tnz, mr_get, mr_ne, mr_put, mu_ne, mu_eq, mj_bk_i, mj_bk_v, mj_bk_x, decide_eq_true_eq, decide_true, decide_false, Bool.false_eq_true, Bool.true_eq_false, reduceCtorEq, mt_le_t, mt_le_f, mt_lt_t, mt_lt_f, mt_eq_t, mt_eq_f, mt_ee, not_true_eq_false, not_false_eq_true, and_true, true_and, and_self, Nat.zero_add, Nat.add_zero, Nat.one_mul, Nat.mul_one, Nat.reduceAdd, Nat.reduceMul, Nat.reduceSub, Nat.reducePow, Nat.reduceDiv, Nat.reduceMod, ↓reduceIte, mp_h, mp_w, mp_c, mp_s, mp_d, mp_n, mp_54, mp_52, mp_55, mp_l, mp_o, mp_42, mp_45, gh_gp, gw_gp, gc_gp, mw_pne, Nat.or_zero, e1, p1, b1, e2, p2, bb2, qn, c222, k2, q00, e6, m42.1]
    · have k0 : 0 < pfl tp n (te tp n (te tp n a)) (σ.1 55) := by omega
      have k1 := pfl_lt (tp := tp) (n := n) (a := te tp n (te tp n a)) (N := σ.1 55)
      refine Or.inr ⟨_, _, k0, k1, tb_le (tp := tp) (n := n) (a := te tp n (te tp n a)) l2, ?_, ?_⟩
      · intro D s hD h
        obtain ⟨d, rfl⟩ : ∃ d, D = d + 8 := ⟨D - 8, by omega⟩
        obtain ⟨t1, e1, h1, f1⟩ := l131 (X := X) (D := d + 7) (by omega) h
        obtain ⟨t2, e2, h2, f2⟩ := l131 (X := X) (D := d + 7) (by omega) h1
        refine ⟨_, ?_, l22.1, l22.2, fL_trans f1 (fL_trans f2 fL_22)⟩
        have p1 := l95 (X := X) (D := d + 7) (by omega) h1 hg q1
        have p2 := l95f (X := X) (D := d + 7) (by omega) h2 hg q3
        simp (disch := first | assumption | exact hf _ | omega) only [b96, b96_0, b96_7, b96_11, b96_17, b96_19, b96_26, b96_30, b96_36, b96_38, b96_43, b96_49, b96_57, b96_60, b96_65, b96_66, b96_73, b96_80, b96_88, b96_90, b96_97, b96_105, b96_107, b96_119, nI_add, mn_mul, mn_sub, mn_m1, mn_m8, mn_eq, mn_lt, mn_le, mn_eq0, mn_0eq, mn_lt0, mn_0lt, mn_le0, mn_0le, mn_eqm, mn_meq, mn_ltm, mn_mlt, mn_lem, mn_mle, mn_mm1, mn_mm2, mn_mm3, mn_mm4, mn_mm5, mn_mm6, mn_and, mn_or, mn_an, mn_shl, mn_shr, mn_div, mn_rem, mn_clamp, mn_in, mn_inm, mn_nz, mn_zo, mn_min, mn_max, mn_abs, mn_rfit, mn_cp, mn_les, mn_gre, mn_a127, mn_a15, mn_a1, mn_a255, mn_tn0, mn_tn0e, mn_tnr, mn_tnz, mr_get, mr_ne, mr_put, mu_ne, mu_eq, mj_bk_i, mj_bk_v, mj_bk_x, decide_eq_true_eq, decide_true, decide_false, Bool.false_eq_true, Bool.true_eq_false, reduceCtorEq, mt_le_t, mt_le_f, mt_lt_t, mt_lt_f, mt_eq_t, mt_eq_f, mt_ee, not_true_eq_false, not_false_eq_true, and_true, true_and, and_self, Nat.zero_add, Nat.add_zero, Nat.one_mul, Nat.mul_one, Nat.reduceAdd, Nat.reduceMul, Nat.reduceSub, Nat.reducePow, Nat.reduceDiv, Nat.reduceMod, ↓reduceIte, e1, p1, e2, p2]
      · intro D s f hD hf h
        obtain ⟨d, rfl⟩ : ∃ d, D = d + 8 := ⟨D - 8, by omega⟩
        obtain ⟨t1, e1, h1, f1⟩ := m198 (X := X) (D := d + 7) (f := f) (by omega) h
        obtain ⟨t2, e2, h2, f2⟩ := m198 (X := X) (D := d + 7) (f := f) (by omega) h1
        have p1 := m220 (X := X) (D := d + 7) (f := f) (by omega) h1 hN8 q1
        have p2 := m220f (X := X) (D := d + 7) (f := f) (by omega) h2 hN8 q3
        have b1 := h1.2.1
        have n0 : ¬ pfl tp n (te tp n (te tp n a)) (σ.1 55) = 0 := q3
        refine ⟨_, ?_, m42.1, m42.2, fT_22 (fT_R (fT_R fT_refl f1) f2)⟩
        simp (disch := first | assumption | exact hf _ | omega) only [b221, b221_0, b221_4, b221_8, b221_16, b221_20, b221_24, b221_32, b221_37, b221_48, b221_53, b221_58, b221_65, b221_66, b221_70, b221_81, b221_89, b221_101, b221_109, nI_add, mn_mul, mn_sub, mn_m1, mn_m8, mn_eq, mn_lt, mn_le, mn_eq0, mn_0eq, mn_lt0, mn_0lt, mn_le0, mn_0le, mn_eqm, mn_meq, mn_ltm, mn_mlt, mn_lem, mn_mle, mn_mm1, mn_mm2, mn_mm3, mn_mm4, mn_mm5, mn_mm6, mn_and, mn_or, mn_an, mn_shl, mn_shr, mn_div, mn_rem, mn_clamp, mn_in, mn_inm, mn_nz, mn_zo, mn_min, mn_max, mn_abs, mn_rfit, mn_cp, mn_les, mn_gre, mn_a127, mn_a15, mn_a1, mn_a255, mn_tn0, mn_tn0e, mn_tnr, mn_tnz, mr_get, mr_ne, mr_put, mu_ne, mu_eq, mj_bk_i, mj_bk_v, mj_bk_x, decide_eq_true_eq, decide_true, decide_false, Bool.false_eq_true, Bool.true_eq_false, reduceCtorEq, mt_le_t, mt_le_f, mt_lt_t, mt_lt_f, mt_eq_t, mt_eq_f, mt_ee, not_true_eq_false, not_false_eq_true, and_true, true_and, and_self, Nat.zero_add, Nat.add_zero, Nat.one_mul, Nat.mul_one, Nat.reduceAdd, Nat.reduceMul, Nat.reduceSub, Nat.reducePow, Nat.reduceDiv, Nat.reduceMod, ↓reduceIte, mp_h, mp_w, mp_c, mp_s, mp_d, mp_n, mp_54, mp_52, mp_55, mp_l, mp_o, mp_42, mp_45, gh_gp, gw_gp, gc_gp, mw_pne, Nat.or_zero, e1, p1, b1, e2, p2, m42.1, n0]
  · have k0 : 0 < pfl tp n (te tp n a) (σ.1 55) := by omega
    have k1 := pfl_lt (tp := tp) (n := n) (a := te tp n a) (N := σ.1 55)
    refine Or.inr ⟨_, _, k0, k1, tb_le (tp := tp) (n := n) (a := te tp n a) l1, ?_, ?_⟩
    · intro D s hD h
      obtain ⟨d, rfl⟩ : ∃ d, D = d + 8 := ⟨D - 8, by omega⟩
      obtain ⟨t1, e1, h1, f1⟩ := l131 (X := X) (D := d + 7) (by omega) h
      refine ⟨_, ?_, l22.1, l22.2, fL_trans f1 fL_22⟩
      have p1 := l95f (X := X) (D := d + 7) (by omega) h1 hg q1
      simp (disch := first | assumption | exact hf _ | omega) only [b96, b96_0, b96_7, b96_11, b96_17, b96_19, b96_26, b96_30, b96_36, b96_38, b96_43, b96_49, b96_57, b96_60, b96_65, b96_66, b96_73, b96_80, b96_88, b96_90, b96_97, b96_105, b96_107, b96_119, nI_add, mn_mul, mn_sub, mn_m1, mn_m8, mn_eq, mn_lt, mn_le, mn_eq0, mn_0eq, mn_lt0, mn_0lt, mn_le0, mn_0le, mn_eqm, mn_meq, mn_ltm, mn_mlt, mn_lem, mn_mle, mn_mm1, mn_mm2, mn_mm3, mn_mm4, mn_mm5, mn_mm6, mn_and, mn_or, mn_an, mn_shl, mn_shr, mn_div, mn_rem, mn_clamp, mn_in, mn_inm, mn_nz, mn_zo, mn_min, mn_max, mn_abs, mn_rfit, mn_cp, mn_les, mn_gre, mn_a127, mn_a15, mn_a1, mn_a255, mn_tn0, mn_tn0e, mn_tnr, mn_tnz, mr_get, mr_ne, mr_put, mu_ne, mu_eq, mj_bk_i, mj_bk_v, mj_bk_x, decide_eq_true_eq, decide_true, decide_false, Bool.false_eq_true, Bool.true_eq_false, reduceCtorEq, mt_le_t, mt_le_f, mt_lt_t, mt_lt_f, mt_eq_t, mt_eq_f, mt_ee, not_true_eq_false, not_false_eq_true, and_true, true_and, and_self, Nat.zero_add, Nat.add_zero, Nat.one_mul, Nat.mul_one, Nat.reduceAdd, Nat.reduceMul, Nat.reduceSub, Nat.reducePow, Nat.reduceDiv, Nat.reduceMod, ↓reduceIte, e1, p1]
    · intro D s f hD hf h
      obtain ⟨d, rfl⟩ : ∃ d, D = d + 8 := ⟨D - 8, by omega⟩
      obtain ⟨t1, e1, h1, f1⟩ := m198 (X := X) (D := d + 7) (f := f) (by omega) h
      have p1 := m220f (X := X) (D := d + 7) (f := f) (by omega) h1 hN8 q1
      have e7 := m220b (X := X) (D := d + 7) (f := f) (s := mw_p (mw_p t1 42 22 (nI (pfl tp n (te tp n a) (σ.1 55)))) 42 23 (nI (tb tp n (te tp n a)))) (by omega) m42.1 k0 k1
      have n0 : ¬ pfl tp n (te tp n a) (σ.1 55) = 0 := q1
      refine ⟨_, ?_, m42.1, m42.2, fT_22 (fT_R fT_refl f1)⟩
      simp (disch := first | assumption | exact hf _ | omega) only [b221, b221_0, b221_4, b221_8, b221_16, b221_20, b221_24, b221_32, b221_37, b221_48, b221_53, b221_58, b221_65, b221_66, b221_70, b221_81, b221_89, b221_101, b221_109, nI_add, mn_mul, mn_sub, mn_m1, mn_m8, mn_eq, mn_lt, mn_le, mn_eq0, mn_0eq, mn_lt0, mn_0lt, mn_le0, mn_0le, mn_eqm, mn_meq, mn_ltm, mn_mlt, mn_lem, mn_mle, mn_mm1, mn_mm2, mn_mm3, mn_mm4, mn_mm5, mn_mm6, mn_and, mn_or, mn_an, mn_shl, mn_shr, mn_div, mn_rem, mn_clamp, mn_in, mn_inm, mn_nz, mn_zo, mn_min, mn_max, mn_abs, mn_rfit, mn_cp, mn_les, mn_gre, mn_a127, mn_a15, mn_a1, mn_a255, mn_tn0, mn_tn0e, mn_tnr, mn_tnz, mr_get, mr_ne, mr_put, mu_ne, mu_eq, mj_bk_i, mj_bk_v, mj_bk_x, decide_eq_true_eq, decide_true, decide_false, Bool.false_eq_true, Bool.true_eq_false, reduceCtorEq, mt_le_t, mt_le_f, mt_lt_t, mt_lt_f, mt_eq_t, mt_eq_f, mt_ee, not_true_eq_false, not_false_eq_true, and_true, true_and, and_self, Nat.zero_add, Nat.add_zero, Nat.one_mul, Nat.mul_one, Nat.reduceAdd, Nat.reduceMul, Nat.reduceSub, Nat.reducePow, Nat.reduceDiv, Nat.reduceMod, ↓reduceIte, mp_h, mp_w, mp_c, mp_s, mp_d, mp_n, mp_54, mp_52, mp_55, mp_l, mp_o, mp_42, mp_45, gh_gp, gw_gp, gc_gp, mw_pne, Nat.or_zero, e1, p1, m42.1, n0, e7]
end
