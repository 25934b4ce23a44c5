/-! what a text has told, in the reference -/
def tRL (s : mw_S) (g : Nat → Nat) : Prop := s.1 45 3 = nI (g 55) ∧ (∀ p, p < g 55 → s.1 46 (8 + p) = nI ((g 53).testBit p).toNat ∧ s.1 47 (8 + p) = nI (g p) ∧ s.1 48 (8 + p) = nI (g (8 + p)) ∧ s.1 49 (8 + p) = mo (fs g p)) ∧ (∀ k, k < 64 → s.1 50 (64 + k) = nI (gh g k)) ∧ (∀ k, k < 64 → 0 < gh g k → s.1 51 (64 + k) = nI (gw g k))
section
variable {X : mj_X} {d : Nat} {s : mw_S} {f g : Nat → Nat} {tp : Nat → Nat} {n a : Nat}
theorem mp_w46 {j : Nat} {v : Int32} (h : f 55 ≤ j) : mw_p (mp s f) 46 j v = mp (mw_p s 46 j v) f := by
  refine Prod.ext ?_ rfl
  funext x y
  unfold mp mq
  simp only [mw_p1]
  by_cases hx : x = 46 ∧ y = j
  · obtain ⟨rfl, rfl⟩ := hx
    have : ¬ y < f 55 := by omega
    simp [this]
  · simp only [if_neg hx]
theorem fs_top (hw : wf g (g 52)) (h8 : g 55 < 8) : fs g (g 55) = none := by
  cases hs : fs g (g 55) with
  | none => rfl
  | some q =>
    have := (wf_s hw h8 hs).2.2.2
    have := lv_n hw this
    omega
theorem bit_top (hw : wf g (g 52)) : (g 53).testBit (g 55) = false := Nat.testBit_lt_two_pow (wf_w hw)
theorem tRL_add (hw : wf g (g 52)) (h8 : g 55 < 8) (h : tRL s g) {nv dw : Nat} {b : Bool} {t : mw_S} (e45 : t.1 45 3 = nI (g 55 + 1)) (e46 : ∀ j, t.1 46 j = if j = 8 + g 55 then nI b.toNat else s.1 46 j) (e47 : ∀ j, t.1 47 j = if j = 8 + g 55 then nI nv else s.1 47 j) (e48 : ∀ j, t.1 48 j = if j = 8 + g 55 then nI dw else s.1 48 j) (e49 : ∀ j, t.1 49 j = if j = 8 + g 55 then -1 else s.1 49 j) (e50 : t.1 50 = s.1 50) (e51 : t.1 51 = s.1 51) : tRL t (fad g nv dw b) := by
  obtain ⟨h1, h2, h3, h4⟩ := h
  have a55 : fad g nv dw b 55 = g 55 + 1 := by unfold fad mr_u; rfl
  have a53 : fad g nv dw b 53 = g 53 ||| (if b then 2 ^ g 55 else 0) := by unfold fad mr_u; rfl
  have alo : ∀ j, j < 52 → ¬ j = g 55 → ¬ j = 8 + g 55 → fad g nv dw b j = g j := by
    intro j hj n1 n2
    unfold fad mr_u
    rw [if_neg (by omega), if_neg (by omega), if_neg (by omega), if_neg n2, if_neg n1]
  have an : fad g nv dw b (g 55) = nv := by
    unfold fad mr_u
    rw [if_neg (by omega), if_neg (by omega), if_neg (by omega), if_neg (by omega), if_pos rfl]
  have ad : fad g nv dw b (8 + g 55) = dw := by
    unfold fad mr_u
    rw [if_neg (by omega), if_neg (by omega), if_neg (by omega), if_pos rfl]
  have ah : ∀ k, gh (fad g nv dw b) k = gh g k := by
    intro k
    unfold gh
    by_cases q : k / 8 < k % 8
    · have hk := Nat.mod_lt k (show 8 > 0 by decide)
      have hp := fp_lt (p := k / 8) (q := k % 8) (by omega) hk (by omega)
      rw [if_pos q, if_pos q]
      unfold fh
      rw [alo _ (by omega) (by omega) (by omega)]
    · rw [if_neg q, if_neg q]
  have aw : ∀ k, gw (fad g nv dw b) k = gw g k := by
    intro k
    unfold gw
    by_cases q : k / 8 < k % 8
    · have hk := Nat.mod_lt k (show 8 > 0 by decide)
      have hp := fp_lt (p := k / 8) (q := k % 8) (by omega) hk (by omega)
      rw [if_pos q, if_pos q]
      unfold fw
      rw [alo _ (by omega) (by omega) (by omega)]
    · rw [if_neg q, if_neg q]
  have as : ∀ p, p < 8 → fs (fad g nv dw b) p = fs g p := by
    intro p hp
    unfold fs
    rw [alo (16 + p) (by omega) (by omega) (by omega)]
  refine ⟨by rw [a55]; exact e45, ?_, ?_, ?_⟩
  · intro p hp
    rw [a55] at hp
    rw [e46, e47, e48, e49, as p (by omega), a53]
    by_cases q : p = g 55
    · subst q
      rw [if_pos rfl, if_pos rfl, if_pos rfl, if_pos rfl, an, ad, fs_top hw h8]
      refine ⟨?_, rfl, rfl, rfl⟩
      rw [Nat.testBit_or, bit_top hw, Bool.false_or]
      cases b
      · simp
      · simp [Nat.testBit_two_pow_self]
    · obtain ⟨k1, k2, k3, k4⟩ := h2 p (by omega)
      have hne : ¬ 8 + p = 8 + g 55 := by omega
      rw [if_neg hne, if_neg hne, if_neg hne, if_neg hne, alo p (by omega) q (by omega), alo (8 + p) (by omega) (by omega) (by omega)]
      refine ⟨?_, k2, k3, k4⟩
      rw [k1, Nat.testBit_or]
      cases b
      · simp
      · simp [Nat.testBit_two_pow, show ¬ g 55 = p from fun z => q z.symm]
  · intro k hk
    rw [e50, ah]; exact h3 k hk
  · intro k hk h0
    rw [ah] at h0
    rw [e51, aw]; exact h4 k hk h0
theorem r220 (h : TR s tp n a) (h22 : s.1 42 22 = nI 0) {N : Nat} (h45 : s.1 45 3 = nI N) (hN : N ≤ 8) : mj_call X (d + 2) 220 [.ref 42] (mw_U (mp s f)) = if pfl tp n a N = 0 then some (.inl (some (.int (nI (nmv tp n a)))), mw_U (mp s f)) else some (.inl (some (.int (nI 0))), mw_U (mp (mw_p (mw_p s 42 22 (nI (pfl tp n a N))) 42 23 (nI (tb tp n a))) f)) := by
  have e1 := c215 (X := X) (d := d) (f := f) h h22 (lo := 0) (hi := 9999) (by decide) (by decide)
  have h20 := h.2.2.2.2.2.2.1
  have z22 : ∀ k : Nat, (mw_p (mw_p s 42 22 (nI k)) 42 23 (nI (tb tp n a))).1 42 22 = nI k := fun k => by rw [mw_pnj (by decide), mw_peq]
  unfold pfl
  by_cases q : tkd tp n a = 2
  · by_cases q4 : 4 < te tp n a - tb tp n a
    · have e0 : nfl tp n a 0 9999 = 2 := by unfold nfl; rw [if_pos q, if_pos (Or.inl q4)]
      rw [if_neg (by omega), e0] at e1
      simp (disch := first | assumption | exact hf _ | omega) only [b220, b220_0, b220_8, b220_16, b220_26, b220_31, b220_38, b220_42, b220_43, nI_add, mn_mul, mn_sub, mn_m1, mn_m8, mn_eq, mn_lt, mn_le, mn_eq0, mn_0eq, mn_lt0, mn_0lt, mn_le0, mn_0le, mn_eqm, mn_meq, mn_ltm, mn_mlt, mn_lem, mn_mle, mn_mm1, mn_mm2, mn_mm3, mn_mm4, mn_mm5, mn_mm6, mn_and, mn_or, mn_an, mn_shl, mn_shr, mn_div, mn_rem, mn_clamp, mn_in, mn_inm, mn_nz, mn_zo, mn_min, mn_max, mn_abs, mn_rfit, mn_cp, mn_les, mn_gre, mn_a127, mn_a15, mn_a1, mn_a255, mn_tn0, mn_tn0e, mn_tnr, mn_tnz, mr_get, mr_ne, mr_put, mu_ne, mu_eq, mj_bk_i, mj_bk_v, mj_bk_x, decide_eq_true_eq, decide_true, decide_false, Bool.false_eq_true, Bool.true_eq_false, reduceCtorEq, mt_le_t, mt_le_f, mt_lt_t, mt_lt_f, mt_eq_t, mt_eq_f, mt_ee, not_true_eq_false, not_false_eq_true, and_true, true_and, and_self, Nat.zero_add, Nat.add_zero, Nat.one_mul, Nat.mul_one, Nat.reduceAdd, Nat.reduceMul, Nat.reduceSub, Nat.reducePow, Nat.reduceDiv, Nat.reduceMod, ↓reduceIte, mp_h, mp_w, mp_c, mp_s, mp_d, mp_n, mp_54, mp_52, mp_55, mp_l, mp_o, mp_42, mp_45, gh_gp, gw_gp, gc_gp, mw_pne, Nat.or_zero, e1, z22, q, q4]
    · have hv : nmv tp n a ≤ 9999 := num_ok q q4
      have e0 : nfl tp n a 0 9999 = 0 := by unfold nfl; rw [if_pos q, if_neg (by omega)]
      rw [if_pos e0] at e1
      by_cases q5 : nmv tp n a < N
      · simp (disch := first | assumption | exact hf _ | omega) only [b220, b220_0, b220_8, b220_16, b220_26, b220_31, b220_38, b220_42, b220_43, nI_add, mn_mul, mn_sub, mn_m1, mn_m8, mn_eq, mn_lt, mn_le, mn_eq0, mn_0eq, mn_lt0, mn_0lt, mn_le0, mn_0le, mn_eqm, mn_meq, mn_ltm, mn_mlt, mn_lem, mn_mle, mn_mm1, mn_mm2, mn_mm3, mn_mm4, mn_mm5, mn_mm6, mn_and, mn_or, mn_an, mn_shl, mn_shr, mn_div, mn_rem, mn_clamp, mn_in, mn_inm, mn_nz, mn_zo, mn_min, mn_max, mn_abs, mn_rfit, mn_cp, mn_les, mn_gre, mn_a127, mn_a15, mn_a1, mn_a255, mn_tn0, mn_tn0e, mn_tnr, mn_tnz, mr_get, mr_ne, mr_put, mu_ne, mu_eq, mj_bk_i, mj_bk_v, mj_bk_x, decide_eq_true_eq, decide_true, decide_false, Bool.false_eq_true, Bool.true_eq_false, reduceCtorEq, mt_le_t, mt_le_f, mt_lt_t, mt_lt_f, mt_eq_t, mt_eq_f, mt_ee, not_true_eq_false, not_false_eq_true, and_true, true_and, and_self, Nat.zero_add, Nat.add_zero, Nat.one_mul, Nat.mul_one, Nat.reduceAdd, Nat.reduceMul, Nat.reduceSub, Nat.reducePow, Nat.reduceDiv, Nat.reduceMod, ↓reduceIte, mp_h, mp_w, mp_c, mp_s, mp_d, mp_n, mp_54, mp_52, mp_55, mp_l, mp_o, mp_42, mp_45, gh_gp, gw_gp, gc_gp, mw_pne, Nat.or_zero, e1, h22, h45, q5, q, q4]
      · simp (disch := first | assumption | exact hf _ | omega) only [b220, b220_0, b220_8, b220_16, b220_26, b220_31, b220_38, b220_42, b220_43, nI_add, mn_mul, mn_sub, mn_m1, mn_m8, mn_eq, mn_lt, mn_le, mn_eq0, mn_0eq, mn_lt0, mn_0lt, mn_le0, mn_0le, mn_eqm, mn_meq, mn_ltm, mn_mlt, mn_lem, mn_mle, mn_mm1, mn_mm2, mn_mm3, mn_mm4, mn_mm5, mn_mm6, mn_and, mn_or, mn_an, mn_shl, mn_shr, mn_div, mn_rem, mn_clamp, mn_in, mn_inm, mn_nz, mn_zo, mn_min, mn_max, mn_abs, mn_rfit, mn_cp, mn_les, mn_gre, mn_a127, mn_a15, mn_a1, mn_a255, mn_tn0, mn_tn0e, mn_tnr, mn_tnz, mr_get, mr_ne, mr_put, mu_ne, mu_eq, mj_bk_i, mj_bk_v, mj_bk_x, decide_eq_true_eq, decide_true, decide_false, Bool.false_eq_true, Bool.true_eq_false, reduceCtorEq, mt_le_t, mt_le_f, mt_lt_t, mt_lt_f, mt_eq_t, mt_eq_f, mt_ee, not_true_eq_false, not_false_eq_true, and_true, true_and, and_self, Nat.zero_add, Nat.add_zero, Nat.one_mul, Nat.mul_one, Nat.reduceAdd, Nat.reduceMul, Nat.reduceSub, Nat.reducePow, Nat.reduceDiv, Nat.reduceMod, ↓reduceIte, mp_h, mp_w, mp_c, mp_s, mp_d, mp_n, mp_54, mp_52, mp_55, mp_l, mp_o, mp_42, mp_45, gh_gp, gw_gp, gc_gp, mw_pne, Nat.or_zero, e1, h22, h45, q5, q, q4, c206 h22 h20, z22]
  · have e0 : nfl tp n a 0 9999 = 1 := by unfold nfl; rw [if_neg q]
    rw [if_neg (by omega), e0] at e1
    simp (disch := first | assumption | exact hf _ | omega) only [b220, b220_0, b220_8, b220_16, b220_26, b220_31, b220_38, b220_42, b220_43, nI_add, mn_mul, mn_sub, mn_m1, mn_m8, mn_eq, mn_lt, mn_le, mn_eq0, mn_0eq, mn_lt0, mn_0lt, mn_le0, mn_0le, mn_eqm, mn_meq, mn_ltm, mn_mlt, mn_lem, mn_mle, mn_mm1, mn_mm2, mn_mm3, mn_mm4, mn_mm5, mn_mm6, mn_and, mn_or, mn_an, mn_shl, mn_shr, mn_div, mn_rem, mn_clamp, mn_in, mn_inm, mn_nz, mn_zo, mn_min, mn_max, mn_abs, mn_rfit, mn_cp, mn_les, mn_gre, mn_a127, mn_a15, mn_a1, mn_a255, mn_tn0, mn_tn0e, mn_tnr, mn_tnz, mr_get, mr_ne, mr_put, mu_ne, mu_eq, mj_bk_i, mj_bk_v, mj_bk_x, decide_eq_true_eq, decide_true, decide_false, Bool.false_eq_true, Bool.true_eq_false, reduceCtorEq, mt_le_t, mt_le_f, mt_lt_t, mt_lt_f, mt_eq_t, mt_eq_f, mt_ee, not_true_eq_false, not_false_eq_true, and_true, true_and, and_self, Nat.zero_add, Nat.add_zero, Nat.one_mul, Nat.mul_one, Nat.reduceAdd, Nat.reduceMul, Nat.reduceSub, Nat.reducePow, Nat.reduceDiv, Nat.reduceMod, ↓reduceIte, mp_h, mp_w, mp_c, mp_s, mp_d, mp_n, mp_54, mp_52, mp_55, mp_l, mp_o, mp_42, mp_45, gh_gp, gw_gp, gc_gp, mw_pne, Nat.or_zero, e1, z22, q]
end
