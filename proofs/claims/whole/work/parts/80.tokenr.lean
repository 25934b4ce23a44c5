/-! the reference's tokens -/
def fR (s t : mw_S) : Prop := t.2 = s.2 ∧ (∀ a, ¬ a = 42 → t.1 a = s.1 a) ∧ (∀ b, ¬ b = 16 → ¬ b = 18 → ¬ b = 19 → ¬ b = 20 → ¬ b = 21 → t.1 42 b = s.1 42 b)
theorem fR_refl {s : mw_S} : fR s s := ⟨rfl, fun _ _ => rfl, fun _ _ _ _ _ _ => rfl⟩
theorem fR_trans {s t u : mw_S} (h : fR s t) (h2 : fR t u) : fR s u := ⟨h2.1.trans h.1, fun a ha => (h2.2.1 a ha).trans (h.2.1 a ha), fun b h3 h4 h5 h6 h7 => (h2.2.2 b h3 h4 h5 h6 h7).trans (h.2.2 b h3 h4 h5 h6 h7)⟩
theorem fR_p {s : mw_S} {b : Nat} {v : Int32} (hb : b = 16 ∨ b = 18 ∨ b = 19 ∨ b = 20 ∨ b = 21) : fR s (mw_p s 42 b v) := ⟨rfl, fun a h => by funext c; exact mw_pne h, fun c h3 h4 h5 h6 h7 => mw_pnj (by omega)⟩
def PR (s : mw_S) (tp : Nat → Nat) (n a : Nat) : Prop := a ≤ n ∧ n ≤ 700 ∧ s.1 42 17 = nI n ∧ s.1 42 16 = nI a ∧ (∀ j, j < n → tp j < 256 ∧ s.1 56 j = nI (tp j))
def TR (s : mw_S) (tp : Nat → Nat) (n a : Nat) : Prop := a ≤ n ∧ n ≤ 700 ∧ s.1 42 17 = nI n ∧ s.1 42 16 = nI (te tp n a) ∧ s.1 42 18 = nI (tkd tp n a) ∧ (tkd tp n a = 2 → s.1 42 19 = nI (min 100000 (dv tp (tb tp n a) (te tp n a - tb tp n a)))) ∧ s.1 42 20 = nI (tb tp n a) ∧ s.1 42 21 = nI (te tp n a) ∧ (∀ j, j < n → tp j < 256 ∧ s.1 56 j = nI (tp j))
theorem TR_PR {s : mw_S} {tp : Nat → Nat} {n a : Nat} (h : TR s tp n a) : PR s tp n (te tp n a) := ⟨te_le h.1, h.2.1, h.2.2.1, h.2.2.2.1, h.2.2.2.2.2.2.2.2⟩
def bya (tp : Nat → Nat) (n k : Nat) : Int32 := if k < n then nI (tp k) else -1
section
variable {X : mj_X} {d : Nat} {s t : mw_S} {f : Nat → Nat} {tp : Nat → Nat} {n a : Nat}
theorem c199 {k : Nat} (hk : k ≤ 700) (hn : n ≤ 700) (h17 : s.1 42 17 = nI n) (ht : ∀ j, j < n → tp j < 256 ∧ s.1 56 j = nI (tp j)) : mj_call X d 199 [.ref 42, .int (nI k)] (mw_U (mp s f)) = some (.inl (some (.int (bya tp n k))), mw_U (mp s f)) := by
  unfold bya
  by_cases q : k < n
  · have e := (ht k q).2
    have p : ¬ n ≤ k := by omega
    simp (disch := first | assumption | exact hf _ | omega) only [b199, b199_0, b199_8, b199_17, b199_18, nI_add, mn_mul, mn_sub, mn_m1, mn_m8, mn_eq, mn_lt, mn_le, mn_eq0, mn_0eq, mn_lt0, mn_0lt, mn_le0, mn_0le, mn_eqm, mn_meq, mn_ltm, mn_mlt, mn_lem, mn_mle, mn_mm1, mn_mm2, mn_mm3, mn_mm4, mn_mm5, mn_mm6, mn_and, mn_or, mn_an, mn_shl, mn_shr, mn_div, mn_rem, mn_clamp, mn_in, mn_inm, mn_nz, mn_zo, mn_min, mn_max, mn_abs, mn_rfit, mn_cp, mn_les, mn_gre, mn_a127, mn_a15, mn_a1, mn_a255, mn_tn0, mn_tn0e, mn_tnr, mn_tnz, mr_get, mr_ne, mr_put, mu_ne, mu_eq, mj_bk_i, mj_bk_v, mj_bk_x, decide_eq_true_eq, decide_true, decide_false, Bool.false_eq_true, Bool.true_eq_false, reduceCtorEq, mt_le_t, mt_le_f, mt_lt_t, mt_lt_f, mt_eq_t, mt_eq_f, mt_ee, not_true_eq_false, not_false_eq_true, and_true, true_and, and_self, Nat.zero_add, Nat.add_zero, Nat.one_mul, Nat.mul_one, Nat.reduceAdd, Nat.reduceMul, Nat.reduceSub, Nat.reducePow, Nat.reduceDiv, Nat.reduceMod, ↓reduceIte, mp_h, mp_w, mp_c, mp_s, mp_d, mp_n, mp_54, mp_52, mp_55, mp_l, mp_o, mp_42, mp_45, gh_gp, gw_gp, gc_gp, mw_pne, Nat.or_zero, h17, p, e, q]
  · have p : n ≤ k := by omega
    simp (disch := first | assumption | exact hf _ | omega) only [b199, b199_0, b199_8, b199_17, b199_18, nI_add, mn_mul, mn_sub, mn_m1, mn_m8, mn_eq, mn_lt, mn_le, mn_eq0, mn_0eq, mn_lt0, mn_0lt, mn_le0, mn_0le, mn_eqm, mn_meq, mn_ltm, mn_mlt, mn_lem, mn_mle, mn_mm1, mn_mm2, mn_mm3, mn_mm4, mn_mm5, mn_mm6, mn_and, mn_or, mn_an, mn_shl, mn_shr, mn_div, mn_rem, mn_clamp, mn_in, mn_inm, mn_nz, mn_zo, mn_min, mn_max, mn_abs, mn_rfit, mn_cp, mn_les, mn_gre, mn_a127, mn_a15, mn_a1, mn_a255, mn_tn0, mn_tn0e, mn_tnr, mn_tnz, mr_get, mr_ne, mr_put, mu_ne, mu_eq, mj_bk_i, mj_bk_v, mj_bk_x, decide_eq_true_eq, decide_true, decide_false, Bool.false_eq_true, Bool.true_eq_false, reduceCtorEq, mt_le_t, mt_le_f, mt_lt_t, mt_lt_f, mt_eq_t, mt_eq_f, mt_ee, not_true_eq_false, not_false_eq_true, and_true, true_and, and_self, Nat.zero_add, Nat.add_zero, Nat.one_mul, Nat.mul_one, Nat.reduceAdd, Nat.reduceMul, Nat.reduceSub, Nat.reducePow, Nat.reduceDiv, Nat.reduceMod, ↓reduceIte, mp_h, mp_w, mp_c, mp_s, mp_d, mp_n, mp_54, mp_52, mp_55, mp_l, mp_o, mp_42, mp_45, gh_gp, gw_gp, gc_gp, mw_pne, Nat.or_zero, h17, p, q]
theorem bya_lt {k : Nat} (h : k < n) : bya tp n k = nI (tp k) := if_pos h
theorem bya_ge {k : Nat} (h : ¬ k < n) : bya tp n k = -1 := if_neg h
theorem c200 {x : Int32} {o : Bool} (h : (o = true ↔ ¬ x < nI 97 ∧ ¬ nI 122 < x)) : mj_call X d 200 [.int x] (mw_U s) = some (.inl (some (.int (nI o.toNat))), mw_U s) := by
  by_cases q1 : x < nI 97
  · have : o = false := by cases o; rfl; exact absurd q1 (h.1 rfl).1
    subst this
    simp (disch := first | assumption | exact hf _ | omega) only [b200, b200_0, b200_6, b200_12, b200_16, b200_17, nI_add, mn_mul, mn_sub, mn_m1, mn_m8, mn_eq, mn_lt, mn_le, mn_eq0, mn_0eq, mn_lt0, mn_0lt, mn_le0, mn_0le, mn_eqm, mn_meq, mn_ltm, mn_mlt, mn_lem, mn_mle, mn_mm1, mn_mm2, mn_mm3, mn_mm4, mn_mm5, mn_mm6, mn_and, mn_or, mn_an, mn_shl, mn_shr, mn_div, mn_rem, mn_clamp, mn_in, mn_inm, mn_nz, mn_zo, mn_min, mn_max, mn_abs, mn_rfit, mn_cp, mn_les, mn_gre, mn_a127, mn_a15, mn_a1, mn_a255, mn_tn0, mn_tn0e, mn_tnr, mn_tnz, mr_get, mr_ne, mr_put, mu_ne, mu_eq, mj_bk_i, mj_bk_v, mj_bk_x, decide_eq_true_eq, decide_true, decide_false, Bool.false_eq_true, Bool.true_eq_false, reduceCtorEq, mt_le_t, mt_le_f, mt_lt_t, mt_lt_f, mt_eq_t, mt_eq_f, mt_ee, not_true_eq_false, not_false_eq_true, and_true, true_and, and_self, Nat.zero_add, Nat.add_zero, Nat.one_mul, Nat.mul_one, Nat.reduceAdd, Nat.reduceMul, Nat.reduceSub, Nat.reducePow, Nat.reduceDiv, Nat.reduceMod, ↓reduceIte, q1]
    rfl
  · by_cases q2 : nI 122 < x
    · have : o = false := by cases o; rfl; exact absurd q2 (h.1 rfl).2
      subst this
      simp (disch := first | assumption | exact hf _ | omega) only [b200, b200_0, b200_6, b200_12, b200_16, b200_17, nI_add, mn_mul, mn_sub, mn_m1, mn_m8, mn_eq, mn_lt, mn_le, mn_eq0, mn_0eq, mn_lt0, mn_0lt, mn_le0, mn_0le, mn_eqm, mn_meq, mn_ltm, mn_mlt, mn_lem, mn_mle, mn_mm1, mn_mm2, mn_mm3, mn_mm4, mn_mm5, mn_mm6, mn_and, mn_or, mn_an, mn_shl, mn_shr, mn_div, mn_rem, mn_clamp, mn_in, mn_inm, mn_nz, mn_zo, mn_min, mn_max, mn_abs, mn_rfit, mn_cp, mn_les, mn_gre, mn_a127, mn_a15, mn_a1, mn_a255, mn_tn0, mn_tn0e, mn_tnr, mn_tnz, mr_get, mr_ne, mr_put, mu_ne, mu_eq, mj_bk_i, mj_bk_v, mj_bk_x, decide_eq_true_eq, decide_true, decide_false, Bool.false_eq_true, Bool.true_eq_false, reduceCtorEq, mt_le_t, mt_le_f, mt_lt_t, mt_lt_f, mt_eq_t, mt_eq_f, mt_ee, not_true_eq_false, not_false_eq_true, and_true, true_and, and_self, Nat.zero_add, Nat.add_zero, Nat.one_mul, Nat.mul_one, Nat.reduceAdd, Nat.reduceMul, Nat.reduceSub, Nat.reducePow, Nat.reduceDiv, Nat.reduceMod, ↓reduceIte, q1, q2]
      rfl
    · have : o = true := h.2 ⟨q1, q2⟩
      subst this
      simp (disch := first | assumption | exact hf _ | omega) only [b200, b200_0, b200_6, b200_12, b200_16, b200_17, nI_add, mn_mul, mn_sub, mn_m1, mn_m8, mn_eq, mn_lt, mn_le, mn_eq0, mn_0eq, mn_lt0, mn_0lt, mn_le0, mn_0le, mn_eqm, mn_meq, mn_ltm, mn_mlt, mn_lem, mn_mle, mn_mm1, mn_mm2, mn_mm3, mn_mm4, mn_mm5, mn_mm6, mn_and, mn_or, mn_an, mn_shl, mn_shr, mn_div, mn_rem, mn_clamp, mn_in, mn_inm, mn_nz, mn_zo, mn_min, mn_max, mn_abs, mn_rfit, mn_cp, mn_les, mn_gre, mn_a127, mn_a15, mn_a1, mn_a255, mn_tn0, mn_tn0e, mn_tnr, mn_tnz, mr_get, mr_ne, mr_put, mu_ne, mu_eq, mj_bk_i, mj_bk_v, mj_bk_x, decide_eq_true_eq, decide_true, decide_false, Bool.false_eq_true, Bool.true_eq_false, reduceCtorEq, mt_le_t, mt_le_f, mt_lt_t, mt_lt_f, mt_eq_t, mt_eq_f, mt_ee, not_true_eq_false, not_false_eq_true, and_true, true_and, and_self, Nat.zero_add, Nat.add_zero, Nat.one_mul, Nat.mul_one, Nat.reduceAdd, Nat.reduceMul, Nat.reduceSub, Nat.reducePow, Nat.reduceDiv, Nat.reduceMod, ↓reduceIte, q1, q2]
      rfl
theorem c201 {x : Int32} {o : Bool} (h : (o = true ↔ ¬ x < nI 48 ∧ ¬ nI 57 < x)) : mj_call X d 201 [.int x] (mw_U s) = some (.inl (some (.int (nI o.toNat))), mw_U s) := by
  by_cases q1 : x < nI 48
  · have : o = false := by cases o; rfl; exact absurd q1 (h.1 rfl).1
    subst this
    simp (disch := first | assumption | exact hf _ | omega) only [b201, b201_0, b201_6, b201_12, b201_16, b201_17, nI_add, mn_mul, mn_sub, mn_m1, mn_m8, mn_eq, mn_lt, mn_le, mn_eq0, mn_0eq, mn_lt0, mn_0lt, mn_le0, mn_0le, mn_eqm, mn_meq, mn_ltm, mn_mlt, mn_lem, mn_mle, mn_mm1, mn_mm2, mn_mm3, mn_mm4, mn_mm5, mn_mm6, mn_and, mn_or, mn_an, mn_shl, mn_shr, mn_div, mn_rem, mn_clamp, mn_in, mn_inm, mn_nz, mn_zo, mn_min, mn_max, mn_abs, mn_rfit, mn_cp, mn_les, mn_gre, mn_a127, mn_a15, mn_a1, mn_a255, mn_tn0, mn_tn0e, mn_tnr, mn_tnz, mr_get, mr_ne, mr_put, mu_ne, mu_eq, mj_bk_i, mj_bk_v, mj_bk_x, decide_eq_true_eq, decide_true, decide_false, Bool.false_eq_true, Bool.true_eq_false, reduceCtorEq, mt_le_t, mt_le_f, mt_lt_t, mt_lt_f, mt_eq_t, mt_eq_f, mt_ee, not_true_eq_false, not_false_eq_true, and_true, true_and, and_self, Nat.zero_add, Nat.add_zero, Nat.one_mul, Nat.mul_one, Nat.reduceAdd, Nat.reduceMul, Nat.reduceSub, Nat.reducePow, Nat.reduceDiv, Nat.reduceMod, ↓reduceIte, q1]
    rfl
  · by_cases q2 : nI 57 < x
    · have : o = false := by cases o; rfl; exact absurd q2 (h.1 rfl).2
      subst this
      simp (disch := first | assumption | exact hf _ | omega) only [b201, b201_0, b201_6, b201_12, b201_16, b201_17, nI_add, mn_mul, mn_sub, mn_m1, mn_m8, mn_eq, mn_lt, mn_le, mn_eq0, mn_0eq, mn_lt0, mn_0lt, mn_le0, mn_0le, mn_eqm, mn_meq, mn_ltm, mn_mlt, mn_lem, mn_mle, mn_mm1, mn_mm2, mn_mm3, mn_mm4, mn_mm5, mn_mm6, mn_and, mn_or, mn_an, mn_shl, mn_shr, mn_div, mn_rem, mn_clamp, mn_in, mn_inm, mn_nz, mn_zo, mn_min, mn_max, mn_abs, mn_rfit, mn_cp, mn_les, mn_gre, mn_a127, mn_a15, mn_a1, mn_a255, mn_tn0, mn_tn0e, mn_tnr, mn_tnz, mr_get, mr_ne, mr_put, mu_ne, mu_eq, mj_bk_i, mj_bk_v, mj_bk_x, decide_eq_true_eq, decide_true, decide_false, Bool.false_eq_true, Bool.true_eq_false, reduceCtorEq, mt_le_t, mt_le_f, mt_lt_t, mt_lt_f, mt_eq_t, mt_eq_f, mt_ee, not_true_eq_false, not_false_eq_true, and_true, true_and, and_self, Nat.zero_add, Nat.add_zero, Nat.one_mul, Nat.mul_one, Nat.reduceAdd, Nat.reduceMul, Nat.reduceSub, Nat.reducePow, Nat.reduceDiv, Nat.reduceMod, ↓reduceIte, q1, q2]
      rfl
    · have : o = true := h.2 ⟨q1, q2⟩
      subst this
      simp (disch := first | assumption | exact hf _ | omega) only [b201, b201_0, b201_6, b201_12, b201_16, b201_17, nI_add, mn_mul, mn_sub, mn_m1, mn_m8, mn_eq, mn_lt, mn_le, mn_eq0, mn_0eq, mn_lt0, mn_0lt, mn_le0, mn_0le, mn_eqm, mn_meq, mn_ltm, mn_mlt, mn_lem, mn_mle, mn_mm1, mn_mm2, mn_mm3, mn_mm4, mn_mm5, mn_mm6, mn_and, mn_or, mn_an, mn_shl, mn_shr, mn_div, mn_rem, mn_clamp, mn_in, mn_inm, mn_nz, mn_zo, mn_min, mn_max, mn_abs, mn_rfit, mn_cp, mn_les, mn_gre, mn_a127, mn_a15, mn_a1, mn_a255, mn_tn0, mn_tn0e, mn_tnr, mn_tnz, mr_get, mr_ne, mr_put, mu_ne, mu_eq, mj_bk_i, mj_bk_v, mj_bk_x, decide_eq_true_eq, decide_true, decide_false, Bool.false_eq_true, Bool.true_eq_false, reduceCtorEq, mt_le_t, mt_le_f, mt_lt_t, mt_lt_f, mt_eq_t, mt_eq_f, mt_ee, not_true_eq_false, not_false_eq_true, and_true, true_and, and_self, Nat.zero_add, Nat.add_zero, Nat.one_mul, Nat.mul_one, Nat.reduceAdd, Nat.reduceMul, Nat.reduceSub, Nat.reducePow, Nat.reduceDiv, Nat.reduceMod, ↓reduceIte, q1, q2]
      rfl
theorem byL {k : Nat} (hb : ∀ j, j < n → tp j < 256) : ((decide (k < n) && isL (tp k)) = true ↔ ¬ bya tp n k < nI 97 ∧ ¬ nI 122 < bya tp n k) := by
  by_cases q : k < n
  · have := hb k q
    rw [bya_lt q, decide_eq_true q, Bool.true_and, mn_lt (by omega) (by omega), mn_lt (by omega) (by omega)]
    unfold isL
    rw [decide_eq_true_eq]; omega
  · rw [bya_ge q, decide_eq_false q]
    have z : (-1 : Int32) < nI 97 := by decide
    simp [z]
theorem byD {k : Nat} (hb : ∀ j, j < n → tp j < 256) : ((decide (k < n) && isD (tp k)) = true ↔ ¬ bya tp n k < nI 48 ∧ ¬ nI 57 < bya tp n k) := by
  by_cases q : k < n
  · have := hb k q
    rw [bya_lt q, decide_eq_true q, Bool.true_and, mn_lt (by omega) (by omega), mn_lt (by omega) (by omega)]
    unfold isD
    rw [decide_eq_true_eq]; omega
  · rw [bya_ge q, decide_eq_false q]
    have z : (-1 : Int32) < nI 48 := by decide
    simp [z]
theorem c202 {c : Nat} (hc : c < 256) : mj_call X d 202 [.int (nI c)] (mw_U s) = some (.inl (some (.int (nI (isK c).toNat))), mw_U s) := by
  unfold isK
  by_cases q1 : c = 59
  · subst q1; simp (disch := first | assumption | exact hf _ | omega) only [b202, b202_0, b202_6, b202_12, b202_18, b202_24, b202_30, b202_36, b202_42, b202_48, b202_54, b202_58, b202_59, nI_add, mn_mul, mn_sub, mn_m1, mn_m8, mn_eq, mn_lt, mn_le, mn_eq0, mn_0eq, mn_lt0, mn_0lt, mn_le0, mn_0le, mn_eqm, mn_meq, mn_ltm, mn_mlt, mn_lem, mn_mle, mn_mm1, mn_mm2, mn_mm3, mn_mm4, mn_mm5, mn_mm6, mn_and, mn_or, mn_an, mn_shl, mn_shr, mn_div, mn_rem, mn_clamp, mn_in, mn_inm, mn_nz, mn_zo, mn_min, mn_max, mn_abs, mn_rfit, mn_cp, mn_les, mn_gre, mn_a127, mn_a15, mn_a1, mn_a255, mn_tn0, mn_tn0e, mn_tnr, mn_tnz, mr_get, mr_ne, mr_put, mu_ne, mu_eq, mj_bk_i, mj_bk_v, mj_bk_x, decide_eq_true_eq, decide_true, decide_false, Bool.false_eq_true, Bool.true_eq_false, reduceCtorEq, mt_le_t, mt_le_f, mt_lt_t, mt_lt_f, mt_eq_t, mt_eq_f, mt_ee, not_true_eq_false, not_false_eq_true, and_true, true_and, and_self, Nat.zero_add, Nat.add_zero, Nat.one_mul, Nat.mul_one, Nat.reduceAdd, Nat.reduceMul, Nat.reduceSub, Nat.reducePow, Nat.reduceDiv, Nat.reduceMod, ↓reduceIte]; rfl
  by_cases q2 : c = 40
  · subst q2; simp (disch := first | assumption | exact hf _ | omega) only [b202, b202_0, b202_6, b202_12, b202_18, b202_24, b202_30, b202_36, b202_42, b202_48, b202_54, b202_58, b202_59, nI_add, mn_mul, mn_sub, mn_m1, mn_m8, mn_eq, mn_lt, mn_le, mn_eq0, mn_0eq, mn_lt0, mn_0lt, mn_le0, mn_0le, mn_eqm, mn_meq, mn_ltm, mn_mlt, mn_lem, mn_mle, mn_mm1, mn_mm2, mn_mm3, mn_mm4, mn_mm5, mn_mm6, mn_and, mn_or, mn_an, mn_shl, mn_shr, mn_div, mn_rem, mn_clamp, mn_in, mn_inm, mn_nz, mn_zo, mn_min, mn_max, mn_abs, mn_rfit, mn_cp, mn_les, mn_gre, mn_a127, mn_a15, mn_a1, mn_a255, mn_tn0, mn_tn0e, mn_tnr, mn_tnz, mr_get, mr_ne, mr_put, mu_ne, mu_eq, mj_bk_i, mj_bk_v, mj_bk_x, decide_eq_true_eq, decide_true, decide_false, Bool.false_eq_true, Bool.true_eq_false, reduceCtorEq, mt_le_t, mt_le_f, mt_lt_t, mt_lt_f, mt_eq_t, mt_eq_f, mt_ee, not_true_eq_false, not_false_eq_true, and_true, true_and, and_self, Nat.zero_add, Nat.add_zero, Nat.one_mul, Nat.mul_one, Nat.reduceAdd, Nat.reduceMul, Nat.reduceSub, Nat.reducePow, Nat.reduceDiv, Nat.reduceMod, ↓reduceIte]; rfl
  by_cases q3 : c = 41
  · subst q3; simp (disch := first | assumption | exact hf _ | omega) only [b202, b202_0, b202_6, b202_12, b202_18, b202_24, b202_30, b202_36, b202_42, b202_48, b202_54, b202_58, b202_59, nI_add, mn_mul, mn_sub, mn_m1, mn_m8, mn_eq, mn_lt, mn_le, mn_eq0, mn_0eq, mn_lt0, mn_0lt, mn_le0, mn_0le, mn_eqm, mn_meq, mn_ltm, mn_mlt, mn_lem, mn_mle, mn_mm1, mn_mm2, mn_mm3, mn_mm4, mn_mm5, mn_mm6, mn_and, mn_or, mn_an, mn_shl, mn_shr, mn_div, mn_rem, mn_clamp, mn_in, mn_inm, mn_nz, mn_zo, mn_min, mn_max, mn_abs, mn_rfit, mn_cp, mn_les, mn_gre, mn_a127, mn_a15, mn_a1, mn_a255, mn_tn0, mn_tn0e, mn_tnr, mn_tnz, mr_get, mr_ne, mr_put, mu_ne, mu_eq, mj_bk_i, mj_bk_v, mj_bk_x, decide_eq_true_eq, decide_true, decide_false, Bool.false_eq_true, Bool.true_eq_false, reduceCtorEq, mt_le_t, mt_le_f, mt_lt_t, mt_lt_f, mt_eq_t, mt_eq_f, mt_ee, not_true_eq_false, not_false_eq_true, and_true, true_and, and_self, Nat.zero_add, Nat.add_zero, Nat.one_mul, Nat.mul_one, Nat.reduceAdd, Nat.reduceMul, Nat.reduceSub, Nat.reducePow, Nat.reduceDiv, Nat.reduceMod, ↓reduceIte]; rfl
  by_cases q4 : c = 43
  · subst q4; simp (disch := first | assumption | exact hf _ | omega) only [b202, b202_0, b202_6, b202_12, b202_18, b202_24, b202_30, b202_36, b202_42, b202_48, b202_54, b202_58, b202_59, nI_add, mn_mul, mn_sub, mn_m1, mn_m8, mn_eq, mn_lt, mn_le, mn_eq0, mn_0eq, mn_lt0, mn_0lt, mn_le0, mn_0le, mn_eqm, mn_meq, mn_ltm, mn_mlt, mn_lem, mn_mle, mn_mm1, mn_mm2, mn_mm3, mn_mm4, mn_mm5, mn_mm6, mn_and, mn_or, mn_an, mn_shl, mn_shr, mn_div, mn_rem, mn_clamp, mn_in, mn_inm, mn_nz, mn_zo, mn_min, mn_max, mn_abs, mn_rfit, mn_cp, mn_les, mn_gre, mn_a127, mn_a15, mn_a1, mn_a255, mn_tn0, mn_tn0e, mn_tnr, mn_tnz, mr_get, mr_ne, mr_put, mu_ne, mu_eq, mj_bk_i, mj_bk_v, mj_bk_x, decide_eq_true_eq, decide_true, decide_false, Bool.false_eq_true, Bool.true_eq_false, reduceCtorEq, mt_le_t, mt_le_f, mt_lt_t, mt_lt_f, mt_eq_t, mt_eq_f, mt_ee, not_true_eq_false, not_false_eq_true, and_true, true_and, and_self, Nat.zero_add, Nat.add_zero, Nat.one_mul, Nat.mul_one, Nat.reduceAdd, Nat.reduceMul, Nat.reduceSub, Nat.reducePow, Nat.reduceDiv, Nat.reduceMod, ↓reduceIte]; rfl
  by_cases q5 : c = 45
  · subst q5; simp (disch := first | assumption | exact hf _ | omega) only [b202, b202_0, b202_6, b202_12, b202_18, b202_24, b202_30, b202_36, b202_42, b202_48, b202_54, b202_58, b202_59, nI_add, mn_mul, mn_sub, mn_m1, mn_m8, mn_eq, mn_lt, mn_le, mn_eq0, mn_0eq, mn_lt0, mn_0lt, mn_le0, mn_0le, mn_eqm, mn_meq, mn_ltm, mn_mlt, mn_lem, mn_mle, mn_mm1, mn_mm2, mn_mm3, mn_mm4, mn_mm5, mn_mm6, mn_and, mn_or, mn_an, mn_shl, mn_shr, mn_div, mn_rem, mn_clamp, mn_in, mn_inm, mn_nz, mn_zo, mn_min, mn_max, mn_abs, mn_rfit, mn_cp, mn_les, mn_gre, mn_a127, mn_a15, mn_a1, mn_a255, mn_tn0, mn_tn0e, mn_tnr, mn_tnz, mr_get, mr_ne, mr_put, mu_ne, mu_eq, mj_bk_i, mj_bk_v, mj_bk_x, decide_eq_true_eq, decide_true, decide_false, Bool.false_eq_true, Bool.true_eq_false, reduceCtorEq, mt_le_t, mt_le_f, mt_lt_t, mt_lt_f, mt_eq_t, mt_eq_f, mt_ee, not_true_eq_false, not_false_eq_true, and_true, true_and, and_self, Nat.zero_add, Nat.add_zero, Nat.one_mul, Nat.mul_one, Nat.reduceAdd, Nat.reduceMul, Nat.reduceSub, Nat.reducePow, Nat.reduceDiv, Nat.reduceMod, ↓reduceIte]; rfl
  by_cases q6 : c = 42
  · subst q6; simp (disch := first | assumption | exact hf _ | omega) only [b202, b202_0, b202_6, b202_12, b202_18, b202_24, b202_30, b202_36, b202_42, b202_48, b202_54, b202_58, b202_59, nI_add, mn_mul, mn_sub, mn_m1, mn_m8, mn_eq, mn_lt, mn_le, mn_eq0, mn_0eq, mn_lt0, mn_0lt, mn_le0, mn_0le, mn_eqm, mn_meq, mn_ltm, mn_mlt, mn_lem, mn_mle, mn_mm1, mn_mm2, mn_mm3, mn_mm4, mn_mm5, mn_mm6, mn_and, mn_or, mn_an, mn_shl, mn_shr, mn_div, mn_rem, mn_clamp, mn_in, mn_inm, mn_nz, mn_zo, mn_min, mn_max, mn_abs, mn_rfit, mn_cp, mn_les, mn_gre, mn_a127, mn_a15, mn_a1, mn_a255, mn_tn0, mn_tn0e, mn_tnr, mn_tnz, mr_get, mr_ne, mr_put, mu_ne, mu_eq, mj_bk_i, mj_bk_v, mj_bk_x, decide_eq_true_eq, decide_true, decide_false, Bool.false_eq_true, Bool.true_eq_false, reduceCtorEq, mt_le_t, mt_le_f, mt_lt_t, mt_lt_f, mt_eq_t, mt_eq_f, mt_ee, not_true_eq_false, not_false_eq_true, and_true, true_and, and_self, Nat.zero_add, Nat.add_zero, Nat.one_mul, Nat.mul_one, Nat.reduceAdd, Nat.reduceMul, Nat.reduceSub, Nat.reducePow, Nat.reduceDiv, Nat.reduceMod, ↓reduceIte]; rfl
  by_cases q7 : c = 47
  · subst q7; simp (disch := first | assumption | exact hf _ | omega) only [b202, b202_0, b202_6, b202_12, b202_18, b202_24, b202_30, b202_36, b202_42, b202_48, b202_54, b202_58, b202_59, nI_add, mn_mul, mn_sub, mn_m1, mn_m8, mn_eq, mn_lt, mn_le, mn_eq0, mn_0eq, mn_lt0, mn_0lt, mn_le0, mn_0le, mn_eqm, mn_meq, mn_ltm, mn_mlt, mn_lem, mn_mle, mn_mm1, mn_mm2, mn_mm3, mn_mm4, mn_mm5, mn_mm6, mn_and, mn_or, mn_an, mn_shl, mn_shr, mn_div, mn_rem, mn_clamp, mn_in, mn_inm, mn_nz, mn_zo, mn_min, mn_max, mn_abs, mn_rfit, mn_cp, mn_les, mn_gre, mn_a127, mn_a15, mn_a1, mn_a255, mn_tn0, mn_tn0e, mn_tnr, mn_tnz, mr_get, mr_ne, mr_put, mu_ne, mu_eq, mj_bk_i, mj_bk_v, mj_bk_x, decide_eq_true_eq, decide_true, decide_false, Bool.false_eq_true, Bool.true_eq_false, reduceCtorEq, mt_le_t, mt_le_f, mt_lt_t, mt_lt_f, mt_eq_t, mt_eq_f, mt_ee, not_true_eq_false, not_false_eq_true, and_true, true_and, and_self, Nat.zero_add, Nat.add_zero, Nat.one_mul, Nat.mul_one, Nat.reduceAdd, Nat.reduceMul, Nat.reduceSub, Nat.reducePow, Nat.reduceDiv, Nat.reduceMod, ↓reduceIte]; rfl
  by_cases q8 : c = 60
  · subst q8; simp (disch := first | assumption | exact hf _ | omega) only [b202, b202_0, b202_6, b202_12, b202_18, b202_24, b202_30, b202_36, b202_42, b202_48, b202_54, b202_58, b202_59, nI_add, mn_mul, mn_sub, mn_m1, mn_m8, mn_eq, mn_lt, mn_le, mn_eq0, mn_0eq, mn_lt0, mn_0lt, mn_le0, mn_0le, mn_eqm, mn_meq, mn_ltm, mn_mlt, mn_lem, mn_mle, mn_mm1, mn_mm2, mn_mm3, mn_mm4, mn_mm5, mn_mm6, mn_and, mn_or, mn_an, mn_shl, mn_shr, mn_div, mn_rem, mn_clamp, mn_in, mn_inm, mn_nz, mn_zo, mn_min, mn_max, mn_abs, mn_rfit, mn_cp, mn_les, mn_gre, mn_a127, mn_a15, mn_a1, mn_a255, mn_tn0, mn_tn0e, mn_tnr, mn_tnz, mr_get, mr_ne, mr_put, mu_ne, mu_eq, mj_bk_i, mj_bk_v, mj_bk_x, decide_eq_true_eq, decide_true, decide_false, Bool.false_eq_true, Bool.true_eq_false, reduceCtorEq, mt_le_t, mt_le_f, mt_lt_t, mt_lt_f, mt_eq_t, mt_eq_f, mt_ee, not_true_eq_false, not_false_eq_true, and_true, true_and, and_self, Nat.zero_add, Nat.add_zero, Nat.one_mul, Nat.mul_one, Nat.reduceAdd, Nat.reduceMul, Nat.reduceSub, Nat.reducePow, Nat.reduceDiv, Nat.reduceMod, ↓reduceIte]; rfl
  by_cases q9 : c = 61
  · subst q9; simp (disch := first | assumption | exact hf _ | omega) only [b202, b202_0, b202_6, b202_12, b202_18, b202_24, b202_30, b202_36, b202_42, b202_48, b202_54, b202_58, b202_59, nI_add, mn_mul, mn_sub, mn_m1, mn_m8, mn_eq, mn_lt, mn_le, mn_eq0, mn_0eq, mn_lt0, mn_0lt, mn_le0, mn_0le, mn_eqm, mn_meq, mn_ltm, mn_mlt, mn_lem, mn_mle, mn_mm1, mn_mm2, mn_mm3, mn_mm4, mn_mm5, mn_mm6, mn_and, mn_or, mn_an, mn_shl, mn_shr, mn_div, mn_rem, mn_clamp, mn_in, mn_inm, mn_nz, mn_zo, mn_min, mn_max, mn_abs, mn_rfit, mn_cp, mn_les, mn_gre, mn_a127, mn_a15, mn_a1, mn_a255, mn_tn0, mn_tn0e, mn_tnr, mn_tnz, mr_get, mr_ne, mr_put, mu_ne, mu_eq, mj_bk_i, mj_bk_v, mj_bk_x, decide_eq_true_eq, decide_true, decide_false, Bool.false_eq_true, Bool.true_eq_false, reduceCtorEq, mt_le_t, mt_le_f, mt_lt_t, mt_lt_f, mt_eq_t, mt_eq_f, mt_ee, not_true_eq_false, not_false_eq_true, and_true, true_and, and_self, Nat.zero_add, Nat.add_zero, Nat.one_mul, Nat.mul_one, Nat.reduceAdd, Nat.reduceMul, Nat.reduceSub, Nat.reducePow, Nat.reduceDiv, Nat.reduceMod, ↓reduceIte]; rfl
  have : decide (c = 59 ∨ c = 40 ∨ c = 41 ∨ c = 43 ∨ c = 45 ∨ c = 42 ∨ c = 47 ∨ c = 60 ∨ c = 61) = false := decide_eq_false (by omega)
  rw [this]
  simp (disch := first | assumption | exact hf _ | omega) only [b202, b202_0, b202_6, b202_12, b202_18, b202_24, b202_30, b202_36, b202_42, b202_48, b202_54, b202_58, b202_59, nI_add, mn_mul, mn_sub, mn_m1, mn_m8, mn_eq, mn_lt, mn_le, mn_eq0, mn_0eq, mn_lt0, mn_0lt, mn_le0, mn_0le, mn_eqm, mn_meq, mn_ltm, mn_mlt, mn_lem, mn_mle, mn_mm1, mn_mm2, mn_mm3, mn_mm4, mn_mm5, mn_mm6, mn_and, mn_or, mn_an, mn_shl, mn_shr, mn_div, mn_rem, mn_clamp, mn_in, mn_inm, mn_nz, mn_zo, mn_min, mn_max, mn_abs, mn_rfit, mn_cp, mn_les, mn_gre, mn_a127, mn_a15, mn_a1, mn_a255, mn_tn0, mn_tn0e, mn_tnr, mn_tnz, mr_get, mr_ne, mr_put, mu_ne, mu_eq, mj_bk_i, mj_bk_v, mj_bk_x, decide_eq_true_eq, decide_true, decide_false, Bool.false_eq_true, Bool.true_eq_false, reduceCtorEq, mt_le_t, mt_le_f, mt_lt_t, mt_lt_f, mt_eq_t, mt_eq_f, mt_ee, not_true_eq_false, not_false_eq_true, and_true, true_and, and_self, Nat.zero_add, Nat.add_zero, Nat.one_mul, Nat.mul_one, Nat.reduceAdd, Nat.reduceMul, Nat.reduceSub, Nat.reducePow, Nat.reduceDiv, Nat.reduceMod, ↓reduceIte, q1, q2, q3, q4, q5, q6, q7, q8, q9]
  rfl
theorem c198 (h : PR s tp n a) : ∃ t, mj_call X (d + 2) 198 [.ref 42] (mw_U (mp s f)) = some (.inl none, mw_U (mp t f)) ∧ TR t tp n a ∧ fR s t := by
  obtain ⟨ha, hn, h17, h16, ht⟩ := h
  have hb256 : ∀ j, j < n → tp j < 256 := fun j hj => (ht j hj).1
  have tf : ∀ {t : mw_S}, fR s t → t.1 42 17 = nI n ∧ ∀ j, j < n → tp j < 256 ∧ t.1 56 j = nI (tp j) := fun g => ⟨by rw [g.2.2 17 (by decide) (by decide) (by decide) (by decide) (by decide)]; exact h17, fun j hj => by rw [g.2.1 56 (by decide)]; exact ht j hj⟩
  obtain ⟨u, ⟨i1, i2, i3⟩, e⟩ := mr_scan (P := isS) (tp := tp) (n := n) (a := a) (γ := mw_S) (E := fun _ t => mj_exec X (d + 2) 198 0 [some (.ref 42), none] [] (mw_U (mp t f))) (I := fun b t => a ≤ b ∧ fR s t ∧ t.1 42 16 = nI b) (by
    intro b t hb hP ⟨i1, i2, i3⟩
    obtain ⟨g17, g56⟩ := tf i2
    have hP := of_decide_eq_true hP
    have h256 := hb256 b hb
    have e199 : ∀ d, mj_call X d 199 [.ref 42, .int (nI b)] (mw_U (mp t f)) = some (.inl (some (.int (nI (tp b)))), mw_U (mp t f)) := fun d => by rw [c199 (by omega) hn g17 g56, bya_lt hb]
    refine ⟨mw_p t 42 16 (nI (b + 1)), ⟨by omega, fR_trans i2 (fR_p (by omega)), mw_peq⟩, ?_⟩
    rw [b198_0]
    by_cases q1 : tp b = 32
    · simp (disch := first | assumption | exact hf _ | omega) only [b198, b198_8, b198_13, b198_21, b198_26, b198_39, b198_55, b198_61, b198_69, b198_73, b198_84, b198_87, b198_90, b198_103, b198_111, b198_115, b198_118, b198_131, b198_134, b198_137, b198_155, b198_178, b198_186, b198_201, b198_204, b198_208, b198_209, b198_212, nI_add, mn_mul, mn_sub, mn_m1, mn_m8, mn_eq, mn_lt, mn_le, mn_eq0, mn_0eq, mn_lt0, mn_0lt, mn_le0, mn_0le, mn_eqm, mn_meq, mn_ltm, mn_mlt, mn_lem, mn_mle, mn_mm1, mn_mm2, mn_mm3, mn_mm4, mn_mm5, mn_mm6, mn_and, mn_or, mn_an, mn_shl, mn_shr, mn_div, mn_rem, mn_clamp, mn_in, mn_inm, mn_nz, mn_zo, mn_min, mn_max, mn_abs, mn_rfit, mn_cp, mn_les, mn_gre, mn_a127, mn_a15, mn_a1, mn_a255, mn_tn0, mn_tn0e, mn_tnr, mn_tnz, mr_get, mr_ne, mr_put, mu_ne, mu_eq, mj_bk_i, mj_bk_v, mj_bk_x, decide_eq_true_eq, decide_true, decide_false, Bool.false_eq_true, Bool.true_eq_false, reduceCtorEq, mt_le_t, mt_le_f, mt_lt_t, mt_lt_f, mt_eq_t, mt_eq_f, mt_ee, not_true_eq_false, not_false_eq_true, and_true, true_and, and_self, Nat.zero_add, Nat.add_zero, Nat.one_mul, Nat.mul_one, Nat.reduceAdd, Nat.reduceMul, Nat.reduceSub, Nat.reducePow, Nat.reduceDiv, Nat.reduceMod, ↓reduceIte, mp_h, mp_w, mp_c, mp_s, mp_d, mp_n, mp_54, mp_52, mp_55, mp_l, mp_o, mp_42, mp_45, gh_gp, gw_gp, gc_gp, mw_pne, Nat.or_zero, mp_wo, i3, e199, q1]
    · have q2 : tp b = 10 := by omega
      simp (disch := first | assumption | exact hf _ | omega) only [b198, b198_8, b198_13, b198_21, b198_26, b198_39, b198_55, b198_61, b198_69, b198_73, b198_84, b198_87, b198_90, b198_103, b198_111, b198_115, b198_118, b198_131, b198_134, b198_137, b198_155, b198_178, b198_186, b198_201, b198_204, b198_208, b198_209, b198_212, nI_add, mn_mul, mn_sub, mn_m1, mn_m8, mn_eq, mn_lt, mn_le, mn_eq0, mn_0eq, mn_lt0, mn_0lt, mn_le0, mn_0le, mn_eqm, mn_meq, mn_ltm, mn_mlt, mn_lem, mn_mle, mn_mm1, mn_mm2, mn_mm3, mn_mm4, mn_mm5, mn_mm6, mn_and, mn_or, mn_an, mn_shl, mn_shr, mn_div, mn_rem, mn_clamp, mn_in, mn_inm, mn_nz, mn_zo, mn_min, mn_max, mn_abs, mn_rfit, mn_cp, mn_les, mn_gre, mn_a127, mn_a15, mn_a1, mn_a255, mn_tn0, mn_tn0e, mn_tnr, mn_tnz, mr_get, mr_ne, mr_put, mu_ne, mu_eq, mj_bk_i, mj_bk_v, mj_bk_x, decide_eq_true_eq, decide_true, decide_false, Bool.false_eq_true, Bool.true_eq_false, reduceCtorEq, mt_le_t, mt_le_f, mt_lt_t, mt_lt_f, mt_eq_t, mt_eq_f, mt_ee, not_true_eq_false, not_false_eq_true, and_true, true_and, and_self, Nat.zero_add, Nat.add_zero, Nat.one_mul, Nat.mul_one, Nat.reduceAdd, Nat.reduceMul, Nat.reduceSub, Nat.reducePow, Nat.reduceDiv, Nat.reduceMod, ↓reduceIte, mp_h, mp_w, mp_c, mp_s, mp_d, mp_n, mp_54, mp_52, mp_55, mp_l, mp_o, mp_42, mp_45, gh_gp, gw_gp, gc_gp, mw_pne, Nat.or_zero, mp_wo, i3, e199, q2]) (g := s) ⟨Nat.le_refl _, fR_refl, h16⟩
  have hble := tb_le (tp := tp) ha
  rw [show sc isS tp n a = tb tp n a from rfl] at i1 i3
  obtain ⟨b, hb⟩ : ∃ b, b = tb tp n a := ⟨_, rfl⟩
  rw [← hb] at hble i1 i3
  obtain ⟨g17, g56⟩ := tf i2
  obtain ⟨v, hv⟩ : ∃ v, v = mw_p u 42 20 (nI b) := ⟨_, rfl⟩
  have v16 : v.1 42 16 = nI b := by rw [hv, mw_pnj (by decide)]; exact i3
  have v20 : v.1 42 20 = nI b := by rw [hv, mw_peq]
  have vg : fR s v := by rw [hv]; exact fR_trans i2 (fR_p (by omega))
  obtain ⟨w17, w56⟩ := tf vg
  have e199 : ∀ d, mj_call X d 199 [.ref 42, .int (nI b)] (mw_U (mp u f)) = some (.inl (some (.int (bya tp n b))), mw_U (mp u f)) := fun d => c199 (by omega) hn g17 g56
  have e199v : ∀ d, mj_call X d 199 [.ref 42, .int (nI b)] (mw_U (mp v f)) = some (.inl (some (.int (bya tp n b))), mw_U (mp v f)) := fun d => c199 (by omega) hn w17 w56
  have start : mj_call X (d + 2) 198 [.ref 42] (mw_U (mp s f)) = mj_exec X (d + 2) 198 55 [some (.ref 42), none] [.int (bya tp n b)] (mw_U (mp v f)) := by
    rw [b198]
    refine e.trans ?_
    have v16' : (mw_p u 42 20 (nI b)).1 42 16 = nI b := by rw [← hv]; exact v16
    have n32 : ¬ bya tp n b = nI 32 ∧ ¬ bya tp n b = nI 10 := by
      by_cases q : b < n
      · have hno : isS (tp b) = false := by rw [hb]; exact sc_end (by rw [← show tb tp n a = sc isS tp n a from rfl, ← hb]; exact q)
        have hno := of_decide_eq_false hno
        have := hb256 b q
        rw [bya_lt q, mn_eq (by omega) (by omega), mn_eq (by omega) (by omega)]
        omega
      · rw [bya_ge q]; decide
    rw [hv] at e199v
    rw [b198_0, hv]
    simp (disch := first | assumption | exact hf _ | omega) only [b198, b198_8, b198_13, b198_21, b198_26, b198_39, b198_55, b198_61, b198_69, b198_73, b198_84, b198_87, b198_90, b198_103, b198_111, b198_115, b198_118, b198_131, b198_134, b198_137, b198_155, b198_178, b198_186, b198_201, b198_204, b198_208, b198_209, b198_212, nI_add, mn_mul, mn_sub, mn_m1, mn_m8, mn_eq, mn_lt, mn_le, mn_eq0, mn_0eq, mn_lt0, mn_0lt, mn_le0, mn_0le, mn_eqm, mn_meq, mn_ltm, mn_mlt, mn_lem, mn_mle, mn_mm1, mn_mm2, mn_mm3, mn_mm4, mn_mm5, mn_mm6, mn_and, mn_or, mn_an, mn_shl, mn_shr, mn_div, mn_rem, mn_clamp, mn_in, mn_inm, mn_nz, mn_zo, mn_min, mn_max, mn_abs, mn_rfit, mn_cp, mn_les, mn_gre, mn_a127, mn_a15, mn_a1, mn_a255, mn_tn0, mn_tn0e, mn_tnr, mn_tnz, mr_get, mr_ne, mr_put, mu_ne, mu_eq, mj_bk_i, mj_bk_v, mj_bk_x, decide_eq_true_eq, decide_true, decide_false, Bool.false_eq_true, Bool.true_eq_false, reduceCtorEq, mt_le_t, mt_le_f, mt_lt_t, mt_lt_f, mt_eq_t, mt_eq_f, mt_ee, not_true_eq_false, not_false_eq_true, and_true, true_and, and_self, Nat.zero_add, Nat.add_zero, Nat.one_mul, Nat.mul_one, Nat.reduceAdd, Nat.reduceMul, Nat.reduceSub, Nat.reducePow, Nat.reduceDiv, Nat.reduceMod, ↓reduceIte, mp_h, mp_w, mp_c, mp_s, mp_d, mp_n, mp_54, mp_52, mp_55, mp_l, mp_o, mp_42, mp_45, gh_gp, gw_gp, gc_gp, mw_pne, Nat.or_zero, mp_wo, i3, v16', e199, e199v, n32.1, n32.2]
  have fin : ∀ (w : mw_S) (k e : Nat) (l : Option Value), fR s w → w.1 42 16 = nI e → w.1 42 20 = nI b → w.1 42 18 = nI (tkd tp n a) → te tp n a = e → (tkd tp n a = 2 → w.1 42 19 = nI (min 100000 (dv tp (tb tp n a) (te tp n a - tb tp n a)))) → fR s (mw_p w 42 21 (nI e)) ∧ TR (mw_p w 42 21 (nI e)) tp n a := by
    intro w k e l g w16 w20 w18 het w19
    have g' := fR_trans g (fR_p (s := w) (b := 21) (v := nI e) (by omega))
    obtain ⟨x17, x56⟩ := tf g'
    refine ⟨g', ha, hn, x17, ?_, ?_, ?_, ?_, ?_, x56⟩
    · rw [mw_pnj (by decide), het]; exact w16
    · rw [mw_pnj (by decide)]; exact w18
    · intro h2; rw [mw_pnj (by decide)]; exact w19 h2
    · rw [mw_pnj (by decide), ← hb]; exact w20
    · rw [mw_peq, het]
  rw [start]
  by_cases q0 : b < n
  · have h256 := hb256 b q0
    have nle : ¬ n ≤ tb tp n a := by omega
    have nm1 : ¬ bya tp n b = -1 := by rw [bya_lt q0, mn_eqm (by omega)]; exact not_false
    have eL : ∀ d w, mj_call X d 200 [.int (bya tp n b)] (mw_U w) = some (.inl (some (.int (nI (isL (tp b)).toNat))), mw_U w) := fun d w => by
      have := c200 (X := X) (d := d) (s := w) (byL (k := b) hb256)
      rw [decide_eq_true q0, Bool.true_and] at this; exact this
    have eD : ∀ d w, mj_call X d 201 [.int (bya tp n b)] (mw_U w) = some (.inl (some (.int (nI (isD (tp b)).toNat))), mw_U w) := fun d w => by
      have := c201 (X := X) (d := d) (s := w) (byD (k := b) hb256)
      rw [decide_eq_true q0, Bool.true_and] at this; exact this
    cases hL : isL (tp b) <;> rw [hL] at eL
    · cases hD : isD (tp b) <;> rw [hD] at eD
      · have hk : tkd tp n a = if isK (tp b) then 3 else 4 := by
          unfold tkd
          rw [if_neg nle, ← hb, hL, hD, if_neg (by decide), if_neg (by decide)]
        have het : te tp n a = b + 1 := by
          unfold te
          rw [hk, ← hb]
          cases isK (tp b) <;> rfl
        have eK : ∀ d w, mj_call X d 202 [.int (bya tp n b)] (mw_U w) = some (.inl (some (.int (nI (isK (tp b)).toNat))), mw_U w) := fun d w => by rw [bya_lt q0]; exact c202 h256
        have z16 : (mw_p (mw_p v 42 16 (nI (b + 1))) 42 18 (nI (tkd tp n a))).1 42 16 = nI (b + 1) := by rw [mw_pnj (by decide), mw_peq]
        obtain ⟨r1, r2⟩ := fin (mw_p (mw_p v 42 16 (nI (b + 1))) 42 18 (nI (tkd tp n a))) 0 (b + 1) none (fR_trans vg (fR_trans (fR_p (by omega)) (fR_p (by omega)))) z16 (by rw [mw_pnj (by decide), mw_pnj (by decide)]; exact v20) mw_peq het (fun h2 => by rw [hk] at h2; cases hK : isK (tp b) <;> rw [hK] at h2 <;> exact absurd h2 (by decide))
        refine ⟨_, ?_, r2, r1⟩
        cases hK : isK (tp b) <;> rw [hK] at eK hk
        · have hk : tkd tp n a = 4 := hk
          rw [hk] at z16 ⊢
          simp (disch := first | assumption | exact hf _ | omega) only [b198, b198_8, b198_13, b198_21, b198_26, b198_39, b198_55, b198_61, b198_69, b198_73, b198_84, b198_87, b198_90, b198_103, b198_111, b198_115, b198_118, b198_131, b198_134, b198_137, b198_155, b198_178, b198_186, b198_201, b198_204, b198_208, b198_209, b198_212, nI_add, mn_mul, mn_sub, mn_m1, mn_m8, mn_eq, mn_lt, mn_le, mn_eq0, mn_0eq, mn_lt0, mn_0lt, mn_le0, mn_0le, mn_eqm, mn_meq, mn_ltm, mn_mlt, mn_lem, mn_mle, mn_mm1, mn_mm2, mn_mm3, mn_mm4, mn_mm5, mn_mm6, mn_and, mn_or, mn_an, mn_shl, mn_shr, mn_div, mn_rem, mn_clamp, mn_in, mn_inm, mn_nz, mn_zo, mn_min, mn_max, mn_abs, mn_rfit, mn_cp, mn_les, mn_gre, mn_a127, mn_a15, mn_a1, mn_a255, mn_tn0, mn_tn0e, mn_tnr, mn_tnz, mr_get, mr_ne, mr_put, mu_ne, mu_eq, mj_bk_i, mj_bk_v, mj_bk_x, decide_eq_true_eq, decide_true, decide_false, Bool.false_eq_true, Bool.true_eq_false, reduceCtorEq, mt_le_t, mt_le_f, mt_lt_t, mt_lt_f, mt_eq_t, mt_eq_f, mt_ee, not_true_eq_false, not_false_eq_true, and_true, true_and, and_self, Nat.zero_add, Nat.add_zero, Nat.one_mul, Nat.mul_one, Nat.reduceAdd, Nat.reduceMul, Nat.reduceSub, Nat.reducePow, Nat.reduceDiv, Nat.reduceMod, ↓reduceIte, mp_h, mp_w, mp_c, mp_s, mp_d, mp_n, mp_54, mp_52, mp_55, mp_l, mp_o, mp_42, mp_45, gh_gp, gw_gp, gc_gp, mw_pne, Nat.or_zero, mp_wo, nm1, eL, eD, eK, v16, z16, Bool.toNat_false]
        · have hk : tkd tp n a = 3 := hk
          rw [hk] at z16 ⊢
          simp (disch := first | assumption | exact hf _ | omega) only [b198, b198_8, b198_13, b198_21, b198_26, b198_39, b198_55, b198_61, b198_69, b198_73, b198_84, b198_87, b198_90, b198_103, b198_111, b198_115, b198_118, b198_131, b198_134, b198_137, b198_155, b198_178, b198_186, b198_201, b198_204, b198_208, b198_209, b198_212, nI_add, mn_mul, mn_sub, mn_m1, mn_m8, mn_eq, mn_lt, mn_le, mn_eq0, mn_0eq, mn_lt0, mn_0lt, mn_le0, mn_0le, mn_eqm, mn_meq, mn_ltm, mn_mlt, mn_lem, mn_mle, mn_mm1, mn_mm2, mn_mm3, mn_mm4, mn_mm5, mn_mm6, mn_and, mn_or, mn_an, mn_shl, mn_shr, mn_div, mn_rem, mn_clamp, mn_in, mn_inm, mn_nz, mn_zo, mn_min, mn_max, mn_abs, mn_rfit, mn_cp, mn_les, mn_gre, mn_a127, mn_a15, mn_a1, mn_a255, mn_tn0, mn_tn0e, mn_tnr, mn_tnz, mr_get, mr_ne, mr_put, mu_ne, mu_eq, mj_bk_i, mj_bk_v, mj_bk_x, decide_eq_true_eq, decide_true, decide_false, Bool.false_eq_true, Bool.true_eq_false, reduceCtorEq, mt_le_t, mt_le_f, mt_lt_t, mt_lt_f, mt_eq_t, mt_eq_f, mt_ee, not_true_eq_false, not_false_eq_true, and_true, true_and, and_self, Nat.zero_add, Nat.add_zero, Nat.one_mul, Nat.mul_one, Nat.reduceAdd, Nat.reduceMul, Nat.reduceSub, Nat.reducePow, Nat.reduceDiv, Nat.reduceMod, ↓reduceIte, mp_h, mp_w, mp_c, mp_s, mp_d, mp_n, mp_54, mp_52, mp_55, mp_l, mp_o, mp_42, mp_45, gh_gp, gw_gp, gc_gp, mw_pne, Nat.or_zero, mp_wo, nm1, eL, eD, eK, v16, z16, Bool.toNat_false, Bool.toNat_true]
      · have hk : tkd tp n a = 2 := by
          unfold tkd
          rw [if_neg nle, ← hb, hL, hD, if_neg (by decide), if_pos rfl]
        have het : te tp n a = sc isD tp n b := by
          unfold te
          rw [hk, ← hb]; rfl
        obtain ⟨w, ⟨j1, j2, j3, j4, j5⟩, e2⟩ := mr_scan (P := isD) (tp := tp) (n := n) (a := b) (γ := mw_S) (E := fun _ t => mj_exec X (d + 2) 198 123 [some (.ref 42), some (.int (bya tp n b))] [] (mw_U (mp t f))) (I := fun c t => b ≤ c ∧ fR s t ∧ t.1 42 16 = nI c ∧ t.1 42 20 = nI b ∧ t.1 42 19 = nI (min 100000 (dv tp b (c - b)))) (by
          intro c t hc hP ⟨j1, j2, j3, j4, j5⟩
          obtain ⟨x17, x56⟩ := tf j2
          have h256 := hb256 c hc
          have hd : 48 ≤ tp c ∧ tp c ≤ 57 := of_decide_eq_true hP
          have e1 : ∀ d, mj_call X d 199 [.ref 42, .int (nI c)] (mw_U (mp t f)) = some (.inl (some (.int (bya tp n c))), mw_U (mp t f)) := fun d => c199 (by omega) hn x17 x56
          have e2 : ∀ d w, mj_call X d 201 [.int (bya tp n c)] (mw_U w) = some (.inl (some (.int (nI 1))), mw_U w) := fun d w => by
            have := c201 (X := X) (d := d) (s := w) (byD (k := c) hb256)
            rw [decide_eq_true hc, Bool.true_and, hP] at this; exact this
          have hm : min 100000 (dv tp b (c - b)) ≤ 100000 := Nat.min_le_left _ _
          have ed : dv tp b (c + 1 - b) = 10 * dv tp b (c - b) + (tp c - 48) := by
            rw [show c + 1 - b = (c - b) + 1 by omega]
            show 10 * dv tp b (c - b) + (tp (b + (c - b)) - 48) = _
            rw [show b + (c - b) = c by omega]
          have ev : mw_min (nI 100000) (nI 10 * nI (min 100000 (dv tp b (c - b))) + bya tp n c - nI 48) = nI (min 100000 (dv tp b (c + 1 - b))) := by
            rw [bya_lt hc, mn_mul, nI_add, mn_sub (by omega), mn_min (by omega) (by omega), ed]
            congr 1
            omega
          have z16 : ∀ v, (mw_p t 42 19 v).1 42 16 = nI c := fun v => by rw [mw_pnj (by decide)]; exact j3
          refine ⟨mw_p (mw_p t 42 19 (nI (min 100000 (dv tp b (c + 1 - b))))) 42 16 (nI (c + 1)), ⟨by omega, fR_trans j2 (fR_trans (fR_p (by omega)) (fR_p (by omega))), mw_peq, ?_, ?_⟩, ?_⟩
          · rw [mw_pnj (by decide), mw_pnj (by decide)]; exact j4
          · rw [mw_pnj (by decide), mw_peq]
          · have p16 : (mp t f).1 42 16 = nI c := by rw [mp_42 (by decide)]; exact j3
            have p19 : (mp t f).1 42 19 = nI (min 100000 (dv tp b (c - b))) := by rw [mp_42 (by decide)]; exact j5
            have z1 : ¬ nI 1 = 0 := by decide
            rw [b198_123, p16, e1, mj_bk_i, b198_131, e2, mj_bk_i, b198_134, if_neg z1, b198_137, p16, p19, e1, mj_bk_i, b198_155, ev, mp_wo (by omega), mp_42 (by decide), z16, nI_add, mp_wo (by omega)]) (g := mw_p v 42 19 (nI 0)) ⟨Nat.le_refl _, fR_trans vg (fR_p (by omega)), by rw [mw_pnj (by decide)]; exact v16, by rw [mw_pnj (by decide)]; exact v20, by rw [mw_peq, Nat.sub_self]; rfl⟩
        have hle := sc_le (P := isD) (tp := tp) hble
        obtain ⟨x17, x56⟩ := tf j2
        have e1 : ∀ d, mj_call X d 199 [.ref 42, .int (nI (sc isD tp n b))] (mw_U (mp w f)) = some (.inl (some (.int (bya tp n (sc isD tp n b)))), mw_U (mp w f)) := fun d => c199 (by omega) hn x17 x56
        have e3 : ∀ d w, mj_call X d 201 [.int (bya tp n (sc isD tp n b))] (mw_U w) = some (.inl (some (.int (nI 0))), mw_U w) := fun d w => by
          have := c201 (X := X) (d := d) (s := w) (byD (k := sc isD tp n b) hb256)
          by_cases q : sc isD tp n b < n
          · rw [sc_end q, Bool.and_false] at this; exact this
          · rw [decide_eq_false q, Bool.false_and] at this; exact this
        have z16 : (mw_p w 42 18 (nI 2)).1 42 16 = nI (sc isD tp n b) := by rw [mw_pnj (by decide)]; exact j3
        obtain ⟨r1, r2⟩ := fin (mw_p w 42 18 (nI 2)) 0 (sc isD tp n b) none (fR_trans j2 (fR_p (by omega))) z16 (by rw [mw_pnj (by decide)]; exact j4) (by rw [mw_peq, hk]) het (fun _ => by rw [mw_pnj (by decide), het, ← hb]; exact j5)
        refine ⟨_, ?_, r2, r1⟩
        have s2 : mj_exec X (d + 2) 198 55 [some (.ref 42), none] [.int (bya tp n b)] (mw_U (mp v f)) = mj_exec X (d + 2) 198 123 [some (.ref 42), some (.int (bya tp n b))] [] (mw_U (mp (mw_p v 42 19 (nI 0)) f)) := by
          simp (disch := first | assumption | exact hf _ | omega) only [b198, b198_8, b198_13, b198_21, b198_26, b198_39, b198_55, b198_61, b198_69, b198_73, b198_84, b198_87, b198_90, b198_103, b198_111, b198_115, b198_118, b198_131, b198_134, b198_137, b198_155, b198_178, b198_186, b198_201, b198_204, b198_208, b198_209, b198_212, nI_add, mn_mul, mn_sub, mn_m1, mn_m8, mn_eq, mn_lt, mn_le, mn_eq0, mn_0eq, mn_lt0, mn_0lt, mn_le0, mn_0le, mn_eqm, mn_meq, mn_ltm, mn_mlt, mn_lem, mn_mle, mn_mm1, mn_mm2, mn_mm3, mn_mm4, mn_mm5, mn_mm6, mn_and, mn_or, mn_an, mn_shl, mn_shr, mn_div, mn_rem, mn_clamp, mn_in, mn_inm, mn_nz, mn_zo, mn_min, mn_max, mn_abs, mn_rfit, mn_cp, mn_les, mn_gre, mn_a127, mn_a15, mn_a1, mn_a255, mn_tn0, mn_tn0e, mn_tnr, mn_tnz, mr_get, mr_ne, mr_put, mu_ne, mu_eq, mj_bk_i, mj_bk_v, mj_bk_x, decide_eq_true_eq, decide_true, decide_false, Bool.false_eq_true, Bool.true_eq_false, reduceCtorEq, mt_le_t, mt_le_f, mt_lt_t, mt_lt_f, mt_eq_t, mt_eq_f, mt_ee, not_true_eq_false, not_false_eq_true, and_true, true_and, and_self, Nat.zero_add, Nat.add_zero, Nat.one_mul, Nat.mul_one, Nat.reduceAdd, Nat.reduceMul, Nat.reduceSub, Nat.reducePow, Nat.reduceDiv, Nat.reduceMod, ↓reduceIte, mp_h, mp_w, mp_c, mp_s, mp_d, mp_n, mp_54, mp_52, mp_55, mp_l, mp_o, mp_42, mp_45, gh_gp, gw_gp, gc_gp, mw_pne, Nat.or_zero, mp_wo, nm1, eL, eD, Bool.toNat_false, Bool.toNat_true]
        rw [s2]
        refine e2.trans ?_
        rw [b198_123]
        simp (disch := first | assumption | exact hf _ | omega) only [b198, b198_8, b198_13, b198_21, b198_26, b198_39, b198_55, b198_61, b198_69, b198_73, b198_84, b198_87, b198_90, b198_103, b198_111, b198_115, b198_118, b198_131, b198_134, b198_137, b198_155, b198_178, b198_186, b198_201, b198_204, b198_208, b198_209, b198_212, nI_add, mn_mul, mn_sub, mn_m1, mn_m8, mn_eq, mn_lt, mn_le, mn_eq0, mn_0eq, mn_lt0, mn_0lt, mn_le0, mn_0le, mn_eqm, mn_meq, mn_ltm, mn_mlt, mn_lem, mn_mle, mn_mm1, mn_mm2, mn_mm3, mn_mm4, mn_mm5, mn_mm6, mn_and, mn_or, mn_an, mn_shl, mn_shr, mn_div, mn_rem, mn_clamp, mn_in, mn_inm, mn_nz, mn_zo, mn_min, mn_max, mn_abs, mn_rfit, mn_cp, mn_les, mn_gre, mn_a127, mn_a15, mn_a1, mn_a255, mn_tn0, mn_tn0e, mn_tnr, mn_tnz, mr_get, mr_ne, mr_put, mu_ne, mu_eq, mj_bk_i, mj_bk_v, mj_bk_x, decide_eq_true_eq, decide_true, decide_false, Bool.false_eq_true, Bool.true_eq_false, reduceCtorEq, mt_le_t, mt_le_f, mt_lt_t, mt_lt_f, mt_eq_t, mt_eq_f, mt_ee, not_true_eq_false, not_false_eq_true, and_true, true_and, and_self, Nat.zero_add, Nat.add_zero, Nat.one_mul, Nat.mul_one, Nat.reduceAdd, Nat.reduceMul, Nat.reduceSub, Nat.reducePow, Nat.reduceDiv, Nat.reduceMod, ↓reduceIte, mp_h, mp_w, mp_c, mp_s, mp_d, mp_n, mp_54, mp_52, mp_55, mp_l, mp_o, mp_42, mp_45, gh_gp, gw_gp, gc_gp, mw_pne, Nat.or_zero, mp_wo, j3, e1, e3, z16]
    · have hk : tkd tp n a = 1 := by
        unfold tkd
        rw [if_neg nle, ← hb, hL, if_pos rfl]
      have het : te tp n a = sc isL tp n b := by
        unfold te
        rw [hk, ← hb]; rfl
      obtain ⟨w, ⟨j1, j2, j3, j4⟩, e2⟩ := mr_scan (P := isL) (tp := tp) (n := n) (a := b) (γ := mw_S) (E := fun _ t => mj_exec X (d + 2) 198 76 [some (.ref 42), some (.int (bya tp n b))] [] (mw_U (mp t f))) (I := fun c t => b ≤ c ∧ fR s t ∧ t.1 42 16 = nI c ∧ t.1 42 20 = nI b) (by
        intro c t hc hP ⟨j1, j2, j3, j4⟩
        obtain ⟨x17, x56⟩ := tf j2
        have e1 : ∀ d, mj_call X d 199 [.ref 42, .int (nI c)] (mw_U (mp t f)) = some (.inl (some (.int (bya tp n c))), mw_U (mp t f)) := fun d => c199 (by omega) hn x17 x56
        have e2 : ∀ d w, mj_call X d 200 [.int (bya tp n c)] (mw_U w) = some (.inl (some (.int (nI 1))), mw_U w) := fun d w => by
          have := c200 (X := X) (d := d) (s := w) (byL (k := c) hb256)
          rw [decide_eq_true hc, Bool.true_and, hP] at this; exact this
        refine ⟨mw_p t 42 16 (nI (c + 1)), ⟨by omega, fR_trans j2 (fR_p (by omega)), mw_peq, by rw [mw_pnj (by decide)]; exact j4⟩, ?_⟩
        rw [b198_76]
        simp (disch := first | assumption | exact hf _ | omega) only [b198, b198_8, b198_13, b198_21, b198_26, b198_39, b198_55, b198_61, b198_69, b198_73, b198_84, b198_87, b198_90, b198_103, b198_111, b198_115, b198_118, b198_131, b198_134, b198_137, b198_155, b198_178, b198_186, b198_201, b198_204, b198_208, b198_209, b198_212, nI_add, mn_mul, mn_sub, mn_m1, mn_m8, mn_eq, mn_lt, mn_le, mn_eq0, mn_0eq, mn_lt0, mn_0lt, mn_le0, mn_0le, mn_eqm, mn_meq, mn_ltm, mn_mlt, mn_lem, mn_mle, mn_mm1, mn_mm2, mn_mm3, mn_mm4, mn_mm5, mn_mm6, mn_and, mn_or, mn_an, mn_shl, mn_shr, mn_div, mn_rem, mn_clamp, mn_in, mn_inm, mn_nz, mn_zo, mn_min, mn_max, mn_abs, mn_rfit, mn_cp, mn_les, mn_gre, mn_a127, mn_a15, mn_a1, mn_a255, mn_tn0, mn_tn0e, mn_tnr, mn_tnz, mr_get, mr_ne, mr_put, mu_ne, mu_eq, mj_bk_i, mj_bk_v, mj_bk_x, decide_eq_true_eq, decide_true, decide_false, Bool.false_eq_true, Bool.true_eq_false, reduceCtorEq, mt_le_t, mt_le_f, mt_lt_t, mt_lt_f, mt_eq_t, mt_eq_f, mt_ee, not_true_eq_false, not_false_eq_true, and_true, true_and, and_self, Nat.zero_add, Nat.add_zero, Nat.one_mul, Nat.mul_one, Nat.reduceAdd, Nat.reduceMul, Nat.reduceSub, Nat.reducePow, Nat.reduceDiv, Nat.reduceMod, ↓reduceIte, mp_h, mp_w, mp_c, mp_s, mp_d, mp_n, mp_54, mp_52, mp_55, mp_l, mp_o, mp_42, mp_45, gh_gp, gw_gp, gc_gp, mw_pne, Nat.or_zero, mp_wo, j3, e1, e2]) (g := v) ⟨Nat.le_refl _, vg, v16, v20⟩
      have hle := sc_le (P := isL) (tp := tp) hble
      obtain ⟨x17, x56⟩ := tf j2
      have e1 : ∀ d, mj_call X d 199 [.ref 42, .int (nI (sc isL tp n b))] (mw_U (mp w f)) = some (.inl (some (.int (bya tp n (sc isL tp n b)))), mw_U (mp w f)) := fun d => c199 (by omega) hn x17 x56
      have e3 : ∀ d w, mj_call X d 200 [.int (bya tp n (sc isL tp n b))] (mw_U w) = some (.inl (some (.int (nI 0))), mw_U w) := fun d w => by
        have := c200 (X := X) (d := d) (s := w) (byL (k := sc isL tp n b) hb256)
        by_cases q : sc isL tp n b < n
        · rw [sc_end q, Bool.and_false] at this; exact this
        · rw [decide_eq_false q, Bool.false_and] at this; exact this
      have z16 : (mw_p w 42 18 (nI 1)).1 42 16 = nI (sc isL tp n b) := by rw [mw_pnj (by decide)]; exact j3
      obtain ⟨r1, r2⟩ := fin (mw_p w 42 18 (nI 1)) 0 (sc isL tp n b) none (fR_trans j2 (fR_p (by omega))) z16 (by rw [mw_pnj (by decide)]; exact j4) (by rw [mw_peq, hk]) het (fun h2 => by rw [hk] at h2; cases h2)
      refine ⟨_, ?_, r2, r1⟩
      have s2 : mj_exec X (d + 2) 198 55 [some (.ref 42), none] [.int (bya tp n b)] (mw_U (mp v f)) = mj_exec X (d + 2) 198 76 [some (.ref 42), some (.int (bya tp n b))] [] (mw_U (mp v f)) := by
        simp (disch := first | assumption | exact hf _ | omega) only [b198, b198_8, b198_13, b198_21, b198_26, b198_39, b198_55, b198_61, b198_69, b198_73, b198_84, b198_87, b198_90, b198_103, b198_111, b198_115, b198_118, b198_131, b198_134, b198_137, b198_155, b198_178, b198_186, b198_201, b198_204, b198_208, b198_209, b198_212, nI_add, mn_mul, mn_sub, mn_m1, mn_m8, mn_eq, mn_lt, mn_le, mn_eq0, mn_0eq, mn_lt0, mn_0lt, mn_le0, mn_0le, mn_eqm, mn_meq, mn_ltm, mn_mlt, mn_lem, mn_mle, mn_mm1, mn_mm2, mn_mm3, mn_mm4, mn_mm5, mn_mm6, mn_and, mn_or, mn_an, mn_shl, mn_shr, mn_div, mn_rem, mn_clamp, mn_in, mn_inm, mn_nz, mn_zo, mn_min, mn_max, mn_abs, mn_rfit, mn_cp, mn_les, mn_gre, mn_a127, mn_a15, mn_a1, mn_a255, mn_tn0, mn_tn0e, mn_tnr, mn_tnz, mr_get, mr_ne, mr_put, mu_ne, mu_eq, mj_bk_i, mj_bk_v, mj_bk_x, decide_eq_true_eq, decide_true, decide_false, Bool.false_eq_true, Bool.true_eq_false, reduceCtorEq, mt_le_t, mt_le_f, mt_lt_t, mt_lt_f, mt_eq_t, mt_eq_f, mt_ee, not_true_eq_false, not_false_eq_true, and_true, true_and, and_self, Nat.zero_add, Nat.add_zero, Nat.one_mul, Nat.mul_one, Nat.reduceAdd, Nat.reduceMul, Nat.reduceSub, Nat.reducePow, Nat.reduceDiv, Nat.reduceMod, ↓reduceIte, mp_h, mp_w, mp_c, mp_s, mp_d, mp_n, mp_54, mp_52, mp_55, mp_l, mp_o, mp_42, mp_45, gh_gp, gw_gp, gc_gp, mw_pne, Nat.or_zero, mp_wo, nm1, eL, Bool.toNat_true]
      rw [s2]
      refine e2.trans ?_
      rw [b198_76]
      simp (disch := first | assumption | exact hf _ | omega) only [b198, b198_8, b198_13, b198_21, b198_26, b198_39, b198_55, b198_61, b198_69, b198_73, b198_84, b198_87, b198_90, b198_103, b198_111, b198_115, b198_118, b198_131, b198_134, b198_137, b198_155, b198_178, b198_186, b198_201, b198_204, b198_208, b198_209, b198_212, nI_add, mn_mul, mn_sub, mn_m1, mn_m8, mn_eq, mn_lt, mn_le, mn_eq0, mn_0eq, mn_lt0, mn_0lt, mn_le0, mn_0le, mn_eqm, mn_meq, mn_ltm, mn_mlt, mn_lem, mn_mle, mn_mm1, mn_mm2, mn_mm3, mn_mm4, mn_mm5, mn_mm6, mn_and, mn_or, mn_an, mn_shl, mn_shr, mn_div, mn_rem, mn_clamp, mn_in, mn_inm, mn_nz, mn_zo, mn_min, mn_max, mn_abs, mn_rfit, mn_cp, mn_les, mn_gre, mn_a127, mn_a15, mn_a1, mn_a255, mn_tn0, mn_tn0e, mn_tnr, mn_tnz, mr_get, mr_ne, mr_put, mu_ne, mu_eq, mj_bk_i, mj_bk_v, mj_bk_x, decide_eq_true_eq, decide_true, decide_false, Bool.false_eq_true, Bool.true_eq_false, reduceCtorEq, mt_le_t, mt_le_f, mt_lt_t, mt_lt_f, mt_eq_t, mt_eq_f, mt_ee, not_true_eq_false, not_false_eq_true, and_true, true_and, and_self, Nat.zero_add, Nat.add_zero, Nat.one_mul, Nat.mul_one, Nat.reduceAdd, Nat.reduceMul, Nat.reduceSub, Nat.reducePow, Nat.reduceDiv, Nat.reduceMod, ↓reduceIte, mp_h, mp_w, mp_c, mp_s, mp_d, mp_n, mp_54, mp_52, mp_55, mp_l, mp_o, mp_42, mp_45, gh_gp, gw_gp, gc_gp, mw_pne, Nat.or_zero, mp_wo, j3, e1, e3, z16]
  · have hk : tkd tp n a = 0 := tkd0.2 (by omega)
    have het : te tp n a = b := by unfold te; rw [hk, if_pos rfl, ← hb]
    have z16 : (mw_p v 42 18 (nI 0)).1 42 16 = nI b := by rw [mw_pnj (by decide)]; exact v16
    obtain ⟨r1, r2⟩ := fin (mw_p v 42 18 (nI 0)) 0 b none (fR_trans vg (fR_p (by omega))) z16 (by rw [mw_pnj (by decide)]; exact v20) (by rw [mw_peq, hk]) het (fun h2 => by rw [hk] at h2; cases h2)
    refine ⟨_, ?_, r2, r1⟩
    rw [bya_ge q0]
    simp (disch := first | assumption | exact hf _ | omega) only [b198, b198_8, b198_13, b198_21, b198_26, b198_39, b198_55, b198_61, b198_69, b198_73, b198_84, b198_87, b198_90, b198_103, b198_111, b198_115, b198_118, b198_131, b198_134, b198_137, b198_155, b198_178, b198_186, b198_201, b198_204, b198_208, b198_209, b198_212, nI_add, mn_mul, mn_sub, mn_m1, mn_m8, mn_eq, mn_lt, mn_le, mn_eq0, mn_0eq, mn_lt0, mn_0lt, mn_le0, mn_0le, mn_eqm, mn_meq, mn_ltm, mn_mlt, mn_lem, mn_mle, mn_mm1, mn_mm2, mn_mm3, mn_mm4, mn_mm5, mn_mm6, mn_and, mn_or, mn_an, mn_shl, mn_shr, mn_div, mn_rem, mn_clamp, mn_in, mn_inm, mn_nz, mn_zo, mn_min, mn_max, mn_abs, mn_rfit, mn_cp, mn_les, mn_gre, mn_a127, mn_a15, mn_a1, mn_a255, mn_tn0, mn_tn0e, mn_tnr, mn_tnz, mr_get, mr_ne, mr_put, mu_ne, mu_eq, mj_bk_i, mj_bk_v, mj_bk_x, decide_eq_true_eq, decide_true, decide_false, Bool.false_eq_true, Bool.true_eq_false, reduceCtorEq, mt_le_t, mt_le_f, mt_lt_t, mt_lt_f, mt_eq_t, mt_eq_f, mt_ee, not_true_eq_false, not_false_eq_true, and_true, true_and, and_self, Nat.zero_add, Nat.add_zero, Nat.one_mul, Nat.mul_one, Nat.reduceAdd, Nat.reduceMul, Nat.reduceSub, Nat.reducePow, Nat.reduceDiv, Nat.reduceMod, ↓reduceIte, mp_h, mp_w, mp_c, mp_s, mp_d, mp_n, mp_54, mp_52, mp_55, mp_l, mp_o, mp_42, mp_45, gh_gp, gw_gp, gc_gp, mw_pne, Nat.or_zero, mp_wo, z16]
end
