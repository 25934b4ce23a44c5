/-! Folk, by its row f: loops -/
theorem mu_lt {f : Nat → Nat} {i v : Nat} (hf : ∀ j, f j < 2147483648) (hv : v < 2147483648) : ∀ j, mr_u f i v j < 2147483648 := by
  intro j; unfold mr_u
  split
  · exact hv
  · exact hf j
theorem mn_d_le (a b : Nat) : mn_d a b ≤ a := by
  have h : mn_d a b &&& a = mn_d a b := by
    apply Nat.eq_of_testBit_eq
    intro i
    rw [Nat.testBit_and, mn_d_bit]
    cases a.testBit i <;> cases b.testBit i <;> rfl
  rw [← h]
  exact Nat.and_le_right
theorem mn_or31 {a b : Nat} (ha : a < 2147483648) (hb : b < 2147483648) : a ||| b < 2147483648 := Nat.or_lt_two_pow (n := 31) ha hb
theorem mn_p31 {p : Nat} (h : p < 8) : 2 ^ p < 2147483648 := by
  have := Nat.pow_le_pow_right (n := 2) (by decide) (by omega : p ≤ 7)
  omega
theorem fh_lt (f : Nat → Nat) (i : Nat) : fh f i < 128 := Nat.mod_lt _ (by decide)
theorem fw_lt (f : Nat → Nat) (i : Nat) : fw f i < 16 := Nat.mod_lt _ (by decide)
theorem fe_lt {f : Nat → Nat} (hf : ∀ j, f j < 2147483648) {i : Nat} : ∀ j, fe f i j < 2147483648 := mu_lt (mu_lt (mu_lt hf (by decide)) (Nat.lt_of_le_of_lt (mn_d_le _ _) (hf _))) (Nat.lt_of_le_of_lt (mn_d_le _ _) (hf _))
theorem fb_lt {f : Nat → Nat} (hf : ∀ j, f j < 2147483648) {i h w : Nat} (hi : i < 28) (hh : h < 128) (hw : w < 16) : ∀ j, fb f i h w j < 2147483648 := mu_lt (mu_lt (mu_lt hf (by omega)) (mn_or31 (hf _) (mn_p31 (mn_lg hi).2))) (mn_or31 (hf _) (mn_p31 (Nat.lt_trans (mn_lg hi).1 (mn_lg hi).2)))
theorem fsh_lt {f : Nat → Nat} (hf : ∀ j, f j < 2147483648) {i h : Nat} (hh : h < 128) : ∀ j, fsh f i h j < 2147483648 := mu_lt hf (by have := hf (24 + i); omega)
theorem fi_lt {f : Nat → Nat} (hf : ∀ j, f j < 2147483648) {l o : Nat} (ho : o < 28) : ∀ j, fi f l o j < 2147483648 := by
  intro j; unfold fi
  split
  · exact fsh_lt hf (by omega) j
  · exact fb_lt hf ho (fh_lt _ _) (fw_lt _ _) j
def fhp (f : Nat → Nat) (p q : Nat) : Nat := if p = q then 0 else fh f (fp p q)
def fcp (f : Nat → Nat) (p q : Nat) : Nat := if p = q then 0 else fc f (fp p q)
def fn_all (f : Nat → Nat) : Nat := mr_it (fun i c => c + fh f i) 28 0
def fn_need (f : Nat → Nat) : Nat := mr_it (fun i b => if 0 < fh f i then b ||| 2 ^ fw f i else b) 28 0
def fn_words (f : Nat → Nat) (g : Nat) : Nat := mr_it (fun p b => if g.testBit p then b ||| f (8 + p) else b) 8 0
def fn_ha (f : Nat → Nat) (p : Nat) : Nat := mr_it (fun q c => c + fhp f p q) 8 0
def fn_ca (f : Nat → Nat) (p : Nat) : Nat := mr_it (fun q c => c + fcp f p q) 8 0
theorem fhp_lt (f : Nat → Nat) (p q : Nat) : fhp f p q < 128 := by
  unfold fhp; split
  · decide
  · exact fh_lt _ _
theorem fn_ha_le (f : Nat → Nat) (p : Nat) : fn_ha f p ≤ 127 * 8 := mr_it_inv (I := fun n c => c ≤ 127 * n) (Nat.le_refl _) (by
  intro i a _ h
  have := fhp_lt f p i
  omega)
section
variable {X : mj_X} {d k : Nat} {s : mw_S} {f : Nat → Nat}
theorem c66 (hk : mw_cl k = some 3) (hf : ∀ j, f j < 2147483648) : mj_call X (d + 1) 66 [.ref k] (mw_U (mr_set s (k + 1) 64 f)) = some (.inl (some (.int (nI (fn_all f)))), mw_U (mr_set s (k + 1) 64 f)) := by
  rw [b66, b66_0 hk]
  obtain ⟨hI, g, e⟩ := mr_for (E := fun i c (_ : Unit) => mj_exec X (d + 1) 66 4 [some (.ref k), some (.int (nI c)), some (.int (nI i))] [] (mw_U (mr_set s (k + 1) 64 f))) (F := fun i c => c + fh f i) (I := fun i c => c ≤ 128 * i) (N := 28) (by
    intro i c g hi hI
    have hb := fh_lt f i
    refine ⟨by omega, (), ?_⟩
    rw [b66_4 hk]
    simp (disch := first | assumption | exact hf _ | omega) only [b66, b66_0, b66_10, b66_16, b66_24, nI_add, mn_mul, mn_sub, mn_m1, mn_m8, mn_eq, mn_lt, mn_le, mn_eq0, mn_0eq, mn_lt0, mn_0lt, mn_le0, mn_0le, mn_eqm, mn_meq, mn_ltm, mn_mlt, mn_lem, mn_mle, mn_mm1, mn_mm2, mn_mm3, mn_mm4, mn_mm5, mn_mm6, mn_and, mn_or, mn_an, mn_shl, mn_shr, mn_div, mn_rem, mn_clamp, mn_in, mn_inm, mn_nz, mn_zo, mn_min, mn_max, mn_abs, mn_rfit, mn_cp, mn_les, mn_gre, mn_a127, mn_a15, mn_a1, mn_a255, mn_tn0, mn_tn0e, mn_tnr, mn_tnz, mr_get, mr_ne, mr_put, mu_ne, mu_eq, mj_bk_i, mj_bk_v, mj_bk_x, decide_eq_true_eq, decide_true, decide_false, Bool.false_eq_true, Bool.true_eq_false, reduceCtorEq, mt_le_t, mt_le_f, mt_lt_t, mt_lt_f, mt_eq_t, mt_eq_f, mt_ee, not_true_eq_false, not_false_eq_true, and_true, true_and, and_self, Nat.zero_add, Nat.add_zero, Nat.one_mul, Nat.mul_one, Nat.reduceAdd, Nat.reduceMul, Nat.reduceSub, Nat.reducePow, Nat.reduceDiv, Nat.reduceMod, ↓reduceIte, c37 hk hf hi]
  ) (a := 0) (Nat.le_refl 0) () 28 (Nat.le_refl 28)
  refine e.trans ?_
  rw [b66_4 hk]
  simp (disch := first | assumption | exact hf _ | omega) only [b66, b66_0, b66_10, b66_16, b66_24, nI_add, mn_mul, mn_sub, mn_m1, mn_m8, mn_eq, mn_lt, mn_le, mn_eq0, mn_0eq, mn_lt0, mn_0lt, mn_le0, mn_0le, mn_eqm, mn_meq, mn_ltm, mn_mlt, mn_lem, mn_mle, mn_mm1, mn_mm2, mn_mm3, mn_mm4, mn_mm5, mn_mm6, mn_and, mn_or, mn_an, mn_shl, mn_shr, mn_div, mn_rem, mn_clamp, mn_in, mn_inm, mn_nz, mn_zo, mn_min, mn_max, mn_abs, mn_rfit, mn_cp, mn_les, mn_gre, mn_a127, mn_a15, mn_a1, mn_a255, mn_tn0, mn_tn0e, mn_tnr, mn_tnz, mr_get, mr_ne, mr_put, mu_ne, mu_eq, mj_bk_i, mj_bk_v, mj_bk_x, decide_eq_true_eq, decide_true, decide_false, Bool.false_eq_true, Bool.true_eq_false, reduceCtorEq, mt_le_t, mt_le_f, mt_lt_t, mt_lt_f, mt_eq_t, mt_eq_f, mt_ee, not_true_eq_false, not_false_eq_true, and_true, true_and, and_self, Nat.zero_add, Nat.add_zero, Nat.one_mul, Nat.mul_one, Nat.reduceAdd, Nat.reduceMul, Nat.reduceSub, Nat.reducePow, Nat.reduceDiv, Nat.reduceMod, ↓reduceIte]
  rfl
theorem c51 (hk : mw_cl k = some 3) (hf : ∀ j, f j < 2147483648) : mj_call X (d + 2) 51 [.ref k] (mw_U (mr_set s (k + 1) 64 f)) = some (.inl (some (.int (nI (fn_need f)))), mw_U (mr_set s (k + 1) 64 f)) := by
  rw [b51, b51_0 hk]
  obtain ⟨hI, g, e⟩ := mr_for (E := fun i c (_ : Unit) => mj_exec X (d + 2) 51 4 [some (.ref k), some (.int (nI c)), some (.int (nI i))] [] (mw_U (mr_set s (k + 1) 64 f))) (F := fun i b => if 0 < fh f i then b ||| 2 ^ fw f i else b) (I := fun i c => True) (N := 28) (by
    intro i c g hi hI
    have hb := fh_lt f i
    have hw := fw_lt f i
    refine ⟨trivial, (), ?_⟩
    rw [b51_4 hk]
    by_cases h : 0 < fh f i
    · simp (disch := first | assumption | exact hf _ | omega) only [b51, b51_0, b51_10, b51_15, b51_18, b51_25, b51_28, b51_34, nI_add, mn_mul, mn_sub, mn_m1, mn_m8, mn_eq, mn_lt, mn_le, mn_eq0, mn_0eq, mn_lt0, mn_0lt, mn_le0, mn_0le, mn_eqm, mn_meq, mn_ltm, mn_mlt, mn_lem, mn_mle, mn_mm1, mn_mm2, mn_mm3, mn_mm4, mn_mm5, mn_mm6, mn_and, mn_or, mn_an, mn_shl, mn_shr, mn_div, mn_rem, mn_clamp, mn_in, mn_inm, mn_nz, mn_zo, mn_min, mn_max, mn_abs, mn_rfit, mn_cp, mn_les, mn_gre, mn_a127, mn_a15, mn_a1, mn_a255, mn_tn0, mn_tn0e, mn_tnr, mn_tnz, mr_get, mr_ne, mr_put, mu_ne, mu_eq, mj_bk_i, mj_bk_v, mj_bk_x, decide_eq_true_eq, decide_true, decide_false, Bool.false_eq_true, Bool.true_eq_false, reduceCtorEq, mt_le_t, mt_le_f, mt_lt_t, mt_lt_f, mt_eq_t, mt_eq_f, mt_ee, not_true_eq_false, not_false_eq_true, and_true, true_and, and_self, Nat.zero_add, Nat.add_zero, Nat.one_mul, Nat.mul_one, Nat.reduceAdd, Nat.reduceMul, Nat.reduceSub, Nat.reducePow, Nat.reduceDiv, Nat.reduceMod, ↓reduceIte, c36 hk hf hi, c52 hk hf hi, h]
    · simp (disch := first | assumption | exact hf _ | omega) only [b51, b51_0, b51_10, b51_15, b51_18, b51_25, b51_28, b51_34, nI_add, mn_mul, mn_sub, mn_m1, mn_m8, mn_eq, mn_lt, mn_le, mn_eq0, mn_0eq, mn_lt0, mn_0lt, mn_le0, mn_0le, mn_eqm, mn_meq, mn_ltm, mn_mlt, mn_lem, mn_mle, mn_mm1, mn_mm2, mn_mm3, mn_mm4, mn_mm5, mn_mm6, mn_and, mn_or, mn_an, mn_shl, mn_shr, mn_div, mn_rem, mn_clamp, mn_in, mn_inm, mn_nz, mn_zo, mn_min, mn_max, mn_abs, mn_rfit, mn_cp, mn_les, mn_gre, mn_a127, mn_a15, mn_a1, mn_a255, mn_tn0, mn_tn0e, mn_tnr, mn_tnz, mr_get, mr_ne, mr_put, mu_ne, mu_eq, mj_bk_i, mj_bk_v, mj_bk_x, decide_eq_true_eq, decide_true, decide_false, Bool.false_eq_true, Bool.true_eq_false, reduceCtorEq, mt_le_t, mt_le_f, mt_lt_t, mt_lt_f, mt_eq_t, mt_eq_f, mt_ee, not_true_eq_false, not_false_eq_true, and_true, true_and, and_self, Nat.zero_add, Nat.add_zero, Nat.one_mul, Nat.mul_one, Nat.reduceAdd, Nat.reduceMul, Nat.reduceSub, Nat.reducePow, Nat.reduceDiv, Nat.reduceMod, ↓reduceIte, c36 hk hf hi, c52 hk hf hi, h]
  ) (a := 0) trivial () 28 (Nat.le_refl 28)
  refine e.trans ?_
  rw [b51_4 hk]
  simp (disch := first | assumption | exact hf _ | omega) only [b51, b51_0, b51_10, b51_15, b51_18, b51_25, b51_28, b51_34, nI_add, mn_mul, mn_sub, mn_m1, mn_m8, mn_eq, mn_lt, mn_le, mn_eq0, mn_0eq, mn_lt0, mn_0lt, mn_le0, mn_0le, mn_eqm, mn_meq, mn_ltm, mn_mlt, mn_lem, mn_mle, mn_mm1, mn_mm2, mn_mm3, mn_mm4, mn_mm5, mn_mm6, mn_and, mn_or, mn_an, mn_shl, mn_shr, mn_div, mn_rem, mn_clamp, mn_in, mn_inm, mn_nz, mn_zo, mn_min, mn_max, mn_abs, mn_rfit, mn_cp, mn_les, mn_gre, mn_a127, mn_a15, mn_a1, mn_a255, mn_tn0, mn_tn0e, mn_tnr, mn_tnz, mr_get, mr_ne, mr_put, mu_ne, mu_eq, mj_bk_i, mj_bk_v, mj_bk_x, decide_eq_true_eq, decide_true, decide_false, Bool.false_eq_true, Bool.true_eq_false, reduceCtorEq, mt_le_t, mt_le_f, mt_lt_t, mt_lt_f, mt_eq_t, mt_eq_f, mt_ee, not_true_eq_false, not_false_eq_true, and_true, true_and, and_self, Nat.zero_add, Nat.add_zero, Nat.one_mul, Nat.mul_one, Nat.reduceAdd, Nat.reduceMul, Nat.reduceSub, Nat.reducePow, Nat.reduceDiv, Nat.reduceMod, ↓reduceIte]
  rfl
theorem c53 (hk : mw_cl k = some 3) (hf : ∀ j, f j < 2147483648) {b : Nat} (hb : b < 2147483648) : mj_call X (d + 1) 53 [.ref k, .int (nI b)] (mw_U (mr_set s (k + 1) 64 f)) = some (.inl (some (.int (nI (fn_words f b)))), mw_U (mr_set s (k + 1) 64 f)) := by
  rw [b53, b53_0 hk]
  obtain ⟨hI, g, e⟩ := mr_for (E := fun i c (_ : Unit) => mj_exec X (d + 1) 53 4 [some (.ref k), some (.int (nI b)), some (.int (nI c)), some (.int (nI i))] [] (mw_U (mr_set s (k + 1) 64 f))) (F := fun p c => if b.testBit p then c ||| f (8 + p) else c) (I := fun i c => True) (N := 8) (by
    intro i c g hi hI
    refine ⟨trivial, (), ?_⟩
    rw [b53_4 hk]
    by_cases h : b.testBit i = true
    · simp (disch := first | assumption | exact hf _ | omega) only [b53, b53_0, b53_10, b53_15, b53_18, b53_30, b53_36, nI_add, mn_mul, mn_sub, mn_m1, mn_m8, mn_eq, mn_lt, mn_le, mn_eq0, mn_0eq, mn_lt0, mn_0lt, mn_le0, mn_0le, mn_eqm, mn_meq, mn_ltm, mn_mlt, mn_lem, mn_mle, mn_mm1, mn_mm2, mn_mm3, mn_mm4, mn_mm5, mn_mm6, mn_and, mn_or, mn_an, mn_shl, mn_shr, mn_div, mn_rem, mn_clamp, mn_in, mn_inm, mn_nz, mn_zo, mn_min, mn_max, mn_abs, mn_rfit, mn_cp, mn_les, mn_gre, mn_a127, mn_a15, mn_a1, mn_a255, mn_tn0, mn_tn0e, mn_tnr, mn_tnz, mr_get, mr_ne, mr_put, mu_ne, mu_eq, mj_bk_i, mj_bk_v, mj_bk_x, decide_eq_true_eq, decide_true, decide_false, Bool.false_eq_true, Bool.true_eq_false, reduceCtorEq, mt_le_t, mt_le_f, mt_lt_t, mt_lt_f, mt_eq_t, mt_eq_f, mt_ee, not_true_eq_false, not_false_eq_true, and_true, true_and, and_self, Nat.zero_add, Nat.add_zero, Nat.one_mul, Nat.mul_one, Nat.reduceAdd, Nat.reduceMul, Nat.reduceSub, Nat.reducePow, Nat.reduceDiv, Nat.reduceMod, ↓reduceIte, c149, h]
    · simp (disch := first | assumption | exact hf _ | omega) only [b53, b53_0, b53_10, b53_15, b53_18, b53_30, b53_36, nI_add, mn_mul, mn_sub, mn_m1, mn_m8, mn_eq, mn_lt, mn_le, mn_eq0, mn_0eq, mn_lt0, mn_0lt, mn_le0, mn_0le, mn_eqm, mn_meq, mn_ltm, mn_mlt, mn_lem, mn_mle, mn_mm1, mn_mm2, mn_mm3, mn_mm4, mn_mm5, mn_mm6, mn_and, mn_or, mn_an, mn_shl, mn_shr, mn_div, mn_rem, mn_clamp, mn_in, mn_inm, mn_nz, mn_zo, mn_min, mn_max, mn_abs, mn_rfit, mn_cp, mn_les, mn_gre, mn_a127, mn_a15, mn_a1, mn_a255, mn_tn0, mn_tn0e, mn_tnr, mn_tnz, mr_get, mr_ne, mr_put, mu_ne, mu_eq, mj_bk_i, mj_bk_v, mj_bk_x, decide_eq_true_eq, decide_true, decide_false, Bool.false_eq_true, Bool.true_eq_false, reduceCtorEq, mt_le_t, mt_le_f, mt_lt_t, mt_lt_f, mt_eq_t, mt_eq_f, mt_ee, not_true_eq_false, not_false_eq_true, and_true, true_and, and_self, Nat.zero_add, Nat.add_zero, Nat.one_mul, Nat.mul_one, Nat.reduceAdd, Nat.reduceMul, Nat.reduceSub, Nat.reducePow, Nat.reduceDiv, Nat.reduceMod, ↓reduceIte, c149, Bool.not_eq_true _ ▸ h, h]
  ) (a := 0) trivial () 8 (Nat.le_refl 8)
  refine e.trans ?_
  rw [b53_4 hk]
  simp (disch := first | assumption | exact hf _ | omega) only [b53, b53_0, b53_10, b53_15, b53_18, b53_30, b53_36, nI_add, mn_mul, mn_sub, mn_m1, mn_m8, mn_eq, mn_lt, mn_le, mn_eq0, mn_0eq, mn_lt0, mn_0lt, mn_le0, mn_0le, mn_eqm, mn_meq, mn_ltm, mn_mlt, mn_lem, mn_mle, mn_mm1, mn_mm2, mn_mm3, mn_mm4, mn_mm5, mn_mm6, mn_and, mn_or, mn_an, mn_shl, mn_shr, mn_div, mn_rem, mn_clamp, mn_in, mn_inm, mn_nz, mn_zo, mn_min, mn_max, mn_abs, mn_rfit, mn_cp, mn_les, mn_gre, mn_a127, mn_a15, mn_a1, mn_a255, mn_tn0, mn_tn0e, mn_tnr, mn_tnz, mr_get, mr_ne, mr_put, mu_ne, mu_eq, mj_bk_i, mj_bk_v, mj_bk_x, decide_eq_true_eq, decide_true, decide_false, Bool.false_eq_true, Bool.true_eq_false, reduceCtorEq, mt_le_t, mt_le_f, mt_lt_t, mt_lt_f, mt_eq_t, mt_eq_f, mt_ee, not_true_eq_false, not_false_eq_true, and_true, true_and, and_self, Nat.zero_add, Nat.add_zero, Nat.one_mul, Nat.mul_one, Nat.reduceAdd, Nat.reduceMul, Nat.reduceSub, Nat.reducePow, Nat.reduceDiv, Nat.reduceMod, ↓reduceIte]
  rfl
theorem c69 (hk : mw_cl k = some 3) (hf : ∀ j, f j < 2147483648) {p : Nat} (hp : p < 8) : mj_call X (d + 1) 69 [.ref k, .int (nI p)] (mw_U (mr_set s (k + 1) 64 f)) = some (.inl (some (.int (nI (fn_ha f p)))), mw_U (mr_set s (k + 1) 64 f)) := by
  rw [b69, b69_0 hk]
  obtain ⟨hI, g, e⟩ := mr_for (E := fun i c (_ : Unit) => mj_exec X (d + 1) 69 4 [some (.ref k), some (.int (nI p)), some (.int (nI c)), some (.int (nI i))] [] (mw_U (mr_set s (k + 1) 64 f))) (F := fun q c => c + fhp f p q) (I := fun i c => True) (N := 8) (by
    intro i c g hi hI
    refine ⟨trivial, (), ?_⟩
    rw [b69_4 hk]
    unfold fhp
    by_cases h : p = i
    · subst h
      simp (disch := first | assumption | exact hf _ | omega) only [b69, b69_0, b69_10, b69_17, b69_20, b69_28, nI_add, mn_mul, mn_sub, mn_m1, mn_m8, mn_eq, mn_lt, mn_le, mn_eq0, mn_0eq, mn_lt0, mn_0lt, mn_le0, mn_0le, mn_eqm, mn_meq, mn_ltm, mn_mlt, mn_lem, mn_mle, mn_mm1, mn_mm2, mn_mm3, mn_mm4, mn_mm5, mn_mm6, mn_and, mn_or, mn_an, mn_shl, mn_shr, mn_div, mn_rem, mn_clamp, mn_in, mn_inm, mn_nz, mn_zo, mn_min, mn_max, mn_abs, mn_rfit, mn_cp, mn_les, mn_gre, mn_a127, mn_a15, mn_a1, mn_a255, mn_tn0, mn_tn0e, mn_tnr, mn_tnz, mr_get, mr_ne, mr_put, mu_ne, mu_eq, mj_bk_i, mj_bk_v, mj_bk_x, decide_eq_true_eq, decide_true, decide_false, Bool.false_eq_true, Bool.true_eq_false, reduceCtorEq, mt_le_t, mt_le_f, mt_lt_t, mt_lt_f, mt_eq_t, mt_eq_f, mt_ee, not_true_eq_false, not_false_eq_true, and_true, true_and, and_self, Nat.zero_add, Nat.add_zero, Nat.one_mul, Nat.mul_one, Nat.reduceAdd, Nat.reduceMul, Nat.reduceSub, Nat.reducePow, Nat.reduceDiv, Nat.reduceMod, ↓reduceIte, c153e hp, c37m hk]
    · simp (disch := first | assumption | exact hf _ | omega) only [b69, b69_0, b69_10, b69_17, b69_20, b69_28, nI_add, mn_mul, mn_sub, mn_m1, mn_m8, mn_eq, mn_lt, mn_le, mn_eq0, mn_0eq, mn_lt0, mn_0lt, mn_le0, mn_0le, mn_eqm, mn_meq, mn_ltm, mn_mlt, mn_lem, mn_mle, mn_mm1, mn_mm2, mn_mm3, mn_mm4, mn_mm5, mn_mm6, mn_and, mn_or, mn_an, mn_shl, mn_shr, mn_div, mn_rem, mn_clamp, mn_in, mn_inm, mn_nz, mn_zo, mn_min, mn_max, mn_abs, mn_rfit, mn_cp, mn_les, mn_gre, mn_a127, mn_a15, mn_a1, mn_a255, mn_tn0, mn_tn0e, mn_tnr, mn_tnz, mr_get, mr_ne, mr_put, mu_ne, mu_eq, mj_bk_i, mj_bk_v, mj_bk_x, decide_eq_true_eq, decide_true, decide_false, Bool.false_eq_true, Bool.true_eq_false, reduceCtorEq, mt_le_t, mt_le_f, mt_lt_t, mt_lt_f, mt_eq_t, mt_eq_f, mt_ee, not_true_eq_false, not_false_eq_true, and_true, true_and, and_self, Nat.zero_add, Nat.add_zero, Nat.one_mul, Nat.mul_one, Nat.reduceAdd, Nat.reduceMul, Nat.reduceSub, Nat.reducePow, Nat.reduceDiv, Nat.reduceMod, ↓reduceIte, c153 hp hi h, c37 hk hf (fp_lt hp hi h), h]
  ) (a := 0) trivial () 8 (Nat.le_refl 8)
  refine e.trans ?_
  rw [b69_4 hk]
  simp (disch := first | assumption | exact hf _ | omega) only [b69, b69_0, b69_10, b69_17, b69_20, b69_28, nI_add, mn_mul, mn_sub, mn_m1, mn_m8, mn_eq, mn_lt, mn_le, mn_eq0, mn_0eq, mn_lt0, mn_0lt, mn_le0, mn_0le, mn_eqm, mn_meq, mn_ltm, mn_mlt, mn_lem, mn_mle, mn_mm1, mn_mm2, mn_mm3, mn_mm4, mn_mm5, mn_mm6, mn_and, mn_or, mn_an, mn_shl, mn_shr, mn_div, mn_rem, mn_clamp, mn_in, mn_inm, mn_nz, mn_zo, mn_min, mn_max, mn_abs, mn_rfit, mn_cp, mn_les, mn_gre, mn_a127, mn_a15, mn_a1, mn_a255, mn_tn0, mn_tn0e, mn_tnr, mn_tnz, mr_get, mr_ne, mr_put, mu_ne, mu_eq, mj_bk_i, mj_bk_v, mj_bk_x, decide_eq_true_eq, decide_true, decide_false, Bool.false_eq_true, Bool.true_eq_false, reduceCtorEq, mt_le_t, mt_le_f, mt_lt_t, mt_lt_f, mt_eq_t, mt_eq_f, mt_ee, not_true_eq_false, not_false_eq_true, and_true, true_and, and_self, Nat.zero_add, Nat.add_zero, Nat.one_mul, Nat.mul_one, Nat.reduceAdd, Nat.reduceMul, Nat.reduceSub, Nat.reducePow, Nat.reduceDiv, Nat.reduceMod, ↓reduceIte]
  rfl
theorem c76 (hk : mw_cl k = some 3) (hf : ∀ j, f j < 2147483648) {p : Nat} (hp : p < 8) : mj_call X (d + 1) 76 [.ref k, .int (nI p)] (mw_U (mr_set s (k + 1) 64 f)) = some (.inl (some (.int (nI (fn_ca f p)))), mw_U (mr_set s (k + 1) 64 f)) := by
  rw [b76, b76_0 hk]
  obtain ⟨hI, g, e⟩ := mr_for (E := fun i c (_ : Unit) => mj_exec X (d + 1) 76 4 [some (.ref k), some (.int (nI p)), some (.int (nI c)), some (.int (nI i))] [] (mw_U (mr_set s (k + 1) 64 f))) (F := fun q c => c + fcp f p q) (I := fun i c => True) (N := 8) (by
    intro i c g hi hI
    refine ⟨trivial, (), ?_⟩
    rw [b76_4 hk]
    unfold fcp
    by_cases h : p = i
    · subst h
      simp (disch := first | assumption | exact hf _ | omega) only [b76, b76_0, b76_10, b76_17, b76_20, b76_28, nI_add, mn_mul, mn_sub, mn_m1, mn_m8, mn_eq, mn_lt, mn_le, mn_eq0, mn_0eq, mn_lt0, mn_0lt, mn_le0, mn_0le, mn_eqm, mn_meq, mn_ltm, mn_mlt, mn_lem, mn_mle, mn_mm1, mn_mm2, mn_mm3, mn_mm4, mn_mm5, mn_mm6, mn_and, mn_or, mn_an, mn_shl, mn_shr, mn_div, mn_rem, mn_clamp, mn_in, mn_inm, mn_nz, mn_zo, mn_min, mn_max, mn_abs, mn_rfit, mn_cp, mn_les, mn_gre, mn_a127, mn_a15, mn_a1, mn_a255, mn_tn0, mn_tn0e, mn_tnr, mn_tnz, mr_get, mr_ne, mr_put, mu_ne, mu_eq, mj_bk_i, mj_bk_v, mj_bk_x, decide_eq_true_eq, decide_true, decide_false, Bool.false_eq_true, Bool.true_eq_false, reduceCtorEq, mt_le_t, mt_le_f, mt_lt_t, mt_lt_f, mt_eq_t, mt_eq_f, mt_ee, not_true_eq_false, not_false_eq_true, and_true, true_and, and_self, Nat.zero_add, Nat.add_zero, Nat.one_mul, Nat.mul_one, Nat.reduceAdd, Nat.reduceMul, Nat.reduceSub, Nat.reducePow, Nat.reduceDiv, Nat.reduceMod, ↓reduceIte, c153e hp, c41m hk]
    · simp (disch := first | assumption | exact hf _ | omega) only [b76, b76_0, b76_10, b76_17, b76_20, b76_28, nI_add, mn_mul, mn_sub, mn_m1, mn_m8, mn_eq, mn_lt, mn_le, mn_eq0, mn_0eq, mn_lt0, mn_0lt, mn_le0, mn_0le, mn_eqm, mn_meq, mn_ltm, mn_mlt, mn_lem, mn_mle, mn_mm1, mn_mm2, mn_mm3, mn_mm4, mn_mm5, mn_mm6, mn_and, mn_or, mn_an, mn_shl, mn_shr, mn_div, mn_rem, mn_clamp, mn_in, mn_inm, mn_nz, mn_zo, mn_min, mn_max, mn_abs, mn_rfit, mn_cp, mn_les, mn_gre, mn_a127, mn_a15, mn_a1, mn_a255, mn_tn0, mn_tn0e, mn_tnr, mn_tnz, mr_get, mr_ne, mr_put, mu_ne, mu_eq, mj_bk_i, mj_bk_v, mj_bk_x, decide_eq_true_eq, decide_true, decide_false, Bool.false_eq_true, Bool.true_eq_false, reduceCtorEq, mt_le_t, mt_le_f, mt_lt_t, mt_lt_f, mt_eq_t, mt_eq_f, mt_ee, not_true_eq_false, not_false_eq_true, and_true, true_and, and_self, Nat.zero_add, Nat.add_zero, Nat.one_mul, Nat.mul_one, Nat.reduceAdd, Nat.reduceMul, Nat.reduceSub, Nat.reducePow, Nat.reduceDiv, Nat.reduceMod, ↓reduceIte, c153 hp hi h, c41 hk hf (fp_lt hp hi h), h]
  ) (a := 0) trivial () 8 (Nat.le_refl 8)
  refine e.trans ?_
  rw [b76_4 hk]
  simp (disch := first | assumption | exact hf _ | omega) only [b76, b76_0, b76_10, b76_17, b76_20, b76_28, nI_add, mn_mul, mn_sub, mn_m1, mn_m8, mn_eq, mn_lt, mn_le, mn_eq0, mn_0eq, mn_lt0, mn_0lt, mn_le0, mn_0le, mn_eqm, mn_meq, mn_ltm, mn_mlt, mn_lem, mn_mle, mn_mm1, mn_mm2, mn_mm3, mn_mm4, mn_mm5, mn_mm6, mn_and, mn_or, mn_an, mn_shl, mn_shr, mn_div, mn_rem, mn_clamp, mn_in, mn_inm, mn_nz, mn_zo, mn_min, mn_max, mn_abs, mn_rfit, mn_cp, mn_les, mn_gre, mn_a127, mn_a15, mn_a1, mn_a255, mn_tn0, mn_tn0e, mn_tnr, mn_tnz, mr_get, mr_ne, mr_put, mu_ne, mu_eq, mj_bk_i, mj_bk_v, mj_bk_x, decide_eq_true_eq, decide_true, decide_false, Bool.false_eq_true, Bool.true_eq_false, reduceCtorEq, mt_le_t, mt_le_f, mt_lt_t, mt_lt_f, mt_eq_t, mt_eq_f, mt_ee, not_true_eq_false, not_false_eq_true, and_true, true_and, and_self, Nat.zero_add, Nat.add_zero, Nat.one_mul, Nat.mul_one, Nat.reduceAdd, Nat.reduceMul, Nat.reduceSub, Nat.reducePow, Nat.reduceDiv, Nat.reduceMod, ↓reduceIte]
  rfl
def fsg (f : Nat → Nat) (p : Nat) : Bool := (f 52).testBit p && decide (f (16 + p) = 0)
theorem c64 (hk : mw_cl k = some 3) (hf : ∀ j, f j < 2147483648) {p : Nat} (hp : p < 8) : mj_call X (d + 2) 64 [.ref k, .int (nI p)] (mw_U (mr_set s (k + 1) 64 f)) = some (.inl (some (.int (nI (fsg f p).toNat))), mw_U (mr_set s (k + 1) 64 f)) := by
  have h16 := hf (16 + p)
  unfold fsg
  cases h : (f 52).testBit p
  · simp (disch := first | assumption | exact hf _ | omega) only [b64, b64_0, b64_5, b64_8, b64_13, b64_17, b64_21, b64_22, nI_add, mn_mul, mn_sub, mn_m1, mn_m8, mn_eq, mn_lt, mn_le, mn_eq0, mn_0eq, mn_lt0, mn_0lt, mn_le0, mn_0le, mn_eqm, mn_meq, mn_ltm, mn_mlt, mn_lem, mn_mle, mn_mm1, mn_mm2, mn_mm3, mn_mm4, mn_mm5, mn_mm6, mn_and, mn_or, mn_an, mn_shl, mn_shr, mn_div, mn_rem, mn_clamp, mn_in, mn_inm, mn_nz, mn_zo, mn_min, mn_max, mn_abs, mn_rfit, mn_cp, mn_les, mn_gre, mn_a127, mn_a15, mn_a1, mn_a255, mn_tn0, mn_tn0e, mn_tnr, mn_tnz, mr_get, mr_ne, mr_put, mu_ne, mu_eq, mj_bk_i, mj_bk_v, mj_bk_x, decide_eq_true_eq, decide_true, decide_false, Bool.false_eq_true, Bool.true_eq_false, reduceCtorEq, mt_le_t, mt_le_f, mt_lt_t, mt_lt_f, mt_eq_t, mt_eq_f, mt_ee, not_true_eq_false, not_false_eq_true, and_true, true_and, and_self, Nat.zero_add, Nat.add_zero, Nat.one_mul, Nat.mul_one, Nat.reduceAdd, Nat.reduceMul, Nat.reduceSub, Nat.reducePow, Nat.reduceDiv, Nat.reduceMod, ↓reduceIte, c59 hk hf (show p < 32 by omega), h, Bool.false_and, Bool.toNat_false]
  · by_cases h2 : f (16 + p) = 0
    · simp (disch := first | assumption | exact hf _ | omega) only [b64, b64_0, b64_5, b64_8, b64_13, b64_17, b64_21, b64_22, nI_add, mn_mul, mn_sub, mn_m1, mn_m8, mn_eq, mn_lt, mn_le, mn_eq0, mn_0eq, mn_lt0, mn_0lt, mn_le0, mn_0le, mn_eqm, mn_meq, mn_ltm, mn_mlt, mn_lem, mn_mle, mn_mm1, mn_mm2, mn_mm3, mn_mm4, mn_mm5, mn_mm6, mn_and, mn_or, mn_an, mn_shl, mn_shr, mn_div, mn_rem, mn_clamp, mn_in, mn_inm, mn_nz, mn_zo, mn_min, mn_max, mn_abs, mn_rfit, mn_cp, mn_les, mn_gre, mn_a127, mn_a15, mn_a1, mn_a255, mn_tn0, mn_tn0e, mn_tnr, mn_tnz, mr_get, mr_ne, mr_put, mu_ne, mu_eq, mj_bk_i, mj_bk_v, mj_bk_x, decide_eq_true_eq, decide_true, decide_false, Bool.false_eq_true, Bool.true_eq_false, reduceCtorEq, mt_le_t, mt_le_f, mt_lt_t, mt_lt_f, mt_eq_t, mt_eq_f, mt_ee, not_true_eq_false, not_false_eq_true, and_true, true_and, and_self, Nat.zero_add, Nat.add_zero, Nat.one_mul, Nat.mul_one, Nat.reduceAdd, Nat.reduceMul, Nat.reduceSub, Nat.reducePow, Nat.reduceDiv, Nat.reduceMod, ↓reduceIte, c59 hk hf (show p < 32 by omega), c55 hk hf hp, fs, mo, h, h2, Bool.true_and, Bool.toNat_true]
    · simp (disch := first | assumption | exact hf _ | omega) only [b64, b64_0, b64_5, b64_8, b64_13, b64_17, b64_21, b64_22, nI_add, mn_mul, mn_sub, mn_m1, mn_m8, mn_eq, mn_lt, mn_le, mn_eq0, mn_0eq, mn_lt0, mn_0lt, mn_le0, mn_0le, mn_eqm, mn_meq, mn_ltm, mn_mlt, mn_lem, mn_mle, mn_mm1, mn_mm2, mn_mm3, mn_mm4, mn_mm5, mn_mm6, mn_and, mn_or, mn_an, mn_shl, mn_shr, mn_div, mn_rem, mn_clamp, mn_in, mn_inm, mn_nz, mn_zo, mn_min, mn_max, mn_abs, mn_rfit, mn_cp, mn_les, mn_gre, mn_a127, mn_a15, mn_a1, mn_a255, mn_tn0, mn_tn0e, mn_tnr, mn_tnz, mr_get, mr_ne, mr_put, mu_ne, mu_eq, mj_bk_i, mj_bk_v, mj_bk_x, decide_eq_true_eq, decide_true, decide_false, Bool.false_eq_true, Bool.true_eq_false, reduceCtorEq, mt_le_t, mt_le_f, mt_lt_t, mt_lt_f, mt_eq_t, mt_eq_f, mt_ee, not_true_eq_false, not_false_eq_true, and_true, true_and, and_self, Nat.zero_add, Nat.add_zero, Nat.one_mul, Nat.mul_one, Nat.reduceAdd, Nat.reduceMul, Nat.reduceSub, Nat.reducePow, Nat.reduceDiv, Nat.reduceMod, ↓reduceIte, c59 hk hf (show p < 32 by omega), c55 hk hf hp, fs, mo, h, h2, Bool.true_and, Bool.toNat_false]
def fcm (f : Nat → Nat) (p q : Nat) : Bool := decide (¬ p = q) && (fsg f p && fsg f q)
theorem c63 (hk : mw_cl k = some 3) (hf : ∀ j, f j < 2147483648) {p q : Nat} (hp : p < 8) (hq : q < 8) : mj_call X (d + 3) 63 [.ref k, .int (nI p), .int (nI q)] (mw_U (mr_set s (k + 1) 64 f)) = some (.inl (some (.int (nI (fcm f p q).toNat))), mw_U (mr_set s (k + 1) 64 f)) := by
  unfold fcm
  by_cases h : p = q
  · simp (disch := first | assumption | exact hf _ | omega) only [b63, b63_0, b63_5, b63_10, b63_13, b63_18, b63_21, b63_25, b63_26, nI_add, mn_mul, mn_sub, mn_m1, mn_m8, mn_eq, mn_lt, mn_le, mn_eq0, mn_0eq, mn_lt0, mn_0lt, mn_le0, mn_0le, mn_eqm, mn_meq, mn_ltm, mn_mlt, mn_lem, mn_mle, mn_mm1, mn_mm2, mn_mm3, mn_mm4, mn_mm5, mn_mm6, mn_and, mn_or, mn_an, mn_shl, mn_shr, mn_div, mn_rem, mn_clamp, mn_in, mn_inm, mn_nz, mn_zo, mn_min, mn_max, mn_abs, mn_rfit, mn_cp, mn_les, mn_gre, mn_a127, mn_a15, mn_a1, mn_a255, mn_tn0, mn_tn0e, mn_tnr, mn_tnz, mr_get, mr_ne, mr_put, mu_ne, mu_eq, mj_bk_i, mj_bk_v, mj_bk_x, decide_eq_true_eq, decide_true, decide_false, Bool.false_eq_true, Bool.true_eq_false, reduceCtorEq, mt_le_t, mt_le_f, mt_lt_t, mt_lt_f, mt_eq_t, mt_eq_f, mt_ee, not_true_eq_false, not_false_eq_true, and_true, true_and, and_self, Nat.zero_add, Nat.add_zero, Nat.one_mul, Nat.mul_one, Nat.reduceAdd, Nat.reduceMul, Nat.reduceSub, Nat.reducePow, Nat.reduceDiv, Nat.reduceMod, ↓reduceIte, h, Bool.false_and, Bool.toNat_false]
  · cases h1 : fsg f p <;> cases h2 : fsg f q
    · simp (disch := first | assumption | exact hf _ | omega) only [b63, b63_0, b63_5, b63_10, b63_13, b63_18, b63_21, b63_25, b63_26, nI_add, mn_mul, mn_sub, mn_m1, mn_m8, mn_eq, mn_lt, mn_le, mn_eq0, mn_0eq, mn_lt0, mn_0lt, mn_le0, mn_0le, mn_eqm, mn_meq, mn_ltm, mn_mlt, mn_lem, mn_mle, mn_mm1, mn_mm2, mn_mm3, mn_mm4, mn_mm5, mn_mm6, mn_and, mn_or, mn_an, mn_shl, mn_shr, mn_div, mn_rem, mn_clamp, mn_in, mn_inm, mn_nz, mn_zo, mn_min, mn_max, mn_abs, mn_rfit, mn_cp, mn_les, mn_gre, mn_a127, mn_a15, mn_a1, mn_a255, mn_tn0, mn_tn0e, mn_tnr, mn_tnz, mr_get, mr_ne, mr_put, mu_ne, mu_eq, mj_bk_i, mj_bk_v, mj_bk_x, decide_eq_true_eq, decide_true, decide_false, Bool.false_eq_true, Bool.true_eq_false, reduceCtorEq, mt_le_t, mt_le_f, mt_lt_t, mt_lt_f, mt_eq_t, mt_eq_f, mt_ee, not_true_eq_false, not_false_eq_true, and_true, true_and, and_self, Nat.zero_add, Nat.add_zero, Nat.one_mul, Nat.mul_one, Nat.reduceAdd, Nat.reduceMul, Nat.reduceSub, Nat.reducePow, Nat.reduceDiv, Nat.reduceMod, ↓reduceIte, h, h1, h2, c64 hk hf hp, c64 hk hf hq, Bool.toNat_false, Bool.toNat_true, Bool.and_true, Bool.and_false]
    · simp (disch := first | assumption | exact hf _ | omega) only [b63, b63_0, b63_5, b63_10, b63_13, b63_18, b63_21, b63_25, b63_26, nI_add, mn_mul, mn_sub, mn_m1, mn_m8, mn_eq, mn_lt, mn_le, mn_eq0, mn_0eq, mn_lt0, mn_0lt, mn_le0, mn_0le, mn_eqm, mn_meq, mn_ltm, mn_mlt, mn_lem, mn_mle, mn_mm1, mn_mm2, mn_mm3, mn_mm4, mn_mm5, mn_mm6, mn_and, mn_or, mn_an, mn_shl, mn_shr, mn_div, mn_rem, mn_clamp, mn_in, mn_inm, mn_nz, mn_zo, mn_min, mn_max, mn_abs, mn_rfit, mn_cp, mn_les, mn_gre, mn_a127, mn_a15, mn_a1, mn_a255, mn_tn0, mn_tn0e, mn_tnr, mn_tnz, mr_get, mr_ne, mr_put, mu_ne, mu_eq, mj_bk_i, mj_bk_v, mj_bk_x, decide_eq_true_eq, decide_true, decide_false, Bool.false_eq_true, Bool.true_eq_false, reduceCtorEq, mt_le_t, mt_le_f, mt_lt_t, mt_lt_f, mt_eq_t, mt_eq_f, mt_ee, not_true_eq_false, not_false_eq_true, and_true, true_and, and_self, Nat.zero_add, Nat.add_zero, Nat.one_mul, Nat.mul_one, Nat.reduceAdd, Nat.reduceMul, Nat.reduceSub, Nat.reducePow, Nat.reduceDiv, Nat.reduceMod, ↓reduceIte, h, h1, h2, c64 hk hf hp, c64 hk hf hq, Bool.toNat_false, Bool.toNat_true, Bool.and_true, Bool.and_false]
    · simp (disch := first | assumption | exact hf _ | omega) only [b63, b63_0, b63_5, b63_10, b63_13, b63_18, b63_21, b63_25, b63_26, nI_add, mn_mul, mn_sub, mn_m1, mn_m8, mn_eq, mn_lt, mn_le, mn_eq0, mn_0eq, mn_lt0, mn_0lt, mn_le0, mn_0le, mn_eqm, mn_meq, mn_ltm, mn_mlt, mn_lem, mn_mle, mn_mm1, mn_mm2, mn_mm3, mn_mm4, mn_mm5, mn_mm6, mn_and, mn_or, mn_an, mn_shl, mn_shr, mn_div, mn_rem, mn_clamp, mn_in, mn_inm, mn_nz, mn_zo, mn_min, mn_max, mn_abs, mn_rfit, mn_cp, mn_les, mn_gre, mn_a127, mn_a15, mn_a1, mn_a255, mn_tn0, mn_tn0e, mn_tnr, mn_tnz, mr_get, mr_ne, mr_put, mu_ne, mu_eq, mj_bk_i, mj_bk_v, mj_bk_x, decide_eq_true_eq, decide_true, decide_false, Bool.false_eq_true, Bool.true_eq_false, reduceCtorEq, mt_le_t, mt_le_f, mt_lt_t, mt_lt_f, mt_eq_t, mt_eq_f, mt_ee, not_true_eq_false, not_false_eq_true, and_true, true_and, and_self, Nat.zero_add, Nat.add_zero, Nat.one_mul, Nat.mul_one, Nat.reduceAdd, Nat.reduceMul, Nat.reduceSub, Nat.reducePow, Nat.reduceDiv, Nat.reduceMod, ↓reduceIte, h, h1, h2, c64 hk hf hp, c64 hk hf hq, Bool.toNat_false, Bool.toNat_true, Bool.and_true, Bool.and_false]
    · simp (disch := first | assumption | exact hf _ | omega) only [b63, b63_0, b63_5, b63_10, b63_13, b63_18, b63_21, b63_25, b63_26, nI_add, mn_mul, mn_sub, mn_m1, mn_m8, mn_eq, mn_lt, mn_le, mn_eq0, mn_0eq, mn_lt0, mn_0lt, mn_le0, mn_0le, mn_eqm, mn_meq, mn_ltm, mn_mlt, mn_lem, mn_mle, mn_mm1, mn_mm2, mn_mm3, mn_mm4, mn_mm5, mn_mm6, mn_and, mn_or, mn_an, mn_shl, mn_shr, mn_div, mn_rem, mn_clamp, mn_in, mn_inm, mn_nz, mn_zo, mn_min, mn_max, mn_abs, mn_rfit, mn_cp, mn_les, mn_gre, mn_a127, mn_a15, mn_a1, mn_a255, mn_tn0, mn_tn0e, mn_tnr, mn_tnz, mr_get, mr_ne, mr_put, mu_ne, mu_eq, mj_bk_i, mj_bk_v, mj_bk_x, decide_eq_true_eq, decide_true, decide_false, Bool.false_eq_true, Bool.true_eq_false, reduceCtorEq, mt_le_t, mt_le_f, mt_lt_t, mt_lt_f, mt_eq_t, mt_eq_f, mt_ee, not_true_eq_false, not_false_eq_true, and_true, true_and, and_self, Nat.zero_add, Nat.add_zero, Nat.one_mul, Nat.mul_one, Nat.reduceAdd, Nat.reduceMul, Nat.reduceSub, Nat.reducePow, Nat.reduceDiv, Nat.reduceMod, ↓reduceIte, h, h1, h2, c64 hk hf hp, c64 hk hf hq, Bool.toNat_false, Bool.toNat_true, Bool.and_true, Bool.and_false]
theorem r66 (hk : mw_cl k = some 3) (hR : mr_is s (k + 1) 64 f) (hf : ∀ j, f j < 2147483648) : mj_call X (d + 1) 66 [.ref k] (mw_U s) = some (.inl (some (.int (nI (fn_all f)))), mw_U s) := by
  have h := c66 (X := X) (d := d) (s := s) hk hf  
  rwa [mr_self hR] at h
theorem r51 (hk : mw_cl k = some 3) (hR : mr_is s (k + 1) 64 f) (hf : ∀ j, f j < 2147483648) : mj_call X (d + 2) 51 [.ref k] (mw_U s) = some (.inl (some (.int (nI (fn_need f)))), mw_U s) := by
  have h := c51 (X := X) (d := d) (s := s) hk hf  
  rwa [mr_self hR] at h
theorem r53 (hk : mw_cl k = some 3) (hR : mr_is s (k + 1) 64 f) (hf : ∀ j, f j < 2147483648) {b : Nat} (hb : b < 2147483648) : mj_call X (d + 1) 53 [.ref k, .int (nI b)] (mw_U s) = some (.inl (some (.int (nI (fn_words f b)))), mw_U s) := by
  have h := c53 (X := X) (d := d) (s := s) hk hf (b := b) hb
  rwa [mr_self hR] at h
theorem r69 (hk : mw_cl k = some 3) (hR : mr_is s (k + 1) 64 f) (hf : ∀ j, f j < 2147483648) {p : Nat} (hp : p < 8) : mj_call X (d + 1) 69 [.ref k, .int (nI p)] (mw_U s) = some (.inl (some (.int (nI (fn_ha f p)))), mw_U s) := by
  have h := c69 (X := X) (d := d) (s := s) hk hf (p := p) hp
  rwa [mr_self hR] at h
theorem r76 (hk : mw_cl k = some 3) (hR : mr_is s (k + 1) 64 f) (hf : ∀ j, f j < 2147483648) {p : Nat} (hp : p < 8) : mj_call X (d + 1) 76 [.ref k, .int (nI p)] (mw_U s) = some (.inl (some (.int (nI (fn_ca f p)))), mw_U s) := by
  have h := c76 (X := X) (d := d) (s := s) hk hf (p := p) hp
  rwa [mr_self hR] at h
theorem r64 (hk : mw_cl k = some 3) (hR : mr_is s (k + 1) 64 f) (hf : ∀ j, f j < 2147483648) {p : Nat} (hp : p < 8) : mj_call X (d + 2) 64 [.ref k, .int (nI p)] (mw_U s) = some (.inl (some (.int (nI (fsg f p).toNat))), mw_U s) := by
  have h := c64 (X := X) (d := d) (s := s) hk hf (p := p) hp
  rwa [mr_self hR] at h
theorem r63 (hk : mw_cl k = some 3) (hR : mr_is s (k + 1) 64 f) (hf : ∀ j, f j < 2147483648) {p q : Nat} (hp : p < 8) (hq : q < 8) : mj_call X (d + 3) 63 [.ref k, .int (nI p), .int (nI q)] (mw_U s) = some (.inl (some (.int (nI (fcm f p q).toNat))), mw_U s) := by
  have h := c63 (X := X) (d := d) (s := s) hk hf (p := p) (q := q) hp hq
  rwa [mr_self hR] at h
end
