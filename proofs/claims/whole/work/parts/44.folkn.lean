/-! Folk: matches, drawers, deaths, copies -/
def fbs (f : Nat → Nat) (p : Nat) (h : Option Nat) (q : Nat) : Nat → Nat :=
  if p = q then f else if 0 < fh f (fp p q) then fe (match h with
    | none => f
    | some h => if h = q then f else fi f (fp p q) (fp h q)) (fp p q) else f
def fbur0 (f : Nat → Nat) (p : Nat) : Nat → Nat := match fs f p with
  | none => mr_u (mr_u f 52 (mn_d (f 52) (2 ^ p))) (16 + p) 0
  | some h => mr_u (mr_u (mr_u (mr_u f 52 (mn_d (f 52) (2 ^ p))) (16 + p) 0) (16 + h) 0) (8 + h) (f (8 + h) ||| f (8 + p))
def fbur (f : Nat → Nat) (p : Nat) : Nat → Nat := mr_it (fun q f' => fbs f' p (fs f p) q) 8 (fbur0 f p)
theorem fbs_lt {f : Nat → Nat} (hf : ∀ j, f j < 2147483648) {p q : Nat} {h : Option Nat} (hp : p < 8) (hq : q < 8) (hh : ∀ b, h = some b → b < 8) : ∀ j, fbs f p h q j < 2147483648 := by
  intro j; unfold fbs
  split
  · exact hf j
  · next hpq =>
    split
    · cases h with
      | none => exact fe_lt hf j
      | some b =>
        dsimp only
        split
        · exact fe_lt hf j
        · next hbq => exact fe_lt (fi_lt hf (fp_lt (hh b rfl) hq hbq)) j
    · exact hf j
theorem fbur0_lt {f : Nat → Nat} (hf : ∀ j, f j < 2147483648) {p : Nat} : ∀ j, fbur0 f p j < 2147483648 := by
  intro j; unfold fbur0
  have hd : mn_d (f 52) (2 ^ p) < 2147483648 := Nat.lt_of_le_of_lt (mn_d_le _ _) (hf _)
  cases fs f p with
  | none => exact mu_lt (mu_lt hf hd) (by decide) j
  | some h => exact mu_lt (mu_lt (mu_lt (mu_lt hf hd) (by decide)) (by decide)) (mn_or31 (hf _) (hf _)) j
theorem fbur_lt {f : Nat → Nat} (hf : ∀ j, f j < 2147483648) {p : Nat} (hp : p < 8) (hh : ∀ b, fs f p = some b → b < 8) : ∀ j, fbur f p j < 2147483648 :=
  mr_it_inv (I := fun _ (f' : Nat → Nat) => ∀ j, f' j < 2147483648) (fbur0_lt hf) (fun i a hi ha => fbs_lt ha hp hi hh)
section
variable {X : mj_X} {d k : Nat} {s : mw_S} {f : Nat → Nat}
theorem c74 (hk : mw_cl k = some 3) (hf : ∀ j, f j < 2147483648) {p : Nat} (hp : p < 8) : mj_call X (d + 4) 74 [.ref k, .int (nI p)] (mw_U (mr_set s (k + 1) 64 f)) = some (.inl (some (.int (mo (fn_mat f p)))), mw_U (mr_set s (k + 1) 64 f)) := by
  rw [b74, b74_0 hk]
  obtain ⟨hI, g, e⟩ := mr_for (E := fun i o l => mj_exec X (d + 4) 74 8 [some (.ref k), some (.int (nI p)), some (.int (mo o)), some (.int (nI (Option.elim o 2147483647 fun b => fn_ha f b - fhp f p b))), some (.int (nI i)), l] [] (mw_U (mr_set s (k + 1) 64 f))) (F := fun q (o : Option Nat) => if fcm f p q = true ∧ (∀ b, o = some b → fn_ha f q - fhp f p q < fn_ha f b - fhp f p b) then some q else o) (I := fun i o => True) (N := 8) (by
    intro i o l hi hI
    refine ⟨trivial, ?_⟩
    have hb := fn_ha_le f i
    have hle := fhp_le (f := f) (q := i) hp
    have hcall : ∀ {w : mw_S}, w = mr_set s (k + 1) 64 f → ((mj_call X (d + 3) 153 [.int (nI p), .int (nI i)] (mw_U w)).bind (mj_bk X (d + 4) 74 28 [some (.ref k), some (.int (nI p)), some (.int (mo o)), some (.int (nI (Option.elim o 2147483647 fun b => fn_ha f b - fhp f p b))), some (.int (nI i)), l] [.ref k, .int (nI (fn_ha f i))])) = mj_exec X (d + 4) 74 31 [some (.ref k), some (.int (nI p)), some (.int (mo o)), some (.int (nI (Option.elim o 2147483647 fun b => fn_ha f b - fhp f p b))), some (.int (nI i)), l] [.int (nI (fhp f p i)), .int (nI (fn_ha f i))] (mw_U w) := by
      intro w hw
      subst hw
      unfold fhp
      by_cases h : p = i
      · subst h
        simp (disch := first | assumption | exact hf _ | omega) only [c153e hp, c37m hk, mj_bk_i, b74_28, if_pos]
      · simp (disch := first | assumption | exact hf _ | omega) only [c153 hp hi h, c37 hk hf (fp_lt hp hi h), mj_bk_i, b74_28, if_neg h]
    refine ⟨some (.int (nI (fn_ha f i - fhp f p i))), ?_⟩
    rw [b74_8 hk]
    simp (disch := first | assumption | exact hf _ | omega) only [mn_le, mt_le_f, ↓reduceIte, b74_15, c69 hk hf hi, mj_bk_i, b74_21, hcall rfl]
    cases h : fcm f p i
    · simp (disch := first | assumption | exact hf _ | omega) only [b74, b74_0, b74_15, b74_21, b74_28, b74_31, b74_41, b74_44, b74_50, b74_56, b74_62, nI_add, mn_mul, mn_sub, mn_m1, mn_m8, mn_eq, mn_lt, mn_le, mn_eq0, mn_0eq, mn_lt0, mn_0lt, mn_le0, mn_0le, mn_eqm, mn_meq, mn_ltm, mn_mlt, mn_lem, mn_mle, mn_mm1, mn_mm2, mn_mm3, mn_mm4, mn_mm5, mn_mm6, mn_and, mn_or, mn_an, mn_shl, mn_shr, mn_div, mn_rem, mn_clamp, mn_in, mn_inm, mn_nz, mn_zo, mn_min, mn_max, mn_abs, mn_rfit, mn_cp, mn_les, mn_gre, mn_a127, mn_a15, mn_a1, mn_a255, mn_tn0, mn_tn0e, mn_tnr, mn_tnz, mr_get, mr_ne, mr_put, mu_ne, mu_eq, mj_bk_i, mj_bk_v, mj_bk_x, decide_eq_true_eq, decide_true, decide_false, Bool.false_eq_true, Bool.true_eq_false, reduceCtorEq, mt_le_t, mt_le_f, mt_lt_t, mt_lt_f, mt_eq_t, mt_eq_f, mt_ee, not_true_eq_false, not_false_eq_true, and_true, true_and, and_self, Nat.zero_add, Nat.add_zero, Nat.one_mul, Nat.mul_one, Nat.reduceAdd, Nat.reduceMul, Nat.reduceSub, Nat.reducePow, Nat.reduceDiv, Nat.reduceMod, ↓reduceIte, c63 hk hf hp hi, h, false_and]
    · cases o with
      | none => simp (disch := first | assumption | exact hf _ | omega) only [b74, b74_0, b74_15, b74_21, b74_28, b74_31, b74_41, b74_44, b74_50, b74_56, b74_62, nI_add, mn_mul, mn_sub, mn_m1, mn_m8, mn_eq, mn_lt, mn_le, mn_eq0, mn_0eq, mn_lt0, mn_0lt, mn_le0, mn_0le, mn_eqm, mn_meq, mn_ltm, mn_mlt, mn_lem, mn_mle, mn_mm1, mn_mm2, mn_mm3, mn_mm4, mn_mm5, mn_mm6, mn_and, mn_or, mn_an, mn_shl, mn_shr, mn_div, mn_rem, mn_clamp, mn_in, mn_inm, mn_nz, mn_zo, mn_min, mn_max, mn_abs, mn_rfit, mn_cp, mn_les, mn_gre, mn_a127, mn_a15, mn_a1, mn_a255, mn_tn0, mn_tn0e, mn_tnr, mn_tnz, mr_get, mr_ne, mr_put, mu_ne, mu_eq, mj_bk_i, mj_bk_v, mj_bk_x, decide_eq_true_eq, decide_true, decide_false, Bool.false_eq_true, Bool.true_eq_false, reduceCtorEq, mt_le_t, mt_le_f, mt_lt_t, mt_lt_f, mt_eq_t, mt_eq_f, mt_ee, not_true_eq_false, not_false_eq_true, and_true, true_and, and_self, Nat.zero_add, Nat.add_zero, Nat.one_mul, Nat.mul_one, Nat.reduceAdd, Nat.reduceMul, Nat.reduceSub, Nat.reducePow, Nat.reduceDiv, Nat.reduceMod, ↓reduceIte, c63 hk hf hp hi, mo, Option.elim, h, false_implies, implies_true, true_and]
      | some b =>
        have hb2 := fn_ha_le f b
        by_cases h2 : fn_ha f i - fhp f p i < fn_ha f b - fhp f p b
        · simp (disch := first | assumption | exact hf _ | omega) only [b74, b74_0, b74_15, b74_21, b74_28, b74_31, b74_41, b74_44, b74_50, b74_56, b74_62, nI_add, mn_mul, mn_sub, mn_m1, mn_m8, mn_eq, mn_lt, mn_le, mn_eq0, mn_0eq, mn_lt0, mn_0lt, mn_le0, mn_0le, mn_eqm, mn_meq, mn_ltm, mn_mlt, mn_lem, mn_mle, mn_mm1, mn_mm2, mn_mm3, mn_mm4, mn_mm5, mn_mm6, mn_and, mn_or, mn_an, mn_shl, mn_shr, mn_div, mn_rem, mn_clamp, mn_in, mn_inm, mn_nz, mn_zo, mn_min, mn_max, mn_abs, mn_rfit, mn_cp, mn_les, mn_gre, mn_a127, mn_a15, mn_a1, mn_a255, mn_tn0, mn_tn0e, mn_tnr, mn_tnz, mr_get, mr_ne, mr_put, mu_ne, mu_eq, mj_bk_i, mj_bk_v, mj_bk_x, decide_eq_true_eq, decide_true, decide_false, Bool.false_eq_true, Bool.true_eq_false, reduceCtorEq, mt_le_t, mt_le_f, mt_lt_t, mt_lt_f, mt_eq_t, mt_eq_f, mt_ee, not_true_eq_false, not_false_eq_true, and_true, true_and, and_self, Nat.zero_add, Nat.add_zero, Nat.one_mul, Nat.mul_one, Nat.reduceAdd, Nat.reduceMul, Nat.reduceSub, Nat.reducePow, Nat.reduceDiv, Nat.reduceMod, ↓reduceIte, c63 hk hf hp hi, mo, Option.elim, h, Option.some.injEq, forall_eq', h2, true_and]
        · simp (disch := first | assumption | exact hf _ | omega) only [b74, b74_0, b74_15, b74_21, b74_28, b74_31, b74_41, b74_44, b74_50, b74_56, b74_62, nI_add, mn_mul, mn_sub, mn_m1, mn_m8, mn_eq, mn_lt, mn_le, mn_eq0, mn_0eq, mn_lt0, mn_0lt, mn_le0, mn_0le, mn_eqm, mn_meq, mn_ltm, mn_mlt, mn_lem, mn_mle, mn_mm1, mn_mm2, mn_mm3, mn_mm4, mn_mm5, mn_mm6, mn_and, mn_or, mn_an, mn_shl, mn_shr, mn_div, mn_rem, mn_clamp, mn_in, mn_inm, mn_nz, mn_zo, mn_min, mn_max, mn_abs, mn_rfit, mn_cp, mn_les, mn_gre, mn_a127, mn_a15, mn_a1, mn_a255, mn_tn0, mn_tn0e, mn_tnr, mn_tnz, mr_get, mr_ne, mr_put, mu_ne, mu_eq, mj_bk_i, mj_bk_v, mj_bk_x, decide_eq_true_eq, decide_true, decide_false, Bool.false_eq_true, Bool.true_eq_false, reduceCtorEq, mt_le_t, mt_le_f, mt_lt_t, mt_lt_f, mt_eq_t, mt_eq_f, mt_ee, not_true_eq_false, not_false_eq_true, and_true, true_and, and_self, Nat.zero_add, Nat.add_zero, Nat.one_mul, Nat.mul_one, Nat.reduceAdd, Nat.reduceMul, Nat.reduceSub, Nat.reducePow, Nat.reduceDiv, Nat.reduceMod, ↓reduceIte, c63 hk hf hp hi, mo, Option.elim, h, Option.some.injEq, forall_eq', h2, true_and]
  ) (a := none) trivial none 8 (Nat.le_refl 8)
  refine e.trans ?_
  rw [b74_8 hk]
  simp (disch := first | assumption | exact hf _ | omega) only [b74, b74_0, b74_15, b74_21, b74_28, b74_31, b74_41, b74_44, b74_50, b74_56, b74_62, nI_add, mn_mul, mn_sub, mn_m1, mn_m8, mn_eq, mn_lt, mn_le, mn_eq0, mn_0eq, mn_lt0, mn_0lt, mn_le0, mn_0le, mn_eqm, mn_meq, mn_ltm, mn_mlt, mn_lem, mn_mle, mn_mm1, mn_mm2, mn_mm3, mn_mm4, mn_mm5, mn_mm6, mn_and, mn_or, mn_an, mn_shl, mn_shr, mn_div, mn_rem, mn_clamp, mn_in, mn_inm, mn_nz, mn_zo, mn_min, mn_max, mn_abs, mn_rfit, mn_cp, mn_les, mn_gre, mn_a127, mn_a15, mn_a1, mn_a255, mn_tn0, mn_tn0e, mn_tnr, mn_tnz, mr_get, mr_ne, mr_put, mu_ne, mu_eq, mj_bk_i, mj_bk_v, mj_bk_x, decide_eq_true_eq, decide_true, decide_false, Bool.false_eq_true, Bool.true_eq_false, reduceCtorEq, mt_le_t, mt_le_f, mt_lt_t, mt_lt_f, mt_eq_t, mt_eq_f, mt_ee, not_true_eq_false, not_false_eq_true, and_true, true_and, and_self, Nat.zero_add, Nat.add_zero, Nat.one_mul, Nat.mul_one, Nat.reduceAdd, Nat.reduceMul, Nat.reduceSub, Nat.reducePow, Nat.reduceDiv, Nat.reduceMod, ↓reduceIte]
  rfl
theorem c50 (hk : mw_cl k = some 3) (hf : ∀ j, f j < 2147483648) : mj_call X (d + 3) 50 [.ref k] (mw_U (mr_set s (k + 1) 64 f)) = some (.inl (some (.int (mo (fn_draw f)))), mw_U (mr_set s (k + 1) 64 f)) := by
  have hn := fn_need_lt f
  rw [b50]
  simp (disch := first | assumption | exact hf _ | omega) only [b50_0, c51 hk hf, mj_bk_i, b50_4]
  obtain ⟨hI, g, e⟩ := mr_for (E := fun i o (l : Option Value × Option Value) => mj_exec X (d + 3) 50 9 [some (.ref k), some (.int (nI (fn_need f))), some (.int (mo o)), some (.int (nI i)), l.1, l.2] [] (mw_U (mr_set s (k + 1) 64 f))) (F := fun g (o : Option Nat) => if mn_d g (f 52) = 0 ∧ (∀ b, o = some b → fn_cnt g < fn_cnt b) ∧ mn_d (fn_need f) (fn_words f g) = 0 then some g else o) (I := fun i o => ∀ b, o = some b → b < i) (N := 256) (by
    intro i o l hi hI
    refine ⟨?_, ?_⟩
    · intro b hb
      split at hb
      · cases hb; omega
      · have := hI b hb; omega
    · have h1 : mn_d i (f 52) < 2147483648 := Nat.lt_of_le_of_lt (mn_d_le _ _) (by omega)
      have h2 : mn_d (fn_need f) (fn_words f i) < 2147483648 := Nat.lt_of_le_of_lt (mn_d_le _ _) (by omega)
      have h3 := fn_cnt_le i
      have e3 : mj_call X (d + 2) 348 [.int (nI i)] (mw_U (mr_set s (k + 1) 64 f)) = some (.inl (some (.int (nI (fn_cnt i)))), mw_U (mr_set s (k + 1) 64 f)) := c348 (by omega)
      rw [b50_9 hk]
      by_cases q1 : mn_d i (f 52) = 0
      · cases o with
        | none =>
          refine ⟨(some (.int (nI 1)), some (.int (nI 1))), ?_⟩
          by_cases q3 : mn_d (fn_need f) (fn_words f i) = 0
          · simp (disch := first | assumption | exact hf _ | omega) only [b50, b50_0, b50_4, b50_16, b50_30, b50_34, b50_35, b50_42, b50_46, b50_50, b50_53, b50_57, b50_58, b50_65, b50_70, b50_76, b50_82, b50_84, b50_90, nI_add, mn_mul, mn_sub, mn_m1, mn_m8, mn_eq, mn_lt, mn_le, mn_eq0, mn_0eq, mn_lt0, mn_0lt, mn_le0, mn_0le, mn_eqm, mn_meq, mn_ltm, mn_mlt, mn_lem, mn_mle, mn_mm1, mn_mm2, mn_mm3, mn_mm4, mn_mm5, mn_mm6, mn_and, mn_or, mn_an, mn_shl, mn_shr, mn_div, mn_rem, mn_clamp, mn_in, mn_inm, mn_nz, mn_zo, mn_min, mn_max, mn_abs, mn_rfit, mn_cp, mn_les, mn_gre, mn_a127, mn_a15, mn_a1, mn_a255, mn_tn0, mn_tn0e, mn_tnr, mn_tnz, mr_get, mr_ne, mr_put, mu_ne, mu_eq, mj_bk_i, mj_bk_v, mj_bk_x, decide_eq_true_eq, decide_true, decide_false, Bool.false_eq_true, Bool.true_eq_false, reduceCtorEq, mt_le_t, mt_le_f, mt_lt_t, mt_lt_f, mt_eq_t, mt_eq_f, mt_ee, not_true_eq_false, not_false_eq_true, and_true, true_and, and_self, Nat.zero_add, Nat.add_zero, Nat.one_mul, Nat.mul_one, Nat.reduceAdd, Nat.reduceMul, Nat.reduceSub, Nat.reducePow, Nat.reduceDiv, Nat.reduceMod, ↓reduceIte, c53 hk hf (show i < 2147483648 by omega), mo, q1, q3, false_implies, implies_true, true_and]
          · simp (disch := first | assumption | exact hf _ | omega) only [b50, b50_0, b50_4, b50_16, b50_30, b50_34, b50_35, b50_42, b50_46, b50_50, b50_53, b50_57, b50_58, b50_65, b50_70, b50_76, b50_82, b50_84, b50_90, nI_add, mn_mul, mn_sub, mn_m1, mn_m8, mn_eq, mn_lt, mn_le, mn_eq0, mn_0eq, mn_lt0, mn_0lt, mn_le0, mn_0le, mn_eqm, mn_meq, mn_ltm, mn_mlt, mn_lem, mn_mle, mn_mm1, mn_mm2, mn_mm3, mn_mm4, mn_mm5, mn_mm6, mn_and, mn_or, mn_an, mn_shl, mn_shr, mn_div, mn_rem, mn_clamp, mn_in, mn_inm, mn_nz, mn_zo, mn_min, mn_max, mn_abs, mn_rfit, mn_cp, mn_les, mn_gre, mn_a127, mn_a15, mn_a1, mn_a255, mn_tn0, mn_tn0e, mn_tnr, mn_tnz, mr_get, mr_ne, mr_put, mu_ne, mu_eq, mj_bk_i, mj_bk_v, mj_bk_x, decide_eq_true_eq, decide_true, decide_false, Bool.false_eq_true, Bool.true_eq_false, reduceCtorEq, mt_le_t, mt_le_f, mt_lt_t, mt_lt_f, mt_eq_t, mt_eq_f, mt_ee, not_true_eq_false, not_false_eq_true, and_true, true_and, and_self, Nat.zero_add, Nat.add_zero, Nat.one_mul, Nat.mul_one, Nat.reduceAdd, Nat.reduceMul, Nat.reduceSub, Nat.reducePow, Nat.reduceDiv, Nat.reduceMod, ↓reduceIte, c53 hk hf (show i < 2147483648 by omega), mo, q1, q3, false_implies, implies_true, true_and]
        | some b =>
          have hbi : b < 1024 := by have := hI b rfl; omega
          have h4 := fn_cnt_le b
          have e4 : mj_call X (d + 2) 348 [.int (nI b)] (mw_U (mr_set s (k + 1) 64 f)) = some (.inl (some (.int (nI (fn_cnt b)))), mw_U (mr_set s (k + 1) 64 f)) := c348 hbi
          by_cases q2 : fn_cnt i < fn_cnt b
          · refine ⟨(some (.int (nI 1)), some (.int (nI 1))), ?_⟩
            by_cases q3 : mn_d (fn_need f) (fn_words f i) = 0
            · simp (disch := first | assumption | exact hf _ | omega) only [b50, b50_0, b50_4, b50_16, b50_30, b50_34, b50_35, b50_42, b50_46, b50_50, b50_53, b50_57, b50_58, b50_65, b50_70, b50_76, b50_82, b50_84, b50_90, nI_add, mn_mul, mn_sub, mn_m1, mn_m8, mn_eq, mn_lt, mn_le, mn_eq0, mn_0eq, mn_lt0, mn_0lt, mn_le0, mn_0le, mn_eqm, mn_meq, mn_ltm, mn_mlt, mn_lem, mn_mle, mn_mm1, mn_mm2, mn_mm3, mn_mm4, mn_mm5, mn_mm6, mn_and, mn_or, mn_an, mn_shl, mn_shr, mn_div, mn_rem, mn_clamp, mn_in, mn_inm, mn_nz, mn_zo, mn_min, mn_max, mn_abs, mn_rfit, mn_cp, mn_les, mn_gre, mn_a127, mn_a15, mn_a1, mn_a255, mn_tn0, mn_tn0e, mn_tnr, mn_tnz, mr_get, mr_ne, mr_put, mu_ne, mu_eq, mj_bk_i, mj_bk_v, mj_bk_x, decide_eq_true_eq, decide_true, decide_false, Bool.false_eq_true, Bool.true_eq_false, reduceCtorEq, mt_le_t, mt_le_f, mt_lt_t, mt_lt_f, mt_eq_t, mt_eq_f, mt_ee, not_true_eq_false, not_false_eq_true, and_true, true_and, and_self, Nat.zero_add, Nat.add_zero, Nat.one_mul, Nat.mul_one, Nat.reduceAdd, Nat.reduceMul, Nat.reduceSub, Nat.reducePow, Nat.reduceDiv, Nat.reduceMod, ↓reduceIte, c53 hk hf (show i < 2147483648 by omega), e3, e4, mo, q1, q2, q3, Option.some.injEq, forall_eq', true_and]
            · simp (disch := first | assumption | exact hf _ | omega) only [b50, b50_0, b50_4, b50_16, b50_30, b50_34, b50_35, b50_42, b50_46, b50_50, b50_53, b50_57, b50_58, b50_65, b50_70, b50_76, b50_82, b50_84, b50_90, nI_add, mn_mul, mn_sub, mn_m1, mn_m8, mn_eq, mn_lt, mn_le, mn_eq0, mn_0eq, mn_lt0, mn_0lt, mn_le0, mn_0le, mn_eqm, mn_meq, mn_ltm, mn_mlt, mn_lem, mn_mle, mn_mm1, mn_mm2, mn_mm3, mn_mm4, mn_mm5, mn_mm6, mn_and, mn_or, mn_an, mn_shl, mn_shr, mn_div, mn_rem, mn_clamp, mn_in, mn_inm, mn_nz, mn_zo, mn_min, mn_max, mn_abs, mn_rfit, mn_cp, mn_les, mn_gre, mn_a127, mn_a15, mn_a1, mn_a255, mn_tn0, mn_tn0e, mn_tnr, mn_tnz, mr_get, mr_ne, mr_put, mu_ne, mu_eq, mj_bk_i, mj_bk_v, mj_bk_x, decide_eq_true_eq, decide_true, decide_false, Bool.false_eq_true, Bool.true_eq_false, reduceCtorEq, mt_le_t, mt_le_f, mt_lt_t, mt_lt_f, mt_eq_t, mt_eq_f, mt_ee, not_true_eq_false, not_false_eq_true, and_true, true_and, and_self, Nat.zero_add, Nat.add_zero, Nat.one_mul, Nat.mul_one, Nat.reduceAdd, Nat.reduceMul, Nat.reduceSub, Nat.reducePow, Nat.reduceDiv, Nat.reduceMod, ↓reduceIte, c53 hk hf (show i < 2147483648 by omega), e3, e4, mo, q1, q2, q3, Option.some.injEq, forall_eq', true_and]
          · refine ⟨(some (.int (nI 1)), some (.int (nI 0))), ?_⟩
            simp (disch := first | assumption | exact hf _ | omega) only [b50, b50_0, b50_4, b50_16, b50_30, b50_34, b50_35, b50_42, b50_46, b50_50, b50_53, b50_57, b50_58, b50_65, b50_70, b50_76, b50_82, b50_84, b50_90, nI_add, mn_mul, mn_sub, mn_m1, mn_m8, mn_eq, mn_lt, mn_le, mn_eq0, mn_0eq, mn_lt0, mn_0lt, mn_le0, mn_0le, mn_eqm, mn_meq, mn_ltm, mn_mlt, mn_lem, mn_mle, mn_mm1, mn_mm2, mn_mm3, mn_mm4, mn_mm5, mn_mm6, mn_and, mn_or, mn_an, mn_shl, mn_shr, mn_div, mn_rem, mn_clamp, mn_in, mn_inm, mn_nz, mn_zo, mn_min, mn_max, mn_abs, mn_rfit, mn_cp, mn_les, mn_gre, mn_a127, mn_a15, mn_a1, mn_a255, mn_tn0, mn_tn0e, mn_tnr, mn_tnz, mr_get, mr_ne, mr_put, mu_ne, mu_eq, mj_bk_i, mj_bk_v, mj_bk_x, decide_eq_true_eq, decide_true, decide_false, Bool.false_eq_true, Bool.true_eq_false, reduceCtorEq, mt_le_t, mt_le_f, mt_lt_t, mt_lt_f, mt_eq_t, mt_eq_f, mt_ee, not_true_eq_false, not_false_eq_true, and_true, true_and, and_self, Nat.zero_add, Nat.add_zero, Nat.one_mul, Nat.mul_one, Nat.reduceAdd, Nat.reduceMul, Nat.reduceSub, Nat.reducePow, Nat.reduceDiv, Nat.reduceMod, ↓reduceIte, e3, e4, mo, q1, q2, Option.some.injEq, forall_eq', true_and, false_and]
      · cases o with
        | none => refine ⟨(some (.int (nI 0)), some (.int (nI 1))), ?_⟩; simp (disch := first | assumption | exact hf _ | omega) only [b50, b50_0, b50_4, b50_16, b50_30, b50_34, b50_35, b50_42, b50_46, b50_50, b50_53, b50_57, b50_58, b50_65, b50_70, b50_76, b50_82, b50_84, b50_90, nI_add, mn_mul, mn_sub, mn_m1, mn_m8, mn_eq, mn_lt, mn_le, mn_eq0, mn_0eq, mn_lt0, mn_0lt, mn_le0, mn_0le, mn_eqm, mn_meq, mn_ltm, mn_mlt, mn_lem, mn_mle, mn_mm1, mn_mm2, mn_mm3, mn_mm4, mn_mm5, mn_mm6, mn_and, mn_or, mn_an, mn_shl, mn_shr, mn_div, mn_rem, mn_clamp, mn_in, mn_inm, mn_nz, mn_zo, mn_min, mn_max, mn_abs, mn_rfit, mn_cp, mn_les, mn_gre, mn_a127, mn_a15, mn_a1, mn_a255, mn_tn0, mn_tn0e, mn_tnr, mn_tnz, mr_get, mr_ne, mr_put, mu_ne, mu_eq, mj_bk_i, mj_bk_v, mj_bk_x, decide_eq_true_eq, decide_true, decide_false, Bool.false_eq_true, Bool.true_eq_false, reduceCtorEq, mt_le_t, mt_le_f, mt_lt_t, mt_lt_f, mt_eq_t, mt_eq_f, mt_ee, not_true_eq_false, not_false_eq_true, and_true, true_and, and_self, Nat.zero_add, Nat.add_zero, Nat.one_mul, Nat.mul_one, Nat.reduceAdd, Nat.reduceMul, Nat.reduceSub, Nat.reducePow, Nat.reduceDiv, Nat.reduceMod, ↓reduceIte, mo, q1, false_and]
        | some b =>
          have hbi : b < 1024 := by have := hI b rfl; omega
          have h4 := fn_cnt_le b
          have e4 : mj_call X (d + 2) 348 [.int (nI b)] (mw_U (mr_set s (k + 1) 64 f)) = some (.inl (some (.int (nI (fn_cnt b)))), mw_U (mr_set s (k + 1) 64 f)) := c348 hbi
          by_cases q2 : fn_cnt i < fn_cnt b
          · refine ⟨(some (.int (nI 0)), some (.int (nI 1))), ?_⟩; simp (disch := first | assumption | exact hf _ | omega) only [b50, b50_0, b50_4, b50_16, b50_30, b50_34, b50_35, b50_42, b50_46, b50_50, b50_53, b50_57, b50_58, b50_65, b50_70, b50_76, b50_82, b50_84, b50_90, nI_add, mn_mul, mn_sub, mn_m1, mn_m8, mn_eq, mn_lt, mn_le, mn_eq0, mn_0eq, mn_lt0, mn_0lt, mn_le0, mn_0le, mn_eqm, mn_meq, mn_ltm, mn_mlt, mn_lem, mn_mle, mn_mm1, mn_mm2, mn_mm3, mn_mm4, mn_mm5, mn_mm6, mn_and, mn_or, mn_an, mn_shl, mn_shr, mn_div, mn_rem, mn_clamp, mn_in, mn_inm, mn_nz, mn_zo, mn_min, mn_max, mn_abs, mn_rfit, mn_cp, mn_les, mn_gre, mn_a127, mn_a15, mn_a1, mn_a255, mn_tn0, mn_tn0e, mn_tnr, mn_tnz, mr_get, mr_ne, mr_put, mu_ne, mu_eq, mj_bk_i, mj_bk_v, mj_bk_x, decide_eq_true_eq, decide_true, decide_false, Bool.false_eq_true, Bool.true_eq_false, reduceCtorEq, mt_le_t, mt_le_f, mt_lt_t, mt_lt_f, mt_eq_t, mt_eq_f, mt_ee, not_true_eq_false, not_false_eq_true, and_true, true_and, and_self, Nat.zero_add, Nat.add_zero, Nat.one_mul, Nat.mul_one, Nat.reduceAdd, Nat.reduceMul, Nat.reduceSub, Nat.reducePow, Nat.reduceDiv, Nat.reduceMod, ↓reduceIte, e3, e4, mo, q1, q2, false_and]
          · refine ⟨(some (.int (nI 0)), some (.int (nI 0))), ?_⟩; simp (disch := first | assumption | exact hf _ | omega) only [b50, b50_0, b50_4, b50_16, b50_30, b50_34, b50_35, b50_42, b50_46, b50_50, b50_53, b50_57, b50_58, b50_65, b50_70, b50_76, b50_82, b50_84, b50_90, nI_add, mn_mul, mn_sub, mn_m1, mn_m8, mn_eq, mn_lt, mn_le, mn_eq0, mn_0eq, mn_lt0, mn_0lt, mn_le0, mn_0le, mn_eqm, mn_meq, mn_ltm, mn_mlt, mn_lem, mn_mle, mn_mm1, mn_mm2, mn_mm3, mn_mm4, mn_mm5, mn_mm6, mn_and, mn_or, mn_an, mn_shl, mn_shr, mn_div, mn_rem, mn_clamp, mn_in, mn_inm, mn_nz, mn_zo, mn_min, mn_max, mn_abs, mn_rfit, mn_cp, mn_les, mn_gre, mn_a127, mn_a15, mn_a1, mn_a255, mn_tn0, mn_tn0e, mn_tnr, mn_tnz, mr_get, mr_ne, mr_put, mu_ne, mu_eq, mj_bk_i, mj_bk_v, mj_bk_x, decide_eq_true_eq, decide_true, decide_false, Bool.false_eq_true, Bool.true_eq_false, reduceCtorEq, mt_le_t, mt_le_f, mt_lt_t, mt_lt_f, mt_eq_t, mt_eq_f, mt_ee, not_true_eq_false, not_false_eq_true, and_true, true_and, and_self, Nat.zero_add, Nat.add_zero, Nat.one_mul, Nat.mul_one, Nat.reduceAdd, Nat.reduceMul, Nat.reduceSub, Nat.reducePow, Nat.reduceDiv, Nat.reduceMod, ↓reduceIte, e3, e4, mo, q1, q2, false_and]
  ) (a := none) (by intro b hb; cases hb) (none, none) 256 (Nat.le_refl 256)
  refine e.trans ?_
  rw [b50_9 hk]
  simp (disch := first | assumption | exact hf _ | omega) only [b50, b50_0, b50_4, b50_16, b50_30, b50_34, b50_35, b50_42, b50_46, b50_50, b50_53, b50_57, b50_58, b50_65, b50_70, b50_76, b50_82, b50_84, b50_90, nI_add, mn_mul, mn_sub, mn_m1, mn_m8, mn_eq, mn_lt, mn_le, mn_eq0, mn_0eq, mn_lt0, mn_0lt, mn_le0, mn_0le, mn_eqm, mn_meq, mn_ltm, mn_mlt, mn_lem, mn_mle, mn_mm1, mn_mm2, mn_mm3, mn_mm4, mn_mm5, mn_mm6, mn_and, mn_or, mn_an, mn_shl, mn_shr, mn_div, mn_rem, mn_clamp, mn_in, mn_inm, mn_nz, mn_zo, mn_min, mn_max, mn_abs, mn_rfit, mn_cp, mn_les, mn_gre, mn_a127, mn_a15, mn_a1, mn_a255, mn_tn0, mn_tn0e, mn_tnr, mn_tnz, mr_get, mr_ne, mr_put, mu_ne, mu_eq, mj_bk_i, mj_bk_v, mj_bk_x, decide_eq_true_eq, decide_true, decide_false, Bool.false_eq_true, Bool.true_eq_false, reduceCtorEq, mt_le_t, mt_le_f, mt_lt_t, mt_lt_f, mt_eq_t, mt_eq_f, mt_ee, not_true_eq_false, not_false_eq_true, and_true, true_and, and_self, Nat.zero_add, Nat.add_zero, Nat.one_mul, Nat.mul_one, Nat.reduceAdd, Nat.reduceMul, Nat.reduceSub, Nat.reducePow, Nat.reduceDiv, Nat.reduceMod, ↓reduceIte]
  rfl
theorem c54 (hk : mw_cl k = some 3) (hf : ∀ j, f j < 2147483648) {p : Nat} (hp : p < 8) (hh : ∀ b, fs f p = some b → b < 8 ∧ ¬ b = p) : mj_call X (d + 3) 54 [.ref k, .int (nI p)] (mw_U (mr_set s (k + 1) 64 f)) = some (.inl none, mw_U (mr_set s (k + 1) 64 (fbur f p))) := by
  have key : ∀ l, mj_exec X (d + 3) 54 79 [some (.ref k), some (.int (nI p)), some (.int (mo (fs f p))), some (.int (nI 0)), l] [] (mw_U (mr_set s (k + 1) 64 (fbur0 f p))) = some (.inl none, mw_U (mr_set s (k + 1) 64 (fbur f p))) := by
    intro l0
    obtain ⟨hI, g, e⟩ := mr_for (E := fun i f' l => mj_exec X (d + 3) 54 79 [some (.ref k), some (.int (nI p)), some (.int (mo (fs f p))), some (.int (nI i)), l] [] (mw_U (mr_set s (k + 1) 64 f'))) (F := fun q f' => fbs f' p (fs f p) q) (I := fun i f' => ∀ j, f' j < 2147483648) (N := 8) (by
      intro i f' l hi hI
      refine ⟨fbs_lt hI hp hi (fun b hb => (hh b hb).1), ?_⟩
      rw [b54_79 hk]
      unfold fbs
      by_cases h : p = i
      · subst h
        refine ⟨some (.int (-1)), ?_⟩
        simp (disch := first | assumption | exact hf _ | omega) only [b54, b54_0, b54_4, b54_7, b54_8, b54_13, b54_43, b54_46, b54_77, b54_85, b54_90, b54_98, b54_101, b54_106, b54_111, b54_119, b54_122, b54_128, b54_134, nI_add, mn_mul, mn_sub, mn_m1, mn_m8, mn_eq, mn_lt, mn_le, mn_eq0, mn_0eq, mn_lt0, mn_0lt, mn_le0, mn_0le, mn_eqm, mn_meq, mn_ltm, mn_mlt, mn_lem, mn_mle, mn_mm1, mn_mm2, mn_mm3, mn_mm4, mn_mm5, mn_mm6, mn_and, mn_or, mn_an, mn_shl, mn_shr, mn_div, mn_rem, mn_clamp, mn_in, mn_inm, mn_nz, mn_zo, mn_min, mn_max, mn_abs, mn_rfit, mn_cp, mn_les, mn_gre, mn_a127, mn_a15, mn_a1, mn_a255, mn_tn0, mn_tn0e, mn_tnr, mn_tnz, mr_get, mr_ne, mr_put, mu_ne, mu_eq, mj_bk_i, mj_bk_v, mj_bk_x, decide_eq_true_eq, decide_true, decide_false, Bool.false_eq_true, Bool.true_eq_false, reduceCtorEq, mt_le_t, mt_le_f, mt_lt_t, mt_lt_f, mt_eq_t, mt_eq_f, mt_ee, not_true_eq_false, not_false_eq_true, and_true, true_and, and_self, Nat.zero_add, Nat.add_zero, Nat.one_mul, Nat.mul_one, Nat.reduceAdd, Nat.reduceMul, Nat.reduceSub, Nat.reducePow, Nat.reduceDiv, Nat.reduceMod, ↓reduceIte, c153e hp, c36m hk]
      · have hl := fp_lt hp hi h
        refine ⟨some (.int (nI (fp p i))), ?_⟩
        have hb := fh_lt f' (fp p i)
        by_cases h2 : 0 < fh f' (fp p i)
        · cases hs : fs f p with
          | none => simp (disch := first | assumption | exact hf _ | omega) only [b54, b54_0, b54_4, b54_7, b54_8, b54_13, b54_43, b54_46, b54_77, b54_85, b54_90, b54_98, b54_101, b54_106, b54_111, b54_119, b54_122, b54_128, b54_134, nI_add, mn_mul, mn_sub, mn_m1, mn_m8, mn_eq, mn_lt, mn_le, mn_eq0, mn_0eq, mn_lt0, mn_0lt, mn_le0, mn_0le, mn_eqm, mn_meq, mn_ltm, mn_mlt, mn_lem, mn_mle, mn_mm1, mn_mm2, mn_mm3, mn_mm4, mn_mm5, mn_mm6, mn_and, mn_or, mn_an, mn_shl, mn_shr, mn_div, mn_rem, mn_clamp, mn_in, mn_inm, mn_nz, mn_zo, mn_min, mn_max, mn_abs, mn_rfit, mn_cp, mn_les, mn_gre, mn_a127, mn_a15, mn_a1, mn_a255, mn_tn0, mn_tn0e, mn_tnr, mn_tnz, mr_get, mr_ne, mr_put, mu_ne, mu_eq, mj_bk_i, mj_bk_v, mj_bk_x, decide_eq_true_eq, decide_true, decide_false, Bool.false_eq_true, Bool.true_eq_false, reduceCtorEq, mt_le_t, mt_le_f, mt_lt_t, mt_lt_f, mt_eq_t, mt_eq_f, mt_ee, not_true_eq_false, not_false_eq_true, and_true, true_and, and_self, Nat.zero_add, Nat.add_zero, Nat.one_mul, Nat.mul_one, Nat.reduceAdd, Nat.reduceMul, Nat.reduceSub, Nat.reducePow, Nat.reduceDiv, Nat.reduceMod, ↓reduceIte, c153 hp hi h, c36 hk hI hl, c42 hk hI hl, h, h2, mo]
          | some b =>
            obtain ⟨hb1, hb2⟩ := hh b hs
            by_cases h3 : b = i
            · simp (disch := first | assumption | exact hf _ | omega) only [b54, b54_0, b54_4, b54_7, b54_8, b54_13, b54_43, b54_46, b54_77, b54_85, b54_90, b54_98, b54_101, b54_106, b54_111, b54_119, b54_122, b54_128, b54_134, nI_add, mn_mul, mn_sub, mn_m1, mn_m8, mn_eq, mn_lt, mn_le, mn_eq0, mn_0eq, mn_lt0, mn_0lt, mn_le0, mn_0le, mn_eqm, mn_meq, mn_ltm, mn_mlt, mn_lem, mn_mle, mn_mm1, mn_mm2, mn_mm3, mn_mm4, mn_mm5, mn_mm6, mn_and, mn_or, mn_an, mn_shl, mn_shr, mn_div, mn_rem, mn_clamp, mn_in, mn_inm, mn_nz, mn_zo, mn_min, mn_max, mn_abs, mn_rfit, mn_cp, mn_les, mn_gre, mn_a127, mn_a15, mn_a1, mn_a255, mn_tn0, mn_tn0e, mn_tnr, mn_tnz, mr_get, mr_ne, mr_put, mu_ne, mu_eq, mj_bk_i, mj_bk_v, mj_bk_x, decide_eq_true_eq, decide_true, decide_false, Bool.false_eq_true, Bool.true_eq_false, reduceCtorEq, mt_le_t, mt_le_f, mt_lt_t, mt_lt_f, mt_eq_t, mt_eq_f, mt_ee, not_true_eq_false, not_false_eq_true, and_true, true_and, and_self, Nat.zero_add, Nat.add_zero, Nat.one_mul, Nat.mul_one, Nat.reduceAdd, Nat.reduceMul, Nat.reduceSub, Nat.reducePow, Nat.reduceDiv, Nat.reduceMod, ↓reduceIte, c153 hp hi h, c36 hk hI hl, c42 hk hI hl, h, h2, h3, mo]
            · simp (disch := first | assumption | exact hf _ | omega) only [b54, b54_0, b54_4, b54_7, b54_8, b54_13, b54_43, b54_46, b54_77, b54_85, b54_90, b54_98, b54_101, b54_106, b54_111, b54_119, b54_122, b54_128, b54_134, nI_add, mn_mul, mn_sub, mn_m1, mn_m8, mn_eq, mn_lt, mn_le, mn_eq0, mn_0eq, mn_lt0, mn_0lt, mn_le0, mn_0le, mn_eqm, mn_meq, mn_ltm, mn_mlt, mn_lem, mn_mle, mn_mm1, mn_mm2, mn_mm3, mn_mm4, mn_mm5, mn_mm6, mn_and, mn_or, mn_an, mn_shl, mn_shr, mn_div, mn_rem, mn_clamp, mn_in, mn_inm, mn_nz, mn_zo, mn_min, mn_max, mn_abs, mn_rfit, mn_cp, mn_les, mn_gre, mn_a127, mn_a15, mn_a1, mn_a255, mn_tn0, mn_tn0e, mn_tnr, mn_tnz, mr_get, mr_ne, mr_put, mu_ne, mu_eq, mj_bk_i, mj_bk_v, mj_bk_x, decide_eq_true_eq, decide_true, decide_false, Bool.false_eq_true, Bool.true_eq_false, reduceCtorEq, mt_le_t, mt_le_f, mt_lt_t, mt_lt_f, mt_eq_t, mt_eq_f, mt_ee, not_true_eq_false, not_false_eq_true, and_true, true_and, and_self, Nat.zero_add, Nat.add_zero, Nat.one_mul, Nat.mul_one, Nat.reduceAdd, Nat.reduceMul, Nat.reduceSub, Nat.reducePow, Nat.reduceDiv, Nat.reduceMod, ↓reduceIte, c153 hp hi h, c36 hk hI hl, c153 hb1 hi h3, c56 hk hI hl (fp_lt hb1 hi h3), c42 hk (fi_lt hI (fp_lt hb1 hi h3)) hl, h, h2, h3, mo]
        · simp (disch := first | assumption | exact hf _ | omega) only [b54, b54_0, b54_4, b54_7, b54_8, b54_13, b54_43, b54_46, b54_77, b54_85, b54_90, b54_98, b54_101, b54_106, b54_111, b54_119, b54_122, b54_128, b54_134, nI_add, mn_mul, mn_sub, mn_m1, mn_m8, mn_eq, mn_lt, mn_le, mn_eq0, mn_0eq, mn_lt0, mn_0lt, mn_le0, mn_0le, mn_eqm, mn_meq, mn_ltm, mn_mlt, mn_lem, mn_mle, mn_mm1, mn_mm2, mn_mm3, mn_mm4, mn_mm5, mn_mm6, mn_and, mn_or, mn_an, mn_shl, mn_shr, mn_div, mn_rem, mn_clamp, mn_in, mn_inm, mn_nz, mn_zo, mn_min, mn_max, mn_abs, mn_rfit, mn_cp, mn_les, mn_gre, mn_a127, mn_a15, mn_a1, mn_a255, mn_tn0, mn_tn0e, mn_tnr, mn_tnz, mr_get, mr_ne, mr_put, mu_ne, mu_eq, mj_bk_i, mj_bk_v, mj_bk_x, decide_eq_true_eq, decide_true, decide_false, Bool.false_eq_true, Bool.true_eq_false, reduceCtorEq, mt_le_t, mt_le_f, mt_lt_t, mt_lt_f, mt_eq_t, mt_eq_f, mt_ee, not_true_eq_false, not_false_eq_true, and_true, true_and, and_self, Nat.zero_add, Nat.add_zero, Nat.one_mul, Nat.mul_one, Nat.reduceAdd, Nat.reduceMul, Nat.reduceSub, Nat.reducePow, Nat.reduceDiv, Nat.reduceMod, ↓reduceIte, c153 hp hi h, c36 hk hI hl, h, h2]
    ) (a := (fbur0 f p)) (fbur0_lt hf) l0 8 (Nat.le_refl 8)
    refine e.trans ?_
    rw [b54_79 hk]
    simp (disch := first | assumption | exact hf _ | omega) only [b54, b54_0, b54_4, b54_7, b54_8, b54_13, b54_43, b54_46, b54_77, b54_85, b54_90, b54_98, b54_101, b54_106, b54_111, b54_119, b54_122, b54_128, b54_134, nI_add, mn_mul, mn_sub, mn_m1, mn_m8, mn_eq, mn_lt, mn_le, mn_eq0, mn_0eq, mn_lt0, mn_0lt, mn_le0, mn_0le, mn_eqm, mn_meq, mn_ltm, mn_mlt, mn_lem, mn_mle, mn_mm1, mn_mm2, mn_mm3, mn_mm4, mn_mm5, mn_mm6, mn_and, mn_or, mn_an, mn_shl, mn_shr, mn_div, mn_rem, mn_clamp, mn_in, mn_inm, mn_nz, mn_zo, mn_min, mn_max, mn_abs, mn_rfit, mn_cp, mn_les, mn_gre, mn_a127, mn_a15, mn_a1, mn_a255, mn_tn0, mn_tn0e, mn_tnr, mn_tnz, mr_get, mr_ne, mr_put, mu_ne, mu_eq, mj_bk_i, mj_bk_v, mj_bk_x, decide_eq_true_eq, decide_true, decide_false, Bool.false_eq_true, Bool.true_eq_false, reduceCtorEq, mt_le_t, mt_le_f, mt_lt_t, mt_lt_f, mt_eq_t, mt_eq_f, mt_ee, not_true_eq_false, not_false_eq_true, and_true, true_and, and_self, Nat.zero_add, Nat.add_zero, Nat.one_mul, Nat.mul_one, Nat.reduceAdd, Nat.reduceMul, Nat.reduceSub, Nat.reducePow, Nat.reduceDiv, Nat.reduceMod, ↓reduceIte]
    rfl
  have h16 := hf (16 + p)
  have key2 := key none
  unfold fbur0 at key2
  cases hs : fs f p with
  | none =>
    rw [hs] at key2
    simp (disch := first | assumption | exact hf _ | omega) only [b54, b54_0, b54_4, b54_7, b54_8, b54_13, b54_43, b54_46, b54_77, b54_85, b54_90, b54_98, b54_101, b54_106, b54_111, b54_119, b54_122, b54_128, b54_134, nI_add, mn_mul, mn_sub, mn_m1, mn_m8, mn_eq, mn_lt, mn_le, mn_eq0, mn_0eq, mn_lt0, mn_0lt, mn_le0, mn_0le, mn_eqm, mn_meq, mn_ltm, mn_mlt, mn_lem, mn_mle, mn_mm1, mn_mm2, mn_mm3, mn_mm4, mn_mm5, mn_mm6, mn_and, mn_or, mn_an, mn_shl, mn_shr, mn_div, mn_rem, mn_clamp, mn_in, mn_inm, mn_nz, mn_zo, mn_min, mn_max, mn_abs, mn_rfit, mn_cp, mn_les, mn_gre, mn_a127, mn_a15, mn_a1, mn_a255, mn_tn0, mn_tn0e, mn_tnr, mn_tnz, mr_get, mr_ne, mr_put, mu_ne, mu_eq, mj_bk_i, mj_bk_v, mj_bk_x, decide_eq_true_eq, decide_true, decide_false, Bool.false_eq_true, Bool.true_eq_false, reduceCtorEq, mt_le_t, mt_le_f, mt_lt_t, mt_lt_f, mt_eq_t, mt_eq_f, mt_ee, not_true_eq_false, not_false_eq_true, and_true, true_and, and_self, Nat.zero_add, Nat.add_zero, Nat.one_mul, Nat.mul_one, Nat.reduceAdd, Nat.reduceMul, Nat.reduceSub, Nat.reducePow, Nat.reduceDiv, Nat.reduceMod, ↓reduceIte, c39, c55 hk hf hp, hs, mo, c39m]
    exact key2
  | some b =>
    obtain ⟨hb1, hb2⟩ := hh b hs
    rw [hs] at key2
    simp (disch := first | assumption | exact hf _ | omega) only [b54, b54_0, b54_4, b54_7, b54_8, b54_13, b54_43, b54_46, b54_77, b54_85, b54_90, b54_98, b54_101, b54_106, b54_111, b54_119, b54_122, b54_128, b54_134, nI_add, mn_mul, mn_sub, mn_m1, mn_m8, mn_eq, mn_lt, mn_le, mn_eq0, mn_0eq, mn_lt0, mn_0lt, mn_le0, mn_0le, mn_eqm, mn_meq, mn_ltm, mn_mlt, mn_lem, mn_mle, mn_mm1, mn_mm2, mn_mm3, mn_mm4, mn_mm5, mn_mm6, mn_and, mn_or, mn_an, mn_shl, mn_shr, mn_div, mn_rem, mn_clamp, mn_in, mn_inm, mn_nz, mn_zo, mn_min, mn_max, mn_abs, mn_rfit, mn_cp, mn_les, mn_gre, mn_a127, mn_a15, mn_a1, mn_a255, mn_tn0, mn_tn0e, mn_tnr, mn_tnz, mr_get, mr_ne, mr_put, mu_ne, mu_eq, mj_bk_i, mj_bk_v, mj_bk_x, decide_eq_true_eq, decide_true, decide_false, Bool.false_eq_true, Bool.true_eq_false, reduceCtorEq, mt_le_t, mt_le_f, mt_lt_t, mt_lt_f, mt_eq_t, mt_eq_f, mt_ee, not_true_eq_false, not_false_eq_true, and_true, true_and, and_self, Nat.zero_add, Nat.add_zero, Nat.one_mul, Nat.mul_one, Nat.reduceAdd, Nat.reduceMul, Nat.reduceSub, Nat.reducePow, Nat.reduceDiv, Nat.reduceMod, ↓reduceIte, c39, c55 hk hf hp, hs, mo]
    exact key2
theorem c350 {K n : Nat} {w : mw_S} (hK : mw_rw K = some (.int, n)) (hn : n < 2147483648) {v : Nat} : mj_call X d 350 [.ref K, .int (nI v)] (mw_U w) = some (.inl none, mw_U (mr_set w K n (fun _ => v))) := by
  rw [b350, b350_0 hK]
  have e0 : w = mr_set w K 0 (fun _ => v) := by
    refine Prod.ext ?_ rfl
    funext a b
    show _ = if a = K ∧ b < 0 then _ else _
    rw [if_neg (by omega)]
  have step : ∀ m, m ≤ n → mj_exec X d 350 5 [some (.ref K), some (.int (nI v)), some (.int (nI 0)), some (.int (nI n))] [] (mw_U w) = mj_exec X d 350 5 [some (.ref K), some (.int (nI v)), some (.int (nI m)), some (.int (nI n))] [] (mw_U (mr_set w K m (fun _ => v))) := by
    intro m
    induction m with
    | zero => intro _; rw [← e0]
    | succ m ih =>
      intro hm
      rw [ih (by omega), b350_5 hK]
      simp (disch := first | assumption | exact hf _ | omega) only [nI_add, mn_mul, mn_sub, mn_m1, mn_m8, mn_eq, mn_lt, mn_le, mn_eq0, mn_0eq, mn_lt0, mn_0lt, mn_le0, mn_0le, mn_eqm, mn_meq, mn_ltm, mn_mlt, mn_lem, mn_mle, mn_mm1, mn_mm2, mn_mm3, mn_mm4, mn_mm5, mn_mm6, mn_and, mn_or, mn_an, mn_shl, mn_shr, mn_div, mn_rem, mn_clamp, mn_in, mn_inm, mn_nz, mn_zo, mn_min, mn_max, mn_abs, mn_rfit, mn_cp, mn_les, mn_gre, mn_a127, mn_a15, mn_a1, mn_a255, mn_tn0, mn_tn0e, mn_tnr, mn_tnz, mr_get, mr_ne, mr_put, mu_ne, mu_eq, mj_bk_i, mj_bk_v, mj_bk_x, decide_eq_true_eq, decide_true, decide_false, Bool.false_eq_true, Bool.true_eq_false, reduceCtorEq, mt_le_t, mt_le_f, mt_lt_t, mt_lt_f, mt_eq_t, mt_eq_f, mt_ee, not_true_eq_false, not_false_eq_true, and_true, true_and, and_self, Nat.zero_add, Nat.add_zero, Nat.one_mul, Nat.mul_one, Nat.reduceAdd, Nat.reduceMul, Nat.reduceSub, Nat.reducePow, Nat.reduceDiv, Nat.reduceMod, ↓reduceIte, b350_10]
      congr 2
      refine Prod.ext ?_ rfl
      funext a b
      show (if a = K ∧ b = m then nI v else if a = K ∧ b < m then nI v else w.1 a b) = if a = K ∧ b < m + 1 then nI v else w.1 a b
      by_cases ha : a = K
      · by_cases hb : b = m
        · rw [if_pos ⟨ha, hb⟩, if_pos ⟨ha, by omega⟩]
        · rw [if_neg (fun z => hb z.2)]
          by_cases hb2 : b < m
          · rw [if_pos ⟨ha, hb2⟩, if_pos ⟨ha, by omega⟩]
          · rw [if_neg (fun z => hb2 z.2), if_neg (fun z => by omega)]
      · rw [if_neg (fun z => ha z.1), if_neg (fun z => ha z.1), if_neg (fun z => ha z.1)]
  rw [step n (Nat.le_refl n), b350_5 hK]
  simp (disch := first | assumption | exact hf _ | omega) only [b350, b350_0, b350_10, b350_20, nI_add, mn_mul, mn_sub, mn_m1, mn_m8, mn_eq, mn_lt, mn_le, mn_eq0, mn_0eq, mn_lt0, mn_0lt, mn_le0, mn_0le, mn_eqm, mn_meq, mn_ltm, mn_mlt, mn_lem, mn_mle, mn_mm1, mn_mm2, mn_mm3, mn_mm4, mn_mm5, mn_mm6, mn_and, mn_or, mn_an, mn_shl, mn_shr, mn_div, mn_rem, mn_clamp, mn_in, mn_inm, mn_nz, mn_zo, mn_min, mn_max, mn_abs, mn_rfit, mn_cp, mn_les, mn_gre, mn_a127, mn_a15, mn_a1, mn_a255, mn_tn0, mn_tn0e, mn_tnr, mn_tnz, mr_get, mr_ne, mr_put, mu_ne, mu_eq, mj_bk_i, mj_bk_v, mj_bk_x, decide_eq_true_eq, decide_true, decide_false, Bool.false_eq_true, Bool.true_eq_false, reduceCtorEq, mt_le_t, mt_le_f, mt_lt_t, mt_lt_f, mt_eq_t, mt_eq_f, mt_ee, not_true_eq_false, not_false_eq_true, and_true, true_and, and_self, Nat.zero_add, Nat.add_zero, Nat.one_mul, Nat.mul_one, Nat.reduceAdd, Nat.reduceMul, Nat.reduceSub, Nat.reducePow, Nat.reduceDiv, Nat.reduceMod, ↓reduceIte]
theorem c60 (hk : mw_cl k = some 3) {w : mw_S} : mj_call X (d + 1) 60 [.ref k] (mw_U w) = some (.inl none, mw_U (mr_set w (k + 1) 64 (fun _ => 0))) := by
  simp (disch := first | assumption | exact hf _ | omega) only [b60, b60_0, b60_8, nI_add, mn_mul, mn_sub, mn_m1, mn_m8, mn_eq, mn_lt, mn_le, mn_eq0, mn_0eq, mn_lt0, mn_0lt, mn_le0, mn_0le, mn_eqm, mn_meq, mn_ltm, mn_mlt, mn_lem, mn_mle, mn_mm1, mn_mm2, mn_mm3, mn_mm4, mn_mm5, mn_mm6, mn_and, mn_or, mn_an, mn_shl, mn_shr, mn_div, mn_rem, mn_clamp, mn_in, mn_inm, mn_nz, mn_zo, mn_min, mn_max, mn_abs, mn_rfit, mn_cp, mn_les, mn_gre, mn_a127, mn_a15, mn_a1, mn_a255, mn_tn0, mn_tn0e, mn_tnr, mn_tnz, mr_get, mr_ne, mr_put, mu_ne, mu_eq, mj_bk_i, mj_bk_v, mj_bk_x, decide_eq_true_eq, decide_true, decide_false, Bool.false_eq_true, Bool.true_eq_false, reduceCtorEq, mt_le_t, mt_le_f, mt_lt_t, mt_lt_f, mt_eq_t, mt_eq_f, mt_ee, not_true_eq_false, not_false_eq_true, and_true, true_and, and_self, Nat.zero_add, Nat.add_zero, Nat.one_mul, Nat.mul_one, Nat.reduceAdd, Nat.reduceMul, Nat.reduceSub, Nat.reducePow, Nat.reduceDiv, Nat.reduceMod, ↓reduceIte, c350 (mw_a3_0 hk) (show 64 < 2147483648 by decide)]
theorem r74 (hk : mw_cl k = some 3) (hR : mr_is s (k + 1) 64 f) (hf : ∀ j, f j < 2147483648) {p : Nat} (hp : p < 8) : mj_call X (d + 4) 74 [.ref k, .int (nI p)] (mw_U s) = some (.inl (some (.int (mo (fn_mat f p)))), mw_U s) := by
  have h := c74 (X := X) (d := d) (s := s) hk hf (p := p) hp
  rwa [mr_self hR] at h
theorem r50 (hk : mw_cl k = some 3) (hR : mr_is s (k + 1) 64 f) (hf : ∀ j, f j < 2147483648) : mj_call X (d + 3) 50 [.ref k] (mw_U s) = some (.inl (some (.int (mo (fn_draw f)))), mw_U s) := by
  have h := c50 (X := X) (d := d) (s := s) hk hf  
  rwa [mr_self hR] at h
theorem r54 (hk : mw_cl k = some 3) (hR : mr_is s (k + 1) 64 f) (hf : ∀ j, f j < 2147483648) {p : Nat} (hp : p < 8) (hh : ∀ b, fs f p = some b → b < 8 ∧ ¬ b = p) : mj_call X (d + 3) 54 [.ref k, .int (nI p)] (mw_U s) = some (.inl none, mw_U (mr_set s (k + 1) 64 (fbur f p))) := by
  have h := c54 (X := X) (d := d) (s := s) hk hf (p := p) hp hh
  rwa [mr_self hR] at h
end
