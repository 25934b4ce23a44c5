/-! both readers: products, sums -/
theorem op_ok : (-22 : Int32) = rm 10017 ∧ (-23 : Int32) = rm 10018 ∧ (-20 : Int32) = rm 10015 ∧ (-21 : Int32) = rm 10016 ∧ (-24 : Int32) = rm 10013 ∧ (-25 : Int32) = rm 10014 ∧ (-26 : Int32) = rm 10011 ∧ (-27 : Int32) = rm 10012 ∧ (-28 : Int32) = rm 10010 ∧ (-14 : Int32) = rc 10017 ∧ (-15 : Int32) = rc 10018 ∧ (-12 : Int32) = rc 10015 ∧ (-13 : Int32) = rc 10016 ∧ (-10 : Int32) = rc 10013 ∧ (-11 : Int32) = rc 10014 ∧ (-8 : Int32) = rc 10011 ∧ (-9 : Int32) = rc 10012 ∧ (-7 : Int32) = rc 10010 := by decide
theorem hl_op {l m : List Nat} {c h nd : Nat} (hl1 : hl l h = some (h + 1)) (hm : ∀ h, h + nd ≤ 40 → hl m h = some (h + 1)) (hc : 10011 ≤ c ∧ c ≤ 10018) (hh : h + 1 + nd ≤ 40) : hl (l ++ (m ++ [c])) h = some (h + 1) := by
  rw [hl_app, hl1, Option.bind_some, hl_app, hm (h + 1) hh, Option.bind_some]
  show (rh1 c (h + 1 + 1)).bind (hl []) = _
  unfold rh1
  rw [if_neg (by omega), if_neg (by omega), if_pos (by omega)]
  rfl
section
variable {X : mj_X} {E : Nat} {tp : Nat → Nat} {n w nd : Nat}
/-- the class's loop of a product from a on, the i-th time -/
def LC (X : mj_X) (z pc D : Nat) (tp : Nat → Nat) (n w a : Nat) (l : List Nat) (R : Int32 → mw_S → Prop) : Prop := ∀ d s i v, i ≤ a → GC s tp n a l → ∃ t x, mj_exec X (d + D) z pc [some (.ref 22), some (.int (nI w)), some (.int (nI 1)), some (.int (nI i)), v] [] (mw_U s) = some (.inl (some (.int x)), mw_U t) ∧ R x t ∧ fC s t
def LR (X : mj_X) (z pc D : Nat) (tp : Nat → Nat) (n w : Nat) (o : Bool) (a : Nat) (r : List Nat) (R : mw_S → Prop) : Prop := ∀ d s f v, GR o s tp n a r → ∃ t, mj_exec X (d + D) z pc [some (.ref 42), some (.int (nI w)), v] [] (mw_U (mp s f)) = some (.inl none, mw_U (mp t f)) ∧ R t ∧ fE o s t
theorem L_prod (hP : JJ X 104 213 (E + 10) tp n w nd) (hn : n ≤ 700) (o : Bool) : ∀ k a l r, n - a = k → a ≤ n → l.length ≤ a → r.length ≤ a →
    (∃ a' l', a ≤ a' ∧ a' ≤ n ∧ l'.length ≤ a' - a ∧ (∀ h l0, h + (nd + 1) ≤ 40 → hl l0 h = some (h + 1) → hl (l0 ++ l') h = some (h + 1)) ∧ LC X 103 8 (E + 11) tp n w a l (fun x t => x = nI 1 ∧ GC t tp n a' (l ++ l')) ∧ LR X 212 5 (E + 11) tp n w o a r (fun t => GR o t tp n a' (r ++ l'))) ∨
    (∃ k p, 0 < k ∧ k < 10 ∧ LC X 103 8 (E + 11) tp n w a l (fun x t => x = nI 0 ∧ t.1 22 3 = nI k ∧ FP t p) ∧ LR X 212 5 (E + 11) tp n w o a r (fun t => t.1 42 22 = nI k ∧ t.1 42 23 = nI p)) := by
  intro k
  induction k using Nat.strongRecOn with
  | ind k ih =>
  intro a l r hk han hl_ hr
  have k27 := mw_c_27
  have kl := kcl_lt (tp := tp) (n := n) (a := a)
  have z1 : mj_rfit (some .boolean) (nI 1) = true := by decide
  have z0 : mj_rfit (some .boolean) (nI 0) = true := by decide
  by_cases q : tS tp n a 42 = true ∨ tS tp n a 47 = true
  · have q3 : tkd tp n a = 3 := by rcases q with q | q <;> exact (of_decide_eq_true q).1
    have hbn := tk_lt (tp := tp) (n := n) (a := a) (by omega)
    have hge := tb_ge (tp := tp) (n := n) (a := a)
    have hlt := te_gt (tp := tp) (n := n) (a := a) (by omega)
    have hle := te_le (tp := tp) han
    obtain ⟨c, cr, hc, hcc, hcr, hS, hk42⟩ : ∃ c cr, (10011 ≤ c ∧ c ≤ 10018) ∧ cr = rm c ∧ (if kcl tp n a = 42 then (-14 : Int32) else -15) = rc c ∧ (cr = if tS tp n a 42 = true then (-22 : Int32) else -23) ∧ (kcl tp n a = 42 ∨ kcl tp n a = 47) := by
      cases q42 : tS tp n a 42
      · have q47 : tS tp n a 47 = true := by rcases q with q | q; rw [q42] at q; cases q; exact q
        have k42 : ¬ kcl tp n a = 42 := by rw [kcl_S (by omega), q42]; decide
        have k47 : kcl tp n a = 47 := by rw [kcl_S (by omega)]; exact q47
        exact ⟨10018, _, by decide, op_ok.2.1, by rw [if_neg k42]; exact op_ok.2.2.2.2.2.2.2.2.2.2.1, rfl, Or.inr k47⟩
      · have k42 : kcl tp n a = 42 := by rw [kcl_S (by omega)]; exact q42
        exact ⟨10017, _, by decide, op_ok.1, by rw [if_pos k42]; exact op_ok.2.2.2.2.2.2.2.2.2.1, rfl, Or.inl k42⟩
    have hstepC : ∀ d s i v, i ≤ a → GC s tp n a l → ∃ t, mj_exec X (d + E + 11) 103 8 [some (.ref 22), some (.int (nI w)), some (.int (nI 1)), some (.int (nI i)), v] [] (mw_U s) = mj_exec X (d + E + 11) 103 51 [some (.ref 22), some (.int (nI w)), some (.int (nI 1)), some (.int (nI i)), some (.int (nI (kcl tp n a)))] [] (mw_U t) ∧ GC t tp n (te tp n a) l ∧ fC s t := by
      intro d s i v hi h
      obtain ⟨t, e, g1, g2⟩ := g131 (X := X) (d := d + E + 4) h
      refine ⟨t, ?_, g1, g2⟩
      rw [b103_8]
      rcases hk42 with hk42 | hk42
      · simp (disch := first | assumption | exact hf _ | omega) only [b103, b103_0, b103_5, b103_15, b103_19, b103_26, b103_35, b103_42, b103_44, b103_51, b103_56, b103_68, b103_73, b103_75, b103_78, b103_84, nI_add, mn_mul, mn_sub, mn_m1, mn_m8, mn_eq, mn_lt, mn_le, mn_eq0, mn_0eq, mn_lt0, mn_0lt, mn_le0, mn_0le, mn_eqm, mn_meq, mn_ltm, mn_mlt, mn_lem, mn_mle, mn_mm1, mn_mm2, mn_mm3, mn_mm4, mn_mm5, mn_mm6, mn_and, mn_or, mn_an, mn_shl, mn_shr, mn_div, mn_rem, mn_clamp, mn_in, mn_inm, mn_nz, mn_zo, mn_min, mn_max, mn_abs, mn_rfit, mn_cp, mn_les, mn_gre, mn_a127, mn_a15, mn_a1, mn_a255, mn_tn0, mn_tn0e, mn_tnr, mn_tnz, mr_get, mr_ne, mr_put, mu_ne, mu_eq, mj_bk_i, mj_bk_v, mj_bk_x, decide_eq_true_eq, decide_true, decide_false, Bool.false_eq_true, Bool.true_eq_false, reduceCtorEq, mt_le_t, mt_le_f, mt_lt_t, mt_lt_f, mt_eq_t, mt_eq_f, mt_ee, not_true_eq_false, not_false_eq_true, and_true, true_and, and_self, Nat.zero_add, Nat.add_zero, Nat.one_mul, Nat.mul_one, Nat.reduceAdd, Nat.reduceMul, Nat.reduceSub, Nat.reducePow, Nat.reduceDiv, Nat.reduceMod, ↓reduceIte, c135 h.1, hk42, e]
      · simp (disch := first | assumption | exact hf _ | omega) only [b103, b103_0, b103_5, b103_15, b103_19, b103_26, b103_35, b103_42, b103_44, b103_51, b103_56, b103_68, b103_73, b103_75, b103_78, b103_84, nI_add, mn_mul, mn_sub, mn_m1, mn_m8, mn_eq, mn_lt, mn_le, mn_eq0, mn_0eq, mn_lt0, mn_0lt, mn_le0, mn_0le, mn_eqm, mn_meq, mn_ltm, mn_mlt, mn_lem, mn_mle, mn_mm1, mn_mm2, mn_mm3, mn_mm4, mn_mm5, mn_mm6, mn_and, mn_or, mn_an, mn_shl, mn_shr, mn_div, mn_rem, mn_clamp, mn_in, mn_inm, mn_nz, mn_zo, mn_min, mn_max, mn_abs, mn_rfit, mn_cp, mn_les, mn_gre, mn_a127, mn_a15, mn_a1, mn_a255, mn_tn0, mn_tn0e, mn_tnr, mn_tnz, mr_get, mr_ne, mr_put, mu_ne, mu_eq, mj_bk_i, mj_bk_v, mj_bk_x, decide_eq_true_eq, decide_true, decide_false, Bool.false_eq_true, Bool.true_eq_false, reduceCtorEq, mt_le_t, mt_le_f, mt_lt_t, mt_lt_f, mt_eq_t, mt_eq_f, mt_ee, not_true_eq_false, not_false_eq_true, and_true, true_and, and_self, Nat.zero_add, Nat.add_zero, Nat.one_mul, Nat.mul_one, Nat.reduceAdd, Nat.reduceMul, Nat.reduceSub, Nat.reducePow, Nat.reduceDiv, Nat.reduceMod, ↓reduceIte, c135 h.1, hk42, e]
    have hstepR : ∀ d s f v, GR o s tp n a r → ∃ t, mj_exec X (d + E + 11) 212 5 [some (.ref 42), some (.int (nI w)), v] [] (mw_U (mp s f)) = mj_exec X (d + E + 11) 212 44 [some (.ref 42), some (.int (nI w)), some (.int cr)] [] (mw_U (mp t f)) ∧ GR o t tp n (te tp n a) r ∧ fE o s t := by
      intro d s f v h
      obtain ⟨t, e, g1, g2⟩ := g198 (X := X) (d := d + E + 8) (f := f) h
      refine ⟨t, ?_, g1, g2⟩
      rw [b212_5, hS]
      cases q42 : tS tp n a 42
      · have q47 : tS tp n a 47 = true := by rcases q with q | q; rw [q42] at q; cases q; exact q
        simp (disch := first | assumption | exact hf _ | omega) only [b212, b212_0, b212_11, b212_14, b212_20, b212_23, b212_29, b212_32, b212_37, b212_39, b212_44, b212_49, b212_54, b212_57, nI_add, mn_mul, mn_sub, mn_m1, mn_m8, mn_eq, mn_lt, mn_le, mn_eq0, mn_0eq, mn_lt0, mn_0lt, mn_le0, mn_0le, mn_eqm, mn_meq, mn_ltm, mn_mlt, mn_lem, mn_mle, mn_mm1, mn_mm2, mn_mm3, mn_mm4, mn_mm5, mn_mm6, mn_and, mn_or, mn_an, mn_shl, mn_shr, mn_div, mn_rem, mn_clamp, mn_in, mn_inm, mn_nz, mn_zo, mn_min, mn_max, mn_abs, mn_rfit, mn_cp, mn_les, mn_gre, mn_a127, mn_a15, mn_a1, mn_a255, mn_tn0, mn_tn0e, mn_tnr, mn_tnz, mr_get, mr_ne, mr_put, mu_ne, mu_eq, mj_bk_i, mj_bk_v, mj_bk_x, decide_eq_true_eq, decide_true, decide_false, Bool.false_eq_true, Bool.true_eq_false, reduceCtorEq, mt_le_t, mt_le_f, mt_lt_t, mt_lt_f, mt_eq_t, mt_eq_f, mt_ee, not_true_eq_false, not_false_eq_true, and_true, true_and, and_self, Nat.zero_add, Nat.add_zero, Nat.one_mul, Nat.mul_one, Nat.reduceAdd, Nat.reduceMul, Nat.reduceSub, Nat.reducePow, Nat.reduceDiv, Nat.reduceMod, ↓reduceIte, mp_h, mp_w, mp_c, mp_s, mp_d, mp_n, mp_54, mp_52, mp_55, mp_l, mp_o, mp_42, mp_45, gh_gp, gw_gp, gc_gp, mw_pne, Nat.or_zero, c208 h.1 h.2.1, q42, q47, Bool.toNat_false, Bool.toNat_true, e]
      · simp (disch := first | assumption | exact hf _ | omega) only [b212, b212_0, b212_11, b212_14, b212_20, b212_23, b212_29, b212_32, b212_37, b212_39, b212_44, b212_49, b212_54, b212_57, nI_add, mn_mul, mn_sub, mn_m1, mn_m8, mn_eq, mn_lt, mn_le, mn_eq0, mn_0eq, mn_lt0, mn_0lt, mn_le0, mn_0le, mn_eqm, mn_meq, mn_ltm, mn_mlt, mn_lem, mn_mle, mn_mm1, mn_mm2, mn_mm3, mn_mm4, mn_mm5, mn_mm6, mn_and, mn_or, mn_an, mn_shl, mn_shr, mn_div, mn_rem, mn_clamp, mn_in, mn_inm, mn_nz, mn_zo, mn_min, mn_max, mn_abs, mn_rfit, mn_cp, mn_les, mn_gre, mn_a127, mn_a15, mn_a1, mn_a255, mn_tn0, mn_tn0e, mn_tnr, mn_tnz, mr_get, mr_ne, mr_put, mu_ne, mu_eq, mj_bk_i, mj_bk_v, mj_bk_x, decide_eq_true_eq, decide_true, decide_false, Bool.false_eq_true, Bool.true_eq_false, reduceCtorEq, mt_le_t, mt_le_f, mt_lt_t, mt_lt_f, mt_eq_t, mt_eq_f, mt_ee, not_true_eq_false, not_false_eq_true, and_true, true_and, and_self, Nat.zero_add, Nat.add_zero, Nat.one_mul, Nat.mul_one, Nat.reduceAdd, Nat.reduceMul, Nat.reduceSub, Nat.reducePow, Nat.reduceDiv, Nat.reduceMod, ↓reduceIte, mp_h, mp_w, mp_c, mp_s, mp_d, mp_n, mp_54, mp_52, mp_55, mp_l, mp_o, mp_42, mp_45, gh_gp, gw_gp, gc_gp, mw_pne, Nat.or_zero, c208 h.1 h.2.1, q42, Bool.toNat_true, e]
    rcases hP o (te tp n a) l r hle (by omega) (by omega) with ⟨a1, l1, b1, b2, b3, b4, b5, b6⟩ | ⟨kf, p, b1, b2, b3, b4⟩
    · have hr1 : (r ++ (l1 ++ [c])).length ≤ a1 := by simp; omega
      have hl1 : (l ++ (l1 ++ [c])).length ≤ a1 := by simp; omega
      have goC : ∀ d s i v, i ≤ a → GC s tp n a l → ∃ t, mj_exec X (d + (E + 11)) 103 8 [some (.ref 22), some (.int (nI w)), some (.int (nI 1)), some (.int (nI i)), v] [] (mw_U s) = mj_exec X (d + (E + 11)) 103 8 [some (.ref 22), some (.int (nI w)), some (.int (nI 1)), some (.int (nI (i + 1))), some (.int (nI (kcl tp n a)))] [] (mw_U t) ∧ GC t tp n a1 (l ++ (l1 ++ [c])) ∧ fC s t := by
        intro d s i v hi h
        rw [← Nat.add_assoc]
        obtain ⟨t, e, g1, g2⟩ := hstepC d s i v hi h
        obtain ⟨u, e2, g3, g4⟩ := b5 d t g1
        rw [← Nat.add_assoc] at e2
        obtain ⟨y, e3, g5, g6⟩ := g123 (X := X) (d := d + E + 10) g3 (by simp; omega) hcr
        rw [List.append_assoc] at g5
        refine ⟨y, ?_, g5, fC_trans g2 (fC_trans g4 g6)⟩
        rw [e]
        rcases hk42 with hk42 | hk42
        · rw [if_pos hk42] at e3
          simp (disch := first | assumption | exact hf _ | omega) only [b103, b103_0, b103_5, b103_15, b103_19, b103_26, b103_35, b103_42, b103_44, b103_51, b103_56, b103_68, b103_73, b103_75, b103_78, b103_84, nI_add, mn_mul, mn_sub, mn_m1, mn_m8, mn_eq, mn_lt, mn_le, mn_eq0, mn_0eq, mn_lt0, mn_0lt, mn_le0, mn_0le, mn_eqm, mn_meq, mn_ltm, mn_mlt, mn_lem, mn_mle, mn_mm1, mn_mm2, mn_mm3, mn_mm4, mn_mm5, mn_mm6, mn_and, mn_or, mn_an, mn_shl, mn_shr, mn_div, mn_rem, mn_clamp, mn_in, mn_inm, mn_nz, mn_zo, mn_min, mn_max, mn_abs, mn_rfit, mn_cp, mn_les, mn_gre, mn_a127, mn_a15, mn_a1, mn_a255, mn_tn0, mn_tn0e, mn_tnr, mn_tnz, mr_get, mr_ne, mr_put, mu_ne, mu_eq, mj_bk_i, mj_bk_v, mj_bk_x, decide_eq_true_eq, decide_true, decide_false, Bool.false_eq_true, Bool.true_eq_false, reduceCtorEq, mt_le_t, mt_le_f, mt_lt_t, mt_lt_f, mt_eq_t, mt_eq_f, mt_ee, not_true_eq_false, not_false_eq_true, and_true, true_and, and_self, Nat.zero_add, Nat.add_zero, Nat.one_mul, Nat.mul_one, Nat.reduceAdd, Nat.reduceMul, Nat.reduceSub, Nat.reducePow, Nat.reduceDiv, Nat.reduceMod, ↓reduceIte, e2, hk42, e3]
        · rw [if_neg (by omega)] at e3
          simp (disch := first | assumption | exact hf _ | omega) only [b103, b103_0, b103_5, b103_15, b103_19, b103_26, b103_35, b103_42, b103_44, b103_51, b103_56, b103_68, b103_73, b103_75, b103_78, b103_84, nI_add, mn_mul, mn_sub, mn_m1, mn_m8, mn_eq, mn_lt, mn_le, mn_eq0, mn_0eq, mn_lt0, mn_0lt, mn_le0, mn_0le, mn_eqm, mn_meq, mn_ltm, mn_mlt, mn_lem, mn_mle, mn_mm1, mn_mm2, mn_mm3, mn_mm4, mn_mm5, mn_mm6, mn_and, mn_or, mn_an, mn_shl, mn_shr, mn_div, mn_rem, mn_clamp, mn_in, mn_inm, mn_nz, mn_zo, mn_min, mn_max, mn_abs, mn_rfit, mn_cp, mn_les, mn_gre, mn_a127, mn_a15, mn_a1, mn_a255, mn_tn0, mn_tn0e, mn_tnr, mn_tnz, mr_get, mr_ne, mr_put, mu_ne, mu_eq, mj_bk_i, mj_bk_v, mj_bk_x, decide_eq_true_eq, decide_true, decide_false, Bool.false_eq_true, Bool.true_eq_false, reduceCtorEq, mt_le_t, mt_le_f, mt_lt_t, mt_lt_f, mt_eq_t, mt_eq_f, mt_ee, not_true_eq_false, not_false_eq_true, and_true, true_and, and_self, Nat.zero_add, Nat.add_zero, Nat.one_mul, Nat.mul_one, Nat.reduceAdd, Nat.reduceMul, Nat.reduceSub, Nat.reducePow, Nat.reduceDiv, Nat.reduceMod, ↓reduceIte, e2, hk42, e3]
      have goR : ∀ d s f v, GR o s tp n a r → ∃ t, mj_exec X (d + (E + 11)) 212 5 [some (.ref 42), some (.int (nI w)), v] [] (mw_U (mp s f)) = mj_exec X (d + (E + 11)) 212 5 [some (.ref 42), some (.int (nI w)), some (.int cr)] [] (mw_U (mp t f)) ∧ GR o t tp n a1 (r ++ (l1 ++ [c])) ∧ fE o s t := by
        intro d s f v h
        rw [← Nat.add_assoc]
        obtain ⟨t, e, g1, g2⟩ := hstepR d s f v h
        obtain ⟨u, e2, g3, g4⟩ := b6 d t f g1
        rw [← Nat.add_assoc] at e2
        obtain ⟨y, e3, g5, g6⟩ := c216 (X := X) (d := d + E + 10) (f := f) g3 (by simp; omega) hcc
        rw [List.append_assoc] at g5
        refine ⟨y, ?_, g5, fE_trans g2 (fE_trans g4 g6)⟩
        rw [e]
        simp (disch := first | assumption | exact hf _ | omega) only [b212, b212_0, b212_11, b212_14, b212_20, b212_23, b212_29, b212_32, b212_37, b212_39, b212_44, b212_49, b212_54, b212_57, nI_add, mn_mul, mn_sub, mn_m1, mn_m8, mn_eq, mn_lt, mn_le, mn_eq0, mn_0eq, mn_lt0, mn_0lt, mn_le0, mn_0le, mn_eqm, mn_meq, mn_ltm, mn_mlt, mn_lem, mn_mle, mn_mm1, mn_mm2, mn_mm3, mn_mm4, mn_mm5, mn_mm6, mn_and, mn_or, mn_an, mn_shl, mn_shr, mn_div, mn_rem, mn_clamp, mn_in, mn_inm, mn_nz, mn_zo, mn_min, mn_max, mn_abs, mn_rfit, mn_cp, mn_les, mn_gre, mn_a127, mn_a15, mn_a1, mn_a255, mn_tn0, mn_tn0e, mn_tnr, mn_tnz, mr_get, mr_ne, mr_put, mu_ne, mu_eq, mj_bk_i, mj_bk_v, mj_bk_x, decide_eq_true_eq, decide_true, decide_false, Bool.false_eq_true, Bool.true_eq_false, reduceCtorEq, mt_le_t, mt_le_f, mt_lt_t, mt_lt_f, mt_eq_t, mt_eq_f, mt_ee, not_true_eq_false, not_false_eq_true, and_true, true_and, and_self, Nat.zero_add, Nat.add_zero, Nat.one_mul, Nat.mul_one, Nat.reduceAdd, Nat.reduceMul, Nat.reduceSub, Nat.reducePow, Nat.reduceDiv, Nat.reduceMod, ↓reduceIte, mp_h, mp_w, mp_c, mp_s, mp_d, mp_n, mp_54, mp_52, mp_55, mp_l, mp_o, mp_42, mp_45, gh_gp, gw_gp, gc_gp, mw_pne, Nat.or_zero, e2, e3]
      rcases ih (n - a1) (by omega) a1 (l ++ (l1 ++ [c])) (r ++ (l1 ++ [c])) rfl b2 hl1 hr1 with ⟨a2, l2, c1, c2, c3, c4, c5, c6⟩ | ⟨kf, p, c1, c2, c3, c4⟩
      · refine Or.inl ⟨a2, (l1 ++ [c]) ++ l2, by omega, c2, by simp; omega, ?_, ?_, ?_⟩
        · intro h l0 hh h0
          rw [← List.append_assoc]
          exact c4 h _ hh (hl_op h0 b4 hc (by omega))
        · intro d s i v hi h
          obtain ⟨t, e, g1, g2⟩ := goC d s i v hi h
          obtain ⟨u, x, e2, g3, g4⟩ := c5 d t (i + 1) (some (.int (nI (kcl tp n a)))) (by omega) g1
          refine ⟨u, x, e.trans e2, ?_, fC_trans g2 g4⟩
          rw [← List.append_assoc]; exact g3
        · intro d s f v h
          obtain ⟨t, e, g1, g2⟩ := goR d s f v h
          obtain ⟨u, e2, g3, g4⟩ := c6 d t f (some (.int cr)) g1
          refine ⟨u, e.trans e2, ?_, fE_trans g2 g4⟩
          rw [← List.append_assoc]; exact g3
      · refine Or.inr ⟨kf, p, c1, c2, ?_, ?_⟩
        · intro d s i v hi h
          obtain ⟨t, e, g1, g2⟩ := goC d s i v hi h
          obtain ⟨u, x, e2, g3, g4⟩ := c3 d t (i + 1) (some (.int (nI (kcl tp n a)))) (by omega) g1
          exact ⟨u, x, e.trans e2, g3, fC_trans g2 g4⟩
        · intro d s f v h
          obtain ⟨t, e, g1, g2⟩ := goR d s f v h
          obtain ⟨u, e2, g3, g4⟩ := c4 d t f (some (.int cr)) g1
          exact ⟨u, e.trans e2, g3, fE_trans g2 g4⟩
    · refine Or.inr ⟨kf, p, b1, b2, ?_, ?_⟩
      · intro d s i v hi h
        rw [← Nat.add_assoc]
        obtain ⟨t, e, g1, g2⟩ := hstepC d s i v hi h
        obtain ⟨u, e2, g3, g4, g5⟩ := b3 d t g1
        rw [← Nat.add_assoc] at e2
        obtain ⟨y, e3, g6, g7, g8⟩ := g123f (X := X) (d := d + E + 10) g3 g4 (x := if kcl tp n a = 42 then (-14 : Int32) else -15)
        refine ⟨y, nI 0, ?_, ⟨rfl, g6, g7⟩, fC_trans g2 (fC_trans g5 g8)⟩
        have st : mj_exec X (d + E + 11) 103 8 [some (.ref 22), some (.int (nI w)), some (.int (nI 1)), some (.int (nI i)), v] [] (mw_U s) = mj_exec X (d + E + 11) 103 8 [some (.ref 22), some (.int (nI w)), some (.int (nI 0)), some (.int (nI (i + 1))), some (.int (nI (kcl tp n a)))] [] (mw_U y) := by
          rw [e]
          rcases hk42 with hk42 | hk42
          · rw [if_pos hk42] at e3
            simp (disch := first | assumption | exact hf _ | omega) only [b103, b103_0, b103_5, b103_15, b103_19, b103_26, b103_35, b103_42, b103_44, b103_51, b103_56, b103_68, b103_73, b103_75, b103_78, b103_84, nI_add, mn_mul, mn_sub, mn_m1, mn_m8, mn_eq, mn_lt, mn_le, mn_eq0, mn_0eq, mn_lt0, mn_0lt, mn_le0, mn_0le, mn_eqm, mn_meq, mn_ltm, mn_mlt, mn_lem, mn_mle, mn_mm1, mn_mm2, mn_mm3, mn_mm4, mn_mm5, mn_mm6, mn_and, mn_or, mn_an, mn_shl, mn_shr, mn_div, mn_rem, mn_clamp, mn_in, mn_inm, mn_nz, mn_zo, mn_min, mn_max, mn_abs, mn_rfit, mn_cp, mn_les, mn_gre, mn_a127, mn_a15, mn_a1, mn_a255, mn_tn0, mn_tn0e, mn_tnr, mn_tnz, mr_get, mr_ne, mr_put, mu_ne, mu_eq, mj_bk_i, mj_bk_v, mj_bk_x, decide_eq_true_eq, decide_true, decide_false, Bool.false_eq_true, Bool.true_eq_false, reduceCtorEq, mt_le_t, mt_le_f, mt_lt_t, mt_lt_f, mt_eq_t, mt_eq_f, mt_ee, not_true_eq_false, not_false_eq_true, and_true, true_and, and_self, Nat.zero_add, Nat.add_zero, Nat.one_mul, Nat.mul_one, Nat.reduceAdd, Nat.reduceMul, Nat.reduceSub, Nat.reducePow, Nat.reduceDiv, Nat.reduceMod, ↓reduceIte, e2, hk42, e3]
          · rw [if_neg (by omega)] at e3
            simp (disch := first | assumption | exact hf _ | omega) only [b103, b103_0, b103_5, b103_15, b103_19, b103_26, b103_35, b103_42, b103_44, b103_51, b103_56, b103_68, b103_73, b103_75, b103_78, b103_84, nI_add, mn_mul, mn_sub, mn_m1, mn_m8, mn_eq, mn_lt, mn_le, mn_eq0, mn_0eq, mn_lt0, mn_0lt, mn_le0, mn_0le, mn_eqm, mn_meq, mn_ltm, mn_mlt, mn_lem, mn_mle, mn_mm1, mn_mm2, mn_mm3, mn_mm4, mn_mm5, mn_mm6, mn_and, mn_or, mn_an, mn_shl, mn_shr, mn_div, mn_rem, mn_clamp, mn_in, mn_inm, mn_nz, mn_zo, mn_min, mn_max, mn_abs, mn_rfit, mn_cp, mn_les, mn_gre, mn_a127, mn_a15, mn_a1, mn_a255, mn_tn0, mn_tn0e, mn_tnr, mn_tnz, mr_get, mr_ne, mr_put, mu_ne, mu_eq, mj_bk_i, mj_bk_v, mj_bk_x, decide_eq_true_eq, decide_true, decide_false, Bool.false_eq_true, Bool.true_eq_false, reduceCtorEq, mt_le_t, mt_le_f, mt_lt_t, mt_lt_f, mt_eq_t, mt_eq_f, mt_ee, not_true_eq_false, not_false_eq_true, and_true, true_and, and_self, Nat.zero_add, Nat.add_zero, Nat.one_mul, Nat.mul_one, Nat.reduceAdd, Nat.reduceMul, Nat.reduceSub, Nat.reducePow, Nat.reduceDiv, Nat.reduceMod, ↓reduceIte, e2, hk42, e3]
        rw [st, b103_8]
        by_cases q7 : 700 ≤ i + 1
        · simp (disch := first | assumption | exact hf _ | omega) only [b103, b103_0, b103_5, b103_15, b103_19, b103_26, b103_35, b103_42, b103_44, b103_51, b103_56, b103_68, b103_73, b103_75, b103_78, b103_84, nI_add, mn_mul, mn_sub, mn_m1, mn_m8, mn_eq, mn_lt, mn_le, mn_eq0, mn_0eq, mn_lt0, mn_0lt, mn_le0, mn_0le, mn_eqm, mn_meq, mn_ltm, mn_mlt, mn_lem, mn_mle, mn_mm1, mn_mm2, mn_mm3, mn_mm4, mn_mm5, mn_mm6, mn_and, mn_or, mn_an, mn_shl, mn_shr, mn_div, mn_rem, mn_clamp, mn_in, mn_inm, mn_nz, mn_zo, mn_min, mn_max, mn_abs, mn_rfit, mn_cp, mn_les, mn_gre, mn_a127, mn_a15, mn_a1, mn_a255, mn_tn0, mn_tn0e, mn_tnr, mn_tnz, mr_get, mr_ne, mr_put, mu_ne, mu_eq, mj_bk_i, mj_bk_v, mj_bk_x, decide_eq_true_eq, decide_true, decide_false, Bool.false_eq_true, Bool.true_eq_false, reduceCtorEq, mt_le_t, mt_le_f, mt_lt_t, mt_lt_f, mt_eq_t, mt_eq_f, mt_ee, not_true_eq_false, not_false_eq_true, and_true, true_and, and_self, Nat.zero_add, Nat.add_zero, Nat.one_mul, Nat.mul_one, Nat.reduceAdd, Nat.reduceMul, Nat.reduceSub, Nat.reducePow, Nat.reduceDiv, Nat.reduceMod, ↓reduceIte, q7, z0]
        · simp (disch := first | assumption | exact hf _ | omega) only [b103, b103_0, b103_5, b103_15, b103_19, b103_26, b103_35, b103_42, b103_44, b103_51, b103_56, b103_68, b103_73, b103_75, b103_78, b103_84, nI_add, mn_mul, mn_sub, mn_m1, mn_m8, mn_eq, mn_lt, mn_le, mn_eq0, mn_0eq, mn_lt0, mn_0lt, mn_le0, mn_0le, mn_eqm, mn_meq, mn_ltm, mn_mlt, mn_lem, mn_mle, mn_mm1, mn_mm2, mn_mm3, mn_mm4, mn_mm5, mn_mm6, mn_and, mn_or, mn_an, mn_shl, mn_shr, mn_div, mn_rem, mn_clamp, mn_in, mn_inm, mn_nz, mn_zo, mn_min, mn_max, mn_abs, mn_rfit, mn_cp, mn_les, mn_gre, mn_a127, mn_a15, mn_a1, mn_a255, mn_tn0, mn_tn0e, mn_tnr, mn_tnz, mr_get, mr_ne, mr_put, mu_ne, mu_eq, mj_bk_i, mj_bk_v, mj_bk_x, decide_eq_true_eq, decide_true, decide_false, Bool.false_eq_true, Bool.true_eq_false, reduceCtorEq, mt_le_t, mt_le_f, mt_lt_t, mt_lt_f, mt_eq_t, mt_eq_f, mt_ee, not_true_eq_false, not_false_eq_true, and_true, true_and, and_self, Nat.zero_add, Nat.add_zero, Nat.one_mul, Nat.mul_one, Nat.reduceAdd, Nat.reduceMul, Nat.reduceSub, Nat.reducePow, Nat.reduceDiv, Nat.reduceMod, ↓reduceIte, q7, z0]
      · intro d s f v h
        rw [← Nat.add_assoc]
        obtain ⟨t, e, g1, g2⟩ := hstepR d s f v h
        obtain ⟨u, e2, g3, g4, g5⟩ := b4 d t f g1
        rw [← Nat.add_assoc] at e2
        refine ⟨u, ?_, ⟨g3, g4⟩, fE_trans g2 g5⟩
        have st : mj_exec X (d + E + 11) 212 5 [some (.ref 42), some (.int (nI w)), v] [] (mw_U (mp s f)) = mj_exec X (d + E + 11) 212 5 [some (.ref 42), some (.int (nI w)), some (.int cr)] [] (mw_U (mp u f)) := by
          rw [e]
          simp (disch := first | assumption | exact hf _ | omega) only [b212, b212_0, b212_11, b212_14, b212_20, b212_23, b212_29, b212_32, b212_37, b212_39, b212_44, b212_49, b212_54, b212_57, nI_add, mn_mul, mn_sub, mn_m1, mn_m8, mn_eq, mn_lt, mn_le, mn_eq0, mn_0eq, mn_lt0, mn_0lt, mn_le0, mn_0le, mn_eqm, mn_meq, mn_ltm, mn_mlt, mn_lem, mn_mle, mn_mm1, mn_mm2, mn_mm3, mn_mm4, mn_mm5, mn_mm6, mn_and, mn_or, mn_an, mn_shl, mn_shr, mn_div, mn_rem, mn_clamp, mn_in, mn_inm, mn_nz, mn_zo, mn_min, mn_max, mn_abs, mn_rfit, mn_cp, mn_les, mn_gre, mn_a127, mn_a15, mn_a1, mn_a255, mn_tn0, mn_tn0e, mn_tnr, mn_tnz, mr_get, mr_ne, mr_put, mu_ne, mu_eq, mj_bk_i, mj_bk_v, mj_bk_x, decide_eq_true_eq, decide_true, decide_false, Bool.false_eq_true, Bool.true_eq_false, reduceCtorEq, mt_le_t, mt_le_f, mt_lt_t, mt_lt_f, mt_eq_t, mt_eq_f, mt_ee, not_true_eq_false, not_false_eq_true, and_true, true_and, and_self, Nat.zero_add, Nat.add_zero, Nat.one_mul, Nat.mul_one, Nat.reduceAdd, Nat.reduceMul, Nat.reduceSub, Nat.reducePow, Nat.reduceDiv, Nat.reduceMod, ↓reduceIte, mp_h, mp_w, mp_c, mp_s, mp_d, mp_n, mp_54, mp_52, mp_55, mp_l, mp_o, mp_42, mp_45, gh_gp, gw_gp, gc_gp, mw_pne, Nat.or_zero, e2, c216b g3]
        rw [st, b212_5]
        simp (disch := first | assumption | exact hf _ | omega) only [b212, b212_0, b212_11, b212_14, b212_20, b212_23, b212_29, b212_32, b212_37, b212_39, b212_44, b212_49, b212_54, b212_57, nI_add, mn_mul, mn_sub, mn_m1, mn_m8, mn_eq, mn_lt, mn_le, mn_eq0, mn_0eq, mn_lt0, mn_0lt, mn_le0, mn_0le, mn_eqm, mn_meq, mn_ltm, mn_mlt, mn_lem, mn_mle, mn_mm1, mn_mm2, mn_mm3, mn_mm4, mn_mm5, mn_mm6, mn_and, mn_or, mn_an, mn_shl, mn_shr, mn_div, mn_rem, mn_clamp, mn_in, mn_inm, mn_nz, mn_zo, mn_min, mn_max, mn_abs, mn_rfit, mn_cp, mn_les, mn_gre, mn_a127, mn_a15, mn_a1, mn_a255, mn_tn0, mn_tn0e, mn_tnr, mn_tnz, mr_get, mr_ne, mr_put, mu_ne, mu_eq, mj_bk_i, mj_bk_v, mj_bk_x, decide_eq_true_eq, decide_true, decide_false, Bool.false_eq_true, Bool.true_eq_false, reduceCtorEq, mt_le_t, mt_le_f, mt_lt_t, mt_lt_f, mt_eq_t, mt_eq_f, mt_ee, not_true_eq_false, not_false_eq_true, and_true, true_and, and_self, Nat.zero_add, Nat.add_zero, Nat.one_mul, Nat.mul_one, Nat.reduceAdd, Nat.reduceMul, Nat.reduceSub, Nat.reducePow, Nat.reduceDiv, Nat.reduceMod, ↓reduceIte, mp_h, mp_w, mp_c, mp_s, mp_d, mp_n, mp_54, mp_52, mp_55, mp_l, mp_o, mp_42, mp_45, gh_gp, gw_gp, gc_gp, mw_pne, Nat.or_zero, c208b g3 b1 b2]
  · have n42 : tS tp n a 42 = false := by cases h : tS tp n a 42; rfl; exact absurd (Or.inl h) q
    have n47 : tS tp n a 47 = false := by cases h : tS tp n a 47; rfl; exact absurd (Or.inr h) q
    have k42 : ¬ kcl tp n a = 42 := by rw [kcl_S (by omega), n42]; decide
    have k47 : ¬ kcl tp n a = 47 := by rw [kcl_S (by omega), n47]; decide
    refine Or.inl ⟨a, [], Nat.le_refl _, han, by simp, fun h l0 _ h0 => by rw [List.append_nil]; exact h0, ?_, ?_⟩
    · intro d s i v hi h
      rw [← Nat.add_assoc]
      refine ⟨s, nI 1, ?_, ⟨rfl, by rw [List.append_nil]; exact h⟩, fC_refl⟩
      rw [b103_8]
      by_cases q7 : 700 ≤ i
      · simp (disch := first | assumption | exact hf _ | omega) only [b103, b103_0, b103_5, b103_15, b103_19, b103_26, b103_35, b103_42, b103_44, b103_51, b103_56, b103_68, b103_73, b103_75, b103_78, b103_84, nI_add, mn_mul, mn_sub, mn_m1, mn_m8, mn_eq, mn_lt, mn_le, mn_eq0, mn_0eq, mn_lt0, mn_0lt, mn_le0, mn_0le, mn_eqm, mn_meq, mn_ltm, mn_mlt, mn_lem, mn_mle, mn_mm1, mn_mm2, mn_mm3, mn_mm4, mn_mm5, mn_mm6, mn_and, mn_or, mn_an, mn_shl, mn_shr, mn_div, mn_rem, mn_clamp, mn_in, mn_inm, mn_nz, mn_zo, mn_min, mn_max, mn_abs, mn_rfit, mn_cp, mn_les, mn_gre, mn_a127, mn_a15, mn_a1, mn_a255, mn_tn0, mn_tn0e, mn_tnr, mn_tnz, mr_get, mr_ne, mr_put, mu_ne, mu_eq, mj_bk_i, mj_bk_v, mj_bk_x, decide_eq_true_eq, decide_true, decide_false, Bool.false_eq_true, Bool.true_eq_false, reduceCtorEq, mt_le_t, mt_le_f, mt_lt_t, mt_lt_f, mt_eq_t, mt_eq_f, mt_ee, not_true_eq_false, not_false_eq_true, and_true, true_and, and_self, Nat.zero_add, Nat.add_zero, Nat.one_mul, Nat.mul_one, Nat.reduceAdd, Nat.reduceMul, Nat.reduceSub, Nat.reducePow, Nat.reduceDiv, Nat.reduceMod, ↓reduceIte, q7, z1]
      · simp (disch := first | assumption | exact hf _ | omega) only [b103, b103_0, b103_5, b103_15, b103_19, b103_26, b103_35, b103_42, b103_44, b103_51, b103_56, b103_68, b103_73, b103_75, b103_78, b103_84, nI_add, mn_mul, mn_sub, mn_m1, mn_m8, mn_eq, mn_lt, mn_le, mn_eq0, mn_0eq, mn_lt0, mn_0lt, mn_le0, mn_0le, mn_eqm, mn_meq, mn_ltm, mn_mlt, mn_lem, mn_mle, mn_mm1, mn_mm2, mn_mm3, mn_mm4, mn_mm5, mn_mm6, mn_and, mn_or, mn_an, mn_shl, mn_shr, mn_div, mn_rem, mn_clamp, mn_in, mn_inm, mn_nz, mn_zo, mn_min, mn_max, mn_abs, mn_rfit, mn_cp, mn_les, mn_gre, mn_a127, mn_a15, mn_a1, mn_a255, mn_tn0, mn_tn0e, mn_tnr, mn_tnz, mr_get, mr_ne, mr_put, mu_ne, mu_eq, mj_bk_i, mj_bk_v, mj_bk_x, decide_eq_true_eq, decide_true, decide_false, Bool.false_eq_true, Bool.true_eq_false, reduceCtorEq, mt_le_t, mt_le_f, mt_lt_t, mt_lt_f, mt_eq_t, mt_eq_f, mt_ee, not_true_eq_false, not_false_eq_true, and_true, true_and, and_self, Nat.zero_add, Nat.add_zero, Nat.one_mul, Nat.mul_one, Nat.reduceAdd, Nat.reduceMul, Nat.reduceSub, Nat.reducePow, Nat.reduceDiv, Nat.reduceMod, ↓reduceIte, q7, c135 h.1, k42, k47]
    · intro d s f v h
      rw [← Nat.add_assoc]
      refine ⟨s, ?_, by rw [List.append_nil]; exact h, fE_refl⟩
      rw [b212_5]
      simp (disch := first | assumption | exact hf _ | omega) only [b212, b212_0, b212_11, b212_14, b212_20, b212_23, b212_29, b212_32, b212_37, b212_39, b212_44, b212_49, b212_54, b212_57, nI_add, mn_mul, mn_sub, mn_m1, mn_m8, mn_eq, mn_lt, mn_le, mn_eq0, mn_0eq, mn_lt0, mn_0lt, mn_le0, mn_0le, mn_eqm, mn_meq, mn_ltm, mn_mlt, mn_lem, mn_mle, mn_mm1, mn_mm2, mn_mm3, mn_mm4, mn_mm5, mn_mm6, mn_and, mn_or, mn_an, mn_shl, mn_shr, mn_div, mn_rem, mn_clamp, mn_in, mn_inm, mn_nz, mn_zo, mn_min, mn_max, mn_abs, mn_rfit, mn_cp, mn_les, mn_gre, mn_a127, mn_a15, mn_a1, mn_a255, mn_tn0, mn_tn0e, mn_tnr, mn_tnz, mr_get, mr_ne, mr_put, mu_ne, mu_eq, mj_bk_i, mj_bk_v, mj_bk_x, decide_eq_true_eq, decide_true, decide_false, Bool.false_eq_true, Bool.true_eq_false, reduceCtorEq, mt_le_t, mt_le_f, mt_lt_t, mt_lt_f, mt_eq_t, mt_eq_f, mt_ee, not_true_eq_false, not_false_eq_true, and_true, true_and, and_self, Nat.zero_add, Nat.add_zero, Nat.one_mul, Nat.mul_one, Nat.reduceAdd, Nat.reduceMul, Nat.reduceSub, Nat.reducePow, Nat.reduceDiv, Nat.reduceMod, ↓reduceIte, mp_h, mp_w, mp_c, mp_s, mp_d, mp_n, mp_54, mp_52, mp_55, mp_l, mp_o, mp_42, mp_45, gh_gp, gw_gp, gc_gp, mw_pne, Nat.or_zero, c208 h.1 h.2.1, n42, n47, Bool.toNat_false]
theorem J_prod (hP : JJ X 104 213 (E + 10) tp n w nd) (hn : n ≤ 700) : JJ X 103 212 (E + 11) tp n w (nd + 1) := by
  intro o a l r han hl_ hr
  rcases hP o a l r han hl_ hr with ⟨a1, l1, b1, b2, b3, b4, b5, b6⟩ | ⟨kf, p, b1, b2, b3, b4⟩
  · rcases L_prod hP hn o (n - a1) a1 (l ++ l1) (r ++ l1) rfl b2 (by simp; omega) (by simp; omega) with ⟨a2, l2, c1, c2, c3, c4, c5, c6⟩ | ⟨kf, p, c1, c2, c3, c4⟩
    · refine Or.inl ⟨a2, l1 ++ l2, by omega, c2, by simp; omega, fun h hh => c4 h l1 hh (b4 h (by omega)), ?_, ?_⟩
      · intro d s h
        obtain ⟨t, e, g1, g2⟩ := b5 d s h
        obtain ⟨u, x, e2, ⟨rfl, g3⟩, g4⟩ := c5 d t 0 none (Nat.zero_le _) g1
        rw [List.append_assoc] at g3
        refine ⟨u, ?_, g3, fC_trans g2 g4⟩
        rw [← Nat.add_assoc] at e e2 ⊢
        rw [b103, b103_0, e, mj_bk_i, b103_5]
        exact e2
      · intro d s f h
        obtain ⟨t, e, g1, g2⟩ := b6 d s f h
        obtain ⟨u, e2, g3, g4⟩ := c6 d t f none g1
        rw [List.append_assoc] at g3
        refine ⟨u, ?_, g3, fE_trans g2 g4⟩
        rw [← Nat.add_assoc] at e e2 ⊢
        rw [b212, b212_0, e, mj_bk_v]
        exact e2
    · refine Or.inr ⟨kf, p, c1, c2, ?_, ?_⟩
      · intro d s h
        obtain ⟨t, e, g1, g2⟩ := b5 d s h
        obtain ⟨u, x, e2, ⟨rfl, g3, g5⟩, g4⟩ := c3 d t 0 none (Nat.zero_le _) g1
        refine ⟨u, ?_, g3, g5, fC_trans g2 g4⟩
        rw [← Nat.add_assoc] at e e2 ⊢
        rw [b103, b103_0, e, mj_bk_i, b103_5]
        exact e2
      · intro d s f h
        obtain ⟨t, e, g1, g2⟩ := b6 d s f h
        obtain ⟨u, e2, ⟨g3, g5⟩, g4⟩ := c4 d t f none g1
        refine ⟨u, ?_, g3, g5, fE_trans g2 g4⟩
        rw [← Nat.add_assoc] at e e2 ⊢
        rw [b212, b212_0, e, mj_bk_v]
        exact e2
  · have z0 : mj_rfit (some .boolean) (nI 0) = true := by decide
    refine Or.inr ⟨kf, p, b1, b2, ?_, ?_⟩
    · intro d s h
      obtain ⟨t, e, g1, g2, g3⟩ := b3 d s h
      refine ⟨t, ?_, g1, g2, g3⟩
      rw [← Nat.add_assoc] at e ⊢
      rw [b103, b103_0, e, mj_bk_i, b103_5, b103_8]
      simp (disch := first | assumption | exact hf _ | omega) only [b103, b103_0, b103_5, b103_15, b103_19, b103_26, b103_35, b103_42, b103_44, b103_51, b103_56, b103_68, b103_73, b103_75, b103_78, b103_84, nI_add, mn_mul, mn_sub, mn_m1, mn_m8, mn_eq, mn_lt, mn_le, mn_eq0, mn_0eq, mn_lt0, mn_0lt, mn_le0, mn_0le, mn_eqm, mn_meq, mn_ltm, mn_mlt, mn_lem, mn_mle, mn_mm1, mn_mm2, mn_mm3, mn_mm4, mn_mm5, mn_mm6, mn_and, mn_or, mn_an, mn_shl, mn_shr, mn_div, mn_rem, mn_clamp, mn_in, mn_inm, mn_nz, mn_zo, mn_min, mn_max, mn_abs, mn_rfit, mn_cp, mn_les, mn_gre, mn_a127, mn_a15, mn_a1, mn_a255, mn_tn0, mn_tn0e, mn_tnr, mn_tnz, mr_get, mr_ne, mr_put, mu_ne, mu_eq, mj_bk_i, mj_bk_v, mj_bk_x, decide_eq_true_eq, decide_true, decide_false, Bool.false_eq_true, Bool.true_eq_false, reduceCtorEq, mt_le_t, mt_le_f, mt_lt_t, mt_lt_f, mt_eq_t, mt_eq_f, mt_ee, not_true_eq_false, not_false_eq_true, and_true, true_and, and_self, Nat.zero_add, Nat.add_zero, Nat.one_mul, Nat.mul_one, Nat.reduceAdd, Nat.reduceMul, Nat.reduceSub, Nat.reducePow, Nat.reduceDiv, Nat.reduceMod, ↓reduceIte, z0]
    · intro d s f h
      obtain ⟨t, e, g1, g2, g3⟩ := b4 d s f h
      refine ⟨t, ?_, g1, g2, g3⟩
      rw [← Nat.add_assoc] at e ⊢
      have st : mj_call X (d + E + 11) 212 [.ref 42, .int (nI w)] (mw_U (mp s f)) = mj_exec X (d + E + 11) 212 5 [some (.ref 42), some (.int (nI w)), none] [] (mw_U (mp t f)) := by
        rw [b212, b212_0, e, mj_bk_v]
      rw [st, b212_5]
      simp (disch := first | assumption | exact hf _ | omega) only [b212, b212_0, b212_11, b212_14, b212_20, b212_23, b212_29, b212_32, b212_37, b212_39, b212_44, b212_49, b212_54, b212_57, nI_add, mn_mul, mn_sub, mn_m1, mn_m8, mn_eq, mn_lt, mn_le, mn_eq0, mn_0eq, mn_lt0, mn_0lt, mn_le0, mn_0le, mn_eqm, mn_meq, mn_ltm, mn_mlt, mn_lem, mn_mle, mn_mm1, mn_mm2, mn_mm3, mn_mm4, mn_mm5, mn_mm6, mn_and, mn_or, mn_an, mn_shl, mn_shr, mn_div, mn_rem, mn_clamp, mn_in, mn_inm, mn_nz, mn_zo, mn_min, mn_max, mn_abs, mn_rfit, mn_cp, mn_les, mn_gre, mn_a127, mn_a15, mn_a1, mn_a255, mn_tn0, mn_tn0e, mn_tnr, mn_tnz, mr_get, mr_ne, mr_put, mu_ne, mu_eq, mj_bk_i, mj_bk_v, mj_bk_x, decide_eq_true_eq, decide_true, decide_false, Bool.false_eq_true, Bool.true_eq_false, reduceCtorEq, mt_le_t, mt_le_f, mt_lt_t, mt_lt_f, mt_eq_t, mt_eq_f, mt_ee, not_true_eq_false, not_false_eq_true, and_true, true_and, and_self, Nat.zero_add, Nat.add_zero, Nat.one_mul, Nat.mul_one, Nat.reduceAdd, Nat.reduceMul, Nat.reduceSub, Nat.reducePow, Nat.reduceDiv, Nat.reduceMod, ↓reduceIte, mp_h, mp_w, mp_c, mp_s, mp_d, mp_n, mp_54, mp_52, mp_55, mp_l, mp_o, mp_42, mp_45, gh_gp, gw_gp, gc_gp, mw_pne, Nat.or_zero, c208b g1 b1 b2]
end
