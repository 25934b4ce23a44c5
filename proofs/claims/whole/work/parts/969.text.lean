/-! a line with its ; and all lines of a text -/
def NC (X : mj_X) (tp : Nat → Nat) (n a : Nat) (σ : YS) (a' : Nat) (σ' : YS) : Prop := ∀ d s x2 x3, 61 ≤ d → YC s tp n a σ → ∃ t, mj_exec X d 89 52 [some (.ref 22), some (.ref 1), some (.int x2), some (.int x3)] [] (mw_U s) = mj_exec X d 89 69 [some (.ref 22), some (.ref 1), some (.int x2), some (.int x3)] [] (mw_U t) ∧ YC t tp n a' σ' ∧ fL s t
def NCf (X : mj_X) (tp : Nat → Nat) (n a : Nat) (σ : YS) (k p : Nat) : Prop := ∀ d s x2 x3, 61 ≤ d → YC s tp n a σ → ∃ t, mj_exec X d 89 52 [some (.ref 22), some (.ref 1), some (.int x2), some (.int x3)] [] (mw_U s) = some (.inl none, mw_U t) ∧ t.1 22 3 = nI k ∧ t.1 22 4 = nI p ∧ p ≤ 700 ∧ fL s t
def NR (X : mj_X) (tp : Nat → Nat) (n a : Nat) (σ : YS) (a' : Nat) (σ' : YS) : Prop := ∀ d s f, 61 ≤ d → f 55 ≤ 8 → YR s tp n a σ → ∃ t, mj_call X d 203 [.ref 42, .int (nI (dn σ))] (mw_U (mp s f)) = some (.inl (some (.int (nI (dn σ')))), mw_U (mp t f)) ∧ YR t tp n a' σ' ∧ fT s t
def NRf (X : mj_X) (tp : Nat → Nat) (n a : Nat) (σ : YS) (k p : Nat) : Prop := ∀ d s f, 61 ≤ d → f 55 ≤ 8 → YR s tp n a σ → ∃ t v, mj_call X d 203 [.ref 42, .int (nI (dn σ))] (mw_U (mp s f)) = some (.inl (some (.int v)), mw_U (mp t f)) ∧ t.1 42 22 = nI k ∧ t.1 42 23 = nI p ∧ fT s t
section
variable {X : mj_X} {d : Nat} {s t t1 t2 t3 : mw_S} {f g : Nat → Nat} {tp : Nat → Nat} {n a : Nat} {σ : YS}
theorem l106 {D : Nat} (hD : 8 ≤ D) (h : YC s tp n a σ) (hS : tS tp n a 59 = true) : ∃ t, mj_call X D 106 [.ref 22, .int (nI 59)] (mw_U s) = some (.inl (some (.int (nI 1))), mw_U t) ∧ YC t tp n (te tp n a) σ ∧ fL s t := by
  obtain ⟨d, rfl⟩ : ∃ d, D = d + 8 := ⟨D - 8, by omega⟩
  obtain ⟨t, e, h1, f1⟩ := l131 (X := X) (D := d + 7) (by omega) h
  have k59 : kcl tp n a = 59 := by rw [kcl_S (by omega)]; exact hS
  have e1 := c135 (X := X) (d := d + 7) h.1.1
  rw [k59] at e1
  refine ⟨t, ?_, h1, f1⟩
  simp (disch := first | assumption | exact hf _ | omega) only [b106, b106_0, b106_7, b106_11, b106_16, b106_17, b106_24, nI_add, mn_mul, mn_sub, mn_m1, mn_m8, mn_eq, mn_lt, mn_le, mn_eq0, mn_0eq, mn_lt0, mn_0lt, mn_le0, mn_0le, mn_eqm, mn_meq, mn_ltm, mn_mlt, mn_lem, mn_mle, mn_mm1, mn_mm2, mn_mm3, mn_mm4, mn_mm5, mn_mm6, mn_and, mn_or, mn_an, mn_shl, mn_shr, mn_div, mn_rem, mn_clamp, mn_in, mn_inm, mn_nz, mn_zo, mn_min, mn_max, mn_abs, mn_rfit, mn_cp, mn_les, mn_gre, mn_a127, mn_a15, mn_a1, mn_a255, mn_tn0, mn_tn0e, mn_tnr, mn_tnz, mr_get, mr_ne, mr_put, mu_ne, mu_eq, mj_bk_i, mj_bk_v, mj_bk_x, decide_eq_true_eq, decide_true, decide_false, Bool.false_eq_true, Bool.true_eq_false, reduceCtorEq, mt_le_t, mt_le_f, mt_lt_t, mt_lt_f, mt_eq_t, mt_eq_f, mt_ee, not_true_eq_false, not_false_eq_true, and_true, true_and, and_self, Nat.zero_add, Nat.add_zero, Nat.one_mul, Nat.mul_one, Nat.reduceAdd, Nat.reduceMul, Nat.reduceSub, Nat.reducePow, Nat.reduceDiv, Nat.reduceMod, ↓reduceIte, e1, e]
theorem l106f {D : Nat} (hD : 8 ≤ D) (h : YC s tp n a σ) (hS : tS tp n a 59 = false) : mj_call X D 106 [.ref 22, .int (nI 59)] (mw_U s) = some (.inl (some (.int (nI 0))), mw_U (mw_p (mw_p s 22 3 (nI 1)) 22 4 (nI (tb tp n a)))) := by
  obtain ⟨d, rfl⟩ : ∃ d, D = d + 8 := ⟨D - 8, by omega⟩
  have z0 : mj_rfit (some .boolean) (nI 0) = true := by decide
  have kl := kcl_lt (tp := tp) (n := n) (a := a)
  have k59 : ¬ kcl tp n a = 59 := by rw [kcl_S (by omega), hS]; decide
  have e1 := c135 (X := X) (d := d + 7) h.1.1
  have e2 := l92 (X := X) (D := d + 7) (by omega) h (k := 1)
  simp (disch := first | assumption | exact hf _ | omega) only [b106, b106_0, b106_7, b106_11, b106_16, b106_17, b106_24, nI_add, mn_mul, mn_sub, mn_m1, mn_m8, mn_eq, mn_lt, mn_le, mn_eq0, mn_0eq, mn_lt0, mn_0lt, mn_le0, mn_0le, mn_eqm, mn_meq, mn_ltm, mn_mlt, mn_lem, mn_mle, mn_mm1, mn_mm2, mn_mm3, mn_mm4, mn_mm5, mn_mm6, mn_and, mn_or, mn_an, mn_shl, mn_shr, mn_div, mn_rem, mn_clamp, mn_in, mn_inm, mn_nz, mn_zo, mn_min, mn_max, mn_abs, mn_rfit, mn_cp, mn_les, mn_gre, mn_a127, mn_a15, mn_a1, mn_a255, mn_tn0, mn_tn0e, mn_tnr, mn_tnz, mr_get, mr_ne, mr_put, mu_ne, mu_eq, mj_bk_i, mj_bk_v, mj_bk_x, decide_eq_true_eq, decide_true, decide_false, Bool.false_eq_true, Bool.true_eq_false, reduceCtorEq, mt_le_t, mt_le_f, mt_lt_t, mt_lt_f, mt_eq_t, mt_eq_f, mt_ee, not_true_eq_false, not_false_eq_true, and_true, true_and, and_self, Nat.zero_add, Nat.add_zero, Nat.one_mul, Nat.mul_one, Nat.reduceAdd, Nat.reduceMul, Nat.reduceSub, Nat.reducePow, Nat.reduceDiv, Nat.reduceMod, ↓reduceIte, e1, k59, e2, z0]
theorem m217 {D : Nat} (hD : 4 ≤ D) (h : YR s tp n a σ) (hS : tS tp n a 59 = true) : ∃ t, mj_call X D 217 [.ref 42, .int (nI 59)] (mw_U (mp s f)) = some (.inl none, mw_U (mp t f)) ∧ YR t tp n (te tp n a) σ ∧ fR s t := by
  obtain ⟨d, rfl⟩ : ∃ d, D = d + 4 := ⟨D - 4, by omega⟩
  obtain ⟨t, e, h1, h2⟩ := m198 (X := X) (D := d + 3) (f := f) (by omega) h
  have h22 := h.2.1
  refine ⟨t, ?_, h1, h2⟩
  simp (disch := first | assumption | exact hf _ | omega) only [b217, b217_0, b217_7, b217_12, b217_15, b217_20, b217_27, b217_31, nI_add, mn_mul, mn_sub, mn_m1, mn_m8, mn_eq, mn_lt, mn_le, mn_eq0, mn_0eq, mn_lt0, mn_0lt, mn_le0, mn_0le, mn_eqm, mn_meq, mn_ltm, mn_mlt, mn_lem, mn_mle, mn_mm1, mn_mm2, mn_mm3, mn_mm4, mn_mm5, mn_mm6, mn_and, mn_or, mn_an, mn_shl, mn_shr, mn_div, mn_rem, mn_clamp, mn_in, mn_inm, mn_nz, mn_zo, mn_min, mn_max, mn_abs, mn_rfit, mn_cp, mn_les, mn_gre, mn_a127, mn_a15, mn_a1, mn_a255, mn_tn0, mn_tn0e, mn_tnr, mn_tnz, mr_get, mr_ne, mr_put, mu_ne, mu_eq, mj_bk_i, mj_bk_v, mj_bk_x, decide_eq_true_eq, decide_true, decide_false, Bool.false_eq_true, Bool.true_eq_false, reduceCtorEq, mt_le_t, mt_le_f, mt_lt_t, mt_lt_f, mt_eq_t, mt_eq_f, mt_ee, not_true_eq_false, not_false_eq_true, and_true, true_and, and_self, Nat.zero_add, Nat.add_zero, Nat.one_mul, Nat.mul_one, Nat.reduceAdd, Nat.reduceMul, Nat.reduceSub, Nat.reducePow, Nat.reduceDiv, Nat.reduceMod, ↓reduceIte, mp_h, mp_w, mp_c, mp_s, mp_d, mp_n, mp_54, mp_52, mp_55, mp_l, mp_o, mp_42, mp_45, gh_gp, gw_gp, gc_gp, mw_pne, Nat.or_zero, h22, c208 h.1 h.2.1 (show 59 < 256 by decide), hS, Bool.toNat_true, e]
theorem m217f {D : Nat} (hD : 4 ≤ D) (h : YR s tp n a σ) (hS : tS tp n a 59 = false) : mj_call X D 217 [.ref 42, .int (nI 59)] (mw_U (mp s f)) = some (.inl none, mw_U (mp (mw_p (mw_p s 42 22 (nI 1)) 42 23 (nI (tb tp n a))) f)) := by
  obtain ⟨d, rfl⟩ : ∃ d, D = d + 4 := ⟨D - 4, by omega⟩
  have h22 := h.2.1
  have e := m206 (X := X) (D := d + 3) (f := f) h.1 h.2.1 (k := 1)
  simp (disch := first | assumption | exact hf _ | omega) only [b217, b217_0, b217_7, b217_12, b217_15, b217_20, b217_27, b217_31, nI_add, mn_mul, mn_sub, mn_m1, mn_m8, mn_eq, mn_lt, mn_le, mn_eq0, mn_0eq, mn_lt0, mn_0lt, mn_le0, mn_0le, mn_eqm, mn_meq, mn_ltm, mn_mlt, mn_lem, mn_mle, mn_mm1, mn_mm2, mn_mm3, mn_mm4, mn_mm5, mn_mm6, mn_and, mn_or, mn_an, mn_shl, mn_shr, mn_div, mn_rem, mn_clamp, mn_in, mn_inm, mn_nz, mn_zo, mn_min, mn_max, mn_abs, mn_rfit, mn_cp, mn_les, mn_gre, mn_a127, mn_a15, mn_a1, mn_a255, mn_tn0, mn_tn0e, mn_tnr, mn_tnz, mr_get, mr_ne, mr_put, mu_ne, mu_eq, mj_bk_i, mj_bk_v, mj_bk_x, decide_eq_true_eq, decide_true, decide_false, Bool.false_eq_true, Bool.true_eq_false, reduceCtorEq, mt_le_t, mt_le_f, mt_lt_t, mt_lt_f, mt_eq_t, mt_eq_f, mt_ee, not_true_eq_false, not_false_eq_true, and_true, true_and, and_self, Nat.zero_add, Nat.add_zero, Nat.one_mul, Nat.mul_one, Nat.reduceAdd, Nat.reduceMul, Nat.reduceSub, Nat.reducePow, Nat.reduceDiv, Nat.reduceMod, ↓reduceIte, mp_h, mp_w, mp_c, mp_s, mp_d, mp_n, mp_54, mp_52, mp_55, mp_l, mp_o, mp_42, mp_45, gh_gp, gw_gp, gc_gp, mw_pne, Nat.or_zero, h22, c208 h.1 h.2.1 (show 59 < 256 by decide), hS, Bool.toNat_false, e, m42.1]
theorem JN (hW : WL n a σ) : (∃ a' σ', a < a' ∧ WL n a' σ' ∧ NC X tp n a σ a' σ' ∧ NR X tp n a σ a' σ') ∨ (∃ k p, 0 < k ∧ k < 10 ∧ NCf X tp n a σ k p ∧ NRf X tp n a σ k p) := by
  have r1 := mw_r_1
  rcases JB_all (X := X) (tp := tp) hW with ⟨a1, σ1, x1, x2, x3, x4⟩ | ⟨k, p, k1, k2, k3, k4⟩
  · cases hS : tS tp n a1 59
    · refine Or.inr ⟨1, tb tp n a1, by decide, by decide, ?_, ?_⟩
      · intro D s y2 y3 hD h
        obtain ⟨d, rfl⟩ : ∃ d, D = d + 1 := ⟨D - 1, by omega⟩
        obtain ⟨t, e, h1, f1⟩ := x3 d s (by omega) h
        refine ⟨_, ?_, l22.1, l22.2, Nat.le_trans (tb_le x2.1) x2.2.1, fL_trans f1 fL_22⟩
        rw [b89_52 r1, e, mj_bk_i, b89_56 r1, if_neg (by decide), b89_59 r1, l106f (by omega) h1 hS, mj_bk_i, b89_65 r1, if_pos (by decide), b89_68 r1]
      · intro D s f hD hf h
        obtain ⟨d, rfl⟩ : ∃ d, D = d + 1 := ⟨D - 1, by omega⟩
        obtain ⟨t, h1, f1, e⟩ := x4 d s f (by omega) hf h
        exact ⟨_, _, e _ (m217f (by omega) h1 hS), m42.1, m42.2, fT_22 f1⟩
    · have hk : ¬ tkd tp n a1 = 0 := by have := (of_decide_eq_true hS).1; omega
      have a2 := te_lt hk
      obtain ⟨w1, w2, w3, w4, w5, w6, w7, w8⟩ := x2
      refine Or.inl ⟨te tp n a1, σ1, by omega, ⟨te_le w1, w2, w3, by omega, by omega, by omega, w7, w8⟩, ?_, ?_⟩
      · intro D s y2 y3 hD h
        obtain ⟨d, rfl⟩ : ∃ d, D = d + 1 := ⟨D - 1, by omega⟩
        obtain ⟨t, e, h1, f1⟩ := x3 d s (by omega) h
        obtain ⟨t', e', h1', f1'⟩ := l106 (X := X) (D := d) (by omega) h1 hS
        refine ⟨t', ?_, h1', fL_trans f1 f1'⟩
        rw [b89_52 r1, e, mj_bk_i, b89_56 r1, if_neg (by decide), b89_59 r1, e', mj_bk_i, b89_65 r1, if_neg (by decide)]
      · intro D s f hD hf h
        obtain ⟨d, rfl⟩ : ∃ d, D = d + 1 := ⟨D - 1, by omega⟩
        obtain ⟨t, h1, f1, e⟩ := x4 d s f (by omega) hf h
        obtain ⟨t', e', h1', f1'⟩ := m217 (X := X) (D := d) (f := f) (by omega) h1 hS
        exact ⟨t', e _ e', h1', fT_R f1 f1'⟩
  · refine Or.inr ⟨k, p, k1, k2, ?_, ?_⟩
    · intro D s y2 y3 hD h
      obtain ⟨d, rfl⟩ : ∃ d, D = d + 1 := ⟨D - 1, by omega⟩
      obtain ⟨t, e, h1, h2, h3, f1⟩ := k3 d s (by omega) h
      refine ⟨t, ?_, h1, h2, h3, f1⟩
      rw [b89_52 r1, e, mj_bk_i, b89_56 r1, if_pos (by decide), b89_68 r1]
    · intro D s f hD hf h
      obtain ⟨d, rfl⟩ : ∃ d, D = d + 1 := ⟨D - 1, by omega⟩
      obtain ⟨t, v, h1, h2, f1, e⟩ := k4 d s f (by omega) hf h
      exact ⟨t, v, e _ (nb217 h1 k1 k2), h1, h2, f1⟩
/-- all lines from a on -/
def JX (X : mj_X) (tp : Nat → Nat) (n a : Nat) (σ : YS) : Prop :=
  (∃ a' σ', WL n a' σ' ∧ (∀ d s x2 i, 62 ≤ d → i ≤ a → YC s tp n a σ → ∃ t, mj_exec X d 89 35 [some (.ref 22), some (.ref 1), some (.int x2), some (.int (nI i))] [] (mw_U s) = some (.inl none, mw_U t) ∧ YC t tp n a' σ' ∧ fL s t) ∧ (∀ d s f x1, 62 ≤ d → f 55 ≤ 8 → YR s tp n a σ → ∃ t c, mj_exec X d 196 100 [some (.ref 42), some (.int x1), some (.int (nI (dn σ)))] [] (mw_U (mp s f)) = mj_exec X d 196 153 [some (.ref 42), some (.int x1), some (.int c)] [] (mw_U (mp t f)) ∧ YR t tp n a' σ' ∧ fT s t)) ∨
  (∃ k p, 0 < k ∧ k < 10 ∧ (∀ d s x2 i, 62 ≤ d → i ≤ a → YC s tp n a σ → ∃ t, mj_exec X d 89 35 [some (.ref 22), some (.ref 1), some (.int x2), some (.int (nI i))] [] (mw_U s) = some (.inl none, mw_U t) ∧ t.1 22 3 = nI k ∧ t.1 22 4 = nI p ∧ p ≤ 700 ∧ fL s t) ∧ (∀ d s f x1, 62 ≤ d → f 55 ≤ 8 → YR s tp n a σ → ∃ t c, mj_exec X d 196 100 [some (.ref 42), some (.int x1), some (.int (nI (dn σ)))] [] (mw_U (mp s f)) = mj_exec X d 196 130 [some (.ref 42), some (.int x1), some (.int c)] [] (mw_U (mp t f)) ∧ t.1 42 22 = nI k ∧ t.1 42 23 = nI p ∧ fT s t))
theorem kn0 {k : Nat} (h : 0 < k) (h2 : k < 10) : ¬ nI k = 0 := by rw [mn_eq0 (by omega)]; omega
theorem cl_35 (h : YC s tp n a σ) {i : Nat} {x2 : Int32} (hi : i ≤ a) : mj_exec X (d + 1) 89 35 [some (.ref 22), some (.ref 1), some (.int x2), some (.int (nI i))] [] (mw_U s) = if tkd tp n a = 0 then some (.inl none, mw_U s) else mj_exec X (d + 1) 89 52 [some (.ref 22), some (.ref 1), some (.int x2), some (.int (nI i))] [] (mw_U s) := by
  have r1 := mw_r_1
  have han := h.1.1.1
  have hn := h.1.1.2.1
  have kl := kcl_lt (tp := tp) (n := n) (a := a)
  rw [b89_35 r1, if_neg (by rw [mn_lt (by omega) (by omega)]; omega), b89_42 r1, c135 h.1.1, mj_bk_i, b89_49 r1]
  by_cases q : tkd tp n a = 0
  · have k0 : kcl tp n a = 0 := by rw [kcl_0]; exact q
    rw [if_pos q, k0, if_pos (by decide), b89_75 r1]
  · have k0 : ¬ kcl tp n a = 0 := by rw [kcl_0]; exact q
    rw [if_neg q, if_neg (by rw [mn_eq0 (by omega)]; exact k0)]
theorem rf_100 (h : YR s tp n a σ) {x1 c : Int32} : mj_exec X (d + 1) 196 100 [some (.ref 42), some (.int x1), some (.int c)] [] (mw_U (mp s f)) = if tkd tp n a = 0 then mj_exec X (d + 1) 196 153 [some (.ref 42), some (.int x1), some (.int c)] [] (mw_U (mp s f)) else (mj_call X d 203 [.ref 42, .int c] (mw_U (mp s f))).bind (mj_bk X (d + 1) 196 119 [some (.ref 42), some (.int x1), some (.int c)] []) := by
  have t4 := tkd_le (tp := tp) (n := n) (a := a)
  have h22 := h.2.1
  have h18 : s.1 42 18 = nI (tkd tp n a) := h.1.2.2.2.2.1
  rw [b196_100, mp_42 (by decide), h22, if_pos (by decide), b196_107, mp_42 (by decide), h18]
  by_cases q : tkd tp n a = 0
  · rw [if_pos q, q, if_pos (by decide), b196_123, mp_42 (by decide), h22, if_pos (by decide)]
  · rw [if_neg q, if_neg (by rw [mn_eq0 (by omega)]; exact q), b196_114]
theorem J_text : ∀ m a σ, n - a < m → WL n a σ → JX X tp n a σ
  | 0, a, σ, hm, hW => absurd hm (Nat.not_lt_zero _)
  | m + 1, a, σ, hm, hW => by
    by_cases q : tkd tp n a = 0
    · refine Or.inl ⟨a, σ, hW, ?_, ?_⟩
      · intro D s x2 i hD hi h
        obtain ⟨d, rfl⟩ : ∃ d, D = d + 1 := ⟨D - 1, by omega⟩
        exact ⟨s, by rw [cl_35 h hi, if_pos q], h, fL_refl⟩
      · intro D s f x1 hD hf h
        obtain ⟨d, rfl⟩ : ∃ d, D = d + 1 := ⟨D - 1, by omega⟩
        exact ⟨s, _, by rw [rf_100 h, if_pos q], h, fT_refl⟩
    · rcases JN (X := X) (tp := tp) hW with ⟨a1, σ1, y1, y2, y3, y4⟩ | ⟨k, p, k1, k2, k3, k4⟩
      · have stC : ∀ d s x2 i, 62 ≤ d → i ≤ a → YC s tp n a σ → ∃ t, mj_exec X d 89 35 [some (.ref 22), some (.ref 1), some (.int x2), some (.int (nI i))] [] (mw_U s) = mj_exec X d 89 35 [some (.ref 22), some (.ref 1), some (.int x2), some (.int (nI (i + 1)))] [] (mw_U t) ∧ YC t tp n a1 σ1 ∧ fL s t := by
          intro D s x2 i hD hi h
          obtain ⟨d, rfl⟩ : ∃ d, D = d + 1 := ⟨D - 1, by omega⟩
          obtain ⟨t, e, h1, f1⟩ := y3 (d + 1) s x2 (nI i) (by omega) h
          exact ⟨t, by rw [cl_35 h hi, if_neg q, e, b89_69 mw_r_1, nI_add], h1, f1⟩
        have stR : ∀ d s f x1, 62 ≤ d → f 55 ≤ 8 → YR s tp n a σ → ∃ t, mj_exec X d 196 100 [some (.ref 42), some (.int x1), some (.int (nI (dn σ)))] [] (mw_U (mp s f)) = mj_exec X d 196 100 [some (.ref 42), some (.int x1), some (.int (nI (dn σ1)))] [] (mw_U (mp t f)) ∧ YR t tp n a1 σ1 ∧ fT s t := by
          intro D s f x1 hD hf h
          obtain ⟨d, rfl⟩ : ∃ d, D = d + 1 := ⟨D - 1, by omega⟩
          obtain ⟨t, e, h1, f1⟩ := y4 d s f (by omega) hf h
          exact ⟨t, by rw [rf_100 h, if_neg q, e, mj_bk_i, b196_119], h1, f1⟩
        have hm1 : n - a1 < m := by have := y2.1; omega
        rcases J_text m a1 σ1 hm1 y2 with ⟨a2, σ2, z1, z2, z3⟩ | ⟨k, p, k1, k2, k3, k4⟩
        · refine Or.inl ⟨a2, σ2, z1, ?_, ?_⟩
          · intro d s x2 i hD hi h
            obtain ⟨t, e, h1, f1⟩ := stC d s x2 i hD hi h
            obtain ⟨t2, e2, h2, f2⟩ := z2 d t x2 (i + 1) hD (by omega) h1
            exact ⟨t2, e.trans e2, h2, fL_trans f1 f2⟩
          · intro d s f x1 hD hf h
            obtain ⟨t, e, h1, f1⟩ := stR d s f x1 hD hf h
            obtain ⟨t2, c, e2, h2, f2⟩ := z3 d t f x1 hD hf h1
            exact ⟨t2, c, e.trans e2, h2, fT_trans f1 f2⟩
        · refine Or.inr ⟨k, p, k1, k2, ?_, ?_⟩
          · intro d s x2 i hD hi h
            obtain ⟨t, e, h1, f1⟩ := stC d s x2 i hD hi h
            obtain ⟨t2, e2, h2, h3, h4, f2⟩ := k3 d t x2 (i + 1) hD (by omega) h1
            exact ⟨t2, e.trans e2, h2, h3, h4, fL_trans f1 f2⟩
          · intro d s f x1 hD hf h
            obtain ⟨t, e, h1, f1⟩ := stR d s f x1 hD hf h
            obtain ⟨t2, c, e2, h2, h3, f2⟩ := k4 d t f x1 hD hf h1
            exact ⟨t2, c, e.trans e2, h2, h3, fT_trans f1 f2⟩
      · refine Or.inr ⟨k, p, k1, k2, ?_, ?_⟩
        · intro D s x2 i hD hi h
          obtain ⟨d, rfl⟩ : ∃ d, D = d + 1 := ⟨D - 1, by omega⟩
          obtain ⟨t, e, h1, h2, h3, f1⟩ := k3 (d + 1) s x2 (nI i) (by omega) h
          exact ⟨t, by rw [cl_35 h hi, if_neg q, e], h1, h2, h3, f1⟩
        · intro D s f x1 hD hf h
          obtain ⟨d, rfl⟩ : ∃ d, D = d + 1 := ⟨D - 1, by omega⟩
          obtain ⟨t, v, e, h1, h2, f1⟩ := k4 d s f (by omega) hf h
          refine ⟨t, v, ?_, h1, h2, f1⟩
          rw [rf_100 h, if_neg q, e, mj_bk_i, b196_119, b196_100, mp_42 (by decide), h1, if_neg (kn0 k1 k2), b196_123, mp_42 (by decide), h1, if_neg (kn0 k1 k2)]
end
