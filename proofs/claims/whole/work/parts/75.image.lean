/-! the reference: image and restore -/
/-- the picture that is kept -/
def IM (s : mw_S) (f : Nat → Nat) (P : Nat → Nat → Nat) (a : Nat) (σ : sS) (st : Nat → Int32) : Prop := hasP s 73 0 f (fun _ => True) ∧ a ≤ 40 ∧ s.1 42 49 = nI a ∧ (∀ j, j < a → hasP s 74 (210 * j) (P j) (fun _ => True)) ∧ s.1 42 50 = nI σ.2.2.2 ∧ (∀ k, k < σ.2.2.2 → s.1 75 k = nI (gp (mn_l (σ.1 k)) (mn_g (σ.1 k))) ∧ s.1 76 k = nI (σ.2.1 k) ∧ s.1 77 k = nI (σ.2.2.1 k)) ∧ ∀ i, i < 3 → s.1 78 i = st i
section
variable {X : mj_X} {d : Nat} {s t : mw_S} {f : Nat → Nat} {P : Nat → Nat → Nat} {a : Nat} {σ : sS} {st : Nat → Int32}
theorem c307 {K0 K1 n : Nat} (h0 : mw_rw K0 = some (.int, n)) (h1 : mw_rw K1 = some (.int, n)) (x0 : mpx K0) (x1 : mpx K1) (hn : n < 100000) (hne : ¬ K1 = K0) : ∃ t, mj_call X d 307 [.ref K0, .ref K1] (mw_U (mp s f)) = some (.inl none, mw_U (mp t f)) ∧ t.2 = s.2 ∧ (∀ a, ¬ a = K0 → t.1 a = s.1 a) ∧ ∀ j, j < n → t.1 K0 j = s.1 K1 j := by
  unfold mpx at x0 x1
  obtain ⟨t, ⟨g1, g2, g3⟩, e⟩ := mr_forg (α := Unit) (γ := mw_S) (E := fun i _ t => mj_exec X d 307 2 [some (.ref K0), some (.ref K1), some (.int (nI i))] [] (mw_U (mp t f))) (F := fun _ a => a) (I := fun i _ t => t.2 = s.2 ∧ (∀ a, ¬ a = K0 → t.1 a = s.1 a) ∧ ∀ j, j < i → t.1 K0 j = s.1 K1 j) (N := n) (by
    intro i _ t hi ⟨g1, g2, g3⟩
    refine ⟨mw_p t K0 i (s.1 K1 i), ⟨g1, fun a ha => by rw [← g2 a ha]; funext b; exact mw_pne ha, fun j hj => ?_⟩, ?_⟩
    · by_cases he : j = i
      · subst he; rw [mw_peq]
      · rw [mw_pnj he]; exact g3 j (by omega)
    · have e1 : t.1 K1 = s.1 K1 := g2 K1 hne
      have e2 : (mp t f).1 K1 i = s.1 K1 i := by rw [mp_o x1, e1]
      have e3 : mw_p (mp t f) K0 i (s.1 K1 i) = mp (mw_p t K0 i (s.1 K1 i)) f := mp_wo (Or.inl x0)
      rw [b307_2 h0 h1]
      simp (disch := first | assumption | exact hf _ | omega) only [b307, b307_0, b307_8, b307_20, nI_add, mn_mul, mn_sub, mn_m1, mn_m8, mn_eq, mn_lt, mn_le, mn_eq0, mn_0eq, mn_lt0, mn_0lt, mn_le0, mn_0le, mn_eqm, mn_meq, mn_ltm, mn_mlt, mn_lem, mn_mle, mn_mm1, mn_mm2, mn_mm3, mn_mm4, mn_mm5, mn_mm6, mn_and, mn_or, mn_an, mn_shl, mn_shr, mn_div, mn_rem, mn_clamp, mn_in, mn_inm, mn_nz, mn_zo, mn_min, mn_max, mn_abs, mn_rfit, mn_cp, mn_les, mn_gre, mn_a127, mn_a15, mn_a1, mn_a255, mn_tn0, mn_tn0e, mn_tnr, mn_tnz, mr_get, mr_ne, mr_put, mu_ne, mu_eq, mj_bk_i, mj_bk_v, mj_bk_x, decide_eq_true_eq, decide_true, decide_false, Bool.false_eq_true, Bool.true_eq_false, reduceCtorEq, mt_le_t, mt_le_f, mt_lt_t, mt_lt_f, mt_eq_t, mt_eq_f, mt_ee, not_true_eq_false, not_false_eq_true, and_true, true_and, and_self, Nat.zero_add, Nat.add_zero, Nat.one_mul, Nat.mul_one, Nat.reduceAdd, Nat.reduceMul, Nat.reduceSub, Nat.reducePow, Nat.reduceDiv, Nat.reduceMod, ↓reduceIte, e2, e3]) (a := ()) (g := s) ⟨rfl, fun _ _ => rfl, fun j hj => by omega⟩ n (Nat.le_refl n)
  refine ⟨t, ?_, g1, g2, g3⟩
  rw [b307]
  simp (disch := first | assumption | exact hf _ | omega) only [b307_0]
  refine e.trans ?_
  rw [b307_2 h0 h1]
  simp (disch := first | assumption | exact hf _ | omega) only [b307, b307_0, b307_8, b307_20, nI_add, mn_mul, mn_sub, mn_m1, mn_m8, mn_eq, mn_lt, mn_le, mn_eq0, mn_0eq, mn_lt0, mn_0lt, mn_le0, mn_0le, mn_eqm, mn_meq, mn_ltm, mn_mlt, mn_lem, mn_mle, mn_mm1, mn_mm2, mn_mm3, mn_mm4, mn_mm5, mn_mm6, mn_and, mn_or, mn_an, mn_shl, mn_shr, mn_div, mn_rem, mn_clamp, mn_in, mn_inm, mn_nz, mn_zo, mn_min, mn_max, mn_abs, mn_rfit, mn_cp, mn_les, mn_gre, mn_a127, mn_a15, mn_a1, mn_a255, mn_tn0, mn_tn0e, mn_tnr, mn_tnz, mr_get, mr_ne, mr_put, mu_ne, mu_eq, mj_bk_i, mj_bk_v, mj_bk_x, decide_eq_true_eq, decide_true, decide_false, Bool.false_eq_true, Bool.true_eq_false, reduceCtorEq, mt_le_t, mt_le_f, mt_lt_t, mt_lt_f, mt_eq_t, mt_eq_f, mt_ee, not_true_eq_false, not_false_eq_true, and_true, true_and, and_self, Nat.zero_add, Nat.add_zero, Nat.one_mul, Nat.mul_one, Nat.reduceAdd, Nat.reduceMul, Nat.reduceSub, Nat.reducePow, Nat.reduceDiv, Nat.reduceMod, ↓reduceIte]
def m73 (a : Nat) : Prop := a = 73 ∨ a = 74 ∨ a = 75 ∨ a = 76 ∨ a = 77 ∨ a = 78
theorem x73 {a : Nat} (h : m73 a ∨ a = 62 ∨ a = 67 ∨ a = 68 ∨ a = 69 ∨ a = 54) : mpx a := by unfold m73 at h; unfold mpx; omega
theorem m306 (h : MA s P a σ st) (h8 : σ.2.2.2 ≤ 8) : ∃ t, mj_call X (d + 2) 306 [.ref 42] (mw_U (mp s f)) = some (.inl none, mw_U (mp t f)) ∧ IM t f P a σ st ∧ MA t P a σ st ∧ t.1 42 48 = nI 1 ∧ t.1 42 2 = nI 0 ∧ t.2 = s.2 ∧ (∀ a, ¬ a = 42 → ¬ m73 a → t.1 a = s.1 a) ∧ (∀ b, ¬ b = 2 → ¬ b = 48 → ¬ b = 49 → ¬ b = 50 → t.1 42 b = s.1 42 b) := by
  obtain ⟨⟨h40, e34, hP⟩, ⟨e35, hS⟩, hT⟩ := h
  obtain ⟨u, hu⟩ : ∃ u, u = mw_p (mw_p (mw_p (mw_p s 42 2 (nI 0)) 42 48 (nI 1)) 42 49 (nI a)) 42 50 (nI σ.2.2.2) := ⟨_, rfl⟩
  have u0 : ∀ c, ¬ c = 42 → u.1 c = s.1 c := fun c hc => by rw [hu]; funext b; rw [mw_pne hc, mw_pne hc, mw_pne hc, mw_pne hc]
  have u42 : ∀ b, ¬ b = 2 → ¬ b = 48 → ¬ b = 49 → ¬ b = 50 → u.1 42 b = s.1 42 b := fun b h1 h2 h3 h4 => by rw [hu, mw_pnj h4, mw_pnj h3, mw_pnj h2, mw_pnj h1]
  obtain ⟨t1, e1, r1, p1⟩ := c251 (X := X) (d := d + 1) (s := u) (f := f) (K := 73) (off := 0) mw_r_73 (x73 (Or.inl (Or.inl rfl))) (by decide) (by decide)
  have t1c : ∀ c, ¬ c = 73 → t1.1 c = u.1 c := fun c hc => by funext b; exact r1.2 c b (fun z => absurd z hc)
  obtain ⟨t2, e2, a2, b2, c2'⟩ := c307 (X := X) (d := d + 1) (s := t1) (f := f) (K0 := 74) (K1 := 62) mw_r_74 mw_r_62 (x73 (by unfold m73; omega)) (x73 (by omega)) (by decide) (by decide)
  obtain ⟨t3, e3, a3, b3, c3'⟩ := c307 (X := X) (d := d + 1) (s := t2) (f := f) (K0 := 75) (K1 := 67) mw_r_75 mw_r_67 (x73 (by unfold m73; omega)) (x73 (by omega)) (by decide) (by decide)
  obtain ⟨t4, e4, a4, b4, c4'⟩ := c307 (X := X) (d := d + 1) (s := t3) (f := f) (K0 := 76) (K1 := 68) mw_r_76 mw_r_68 (x73 (by unfold m73; omega)) (x73 (by omega)) (by decide) (by decide)
  obtain ⟨t5, e5, a5, b5, c5'⟩ := c307 (X := X) (d := d + 1) (s := t4) (f := f) (K0 := 77) (K1 := 69) mw_r_77 mw_r_69 (x73 (by unfold m73; omega)) (x73 (by omega)) (by decide) (by decide)
  obtain ⟨t6, e6, a6, b6, c6'⟩ := c307 (X := X) (d := d + 1) (s := t5) (f := f) (K0 := 78) (K1 := 54) mw_r_78 mw_r_54 (x73 (by unfold m73; omega)) (x73 (by omega)) (by decide) (by decide)
  have fr : ∀ c, ¬ m73 c → t6.1 c = u.1 c := fun c hc => by
    unfold m73 at hc
    rw [b6 c (by omega), b5 c (by omega), b4 c (by omega), b3 c (by omega), b2 c (by omega), t1c c (by omega)]
  have fr2 : ∀ c, ¬ c = 42 → ¬ m73 c → t6.1 c = s.1 c := fun c h1 h2 => (fr c h2).trans (u0 c h1)
  have f42 : ∀ b, t6.1 42 b = u.1 42 b := fun b => by rw [fr 42 (by unfold m73; omega)]
  refine ⟨t6, ?_, ⟨?_, h40, ?_, ?_, ?_, ?_, ?_⟩, ⟨⟨h40, ?_, ?_⟩, ⟨?_, ?_⟩, ?_⟩, ?_, ?_, ?_, fr2, ?_⟩
  · have q1 : (mw_p (mw_p s 42 2 (nI 0)) 42 48 (nI 1)).1 42 34 = nI a := by rw [mw_pnj (by decide), mw_pnj (by decide)]; exact e34
    have q2 : (mw_p (mw_p (mw_p s 42 2 (nI 0)) 42 48 (nI 1)) 42 49 (nI a)).1 42 35 = nI σ.2.2.2 := by rw [mw_pnj (by decide), mw_pnj (by decide), mw_pnj (by decide)]; exact e35
    have z1 : mw_zo (nI 1) = true := by decide
    rw [hu] at e1
    simp (disch := first | assumption | exact hf _ | omega) only [b306, b306_0, b306_35, b306_46, b306_57, b306_68, b306_79, b306_90, nI_add, mn_mul, mn_sub, mn_m1, mn_m8, mn_eq, mn_lt, mn_le, mn_eq0, mn_0eq, mn_lt0, mn_0lt, mn_le0, mn_0le, mn_eqm, mn_meq, mn_ltm, mn_mlt, mn_lem, mn_mle, mn_mm1, mn_mm2, mn_mm3, mn_mm4, mn_mm5, mn_mm6, mn_and, mn_or, mn_an, mn_shl, mn_shr, mn_div, mn_rem, mn_clamp, mn_in, mn_inm, mn_nz, mn_zo, mn_min, mn_max, mn_abs, mn_rfit, mn_cp, mn_les, mn_gre, mn_a127, mn_a15, mn_a1, mn_a255, mn_tn0, mn_tn0e, mn_tnr, mn_tnz, mr_get, mr_ne, mr_put, mu_ne, mu_eq, mj_bk_i, mj_bk_v, mj_bk_x, decide_eq_true_eq, decide_true, decide_false, Bool.false_eq_true, Bool.true_eq_false, reduceCtorEq, mt_le_t, mt_le_f, mt_lt_t, mt_lt_f, mt_eq_t, mt_eq_f, mt_ee, not_true_eq_false, not_false_eq_true, and_true, true_and, and_self, Nat.zero_add, Nat.add_zero, Nat.one_mul, Nat.mul_one, Nat.reduceAdd, Nat.reduceMul, Nat.reduceSub, Nat.reducePow, Nat.reduceDiv, Nat.reduceMod, ↓reduceIte, mp_h, mp_w, mp_c, mp_s, mp_d, mp_n, mp_54, mp_52, mp_55, mp_l, mp_o, mp_42, mp_45, gh_gp, gw_gp, gc_gp, mw_pne, Nat.or_zero, mp_wo, q1, q2, z1, e1, e2, e3, e4, e5, e6]
  · intro j hj hd
    rw [b6 73 (by decide), b5 73 (by decide), b4 73 (by decide), b3 73 (by decide), b2 73 (by decide)]
    exact p1 j hj hd
  · rw [f42, hu, mw_pnj (by decide), mw_peq]
  · intro j hj i hi hd
    rw [b6 74 (by decide), b5 74 (by decide), b4 74 (by decide), b3 74 (by decide), c2' _ (by omega), t1c 62 (by decide), u0 62 (by decide)]
    exact hP j hj i hi hd
  · rw [f42, hu, mw_peq]
  · intro k hk
    rw [b6 75 (by decide), b5 75 (by decide), b4 75 (by decide), c3' k (by omega), b2 67 (by decide), t1c 67 (by decide), u0 67 (by decide), b6 76 (by decide), b5 76 (by decide), c4' k (by omega), b3 68 (by decide), b2 68 (by decide), t1c 68 (by decide), u0 68 (by decide), b6 77 (by decide), c5' k (by omega), b4 69 (by decide), b3 69 (by decide), b2 69 (by decide), t1c 69 (by decide), u0 69 (by decide)]
    exact hS k hk
  · intro i hi
    rw [c6' i hi, b5 54 (by decide), b4 54 (by decide), b3 54 (by decide), b2 54 (by decide), t1c 54 (by decide), u0 54 (by decide)]
    exact hT i hi
  · rw [f42, u42 34 (by decide) (by decide) (by decide) (by decide)]; exact e34
  · intro j hj i hi hd
    rw [fr2 62 (by decide) (by unfold m73; omega)]; exact hP j hj i hi hd
  · rw [f42, u42 35 (by decide) (by decide) (by decide) (by decide)]; exact e35
  · intro k hk
    rw [fr2 67 (by decide) (by unfold m73; omega), fr2 68 (by decide) (by unfold m73; omega), fr2 69 (by decide) (by unfold m73; omega)]; exact hS k hk
  · intro i hi
    rw [fr2 54 (by decide) (by unfold m73; omega)]; exact hT i hi
  · rw [f42, hu, mw_pnj (by decide), mw_pnj (by decide), mw_peq]
  · rw [f42, hu, mw_pnj (by decide), mw_pnj (by decide), mw_pnj (by decide), mw_peq]
  · rw [a6, a5, a4, a3, a2, r1.1, hu]; rfl
  · intro b h1 h2 h3 h4
    rw [f42]; exact u42 b h1 h2 h3 h4
theorem m308 {g : Nat → Nat} (hI : IM s f P a σ st) (h8 : σ.2.2.2 ≤ 8) (h48 : s.1 42 48 = nI 1) (hs : sst f g) : ∃ t, mj_call X (d + 2) 308 [.ref 42] (mw_U (mp s g)) = some (.inl (some (.int (nI 1))), mw_U (mp t f)) ∧ MA t P a σ st ∧ t.1 42 2 = nI 0 ∧ mb s t := by
  obtain ⟨p1, h40, e49, hP, e50, hS, hT⟩ := hI
  obtain ⟨u, hu⟩ : ∃ u, u = mw_p (mw_p (mw_p s 42 2 (nI 0)) 42 34 (nI a)) 42 35 (nI σ.2.2.2) := ⟨_, rfl⟩
  have u0 : ∀ c, ¬ c = 42 → u.1 c = s.1 c := fun c hc => by rw [hu]; funext b; rw [mw_pne hc, mw_pne hc, mw_pne hc]
  have u42 : ∀ b, ¬ b = 2 → ¬ b = 34 → ¬ b = 35 → u.1 42 b = s.1 42 b := fun b h1 h2 h3 => by rw [hu, mw_pnj h3, mw_pnj h2, mw_pnj h1]
  have e1 := c268 (X := X) (d := d + 1) (s := u) (K := 73) (off := 0) (f := f) (g := g) mw_r_73 (x73 (Or.inl (Or.inl rfl))) (by decide) (by decide) (fun j hj hd => by rw [u0 73 (by decide)]; exact p1 j hj hd) hs
  obtain ⟨t2, e2, a2, b2, c2'⟩ := c307 (X := X) (d := d + 1) (s := u) (f := f) (K0 := 62) (K1 := 74) mw_r_62 mw_r_74 (x73 (by omega)) (x73 (by unfold m73; omega)) (by decide) (by decide)
  obtain ⟨t3, e3, a3, b3, c3'⟩ := c307 (X := X) (d := d + 1) (s := t2) (f := f) (K0 := 67) (K1 := 75) mw_r_67 mw_r_75 (x73 (by omega)) (x73 (by unfold m73; omega)) (by decide) (by decide)
  obtain ⟨t4, e4, a4, b4, c4'⟩ := c307 (X := X) (d := d + 1) (s := t3) (f := f) (K0 := 68) (K1 := 76) mw_r_68 mw_r_76 (x73 (by omega)) (x73 (by unfold m73; omega)) (by decide) (by decide)
  obtain ⟨t5, e5, a5, b5, c5'⟩ := c307 (X := X) (d := d + 1) (s := t4) (f := f) (K0 := 69) (K1 := 77) mw_r_69 mw_r_77 (x73 (by omega)) (x73 (by unfold m73; omega)) (by decide) (by decide)
  obtain ⟨t6, e6, a6, b6, c6'⟩ := c307 (X := X) (d := d + 1) (s := t5) (f := f) (K0 := 54) (K1 := 78) mw_r_54 mw_r_78 (x73 (by omega)) (x73 (by unfold m73; omega)) (by decide) (by decide)
  have fr : ∀ c, ¬ c = 54 → ¬ c = 62 → ¬ c = 67 → ¬ c = 68 → ¬ c = 69 → t6.1 c = u.1 c := fun c h1 h2 h3 h4 h5 => by
    rw [b6 c h1, b5 c h5, b4 c h4, b3 c h3, b2 c h2]
  have f42 : ∀ b, t6.1 42 b = u.1 42 b := fun b => by rw [fr 42 (by decide) (by decide) (by decide) (by decide) (by decide)]
  refine ⟨t6, ?_, ⟨⟨h40, ?_, ?_⟩, ⟨?_, ?_⟩, ?_⟩, ?_, ?_, ?_, ?_⟩
  · have q0 : (mw_p s 42 2 (nI 0)).1 42 48 = nI 1 := by rw [mw_pnj (by decide)]; exact h48
    have q1 : (mw_p s 42 2 (nI 0)).1 42 49 = nI a := by rw [mw_pnj (by decide)]; exact e49
    have q2 : (mw_p (mw_p s 42 2 (nI 0)) 42 34 (nI a)).1 42 50 = nI σ.2.2.2 := by rw [mw_pnj (by decide), mw_pnj (by decide)]; exact e50
    rw [hu] at e1 e2
    rw [b308, b308_0]
    simp (disch := first | assumption | exact hf _ | omega) only [b308, b308_0, b308_12, b308_14, b308_39, b308_50, b308_61, b308_72, b308_83, b308_94, nI_add, mn_mul, mn_sub, mn_m1, mn_m8, mn_eq, mn_lt, mn_le, mn_eq0, mn_0eq, mn_lt0, mn_0lt, mn_le0, mn_0le, mn_eqm, mn_meq, mn_ltm, mn_mlt, mn_lem, mn_mle, mn_mm1, mn_mm2, mn_mm3, mn_mm4, mn_mm5, mn_mm6, mn_and, mn_or, mn_an, mn_shl, mn_shr, mn_div, mn_rem, mn_clamp, mn_in, mn_inm, mn_nz, mn_zo, mn_min, mn_max, mn_abs, mn_rfit, mn_cp, mn_les, mn_gre, mn_a127, mn_a15, mn_a1, mn_a255, mn_tn0, mn_tn0e, mn_tnr, mn_tnz, mr_get, mr_ne, mr_put, mu_ne, mu_eq, mj_bk_i, mj_bk_v, mj_bk_x, decide_eq_true_eq, decide_true, decide_false, Bool.false_eq_true, Bool.true_eq_false, reduceCtorEq, mt_le_t, mt_le_f, mt_lt_t, mt_lt_f, mt_eq_t, mt_eq_f, mt_ee, not_true_eq_false, not_false_eq_true, and_true, true_and, and_self, Nat.zero_add, Nat.add_zero, Nat.one_mul, Nat.mul_one, Nat.reduceAdd, Nat.reduceMul, Nat.reduceSub, Nat.reducePow, Nat.reduceDiv, Nat.reduceMod, ↓reduceIte, mp_h, mp_w, mp_c, mp_s, mp_d, mp_n, mp_54, mp_52, mp_55, mp_l, mp_o, mp_42, mp_45, gh_gp, gw_gp, gc_gp, mw_pne, Nat.or_zero, mp_wo, q0, q1, q2, e1, e2, e3, e4, e5, e6]
  · rw [f42, hu, mw_pnj (by decide), mw_peq]
  · intro j hj i hi hd
    rw [b6 62 (by decide), b5 62 (by decide), b4 62 (by decide), b3 62 (by decide), c2' _ (by omega), u0 74 (by decide)]
    exact hP j hj i hi hd
  · rw [f42, hu, mw_peq]
  · intro k hk
    rw [b6 67 (by decide), b5 67 (by decide), b4 67 (by decide), c3' k (by omega), b2 75 (by decide), u0 75 (by decide), b6 68 (by decide), b5 68 (by decide), c4' k (by omega), b3 76 (by decide), b2 76 (by decide), u0 76 (by decide), b6 69 (by decide), c5' k (by omega), b4 77 (by decide), b3 77 (by decide), b2 77 (by decide), u0 77 (by decide)]
    exact hS k hk
  · intro i hi
    rw [c6' i hi, b5 78 (by decide), b4 78 (by decide), b3 78 (by decide), b2 78 (by decide), u0 78 (by decide)]
    exact hT i hi
  · rw [f42, hu, mw_pnj (by decide), mw_pnj (by decide), mw_peq]
  · rw [a6, a5, a4, a3, a2, hu]; rfl
  · intro c _ h42 h54 h62 h67 h68 h69
    rw [fr c h54 h62 h67 h68 h69, u0 c h42]
  · intro b h1 h2 h3 _ _
    rw [f42]; exact u42 b h1 h2 h3
theorem n308 (h48 : s.1 42 48 = nI 0) : mj_call X (d + 2) 308 [.ref 42] (mw_U (mp s f)) = some (.inl (some (.int (nI 0))), mw_U (mp (mw_p s 42 2 (nI 0)) f)) := by
  have q0 : (mw_p s 42 2 (nI 0)).1 42 48 = nI 0 := by rw [mw_pnj (by decide)]; exact h48
  rw [b308, b308_0]
  simp (disch := first | assumption | exact hf _ | omega) only [b308, b308_0, b308_12, b308_14, b308_39, b308_50, b308_61, b308_72, b308_83, b308_94, nI_add, mn_mul, mn_sub, mn_m1, mn_m8, mn_eq, mn_lt, mn_le, mn_eq0, mn_0eq, mn_lt0, mn_0lt, mn_le0, mn_0le, mn_eqm, mn_meq, mn_ltm, mn_mlt, mn_lem, mn_mle, mn_mm1, mn_mm2, mn_mm3, mn_mm4, mn_mm5, mn_mm6, mn_and, mn_or, mn_an, mn_shl, mn_shr, mn_div, mn_rem, mn_clamp, mn_in, mn_inm, mn_nz, mn_zo, mn_min, mn_max, mn_abs, mn_rfit, mn_cp, mn_les, mn_gre, mn_a127, mn_a15, mn_a1, mn_a255, mn_tn0, mn_tn0e, mn_tnr, mn_tnz, mr_get, mr_ne, mr_put, mu_ne, mu_eq, mj_bk_i, mj_bk_v, mj_bk_x, decide_eq_true_eq, decide_true, decide_false, Bool.false_eq_true, Bool.true_eq_false, reduceCtorEq, mt_le_t, mt_le_f, mt_lt_t, mt_lt_f, mt_eq_t, mt_eq_f, mt_ee, not_true_eq_false, not_false_eq_true, and_true, true_and, and_self, Nat.zero_add, Nat.add_zero, Nat.one_mul, Nat.mul_one, Nat.reduceAdd, Nat.reduceMul, Nat.reduceSub, Nat.reducePow, Nat.reduceDiv, Nat.reduceMod, ↓reduceIte, mp_h, mp_w, mp_c, mp_s, mp_d, mp_n, mp_54, mp_52, mp_55, mp_l, mp_o, mp_42, mp_45, gh_gp, gw_gp, gc_gp, mw_pne, Nat.or_zero, mp_wo, q0]
end
