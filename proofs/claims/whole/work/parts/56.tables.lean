/-! the fewest tables: both reckon the same number -/
theorem d_sub {t g : Nat} : mn_d t g = 0 ↔ ∀ i, t.testBit i = true → g.testBit i = true := by
  constructor
  · intro h i hi
    have := mn_d_bit t g i
    rw [h, Nat.zero_testBit, hi, Bool.true_and] at this
    cases hg : g.testBit i
    · rw [hg] at this; cases this
    · rfl
  · intro h
    apply Nat.eq_of_testBit_eq
    intro i
    rw [mn_d_bit, Nat.zero_testBit]
    cases ht : t.testBit i
    · rfl
    · rw [h i ht]; rfl
theorem d_sub_le {t g : Nat} (h : mn_d t g = 0) : t ≤ g := by
  have : t &&& g = t := by
    apply Nat.eq_of_testBit_eq
    intro i
    rw [Nat.testBit_and]
    cases ht : t.testBit i
    · rfl
    · rw [(d_sub.mp h) i ht]; rfl
  rw [← this]
  exact Nat.and_le_right
theorem and_zero {a b : Nat} : a &&& b = 0 ↔ ∀ i, a.testBit i = true → b.testBit i = false := by
  constructor
  · intro h i hi
    have := Nat.testBit_and a b i
    rw [h, Nat.zero_testBit, hi, Bool.true_and] at this
    exact this.symm
  · intro h
    apply Nat.eq_of_testBit_eq
    intro i
    rw [Nat.testBit_and, Nat.zero_testBit]
    cases ha : a.testBit i
    · rfl
    · rw [h i ha]; rfl
theorem it_or_bit {P : Nat → Prop} [DecidablePred P] {v : Nat → Nat} (n j : Nat) : (mr_it (fun p b => if P p then b ||| v p else b) n 0).testBit j = true ↔ ∃ p, p < n ∧ P p ∧ (v p).testBit j = true := by
  induction n with
  | zero =>
    rw [mr_it, Nat.zero_testBit]
    constructor
    · intro h; cases h
    · rintro ⟨p, hp, _⟩; omega
  | succ n ih =>
    rw [mr_it]
    by_cases hp : P n
    · rw [if_pos hp, Nat.testBit_or, Bool.or_eq_true, ih]
      constructor
      · rintro (⟨p, h1, h2, h3⟩ | h)
        · exact ⟨p, by omega, h2, h3⟩
        · exact ⟨n, by omega, hp, h⟩
      · rintro ⟨p, h1, h2, h3⟩
        by_cases he : p = n
        · right; rw [← he]; exact h3
        · left; exact ⟨p, by omega, h2, h3⟩
    · rw [if_neg hp, ih]
      constructor
      · rintro ⟨p, h1, h2, h3⟩; exact ⟨p, by omega, h2, h3⟩
      · rintro ⟨p, h1, h2, h3⟩
        have : p ≠ n := fun z => hp (z ▸ h2)
        exact ⟨p, by omega, h2, h3⟩
theorem ta_bit {f : Nat → Nat} {g j : Nat} : (fn_ta f g).testBit j = true ↔ ∃ p, p < 8 ∧ g.testBit p = true ∧ (f (56 + p)).testBit j = true := it_or_bit (P := fun p => g.testBit p = true) 8 j
theorem fq_iff {f : Nat → Nat} {g : Nat} : fq f g = true ↔ ∀ p, p < 8 → g.testBit p = true → f (56 + p) &&& g = 0 := by
  unfold fq
  rw [decide_eq_true_eq, and_zero]
  constructor
  · intro h p hp hg
    rw [and_zero]
    intro i hi
    exact h i (ta_bit.mpr ⟨p, hp, hg, hi⟩)
  · intro h i hi
    obtain ⟨p, hp, hg, hb⟩ := ta_bit.mp hi
    exact and_zero.mp (h p hp hg) i hb
def cov (f : Nat → Nat) : Nat → Nat → Prop
  | 0, g => g = 0
  | k + 1, g => ∃ t, ¬ t = 0 ∧ mn_d t g = 0 ∧ fq f t = true ∧ cov f k (mn_d g t)
theorem d_eq {a b : Nat} (h : ∀ i, a.testBit i = b.testBit i) : a = b := Nat.eq_of_testBit_eq h
theorem cov_lo {f : Nat → Nat} : ∀ (k g b : Nat), cov f (k + 1) g → g.testBit b = true → ∃ t, t.testBit b = true ∧ mn_d t g = 0 ∧ fq f t = true ∧ cov f k (mn_d g t) := by
  intro k
  induction k with
  | zero =>
    rintro g b ⟨t, h1, h2, h3, h4⟩ hb
    refine ⟨t, ?_, h2, h3, h4⟩
    have h4 : mn_d g t = 0 := h4
    exact (d_sub.mp h4) b hb
  | succ k ih =>
    rintro g b ⟨t1, h1, h2, h3, h4⟩ hb
    cases hbt : t1.testBit b
    · have hb1 : (mn_d g t1).testBit b = true := by rw [mn_d_bit, hb, hbt]; rfl
      obtain ⟨t2, k1, k2, k3, k4⟩ := ih (mn_d g t1) b h4 hb1
      have k2' := d_sub.mp k2
      have h2' := d_sub.mp h2
      have hg : ∀ i, t2.testBit i = true → g.testBit i = true ∧ t1.testBit i = false := by
        intro i hi
        have := k2' i hi
        rw [mn_d_bit, Bool.and_eq_true, Bool.not_eq_true'] at this
        exact this
      refine ⟨t2, k1, d_sub.mpr (fun i hi => (hg i hi).1), k3, t1, h1, ?_, h3, ?_⟩
      · rw [d_sub]
        intro i hi
        rw [mn_d_bit, h2' i hi]
        cases h : t2.testBit i
        · rfl
        · rw [(hg i h).2] at hi; cases hi
      · have e : mn_d (mn_d g t2) t1 = mn_d (mn_d g t1) t2 := d_eq (fun i => by
          rw [mn_d_bit, mn_d_bit, mn_d_bit, mn_d_bit]
          cases g.testBit i <;> cases t1.testBit i <;> cases t2.testBit i <;> rfl)
        rw [e]; exact k4
    · exact ⟨t1, hbt, h2, h3, h4⟩
def lo (g : Nat) : Nat := mn_d g (g - 1)
theorem lo_is : ∀ {g : Nat}, g < 256 → 0 < g → (∃ b, b < 8 ∧ lo g = 2 ^ b ∧ g.testBit b = true) ∧ mn_d g (lo g) = g &&& (g - 1) ∧ nI g &&& -(nI g) = nI (lo g) ∧ lo g ≤ g ∧ mn_d (lo g) g = 0 := by
  have : ∀ g, g < 256 → 0 < g → (∃ b, b < 8 ∧ lo g = 2 ^ b ∧ g.testBit b = true) ∧ mn_d g (lo g) = g &&& (g - 1) ∧ nI g &&& -(nI g) = nI (lo g) ∧ lo g ≤ g ∧ mn_d (lo g) g = 0 := by decide +kernel
  intro g h1 h2; exact this g h1 h2
theorem cnt8 : ∀ {g : Nat}, g < 256 → fn_cnt g ≤ 8 := by
  have : ∀ g, g < 256 → fn_cnt g ≤ 8 := by decide +kernel
  intro g h; exact this g h
theorem fq_one {f : Nat → Nat} {L b : Nat} (hw : wf f L) (hb : b < 8) : fq f (2 ^ b) = true := by
  rw [fq_iff]
  intro p hp hg
  rw [bit_pow, decide_eq_true_eq] at hg
  subst hg
  rw [and_zero]
  intro i hi
  rw [bit_pow, decide_eq_false_iff_not]
  intro he
  subst he
  rw [wf_b hw hp] at hi
  unfold fhp at hi
  rw [if_pos rfl] at hi
  simp at hi
theorem cov_cnt {f : Nat → Nat} {L : Nat} (hw : wf f L) : ∀ g, g < 256 → cov f (fn_cnt g) g := by
  intro g
  induction g using Nat.strongRecOn with
  | ind g ih =>
    intro hg
    by_cases h0 : g = 0
    · subst h0; exact (rfl : (0 : Nat) = 0)
    · obtain ⟨⟨b, hb, h1, h2⟩, h3, -, -, h5⟩ := lo_is hg (by omega)
      obtain ⟨k1, k2⟩ := cnt_and (show g < 1024 by omega) (by omega)
      rw [← k2]
      refine ⟨lo g, ?_, h5, ?_, ?_⟩
      · rw [h1]; exact Nat.pos_iff_ne_zero.mp (Nat.two_pow_pos b)
      · rw [h1]; exact fq_one hw hb
      · rw [h3]; exact ih _ k1 (by omega)
def isO (f : Nat → Nat) (g m : Nat) : Prop := cov f m g ∧ ∀ k, k < m → ¬ cov f k g
theorem isO_u {f : Nat → Nat} {g a b : Nat} (ha : isO f g a) (hb : isO f g b) : a = b := by
  rcases Nat.lt_trichotomy a b with h | h | h
  · exact absurd ha.1 (hb.2 a h)
  · exact h
  · exact absurd hb.1 (ha.2 b h)
theorem isO_ex {f : Nat → Nat} {g : Nat} : ∀ n, cov f n g → ∃ m, m ≤ n ∧ isO f g m := by
  intro n
  induction n using Nat.strongRecOn with
  | ind n ih =>
    intro h
    by_cases hk : ∃ k, k < n ∧ cov f k g
    · obtain ⟨k, h1, h2⟩ := hk
      obtain ⟨m, h3, h4⟩ := ih k h1 h2
      exact ⟨m, by omega, h4⟩
    · exact ⟨n, Nat.le_refl n, h, fun k hk2 hc => hk ⟨k, hk2, hc⟩⟩
noncomputable def opt (f : Nat → Nat) (g : Nat) : Nat :=
  haveI := Classical.propDecidable (∃ m, isO f g m)
  if h : ∃ m, isO f g m then Classical.choose h else 0
section
variable {f : Nat → Nat} {L : Nat}
theorem opt_of {g m : Nat} (h : isO f g m) : opt f g = m := by
  unfold opt
  rw [dif_pos ⟨m, h⟩]
  exact isO_u (Classical.choose_spec (⟨m, h⟩ : ∃ m, isO f g m)) h
theorem opt_is (hw : wf f L) {g : Nat} (hg : g < 256) : isO f g (opt f g) ∧ opt f g ≤ 8 := by
  obtain ⟨m, h1, h2⟩ := isO_ex _ (cov_cnt hw g hg)
  rw [opt_of h2]
  exact ⟨h2, Nat.le_trans h1 (cnt8 hg)⟩
theorem opt_0 : opt f 0 = 0 := opt_of ⟨rfl, fun k h => by omega⟩
theorem d8 {g t : Nat} (hg : g < 256) : mn_d g t < 256 := Nat.lt_of_le_of_lt (mn_d_le _ _) hg
/-- the class's recursion -/
theorem opt_c (hw : wf f L) {g m : Nat} (hg : g < 256) (h0 : 0 < g) (h1 : m ≤ 8) (h2 : ∀ t, mn_d t g = 0 → ¬ t &&& lo g = 0 → fq f t = true → m ≤ 1 + opt f (mn_d g t)) (h3 : m = 8 ∨ ∃ t, mn_d t g = 0 ∧ ¬ t &&& lo g = 0 ∧ fq f t = true ∧ m = 1 + opt f (mn_d g t)) : m = opt f g := by
  obtain ⟨⟨k1, k2⟩, k3⟩ := opt_is hw hg
  obtain ⟨⟨b, hb, e1, e2⟩, -, -, -, -⟩ := lo_is hg h0
  have hle : m ≤ opt f g := by
    cases hk : opt f g with
    | zero =>
      rw [hk] at k1
      have k1 : g = 0 := k1
      omega
    | succ k =>
      rw [hk] at k1
      obtain ⟨t, t1, t2, t3, t4⟩ := cov_lo k g b k1 e2
      obtain ⟨m2, h4, h5⟩ := isO_ex _ t4
      have := h2 t t2 (fun z => by
        have := and_zero.mp z b t1
        rw [e1, bit_pow, decide_eq_true rfl] at this
        cases this) t3
      rw [opt_of h5] at this
      omega
  rcases h3 with h3 | ⟨t, t1, t2, t3, t4⟩
  · omega
  · have hc : cov f m g := by
      rw [t4, Nat.add_comm]
      refine ⟨t, fun z => ?_, t1, t3, (opt_is hw (d8 hg)).1.1⟩
      rw [z] at t2
      exact t2 (Nat.zero_and _)
    rcases Nat.lt_or_ge m (opt f g) with h | h
    · exact absurd hc (k2 m h)
    · omega
/-- the reference's recursion -/
theorem opt_r (hw : wf f L) {g m : Nat} (hg : g < 256) (h0 : 0 < g) (h2 : ∀ t, mn_d t g = 0 → ¬ t = 0 → fq f t = true → m ≤ opt f (mn_d g t) + 1) (h3 : ∃ t, mn_d t g = 0 ∧ ¬ t = 0 ∧ fq f t = true ∧ m = opt f (mn_d g t) + 1) : m = opt f g := by
  obtain ⟨⟨k1, k2⟩, k3⟩ := opt_is hw hg
  have hle : m ≤ opt f g := by
    cases hk : opt f g with
    | zero =>
      rw [hk] at k1
      have k1 : g = 0 := k1
      omega
    | succ k =>
      rw [hk] at k1
      obtain ⟨t, t1, t2, t3, t4⟩ := k1
      obtain ⟨m2, h4, h5⟩ := isO_ex _ t4
      have := h2 t t2 t1 t3
      rw [opt_of h5] at this
      omega
  obtain ⟨t, t1, t2, t3, t4⟩ := h3
  have hc : cov f m g := by
    rw [t4]
    exact ⟨t, t2, t1, t3, (opt_is hw (d8 hg)).1.1⟩
  rcases Nat.lt_or_ge m (opt f g) with h | h
  · exact absurd hc (k2 m h)
  · omega
end
theorem it_min {P : Nat → Prop} [DecidablePred P] {v : Nat → Nat} {c : Nat} (n : Nat) : mr_it (fun i c => if P i then min c (v i) else c) n c ≤ c ∧ (∀ i, i < n → P i → mr_it (fun i c => if P i then min c (v i) else c) n c ≤ v i) ∧ (mr_it (fun i c => if P i then min c (v i) else c) n c = c ∨ ∃ i, i < n ∧ P i ∧ mr_it (fun i c => if P i then min c (v i) else c) n c = v i) := by
  induction n with
  | zero => exact ⟨Nat.le_refl _, fun i hi => by omega, Or.inl rfl⟩
  | succ n ih =>
    obtain ⟨h1, h2, h3⟩ := ih
    rw [mr_it]
    by_cases hp : P n
    · rw [if_pos hp]
      refine ⟨by omega, fun i hi hpi => ?_, ?_⟩
      · by_cases he : i = n
        · subst he; omega
        · have := h2 i (by omega) hpi; omega
      · by_cases hm : mr_it (fun i c => if P i then min c (v i) else c) n c ≤ v n
        · rw [Nat.min_eq_left hm]
          rcases h3 with h | ⟨i, h4, h5, h6⟩
          · exact Or.inl h
          · exact Or.inr ⟨i, by omega, h5, h6⟩
        · rw [Nat.min_eq_right (by omega)]
          exact Or.inr ⟨n, by omega, hp, rfl⟩
    · rw [if_neg hp]
      refine ⟨h1, fun i hi hpi => ?_, ?_⟩
      · have : i ≠ n := fun z => hp (z ▸ hpi)
        exact h2 i (by omega) hpi
      · rcases h3 with h | ⟨i, h4, h5, h6⟩
        · exact Or.inl h
        · exact Or.inr ⟨i, by omega, h5, h6⟩
/-- the next submask -/
theorem sub_pred : ∀ {s g t : Nat}, s &&& g = s → t &&& g = t → t < s → t ≤ (s - 1) &&& g := by
  intro s
  induction s using Nat.strongRecOn with
  | ind s ih =>
    intro g t hs ht h
    have hs2 := congrArg (· / 2) hs
    have ht2 := congrArg (· / 2) ht
    simp only [Nat.and_div_two] at hs2 ht2
    have hd : ((s - 1) &&& g) / 2 = (s - 1) / 2 &&& g / 2 := Nat.and_div_two
    by_cases hp : s % 2 = 1
    · have e : (s - 1) / 2 = s / 2 := by omega
      rw [e, hs2] at hd
      omega
    · have e : (s - 1) / 2 = s / 2 - 1 := by omega
      rw [e] at hd
      have h3 := ih (s / 2) (by omega) (g := g / 2) (t := t / 2) hs2 ht2 (by omega)
      have h4 : t % 2 = 1 → ((s - 1) &&& g) % 2 = 1 := by
        intro h5
        rw [Nat.and_mod_two_eq_one]
        refine ⟨by omega, ?_⟩
        have : (t &&& g) % 2 = 1 := by rw [ht]; exact h5
        exact (Nat.and_mod_two_eq_one.mp this).2
      omega
theorem d_and {t g : Nat} : mn_d t g = 0 ↔ t &&& g = t := by
  rw [d_sub]
  constructor
  · intro h
    apply d_eq
    intro i
    rw [Nat.testBit_and]
    cases ht : t.testBit i
    · rfl
    · rw [h i ht]; rfl
  · intro h i hi
    rw [← h, Nat.testBit_and, Bool.and_eq_true] at hi
    exact hi.2
theorem and_lt_sub {s g : Nat} (h : 0 < s) : (s - 1) &&& g < s := Nat.lt_of_le_of_lt Nat.and_le_left (by omega)
section
variable {X : mj_X} {d : Nat} {s : mw_S} {f : Nat → Nat} {L : Nat}
theorem c22 (hw : wf f L) (hc : cI s f) {gg : Nat} (hg : gg < 256) (h0 : 0 < gg) (hT : ∀ t, mn_d t gg = 0 → ¬ t &&& lo gg = 0 → s.1 33 (mn_d gg t) = nI (opt f (mn_d gg t))) : mj_call X (d + 3) 22 [.ref 31, .int (nI gg)] (mw_U s) = some (.inl (some (.int (nI (opt f gg)))), mw_U s) := by
  obtain ⟨-, -, e3, e4, -⟩ := lo_is hg h0
  rw [b22, b22_0, e3]
  obtain ⟨hI, g, e⟩ := mr_for (E := fun i c l => mj_exec X (d + 3) 22 11 [some (.ref 31), some (.int (nI gg)), some (.int (nI (lo gg))), some (.int (nI c)), some (.int (nI (lo gg + i))), l] [] (mw_U s)) (F := fun i c => if mn_d (lo gg + i) gg = 0 ∧ ¬ ((lo gg + i) &&& lo gg = 0) ∧ fq f (lo gg + i) = true then min c (1 + opt f (mn_d gg (lo gg + i))) else c) (I := fun i c => c ≤ 8) (N := (gg + 1 - lo gg)) (by
    intro i c l hi hI
    refine ⟨by split <;> omega, ?_⟩
    have hd : mn_d (lo gg + i) gg < 2147483648 := Nat.lt_of_le_of_lt (mn_d_le _ _) (by omega)
    have ha : (lo gg + i) &&& lo gg < 2147483648 := Nat.lt_of_le_of_lt Nat.and_le_left (by omega)
    have hd2 := d8 (t := lo gg + i) hg
    have hm : mn_d gg (lo gg + i) % 256 = mn_d gg (lo gg + i) := Nat.mod_eq_of_lt hd2
    have ho := (opt_is hw hd2).2
    have hge : ∀ n, lo gg + (n + 1) = lo gg + n + 1 := fun _ => rfl
    rw [b22_11, hge]
    by_cases h1 : mn_d (lo gg + i) gg = 0
    · by_cases h2 : (lo gg + i) &&& lo gg = 0
      · refine ⟨some (.int (nI 0)), ?_⟩
        simp (disch := first | assumption | exact hf _ | omega) only [b22, b22_0, b22_17, b22_26, b22_33, b22_37, b22_38, b22_45, b22_51, b22_54, b22_76, b22_82, nI_add, mn_mul, mn_sub, mn_m1, mn_m8, mn_eq, mn_lt, mn_le, mn_eq0, mn_0eq, mn_lt0, mn_0lt, mn_le0, mn_0le, mn_eqm, mn_meq, mn_ltm, mn_mlt, mn_lem, mn_mle, mn_mm1, mn_mm2, mn_mm3, mn_mm4, mn_mm5, mn_mm6, mn_and, mn_or, mn_an, mn_shl, mn_shr, mn_div, mn_rem, mn_clamp, mn_in, mn_inm, mn_nz, mn_zo, mn_min, mn_max, mn_abs, mn_rfit, mn_cp, mn_les, mn_gre, mn_a127, mn_a15, mn_a1, mn_a255, mn_tn0, mn_tn0e, mn_tnr, mn_tnz, mr_get, mr_ne, mr_put, mu_ne, mu_eq, mj_bk_i, mj_bk_v, mj_bk_x, decide_eq_true_eq, decide_true, decide_false, Bool.false_eq_true, Bool.true_eq_false, reduceCtorEq, mt_le_t, mt_le_f, mt_lt_t, mt_lt_f, mt_eq_t, mt_eq_f, mt_ee, not_true_eq_false, not_false_eq_true, and_true, true_and, and_self, Nat.zero_add, Nat.add_zero, Nat.one_mul, Nat.mul_one, Nat.reduceAdd, Nat.reduceMul, Nat.reduceSub, Nat.reducePow, Nat.reduceDiv, Nat.reduceMod, ↓reduceIte, h1, h2, false_and]
      · refine ⟨some (.int (nI 1)), ?_⟩
        have hr := hT _ h1 h2
        cases h3 : fq f (lo gg + i)
        · simp (disch := first | assumption | exact hf _ | omega) only [b22, b22_0, b22_17, b22_26, b22_33, b22_37, b22_38, b22_45, b22_51, b22_54, b22_76, b22_82, nI_add, mn_mul, mn_sub, mn_m1, mn_m8, mn_eq, mn_lt, mn_le, mn_eq0, mn_0eq, mn_lt0, mn_0lt, mn_le0, mn_0le, mn_eqm, mn_meq, mn_ltm, mn_mlt, mn_lem, mn_mle, mn_mm1, mn_mm2, mn_mm3, mn_mm4, mn_mm5, mn_mm6, mn_and, mn_or, mn_an, mn_shl, mn_shr, mn_div, mn_rem, mn_clamp, mn_in, mn_inm, mn_nz, mn_zo, mn_min, mn_max, mn_abs, mn_rfit, mn_cp, mn_les, mn_gre, mn_a127, mn_a15, mn_a1, mn_a255, mn_tn0, mn_tn0e, mn_tnr, mn_tnz, mr_get, mr_ne, mr_put, mu_ne, mu_eq, mj_bk_i, mj_bk_v, mj_bk_x, decide_eq_true_eq, decide_true, decide_false, Bool.false_eq_true, Bool.true_eq_false, reduceCtorEq, mt_le_t, mt_le_f, mt_lt_t, mt_lt_f, mt_eq_t, mt_eq_f, mt_ee, not_true_eq_false, not_false_eq_true, and_true, true_and, and_self, Nat.zero_add, Nat.add_zero, Nat.one_mul, Nat.mul_one, Nat.reduceAdd, Nat.reduceMul, Nat.reduceSub, Nat.reducePow, Nat.reduceDiv, Nat.reduceMod, ↓reduceIte, h1, h2, c23 hw hc (show lo gg + i < 2147483648 by omega), h3]
        · simp (disch := first | assumption | exact hf _ | omega) only [b22, b22_0, b22_17, b22_26, b22_33, b22_37, b22_38, b22_45, b22_51, b22_54, b22_76, b22_82, nI_add, mn_mul, mn_sub, mn_m1, mn_m8, mn_eq, mn_lt, mn_le, mn_eq0, mn_0eq, mn_lt0, mn_0lt, mn_le0, mn_0le, mn_eqm, mn_meq, mn_ltm, mn_mlt, mn_lem, mn_mle, mn_mm1, mn_mm2, mn_mm3, mn_mm4, mn_mm5, mn_mm6, mn_and, mn_or, mn_an, mn_shl, mn_shr, mn_div, mn_rem, mn_clamp, mn_in, mn_inm, mn_nz, mn_zo, mn_min, mn_max, mn_abs, mn_rfit, mn_cp, mn_les, mn_gre, mn_a127, mn_a15, mn_a1, mn_a255, mn_tn0, mn_tn0e, mn_tnr, mn_tnz, mr_get, mr_ne, mr_put, mu_ne, mu_eq, mj_bk_i, mj_bk_v, mj_bk_x, decide_eq_true_eq, decide_true, decide_false, Bool.false_eq_true, Bool.true_eq_false, reduceCtorEq, mt_le_t, mt_le_f, mt_lt_t, mt_lt_f, mt_eq_t, mt_eq_f, mt_ee, not_true_eq_false, not_false_eq_true, and_true, true_and, and_self, Nat.zero_add, Nat.add_zero, Nat.one_mul, Nat.mul_one, Nat.reduceAdd, Nat.reduceMul, Nat.reduceSub, Nat.reducePow, Nat.reduceDiv, Nat.reduceMod, ↓reduceIte, h1, h2, c23 hw hc (show lo gg + i < 2147483648 by omega), h3, hm, hr]
    · refine ⟨some (.int (nI 0)), ?_⟩
      simp (disch := first | assumption | exact hf _ | omega) only [b22, b22_0, b22_17, b22_26, b22_33, b22_37, b22_38, b22_45, b22_51, b22_54, b22_76, b22_82, nI_add, mn_mul, mn_sub, mn_m1, mn_m8, mn_eq, mn_lt, mn_le, mn_eq0, mn_0eq, mn_lt0, mn_0lt, mn_le0, mn_0le, mn_eqm, mn_meq, mn_ltm, mn_mlt, mn_lem, mn_mle, mn_mm1, mn_mm2, mn_mm3, mn_mm4, mn_mm5, mn_mm6, mn_and, mn_or, mn_an, mn_shl, mn_shr, mn_div, mn_rem, mn_clamp, mn_in, mn_inm, mn_nz, mn_zo, mn_min, mn_max, mn_abs, mn_rfit, mn_cp, mn_les, mn_gre, mn_a127, mn_a15, mn_a1, mn_a255, mn_tn0, mn_tn0e, mn_tnr, mn_tnz, mr_get, mr_ne, mr_put, mu_ne, mu_eq, mj_bk_i, mj_bk_v, mj_bk_x, decide_eq_true_eq, decide_true, decide_false, Bool.false_eq_true, Bool.true_eq_false, reduceCtorEq, mt_le_t, mt_le_f, mt_lt_t, mt_lt_f, mt_eq_t, mt_eq_f, mt_ee, not_true_eq_false, not_false_eq_true, and_true, true_and, and_self, Nat.zero_add, Nat.add_zero, Nat.one_mul, Nat.mul_one, Nat.reduceAdd, Nat.reduceMul, Nat.reduceSub, Nat.reducePow, Nat.reduceDiv, Nat.reduceMod, ↓reduceIte, h1, false_and]
  ) (a := 8) (Nat.le_refl 8) none (gg + 1 - lo gg) (Nat.le_refl (gg + 1 - lo gg))
  refine e.trans ?_
  have hmin := it_min (P := fun i => mn_d (lo gg + i) gg = 0 ∧ ¬ ((lo gg + i) &&& lo gg = 0) ∧ fq f (lo gg + i) = true) (v := fun i => 1 + opt f (mn_d gg (lo gg + i))) (c := 8) (gg + 1 - lo gg)
  have eo : mr_it (fun i c => if mn_d (lo gg + i) gg = 0 ∧ ¬ ((lo gg + i) &&& lo gg = 0) ∧ fq f (lo gg + i) = true then min c (1 + opt f (mn_d gg (lo gg + i))) else c) (gg + 1 - lo gg) 8 = opt f gg := by
    refine opt_c hw hg h0 hmin.1 ?_ ?_
    · intro t t1 t2 t3
      obtain ⟨⟨b, hb, q1, q2⟩, -⟩ := lo_is hg h0
      have hlo : lo gg ≤ t := by
        have : lo gg &&& t = lo gg := by
          rw [← d_and, d_sub]
          intro i hi
          rw [q1, bit_pow, decide_eq_true_eq] at hi
          subst hi
          cases hbt : t.testBit b
          · exact absurd (and_zero.mpr (fun j hj => by
              rw [q1, bit_pow, decide_eq_false_iff_not]
              intro z; subst z; rw [hbt] at hj; cases hj)) t2
          · rfl
        rw [← this]; exact Nat.and_le_right
      have hle := d_sub_le t1
      have := hmin.2.1 (t - lo gg) (by omega)
      rw [show lo gg + (t - lo gg) = t by omega] at this
      exact this ⟨t1, t2, t3⟩
    · rcases hmin.2.2 with h | ⟨i, h4, h5, h6⟩
      · exact Or.inl h
      · exact Or.inr ⟨lo gg + i, h5.1, h5.2.1, h5.2.2, h6⟩
  rw [eo] at hI ⊢
  rw [b22_11]
  simp (disch := first | assumption | exact hf _ | omega) only [b22, b22_0, b22_17, b22_26, b22_33, b22_37, b22_38, b22_45, b22_51, b22_54, b22_76, b22_82, nI_add, mn_mul, mn_sub, mn_m1, mn_m8, mn_eq, mn_lt, mn_le, mn_eq0, mn_0eq, mn_lt0, mn_0lt, mn_le0, mn_0le, mn_eqm, mn_meq, mn_ltm, mn_mlt, mn_lem, mn_mle, mn_mm1, mn_mm2, mn_mm3, mn_mm4, mn_mm5, mn_mm6, mn_and, mn_or, mn_an, mn_shl, mn_shr, mn_div, mn_rem, mn_clamp, mn_in, mn_inm, mn_nz, mn_zo, mn_min, mn_max, mn_abs, mn_rfit, mn_cp, mn_les, mn_gre, mn_a127, mn_a15, mn_a1, mn_a255, mn_tn0, mn_tn0e, mn_tnr, mn_tnz, mr_get, mr_ne, mr_put, mu_ne, mu_eq, mj_bk_i, mj_bk_v, mj_bk_x, decide_eq_true_eq, decide_true, decide_false, Bool.false_eq_true, Bool.true_eq_false, reduceCtorEq, mt_le_t, mt_le_f, mt_lt_t, mt_lt_f, mt_eq_t, mt_eq_f, mt_ee, not_true_eq_false, not_false_eq_true, and_true, true_and, and_self, Nat.zero_add, Nat.add_zero, Nat.one_mul, Nat.mul_one, Nat.reduceAdd, Nat.reduceMul, Nat.reduceSub, Nat.reducePow, Nat.reduceDiv, Nat.reduceMod, ↓reduceIte]
theorem c20 (hw : wf f L) (hc : cI s f) : ∃ t, mj_call X (d + 4) 20 [.ref 31] (mw_U s) = some (.inl (some (.int (nI (opt f (f 52))))), mw_U t) ∧ mg s t (fun a => a = 33) := by
  have r33 := mw_r_33
  have h52 := wf_l8 hw
  obtain ⟨t, ⟨h1, h2⟩, e⟩ := mr_forg (α := Unit) (γ := mw_S) (E := fun i _ t => mj_exec X (d + 4) 20 9 [some (.ref 31), some (.int (nI (1 + i)))] [] (mw_U t)) (F := fun _ a => a) (I := fun i _ t => mg s t (fun a => a = 33) ∧ ∀ g, g < 1 + i → mn_d g (f 52) = 0 → t.1 33 g = nI (opt f g)) (N := 255) (by
    intro i _ t hi ⟨h1, h2⟩
    have hc' : cI t f := by
      unfold cI
      rw [h1.2 31 (by decide), h1.2 32 (by decide)]
      exact hc
    rw [b20_9]
    by_cases hl : mn_d (1 + i) (f 52) = 0
    · have h22 := c22 (X := X) (d := d) (s := t) hw hc' (show 1 + i < 256 by omega) (by omega) (fun t' ht' hlo => h2 _ (by
        have : ¬ mn_d (1 + i) t' = 1 + i := fun z => by
          apply hlo
          rw [and_zero]
          intro j hj
          have := d_sub.mp ht' j hj
          have h3 := mn_d_bit (1 + i) t' j
          rw [z, this, hj] at h3
          cases h3
        have := mn_d_le (1 + i) t'
        omega) (by
        rw [d_sub] at hl ⊢
        intro j hj
        rw [mn_d_bit, Bool.and_eq_true] at hj
        exact hl j hj.1))
      refine ⟨mw_p t 33 (1 + i) (nI (opt f (1 + i))), ⟨mg_p h1 rfl, ?_⟩, ?_⟩
      · intro g hgi hgl
        by_cases he : g = 1 + i
        · subst he; rw [mw_peq]
        · rw [mw_pnj he]; exact h2 g (by omega) hgl
      · simp (disch := first | assumption | exact hf _ | omega) only [b20, b20_0, b20_16, b20_21, b20_24, b20_34, b20_35, b20_41, nI_add, mn_mul, mn_sub, mn_m1, mn_m8, mn_eq, mn_lt, mn_le, mn_eq0, mn_0eq, mn_lt0, mn_0lt, mn_le0, mn_0le, mn_eqm, mn_meq, mn_ltm, mn_mlt, mn_lem, mn_mle, mn_mm1, mn_mm2, mn_mm3, mn_mm4, mn_mm5, mn_mm6, mn_and, mn_or, mn_an, mn_shl, mn_shr, mn_div, mn_rem, mn_clamp, mn_in, mn_inm, mn_nz, mn_zo, mn_min, mn_max, mn_abs, mn_rfit, mn_cp, mn_les, mn_gre, mn_a127, mn_a15, mn_a1, mn_a255, mn_tn0, mn_tn0e, mn_tnr, mn_tnz, mr_get, mr_ne, mr_put, mu_ne, mu_eq, mj_bk_i, mj_bk_v, mj_bk_x, decide_eq_true_eq, decide_true, decide_false, Bool.false_eq_true, Bool.true_eq_false, reduceCtorEq, mt_le_t, mt_le_f, mt_lt_t, mt_lt_f, mt_eq_t, mt_eq_f, mt_ee, not_true_eq_false, not_false_eq_true, and_true, true_and, and_self, Nat.zero_add, Nat.add_zero, Nat.one_mul, Nat.mul_one, Nat.reduceAdd, Nat.reduceMul, Nat.reduceSub, Nat.reducePow, Nat.reduceDiv, Nat.reduceMod, ↓reduceIte, c21 hc' (show 1 + i < 2147483648 by omega), hl, h22, Nat.add_assoc]
    · refine ⟨t, ⟨h1, ?_⟩, ?_⟩
      · intro g hgi hgl
        exact h2 g (by
          have : g ≠ 1 + i := fun z => hl (z ▸ hgl)
          omega) hgl
      · simp (disch := first | assumption | exact hf _ | omega) only [b20, b20_0, b20_16, b20_21, b20_24, b20_34, b20_35, b20_41, nI_add, mn_mul, mn_sub, mn_m1, mn_m8, mn_eq, mn_lt, mn_le, mn_eq0, mn_0eq, mn_lt0, mn_0lt, mn_le0, mn_0le, mn_eqm, mn_meq, mn_ltm, mn_mlt, mn_lem, mn_mle, mn_mm1, mn_mm2, mn_mm3, mn_mm4, mn_mm5, mn_mm6, mn_and, mn_or, mn_an, mn_shl, mn_shr, mn_div, mn_rem, mn_clamp, mn_in, mn_inm, mn_nz, mn_zo, mn_min, mn_max, mn_abs, mn_rfit, mn_cp, mn_les, mn_gre, mn_a127, mn_a15, mn_a1, mn_a255, mn_tn0, mn_tn0e, mn_tnr, mn_tnz, mr_get, mr_ne, mr_put, mu_ne, mu_eq, mj_bk_i, mj_bk_v, mj_bk_x, decide_eq_true_eq, decide_true, decide_false, Bool.false_eq_true, Bool.true_eq_false, reduceCtorEq, mt_le_t, mt_le_f, mt_lt_t, mt_lt_f, mt_eq_t, mt_eq_f, mt_ee, not_true_eq_false, not_false_eq_true, and_true, true_and, and_self, Nat.zero_add, Nat.add_zero, Nat.one_mul, Nat.mul_one, Nat.reduceAdd, Nat.reduceMul, Nat.reduceSub, Nat.reducePow, Nat.reduceDiv, Nat.reduceMod, ↓reduceIte, c21 hc' (show 1 + i < 2147483648 by omega), hl, Nat.add_assoc]) (a := ()) (g := mw_p s 33 0 (nI 0)) ⟨mg_p mg_refl rfl, fun g hg _ => by
      rw [show g = 0 by omega, mw_peq, opt_0]⟩ 255 (Nat.le_refl 255)
  refine ⟨t, ?_, h1⟩
  have hz : t.1 31 2 = nI (f 52) := by rw [h1.2 31 (by decide)]; exact hc.1
  have hr := h2 (f 52) (by omega) (d_and.mpr (Nat.and_self _))
  have hm : f 52 % 256 = f 52 := Nat.mod_eq_of_lt h52
  rw [b20, b20_0]
  simp (disch := first | assumption | exact hf _ | omega) only [mn_in, decide_eq_true_eq, mt_lt_t, ↓reduceIte, mn_clamp]
  refine e.trans ?_
  rw [b20_9]
  simp (disch := first | assumption | exact hf _ | omega) only [b20, b20_0, b20_16, b20_21, b20_24, b20_34, b20_35, b20_41, nI_add, mn_mul, mn_sub, mn_m1, mn_m8, mn_eq, mn_lt, mn_le, mn_eq0, mn_0eq, mn_lt0, mn_0lt, mn_le0, mn_0le, mn_eqm, mn_meq, mn_ltm, mn_mlt, mn_lem, mn_mle, mn_mm1, mn_mm2, mn_mm3, mn_mm4, mn_mm5, mn_mm6, mn_and, mn_or, mn_an, mn_shl, mn_shr, mn_div, mn_rem, mn_clamp, mn_in, mn_inm, mn_nz, mn_zo, mn_min, mn_max, mn_abs, mn_rfit, mn_cp, mn_les, mn_gre, mn_a127, mn_a15, mn_a1, mn_a255, mn_tn0, mn_tn0e, mn_tnr, mn_tnz, mr_get, mr_ne, mr_put, mu_ne, mu_eq, mj_bk_i, mj_bk_v, mj_bk_x, decide_eq_true_eq, decide_true, decide_false, Bool.false_eq_true, Bool.true_eq_false, reduceCtorEq, mt_le_t, mt_le_f, mt_lt_t, mt_lt_f, mt_eq_t, mt_eq_f, mt_ee, not_true_eq_false, not_false_eq_true, and_true, true_and, and_self, Nat.zero_add, Nat.add_zero, Nat.one_mul, Nat.mul_one, Nat.reduceAdd, Nat.reduceMul, Nat.reduceSub, Nat.reducePow, Nat.reduceDiv, Nat.reduceMod, ↓reduceIte, hz, hm, hr]
theorem quiet_it (f : Nat → Nat) (g : Nat) : ∀ n b, mr_it (fun p b => b && (!(g.testBit p) || decide (f (56 + p) &&& g = 0))) n b = (b && decide (∀ p, p < n → g.testBit p = true → f (56 + p) &&& g = 0)) := by
  intro n
  induction n with
  | zero => intro b; rw [decide_eq_true (fun p hp => by omega), Bool.and_true]; rfl
  | succ n ih =>
    intro b
    rw [mr_it, ih, Bool.and_assoc]
    congr 1
    rw [Bool.eq_iff_iff, Bool.and_eq_true, Bool.or_eq_true, decide_eq_true_eq, decide_eq_true_eq, decide_eq_true_eq, Bool.not_eq_true']
    constructor
    · rintro ⟨h1, h2⟩ p hp hg
      by_cases he : p = n
      · subst he
        rcases h2 with h2 | h2
        · rw [h2] at hg; cases hg
        · exact h2
      · exact h1 p (by omega) hg
    · intro h
      refine ⟨fun p hp hg => h p (by omega) hg, ?_⟩
      cases hg : g.testBit n
      · exact Or.inl rfl
      · exact Or.inr (h n (by omega) hg)
theorem quiet_n (hw : wf f L) (g : Nat) : mr_it (fun p b => b && (!(g.testBit p) || decide (f (56 + p) &&& g = 0))) (f 55) true = fq f g := by
  rw [quiet_it, Bool.true_and, Bool.eq_iff_iff, decide_eq_true_eq, fq_iff]
  constructor
  · intro h p hp hg
    by_cases hn : p < f 55
    · exact h p hn hg
    · rw [ties_0 hw hp (by omega), Nat.zero_and]
  · intro h p hp hg
    exact h p (by have := wf_n hw; omega) hg
theorem c235 (hw : wf f L) {g : Nat} (hg : g < 2147483648) : mj_call X (d + 3) 235 [.ref 42, .int (nI g)] (mw_U (mp s f)) = some (.inl (some (.int (nI (fq f g).toNat))), mw_U (mp s f)) := by
  have hn := wf_n hw
  rw [b235, b235_0]
  obtain ⟨hI, g, e⟩ := mr_for (E := fun i b (_ : Unit) => mj_exec X (d + 3) 235 4 [some (.ref 42), some (.int (nI g)), some (.int (nI (Bool.toNat b))), some (.int (nI i))] [] (mw_U (mp s f))) (F := fun p (b : Bool) => b && (!(g.testBit p) || decide (f (56 + p) &&& g = 0))) (I := fun i c => True) (N := (f 55)) (by
    intro i b _ hi hI
    refine ⟨trivial, (), ?_⟩
    have ht := wf_t hw (show i < 8 by omega)
    have hl : f (56 + i) &&& g < 2147483648 := Nat.lt_of_le_of_lt Nat.and_le_left (by omega)
    rw [b235_4]
    cases b
    · simp (disch := first | assumption | exact hf _ | omega) only [b235, b235_0, b235_14, b235_18, b235_23, b235_26, b235_31, b235_36, b235_40, b235_41, b235_48, nI_add, mn_mul, mn_sub, mn_m1, mn_m8, mn_eq, mn_lt, mn_le, mn_eq0, mn_0eq, mn_lt0, mn_0lt, mn_le0, mn_0le, mn_eqm, mn_meq, mn_ltm, mn_mlt, mn_lem, mn_mle, mn_mm1, mn_mm2, mn_mm3, mn_mm4, mn_mm5, mn_mm6, mn_and, mn_or, mn_an, mn_shl, mn_shr, mn_div, mn_rem, mn_clamp, mn_in, mn_inm, mn_nz, mn_zo, mn_min, mn_max, mn_abs, mn_rfit, mn_cp, mn_les, mn_gre, mn_a127, mn_a15, mn_a1, mn_a255, mn_tn0, mn_tn0e, mn_tnr, mn_tnz, mr_get, mr_ne, mr_put, mu_ne, mu_eq, mj_bk_i, mj_bk_v, mj_bk_x, decide_eq_true_eq, decide_true, decide_false, Bool.false_eq_true, Bool.true_eq_false, reduceCtorEq, mt_le_t, mt_le_f, mt_lt_t, mt_lt_f, mt_eq_t, mt_eq_f, mt_ee, not_true_eq_false, not_false_eq_true, and_true, true_and, and_self, Nat.zero_add, Nat.add_zero, Nat.one_mul, Nat.mul_one, Nat.reduceAdd, Nat.reduceMul, Nat.reduceSub, Nat.reducePow, Nat.reduceDiv, Nat.reduceMod, ↓reduceIte, mp_h, mp_w, mp_c, mp_s, mp_d, mp_n, mp_54, mp_52, mp_55, mp_l, mp_o, mp_42, mp_45, gh_gp, gw_gp, gc_gp, mw_pne, Nat.or_zero, Bool.toNat_false, Bool.false_and]
    · cases h : g.testBit i
      · simp (disch := first | assumption | exact hf _ | omega) only [b235, b235_0, b235_14, b235_18, b235_23, b235_26, b235_31, b235_36, b235_40, b235_41, b235_48, nI_add, mn_mul, mn_sub, mn_m1, mn_m8, mn_eq, mn_lt, mn_le, mn_eq0, mn_0eq, mn_lt0, mn_0lt, mn_le0, mn_0le, mn_eqm, mn_meq, mn_ltm, mn_mlt, mn_lem, mn_mle, mn_mm1, mn_mm2, mn_mm3, mn_mm4, mn_mm5, mn_mm6, mn_and, mn_or, mn_an, mn_shl, mn_shr, mn_div, mn_rem, mn_clamp, mn_in, mn_inm, mn_nz, mn_zo, mn_min, mn_max, mn_abs, mn_rfit, mn_cp, mn_les, mn_gre, mn_a127, mn_a15, mn_a1, mn_a255, mn_tn0, mn_tn0e, mn_tnr, mn_tnz, mr_get, mr_ne, mr_put, mu_ne, mu_eq, mj_bk_i, mj_bk_v, mj_bk_x, decide_eq_true_eq, decide_true, decide_false, Bool.false_eq_true, Bool.true_eq_false, reduceCtorEq, mt_le_t, mt_le_f, mt_lt_t, mt_lt_f, mt_eq_t, mt_eq_f, mt_ee, not_true_eq_false, not_false_eq_true, and_true, true_and, and_self, Nat.zero_add, Nat.add_zero, Nat.one_mul, Nat.mul_one, Nat.reduceAdd, Nat.reduceMul, Nat.reduceSub, Nat.reducePow, Nat.reduceDiv, Nat.reduceMod, ↓reduceIte, mp_h, mp_w, mp_c, mp_s, mp_d, mp_n, mp_54, mp_52, mp_55, mp_l, mp_o, mp_42, mp_45, gh_gp, gw_gp, gc_gp, mw_pne, Nat.or_zero, Bool.toNat_true, c236, h, Bool.toNat_false, Bool.not_false, Bool.true_or, Bool.and_self]
      · by_cases h2 : f (56 + i) &&& g = 0
        · simp (disch := first | assumption | exact hf _ | omega) only [b235, b235_0, b235_14, b235_18, b235_23, b235_26, b235_31, b235_36, b235_40, b235_41, b235_48, nI_add, mn_mul, mn_sub, mn_m1, mn_m8, mn_eq, mn_lt, mn_le, mn_eq0, mn_0eq, mn_lt0, mn_0lt, mn_le0, mn_0le, mn_eqm, mn_meq, mn_ltm, mn_mlt, mn_lem, mn_mle, mn_mm1, mn_mm2, mn_mm3, mn_mm4, mn_mm5, mn_mm6, mn_and, mn_or, mn_an, mn_shl, mn_shr, mn_div, mn_rem, mn_clamp, mn_in, mn_inm, mn_nz, mn_zo, mn_min, mn_max, mn_abs, mn_rfit, mn_cp, mn_les, mn_gre, mn_a127, mn_a15, mn_a1, mn_a255, mn_tn0, mn_tn0e, mn_tnr, mn_tnz, mr_get, mr_ne, mr_put, mu_ne, mu_eq, mj_bk_i, mj_bk_v, mj_bk_x, decide_eq_true_eq, decide_true, decide_false, Bool.false_eq_true, Bool.true_eq_false, reduceCtorEq, mt_le_t, mt_le_f, mt_lt_t, mt_lt_f, mt_eq_t, mt_eq_f, mt_ee, not_true_eq_false, not_false_eq_true, and_true, true_and, and_self, Nat.zero_add, Nat.add_zero, Nat.one_mul, Nat.mul_one, Nat.reduceAdd, Nat.reduceMul, Nat.reduceSub, Nat.reducePow, Nat.reduceDiv, Nat.reduceMod, ↓reduceIte, mp_h, mp_w, mp_c, mp_s, mp_d, mp_n, mp_54, mp_52, mp_55, mp_l, mp_o, mp_42, mp_45, gh_gp, gw_gp, gc_gp, mw_pne, Nat.or_zero, Bool.toNat_true, c236, h, c228 hw (show i < 8 by omega), h2, Bool.or_true, Bool.and_self]
        · simp (disch := first | assumption | exact hf _ | omega) only [b235, b235_0, b235_14, b235_18, b235_23, b235_26, b235_31, b235_36, b235_40, b235_41, b235_48, nI_add, mn_mul, mn_sub, mn_m1, mn_m8, mn_eq, mn_lt, mn_le, mn_eq0, mn_0eq, mn_lt0, mn_0lt, mn_le0, mn_0le, mn_eqm, mn_meq, mn_ltm, mn_mlt, mn_lem, mn_mle, mn_mm1, mn_mm2, mn_mm3, mn_mm4, mn_mm5, mn_mm6, mn_and, mn_or, mn_an, mn_shl, mn_shr, mn_div, mn_rem, mn_clamp, mn_in, mn_inm, mn_nz, mn_zo, mn_min, mn_max, mn_abs, mn_rfit, mn_cp, mn_les, mn_gre, mn_a127, mn_a15, mn_a1, mn_a255, mn_tn0, mn_tn0e, mn_tnr, mn_tnz, mr_get, mr_ne, mr_put, mu_ne, mu_eq, mj_bk_i, mj_bk_v, mj_bk_x, decide_eq_true_eq, decide_true, decide_false, Bool.false_eq_true, Bool.true_eq_false, reduceCtorEq, mt_le_t, mt_le_f, mt_lt_t, mt_lt_f, mt_eq_t, mt_eq_f, mt_ee, not_true_eq_false, not_false_eq_true, and_true, true_and, and_self, Nat.zero_add, Nat.add_zero, Nat.one_mul, Nat.mul_one, Nat.reduceAdd, Nat.reduceMul, Nat.reduceSub, Nat.reducePow, Nat.reduceDiv, Nat.reduceMod, ↓reduceIte, mp_h, mp_w, mp_c, mp_s, mp_d, mp_n, mp_54, mp_52, mp_55, mp_l, mp_o, mp_42, mp_45, gh_gp, gw_gp, gc_gp, mw_pne, Nat.or_zero, Bool.toNat_true, c236, h, c228 hw (show i < 8 by omega), h2, Bool.not_true, Bool.or_false, Bool.and_false, Bool.toNat_false]
  ) (a := true) trivial () (f 55) (Nat.le_refl (f 55))
  refine e.trans ?_
  rw [b235_4, quiet_n hw]
  simp (disch := first | assumption | exact hf _ | omega) only [b235, b235_0, b235_14, b235_18, b235_23, b235_26, b235_31, b235_36, b235_40, b235_41, b235_48, nI_add, mn_mul, mn_sub, mn_m1, mn_m8, mn_eq, mn_lt, mn_le, mn_eq0, mn_0eq, mn_lt0, mn_0lt, mn_le0, mn_0le, mn_eqm, mn_meq, mn_ltm, mn_mlt, mn_lem, mn_mle, mn_mm1, mn_mm2, mn_mm3, mn_mm4, mn_mm5, mn_mm6, mn_and, mn_or, mn_an, mn_shl, mn_shr, mn_div, mn_rem, mn_clamp, mn_in, mn_inm, mn_nz, mn_zo, mn_min, mn_max, mn_abs, mn_rfit, mn_cp, mn_les, mn_gre, mn_a127, mn_a15, mn_a1, mn_a255, mn_tn0, mn_tn0e, mn_tnr, mn_tnz, mr_get, mr_ne, mr_put, mu_ne, mu_eq, mj_bk_i, mj_bk_v, mj_bk_x, decide_eq_true_eq, decide_true, decide_false, Bool.false_eq_true, Bool.true_eq_false, reduceCtorEq, mt_le_t, mt_le_f, mt_lt_t, mt_lt_f, mt_eq_t, mt_eq_f, mt_ee, not_true_eq_false, not_false_eq_true, and_true, true_and, and_self, Nat.zero_add, Nat.add_zero, Nat.one_mul, Nat.mul_one, Nat.reduceAdd, Nat.reduceMul, Nat.reduceSub, Nat.reducePow, Nat.reduceDiv, Nat.reduceMod, ↓reduceIte, mp_h, mp_w, mp_c, mp_s, mp_d, mp_n, mp_54, mp_52, mp_55, mp_l, mp_o, mp_42, mp_45, gh_gp, gw_gp, gc_gp, mw_pne, Nat.or_zero]
theorem c237 (hw : wf f L) : mj_call X (d + 4) 237 [.ref 42] (mw_U (mp s f)) = some (.inl (some (.int (nI (fn_ask f)))), mw_U (mp s f)) := by
  have hn := wf_n hw
  have h8 := p8_le hn
  have hpos := Nat.two_pow_pos (f 55)
  rw [b237, b237_0]
  obtain ⟨hI, g, e⟩ := mr_for (E := fun i c (_ : Unit) => mj_exec X (d + 4) 237 4 [some (.ref 42), some (.int (nI c)), some (.int (nI i))] [] (mw_U (mp s f))) (F := fun g b => if fn_cnt b < fn_cnt g ∧ mn_d g (f 52) = 0 ∧ fq f g = true then g else b) (I := fun i c => c < 256) (N := (2 ^ f 55)) (by
    intro i c _ hi hI
    refine ⟨by split <;> omega, (), ?_⟩
    have b1 := fn_cnt_le i
    have b2 := fn_cnt_le c
    have hd : mn_d i (f 52) < 2147483648 := Nat.lt_of_le_of_lt (mn_d_le _ _) (by omega)
    rw [b237_4]
    by_cases h2 : mn_d i (f 52) = 0
    · by_cases h1 : fn_cnt c < fn_cnt i
      · cases h3 : fq f i
        · simp (disch := first | assumption | exact hf _ | omega) only [b237, b237_0, b237_16, b237_27, b237_31, b237_35, b237_38, b237_43, b237_46, b237_48, b237_54, nI_add, mn_mul, mn_sub, mn_m1, mn_m8, mn_eq, mn_lt, mn_le, mn_eq0, mn_0eq, mn_lt0, mn_0lt, mn_le0, mn_0le, mn_eqm, mn_meq, mn_ltm, mn_mlt, mn_lem, mn_mle, mn_mm1, mn_mm2, mn_mm3, mn_mm4, mn_mm5, mn_mm6, mn_and, mn_or, mn_an, mn_shl, mn_shr, mn_div, mn_rem, mn_clamp, mn_in, mn_inm, mn_nz, mn_zo, mn_min, mn_max, mn_abs, mn_rfit, mn_cp, mn_les, mn_gre, mn_a127, mn_a15, mn_a1, mn_a255, mn_tn0, mn_tn0e, mn_tnr, mn_tnz, mr_get, mr_ne, mr_put, mu_ne, mu_eq, mj_bk_i, mj_bk_v, mj_bk_x, decide_eq_true_eq, decide_true, decide_false, Bool.false_eq_true, Bool.true_eq_false, reduceCtorEq, mt_le_t, mt_le_f, mt_lt_t, mt_lt_f, mt_eq_t, mt_eq_f, mt_ee, not_true_eq_false, not_false_eq_true, and_true, true_and, and_self, Nat.zero_add, Nat.add_zero, Nat.one_mul, Nat.mul_one, Nat.reduceAdd, Nat.reduceMul, Nat.reduceSub, Nat.reducePow, Nat.reduceDiv, Nat.reduceMod, ↓reduceIte, mp_h, mp_w, mp_c, mp_s, mp_d, mp_n, mp_54, mp_52, mp_55, mp_l, mp_o, mp_42, mp_45, gh_gp, gw_gp, gc_gp, mw_pne, Nat.or_zero, h1, h2, h3, c230 (show i < 1024 by omega), c230 (show c < 1024 by omega), c235 hw (show i < 2147483648 by omega)]
        · simp (disch := first | assumption | exact hf _ | omega) only [b237, b237_0, b237_16, b237_27, b237_31, b237_35, b237_38, b237_43, b237_46, b237_48, b237_54, nI_add, mn_mul, mn_sub, mn_m1, mn_m8, mn_eq, mn_lt, mn_le, mn_eq0, mn_0eq, mn_lt0, mn_0lt, mn_le0, mn_0le, mn_eqm, mn_meq, mn_ltm, mn_mlt, mn_lem, mn_mle, mn_mm1, mn_mm2, mn_mm3, mn_mm4, mn_mm5, mn_mm6, mn_and, mn_or, mn_an, mn_shl, mn_shr, mn_div, mn_rem, mn_clamp, mn_in, mn_inm, mn_nz, mn_zo, mn_min, mn_max, mn_abs, mn_rfit, mn_cp, mn_les, mn_gre, mn_a127, mn_a15, mn_a1, mn_a255, mn_tn0, mn_tn0e, mn_tnr, mn_tnz, mr_get, mr_ne, mr_put, mu_ne, mu_eq, mj_bk_i, mj_bk_v, mj_bk_x, decide_eq_true_eq, decide_true, decide_false, Bool.false_eq_true, Bool.true_eq_false, reduceCtorEq, mt_le_t, mt_le_f, mt_lt_t, mt_lt_f, mt_eq_t, mt_eq_f, mt_ee, not_true_eq_false, not_false_eq_true, and_true, true_and, and_self, Nat.zero_add, Nat.add_zero, Nat.one_mul, Nat.mul_one, Nat.reduceAdd, Nat.reduceMul, Nat.reduceSub, Nat.reducePow, Nat.reduceDiv, Nat.reduceMod, ↓reduceIte, mp_h, mp_w, mp_c, mp_s, mp_d, mp_n, mp_54, mp_52, mp_55, mp_l, mp_o, mp_42, mp_45, gh_gp, gw_gp, gc_gp, mw_pne, Nat.or_zero, h1, h2, h3, c230 (show i < 1024 by omega), c230 (show c < 1024 by omega), c235 hw (show i < 2147483648 by omega)]
      · simp (disch := first | assumption | exact hf _ | omega) only [b237, b237_0, b237_16, b237_27, b237_31, b237_35, b237_38, b237_43, b237_46, b237_48, b237_54, nI_add, mn_mul, mn_sub, mn_m1, mn_m8, mn_eq, mn_lt, mn_le, mn_eq0, mn_0eq, mn_lt0, mn_0lt, mn_le0, mn_0le, mn_eqm, mn_meq, mn_ltm, mn_mlt, mn_lem, mn_mle, mn_mm1, mn_mm2, mn_mm3, mn_mm4, mn_mm5, mn_mm6, mn_and, mn_or, mn_an, mn_shl, mn_shr, mn_div, mn_rem, mn_clamp, mn_in, mn_inm, mn_nz, mn_zo, mn_min, mn_max, mn_abs, mn_rfit, mn_cp, mn_les, mn_gre, mn_a127, mn_a15, mn_a1, mn_a255, mn_tn0, mn_tn0e, mn_tnr, mn_tnz, mr_get, mr_ne, mr_put, mu_ne, mu_eq, mj_bk_i, mj_bk_v, mj_bk_x, decide_eq_true_eq, decide_true, decide_false, Bool.false_eq_true, Bool.true_eq_false, reduceCtorEq, mt_le_t, mt_le_f, mt_lt_t, mt_lt_f, mt_eq_t, mt_eq_f, mt_ee, not_true_eq_false, not_false_eq_true, and_true, true_and, and_self, Nat.zero_add, Nat.add_zero, Nat.one_mul, Nat.mul_one, Nat.reduceAdd, Nat.reduceMul, Nat.reduceSub, Nat.reducePow, Nat.reduceDiv, Nat.reduceMod, ↓reduceIte, mp_h, mp_w, mp_c, mp_s, mp_d, mp_n, mp_54, mp_52, mp_55, mp_l, mp_o, mp_42, mp_45, gh_gp, gw_gp, gc_gp, mw_pne, Nat.or_zero, h1, h2, c230 (show i < 1024 by omega), c230 (show c < 1024 by omega), false_and]
    · simp (disch := first | assumption | exact hf _ | omega) only [b237, b237_0, b237_16, b237_27, b237_31, b237_35, b237_38, b237_43, b237_46, b237_48, b237_54, nI_add, mn_mul, mn_sub, mn_m1, mn_m8, mn_eq, mn_lt, mn_le, mn_eq0, mn_0eq, mn_lt0, mn_0lt, mn_le0, mn_0le, mn_eqm, mn_meq, mn_ltm, mn_mlt, mn_lem, mn_mle, mn_mm1, mn_mm2, mn_mm3, mn_mm4, mn_mm5, mn_mm6, mn_and, mn_or, mn_an, mn_shl, mn_shr, mn_div, mn_rem, mn_clamp, mn_in, mn_inm, mn_nz, mn_zo, mn_min, mn_max, mn_abs, mn_rfit, mn_cp, mn_les, mn_gre, mn_a127, mn_a15, mn_a1, mn_a255, mn_tn0, mn_tn0e, mn_tnr, mn_tnz, mr_get, mr_ne, mr_put, mu_ne, mu_eq, mj_bk_i, mj_bk_v, mj_bk_x, decide_eq_true_eq, decide_true, decide_false, Bool.false_eq_true, Bool.true_eq_false, reduceCtorEq, mt_le_t, mt_le_f, mt_lt_t, mt_lt_f, mt_eq_t, mt_eq_f, mt_ee, not_true_eq_false, not_false_eq_true, and_true, true_and, and_self, Nat.zero_add, Nat.add_zero, Nat.one_mul, Nat.mul_one, Nat.reduceAdd, Nat.reduceMul, Nat.reduceSub, Nat.reducePow, Nat.reduceDiv, Nat.reduceMod, ↓reduceIte, mp_h, mp_w, mp_c, mp_s, mp_d, mp_n, mp_54, mp_52, mp_55, mp_l, mp_o, mp_42, mp_45, gh_gp, gw_gp, gc_gp, mw_pne, Nat.or_zero, h2, and_false, false_and]
  ) (a := 0) (by decide) () (2 ^ f 55) (Nat.le_refl (2 ^ f 55))
  refine e.trans ?_
  have ee : mr_it (fun g b => if fn_cnt b < fn_cnt g ∧ mn_d g (f 52) = 0 ∧ fq f g = true then g else b) 256 0 = mr_it (fun g b => if fn_cnt b < fn_cnt g ∧ mn_d g (f 52) = 0 ∧ fq f g = true then g else b) (2 ^ f 55) 0 := mr_it_ext h8 (fun g b h1 h2 => if_neg (fun z => by
    have := d_sub_le z.2.1
    have := wf_l hw
    omega))
  rw [b237_4, ← ee]
  simp (disch := first | assumption | exact hf _ | omega) only [b237, b237_0, b237_16, b237_27, b237_31, b237_35, b237_38, b237_43, b237_46, b237_48, b237_54, nI_add, mn_mul, mn_sub, mn_m1, mn_m8, mn_eq, mn_lt, mn_le, mn_eq0, mn_0eq, mn_lt0, mn_0lt, mn_le0, mn_0le, mn_eqm, mn_meq, mn_ltm, mn_mlt, mn_lem, mn_mle, mn_mm1, mn_mm2, mn_mm3, mn_mm4, mn_mm5, mn_mm6, mn_and, mn_or, mn_an, mn_shl, mn_shr, mn_div, mn_rem, mn_clamp, mn_in, mn_inm, mn_nz, mn_zo, mn_min, mn_max, mn_abs, mn_rfit, mn_cp, mn_les, mn_gre, mn_a127, mn_a15, mn_a1, mn_a255, mn_tn0, mn_tn0e, mn_tnr, mn_tnz, mr_get, mr_ne, mr_put, mu_ne, mu_eq, mj_bk_i, mj_bk_v, mj_bk_x, decide_eq_true_eq, decide_true, decide_false, Bool.false_eq_true, Bool.true_eq_false, reduceCtorEq, mt_le_t, mt_le_f, mt_lt_t, mt_lt_f, mt_eq_t, mt_eq_f, mt_ee, not_true_eq_false, not_false_eq_true, and_true, true_and, and_self, Nat.zero_add, Nat.add_zero, Nat.one_mul, Nat.mul_one, Nat.reduceAdd, Nat.reduceMul, Nat.reduceSub, Nat.reducePow, Nat.reduceDiv, Nat.reduceMod, ↓reduceIte, mp_h, mp_w, mp_c, mp_s, mp_d, mp_n, mp_54, mp_52, mp_55, mp_l, mp_o, mp_42, mp_45, gh_gp, gw_gp, gc_gp, mw_pne, Nat.or_zero]
  rfl
theorem c234 (hw : wf f L) : ∃ t, mj_call X (d + 4) 234 [.ref 42] (mw_U (mp s f)) = some (.inl (some (.int (nI (opt f (f 52))))), mw_U (mp t f)) ∧ mg s t (fun a => a = 65) := by
  have h52 := wf_l8 hw
  obtain ⟨t, ⟨h1, h2⟩, e⟩ := mr_forg (α := Unit) (γ := mw_S × Option Value) (E := fun i _ t => mj_exec X (d + 4) 234 9 [some (.ref 42), some (.int (nI (1 + i))), t.2] [] (mw_U (mp t.1 f))) (F := fun _ a => a) (I := fun i _ t => mg s t.1 (fun a => a = 65) ∧ ∀ g, g < 1 + i → t.1.1 65 g = nI (opt f g)) (N := f 52) (by
    intro i _ t hi ⟨h1, h2⟩
    obtain ⟨t, l2⟩ := t
    dsimp only at h1 h2 ⊢
    have hg : 1 + i < 256 := by omega
    have loop : ∀ q, q &&& (1 + i) = q → ∀ t1 m, m ≤ 100000 → mg s t1 (fun a => a = 65) → (∀ g, g < 1 + i → t1.1 65 g = nI (opt f g)) → t1.1 65 (1 + i) = nI m → ∃ t2 m2, mj_exec X (d + 4) 234 27 [some (.ref 42), some (.int (nI (1 + i))), some (.int (nI q))] [] (mw_U (mp t1 f)) = mj_exec X (d + 4) 234 87 [some (.ref 42), some (.int (nI (1 + i))), some (.int (nI 0))] [] (mw_U (mp t2 f)) ∧ mg s t2 (fun a => a = 65) ∧ (∀ g, g < 1 + i → t2.1 65 g = nI (opt f g)) ∧ t2.1 65 (1 + i) = nI m2 ∧ m2 ≤ m ∧ (∀ u, mn_d u (1 + i) = 0 → ¬ u = 0 → u ≤ q → fq f u = true → m2 ≤ opt f (mn_d (1 + i) u) + 1) ∧ (m2 = m ∨ ∃ u, mn_d u (1 + i) = 0 ∧ ¬ u = 0 ∧ fq f u = true ∧ m2 = opt f (mn_d (1 + i) u) + 1) := by
      intro q
      induction q using Nat.strongRecOn with
      | ind q ih =>
        intro hq t1 m hm hmg hlow hat
        by_cases hq0 : q = 0
        · subst hq0
          refine ⟨t1, m, ?_, hmg, hlow, hat, Nat.le_refl m, fun u _ h3 h4 => by omega, Or.inl rfl⟩
          rw [b234_27]
          simp (disch := first | assumption | exact hf _ | omega) only [b234, b234_0, b234_17, b234_31, b234_52, b234_57, b234_60, b234_78, b234_87, b234_93, nI_add, mn_mul, mn_sub, mn_m1, mn_m8, mn_eq, mn_lt, mn_le, mn_eq0, mn_0eq, mn_lt0, mn_0lt, mn_le0, mn_0le, mn_eqm, mn_meq, mn_ltm, mn_mlt, mn_lem, mn_mle, mn_mm1, mn_mm2, mn_mm3, mn_mm4, mn_mm5, mn_mm6, mn_and, mn_or, mn_an, mn_shl, mn_shr, mn_div, mn_rem, mn_clamp, mn_in, mn_inm, mn_nz, mn_zo, mn_min, mn_max, mn_abs, mn_rfit, mn_cp, mn_les, mn_gre, mn_a127, mn_a15, mn_a1, mn_a255, mn_tn0, mn_tn0e, mn_tnr, mn_tnz, mr_get, mr_ne, mr_put, mu_ne, mu_eq, mj_bk_i, mj_bk_v, mj_bk_x, decide_eq_true_eq, decide_true, decide_false, Bool.false_eq_true, Bool.true_eq_false, reduceCtorEq, mt_le_t, mt_le_f, mt_lt_t, mt_lt_f, mt_eq_t, mt_eq_f, mt_ee, not_true_eq_false, not_false_eq_true, and_true, true_and, and_self, Nat.zero_add, Nat.add_zero, Nat.one_mul, Nat.mul_one, Nat.reduceAdd, Nat.reduceMul, Nat.reduceSub, Nat.reducePow, Nat.reduceDiv, Nat.reduceMod, ↓reduceIte, mp_h, mp_w, mp_c, mp_s, mp_d, mp_n, mp_54, mp_52, mp_55, mp_l, mp_o, mp_42, mp_45, gh_gp, gw_gp, gc_gp, mw_pne, Nat.or_zero]
        · have hqle : q ≤ 1 + i := by rw [← hq]; exact Nat.and_le_right
          have hd8 := d8 (t := q) hg
          have hdlt : mn_d (1 + i) q < 1 + i := by
            have h3 : ¬ mn_d (1 + i) q = 1 + i := fun z => by
              apply hq0
              apply d_eq
              intro j
              rw [Nat.zero_testBit]
              cases hj : q.testBit j
              · rfl
              · have h4 := d_sub.mp (d_and.mpr hq) j hj
                have h5 := mn_d_bit (1 + i) q j
                rw [z, h4, hj] at h5
                cases h5
            have := mn_d_le (1 + i) q
            omega
          have hr := hlow _ hdlt
          have ho := (opt_is hw hd8).2
          have hnext : ((q - 1) &&& (1 + i)) &&& (1 + i) = (q - 1) &&& (1 + i) := by rw [Nat.and_assoc, Nat.and_self]
          have hlt := and_lt_sub (s := q) (g := 1 + i) (by omega)
          have hcov : ∀ u, mn_d u (1 + i) = 0 → u ≤ q → ¬ u = q → u ≤ (q - 1) &&& (1 + i) := fun u h3 h4 h5 => sub_pred hq (d_and.mp h3) (by omega)
          by_cases hc1 : m ≤ opt f (mn_d (1 + i) q) + 1
          · obtain ⟨t2, m2, k1, k2, k3, k4, k5, k6, k7⟩ := ih _ hlt hnext t1 m hm hmg hlow hat
            refine ⟨t2, m2, ?_, k2, k3, k4, k5, ?_, k7⟩
            · rw [b234_27]
              simp (disch := first | assumption | exact hf _ | omega) only [b234, b234_0, b234_17, b234_31, b234_52, b234_57, b234_60, b234_78, b234_87, b234_93, nI_add, mn_mul, mn_sub, mn_m1, mn_m8, mn_eq, mn_lt, mn_le, mn_eq0, mn_0eq, mn_lt0, mn_0lt, mn_le0, mn_0le, mn_eqm, mn_meq, mn_ltm, mn_mlt, mn_lem, mn_mle, mn_mm1, mn_mm2, mn_mm3, mn_mm4, mn_mm5, mn_mm6, mn_and, mn_or, mn_an, mn_shl, mn_shr, mn_div, mn_rem, mn_clamp, mn_in, mn_inm, mn_nz, mn_zo, mn_min, mn_max, mn_abs, mn_rfit, mn_cp, mn_les, mn_gre, mn_a127, mn_a15, mn_a1, mn_a255, mn_tn0, mn_tn0e, mn_tnr, mn_tnz, mr_get, mr_ne, mr_put, mu_ne, mu_eq, mj_bk_i, mj_bk_v, mj_bk_x, decide_eq_true_eq, decide_true, decide_false, Bool.false_eq_true, Bool.true_eq_false, reduceCtorEq, mt_le_t, mt_le_f, mt_lt_t, mt_lt_f, mt_eq_t, mt_eq_f, mt_ee, not_true_eq_false, not_false_eq_true, and_true, true_and, and_self, Nat.zero_add, Nat.add_zero, Nat.one_mul, Nat.mul_one, Nat.reduceAdd, Nat.reduceMul, Nat.reduceSub, Nat.reducePow, Nat.reduceDiv, Nat.reduceMod, ↓reduceIte, mp_h, mp_w, mp_c, mp_s, mp_d, mp_n, mp_54, mp_52, mp_55, mp_l, mp_o, mp_42, mp_45, gh_gp, gw_gp, gc_gp, mw_pne, Nat.or_zero, hr, hat, hc1, hq0]
              simp only [b234_87, nI_add] at k1
              exact k1
            · intro u u1 u2 u3 u4
              by_cases he : u = q
              · subst he; omega
              · exact k6 u u1 u2 (hcov u u1 u3 he) u4
          · cases hfq : fq f q
            · obtain ⟨t2, m2, k1, k2, k3, k4, k5, k6, k7⟩ := ih _ hlt hnext t1 m hm hmg hlow hat
              refine ⟨t2, m2, ?_, k2, k3, k4, k5, ?_, k7⟩
              · rw [b234_27]
                simp (disch := first | assumption | exact hf _ | omega) only [b234, b234_0, b234_17, b234_31, b234_52, b234_57, b234_60, b234_78, b234_87, b234_93, nI_add, mn_mul, mn_sub, mn_m1, mn_m8, mn_eq, mn_lt, mn_le, mn_eq0, mn_0eq, mn_lt0, mn_0lt, mn_le0, mn_0le, mn_eqm, mn_meq, mn_ltm, mn_mlt, mn_lem, mn_mle, mn_mm1, mn_mm2, mn_mm3, mn_mm4, mn_mm5, mn_mm6, mn_and, mn_or, mn_an, mn_shl, mn_shr, mn_div, mn_rem, mn_clamp, mn_in, mn_inm, mn_nz, mn_zo, mn_min, mn_max, mn_abs, mn_rfit, mn_cp, mn_les, mn_gre, mn_a127, mn_a15, mn_a1, mn_a255, mn_tn0, mn_tn0e, mn_tnr, mn_tnz, mr_get, mr_ne, mr_put, mu_ne, mu_eq, mj_bk_i, mj_bk_v, mj_bk_x, decide_eq_true_eq, decide_true, decide_false, Bool.false_eq_true, Bool.true_eq_false, reduceCtorEq, mt_le_t, mt_le_f, mt_lt_t, mt_lt_f, mt_eq_t, mt_eq_f, mt_ee, not_true_eq_false, not_false_eq_true, and_true, true_and, and_self, Nat.zero_add, Nat.add_zero, Nat.one_mul, Nat.mul_one, Nat.reduceAdd, Nat.reduceMul, Nat.reduceSub, Nat.reducePow, Nat.reduceDiv, Nat.reduceMod, ↓reduceIte, mp_h, mp_w, mp_c, mp_s, mp_d, mp_n, mp_54, mp_52, mp_55, mp_l, mp_o, mp_42, mp_45, gh_gp, gw_gp, gc_gp, mw_pne, Nat.or_zero, hr, hat, hc1, hq0, c235 hw (show q < 2147483648 by omega), hfq]
                simp only [b234_87, nI_add] at k1
                exact k1
              · intro u u1 u2 u3 u4
                by_cases he : u = q
                · subst he; rw [hfq] at u4; cases u4
                · exact k6 u u1 u2 (hcov u u1 u3 he) u4
            · obtain ⟨t2, m2, k1, k2, k3, k4, k5, k6, k7⟩ := ih _ hlt hnext (mw_p t1 65 (1 + i) (nI (opt f (mn_d (1 + i) q) + 1))) (opt f (mn_d (1 + i) q) + 1) (by omega) (mg_p hmg rfl) (fun g hgl => by rw [mw_pnj (by omega)]; exact hlow g hgl) mw_peq
              refine ⟨t2, m2, ?_, k2, k3, k4, by omega, ?_, ?_⟩
              · rw [b234_27]
                simp (disch := first | assumption | exact hf _ | omega) only [b234, b234_0, b234_17, b234_31, b234_52, b234_57, b234_60, b234_78, b234_87, b234_93, nI_add, mn_mul, mn_sub, mn_m1, mn_m8, mn_eq, mn_lt, mn_le, mn_eq0, mn_0eq, mn_lt0, mn_0lt, mn_le0, mn_0le, mn_eqm, mn_meq, mn_ltm, mn_mlt, mn_lem, mn_mle, mn_mm1, mn_mm2, mn_mm3, mn_mm4, mn_mm5, mn_mm6, mn_and, mn_or, mn_an, mn_shl, mn_shr, mn_div, mn_rem, mn_clamp, mn_in, mn_inm, mn_nz, mn_zo, mn_min, mn_max, mn_abs, mn_rfit, mn_cp, mn_les, mn_gre, mn_a127, mn_a15, mn_a1, mn_a255, mn_tn0, mn_tn0e, mn_tnr, mn_tnz, mr_get, mr_ne, mr_put, mu_ne, mu_eq, mj_bk_i, mj_bk_v, mj_bk_x, decide_eq_true_eq, decide_true, decide_false, Bool.false_eq_true, Bool.true_eq_false, reduceCtorEq, mt_le_t, mt_le_f, mt_lt_t, mt_lt_f, mt_eq_t, mt_eq_f, mt_ee, not_true_eq_false, not_false_eq_true, and_true, true_and, and_self, Nat.zero_add, Nat.add_zero, Nat.one_mul, Nat.mul_one, Nat.reduceAdd, Nat.reduceMul, Nat.reduceSub, Nat.reducePow, Nat.reduceDiv, Nat.reduceMod, ↓reduceIte, mp_h, mp_w, mp_c, mp_s, mp_d, mp_n, mp_54, mp_52, mp_55, mp_l, mp_o, mp_42, mp_45, gh_gp, gw_gp, gc_gp, mw_pne, Nat.or_zero, hr, hat, hc1, hq0, c235 hw (show q < 2147483648 by omega), hfq, mp_wo]
                simp only [b234_87, nI_add] at k1
                exact k1
              · intro u u1 u2 u3 u4
                by_cases he : u = q
                · subst he; omega
                · exact k6 u u1 u2 (hcov u u1 u3 he) u4
              · rcases k7 with k7 | k7
                · exact Or.inr ⟨q, d_and.mpr hq, hq0, hfq, k7⟩
                · exact Or.inr k7
    obtain ⟨t2, m2, k1, k2, k3, k4, k5, k6, k7⟩ := loop (1 + i) (Nat.and_self _) (mw_p t 65 (1 + i) (nI 100000)) 100000 (Nat.le_refl _) (mg_p h1 rfl) (fun g hgl => by rw [mw_pnj (by omega)]; exact h2 g hgl) mw_peq
    have hopt : m2 = opt f (1 + i) := by
      refine opt_r hw hg (by omega) (fun u u1 u2 u3 => k6 u u1 u2 (d_sub_le u1) u3) ?_
      rcases k7 with k7 | k7
      · obtain ⟨⟨b, hb, q1, q2⟩, q3, -, q4, q5⟩ := lo_is hg (show 0 < 1 + i by omega)
        have hb2 : ¬ lo (1 + i) = 0 := by rw [q1]; exact Nat.pos_iff_ne_zero.mp (Nat.two_pow_pos b)
        have := k6 (lo (1 + i)) q5 hb2 q4 (by rw [q1]; exact fq_one hw hb)
        have := (opt_is hw (d8 (t := lo (1 + i)) hg)).2
        omega
      · exact k7
    refine ⟨(t2, some (.int (nI 0))), ⟨k2, ?_⟩, ?_⟩
    · intro g hgi
      by_cases he : g = 1 + i
      · subst he; rw [k4, hopt]
      · exact k3 g (by omega)
    · rw [b234_9]
      simp (disch := first | assumption | exact hf _ | omega) only [mp_52, mn_lt, mt_lt_f, ↓reduceIte, b234_17, mn_in, decide_eq_true_eq, mt_lt_t, mn_clamp, mp_wo]
      refine k1.trans ?_
      simp (disch := first | assumption | exact hf _ | omega) only [b234, b234_0, b234_17, b234_31, b234_52, b234_57, b234_60, b234_78, b234_87, b234_93, nI_add, mn_mul, mn_sub, mn_m1, mn_m8, mn_eq, mn_lt, mn_le, mn_eq0, mn_0eq, mn_lt0, mn_0lt, mn_le0, mn_0le, mn_eqm, mn_meq, mn_ltm, mn_mlt, mn_lem, mn_mle, mn_mm1, mn_mm2, mn_mm3, mn_mm4, mn_mm5, mn_mm6, mn_and, mn_or, mn_an, mn_shl, mn_shr, mn_div, mn_rem, mn_clamp, mn_in, mn_inm, mn_nz, mn_zo, mn_min, mn_max, mn_abs, mn_rfit, mn_cp, mn_les, mn_gre, mn_a127, mn_a15, mn_a1, mn_a255, mn_tn0, mn_tn0e, mn_tnr, mn_tnz, mr_get, mr_ne, mr_put, mu_ne, mu_eq, mj_bk_i, mj_bk_v, mj_bk_x, decide_eq_true_eq, decide_true, decide_false, Bool.false_eq_true, Bool.true_eq_false, reduceCtorEq, mt_le_t, mt_le_f, mt_lt_t, mt_lt_f, mt_eq_t, mt_eq_f, mt_ee, not_true_eq_false, not_false_eq_true, and_true, true_and, and_self, Nat.zero_add, Nat.add_zero, Nat.one_mul, Nat.mul_one, Nat.reduceAdd, Nat.reduceMul, Nat.reduceSub, Nat.reducePow, Nat.reduceDiv, Nat.reduceMod, ↓reduceIte, mp_h, mp_w, mp_c, mp_s, mp_d, mp_n, mp_54, mp_52, mp_55, mp_l, mp_o, mp_42, mp_45, gh_gp, gw_gp, gc_gp, mw_pne, Nat.or_zero, Nat.add_assoc]) (a := ()) (g := (mw_p s 65 0 (nI 0), none)) ⟨mg_p mg_refl rfl, fun g hg => by
      rw [show g = 0 by omega, opt_0]; exact mw_peq⟩ (f 52) (Nat.le_refl _)
  obtain ⟨t, l2⟩ := t
  dsimp only at h1 h2 e
  refine ⟨t, ?_, h1⟩
  have hr := h2 (f 52) (by omega)
  rw [b234, b234_0]
  simp (disch := first | assumption | exact hf _ | omega) only [mn_in, decide_eq_true_eq, mt_lt_t, ↓reduceIte, mn_clamp, mp_wo]
  refine e.trans ?_
  rw [b234_9]
  simp (disch := first | assumption | exact hf _ | omega) only [b234, b234_0, b234_17, b234_31, b234_52, b234_57, b234_60, b234_78, b234_87, b234_93, nI_add, mn_mul, mn_sub, mn_m1, mn_m8, mn_eq, mn_lt, mn_le, mn_eq0, mn_0eq, mn_lt0, mn_0lt, mn_le0, mn_0le, mn_eqm, mn_meq, mn_ltm, mn_mlt, mn_lem, mn_mle, mn_mm1, mn_mm2, mn_mm3, mn_mm4, mn_mm5, mn_mm6, mn_and, mn_or, mn_an, mn_shl, mn_shr, mn_div, mn_rem, mn_clamp, mn_in, mn_inm, mn_nz, mn_zo, mn_min, mn_max, mn_abs, mn_rfit, mn_cp, mn_les, mn_gre, mn_a127, mn_a15, mn_a1, mn_a255, mn_tn0, mn_tn0e, mn_tnr, mn_tnz, mr_get, mr_ne, mr_put, mu_ne, mu_eq, mj_bk_i, mj_bk_v, mj_bk_x, decide_eq_true_eq, decide_true, decide_false, Bool.false_eq_true, Bool.true_eq_false, reduceCtorEq, mt_le_t, mt_le_f, mt_lt_t, mt_lt_f, mt_eq_t, mt_eq_f, mt_ee, not_true_eq_false, not_false_eq_true, and_true, true_and, and_self, Nat.zero_add, Nat.add_zero, Nat.one_mul, Nat.mul_one, Nat.reduceAdd, Nat.reduceMul, Nat.reduceSub, Nat.reducePow, Nat.reduceDiv, Nat.reduceMod, ↓reduceIte, mp_h, mp_w, mp_c, mp_s, mp_d, mp_n, mp_54, mp_52, mp_55, mp_l, mp_o, mp_42, mp_45, gh_gp, gw_gp, gc_gp, mw_pne, Nat.or_zero, hr]
end
