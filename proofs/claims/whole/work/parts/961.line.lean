/-! lines: what the class and the reference have told; what else they may change -/
abbrev YS : Type := (Nat → Nat) × List Nat × List Nat × List Nat
def LQ (s : mw_S) (l H : List Nat) (i : Nat) : Prop := (H.length = 0 → s.1 27 i = -1) ∧ (0 < H.length → ∃ b, b + H.length ≤ l.length ∧ s.1 27 i = nI b ∧ s.1 27 (i + 1) = nI (b + H.length) ∧ ∀ j, j < H.length → l.getD (b + j) 0 = H.getD j 0)
/-- the class at a, with row, codes, HEATS and CUTS -/
def YC (s : mw_S) (tp : Nat → Nat) (n a : Nat) (σ : YS) : Prop := GC s tp n a σ.2.1 ∧ mr_is s 26 64 σ.1 ∧ LQ s σ.2.1 σ.2.2.1 2 ∧ LQ s σ.2.1 σ.2.2.2 4
def LM (s : mw_S) (o : Bool) (H : List Nat) : Prop := s.1 45 (kW o) = nI H.length ∧ ∀ j, j < H.length → s.1 (kK o) (700 + j) = rm (H.getD j 0)
/-- the reference at a -/
def YR (s : mw_S) (tp : Nat → Nat) (n a : Nat) (σ : YS) : Prop := TR s tp n a ∧ s.1 42 22 = nI 0 ∧ tRL s σ.1 ∧ LM s false σ.2.2.1 ∧ LM s true σ.2.2.2
def WL (n a : Nat) (σ : YS) : Prop := a ≤ n ∧ n ≤ 700 ∧ GI σ.1 ∧ σ.2.1.length ≤ a ∧ σ.2.2.1.length ≤ a ∧ σ.2.2.2.length ≤ a ∧ (0 < σ.2.2.1.length → hl σ.2.2.1 0 = some 1) ∧ (0 < σ.2.2.2.length → hl σ.2.2.2 0 = some 1)
def fL (s t : mw_S) : Prop := mg s t (fun c => c = 22 ∨ c = 23 ∨ c = 26 ∨ c = 27 ∨ c = 28)
def tA (c b : Nat) : Prop := (c = 42 ∧ (b = 16 ∨ (18 ≤ b ∧ b ≤ 23) ∨ b = 25)) ∨ (c = 45 ∧ 3 ≤ b) ∨ (c = 46 ∧ 8 ≤ b) ∨ (47 ≤ c ∧ c ≤ 51) ∨ ((c = 52 ∨ c = 53) ∧ 700 ≤ b)
def fT (s t : mw_S) : Prop := t.2 = s.2 ∧ ∀ c b, ¬ tA c b → t.1 c b = s.1 c b
theorem fL_refl {s : mw_S} : fL s s := mg_refl
theorem fL_trans {s t u : mw_S} (h : fL s t) (h2 : fL t u) : fL s u := mg_trans h h2
theorem fL_23 {s t : mw_S} (h : mg s t (fun c => c = 23)) : fL s t := mg_mono h (fun c hc => by omega)
theorem fL_C {s t : mw_S} (h : fC s t) : fL s t := mg_mono h.1 (fun c hc => by omega)
theorem fL_22 {s : mw_S} {a b : Nat} {x y : Int32} : fL s (mw_p (mw_p s 22 a x) 22 b y) := mg_p (mg_p mg_refl (Or.inl rfl)) (Or.inl rfl)
theorem fT_refl {s : mw_S} : fT s s := ⟨rfl, fun _ _ _ => rfl⟩
theorem fT_trans {s t u : mw_S} (h : fT s t) (h2 : fT t u) : fT s u := ⟨h2.1.trans h.1, fun c b hb => (h2.2 c b hb).trans (h.2 c b hb)⟩
theorem fT_p {s t : mw_S} {c b : Nat} {v : Int32} (h : fT s t) (hb : tA c b) : fT s (mw_p t c b v) := ⟨h.1, fun c' b' hb' => by
  rw [mw_p1, if_neg (fun z => hb' (by rw [z.1, z.2]; exact hb))]; exact h.2 c' b' hb'⟩
theorem fT_R {s t u : mw_S} (h0 : fT u s) (h : fR s t) : fT u t := fT_trans h0 ⟨h.1, fun c b hb => by
  by_cases q : c = 42
  · subst q
    unfold tA at hb
    exact h.2.2 b (by omega) (by omega) (by omega) (by omega) (by omega)
  · rw [h.2.1 c q]⟩
theorem fT_E {o : Bool} {s t u : mw_S} (h0 : fT u s) (h : fE o s t) : fT u t := fT_trans h0 ⟨h.1, fun c b hb => by
  unfold tA at hb
  by_cases q : c = 42
  · subst q
    exact h.2.2.2.2 b (by omega) (by omega) (by omega) (by omega) (by omega) (by omega) (by omega)
  · by_cases q2 : c = 45
    · subst q2
      exact h.2.2.1 b (by cases o; show ¬ b = 4; omega; show ¬ b = 5; omega)
    · by_cases q3 : c = kK o
      · subst q3
        exact h.2.2.2.1 b (by cases o; show b < 700; have e : kK false = 52 := rfl; omega; show b < 700; have e : kK true = 53 := rfl; omega)
      · rw [h.2.1 c q q2 q3]⟩
section
variable {X : mj_X} {D : Nat} {s t : mw_S} {f : Nat → Nat} {tp : Nat → Nat} {n a : Nat} {σ : YS}
theorem TC_mg (h : TC s tp n a) {P : Nat → Prop} (hg : mg s t P) (h1 : ¬ P 23) (h2 : ¬ P 24) : TC t tp n a := by
  obtain ⟨e1, e2, e3, e4, e5, e6, e7, e8⟩ := h
  rw [← hg.2 23 h1] at e3 e4 e5 e6 e7
  rw [← hg.2 24 h2] at e8
  exact ⟨e1, e2, e3, e4, e5, e6, e7, e8⟩
theorem LQ_27 {l H : List Nat} {i : Nat} (h : LQ s l H i) (e : t.1 27 i = s.1 27 i) (e2 : t.1 27 (i + 1) = s.1 27 (i + 1)) : LQ t l H i := by
  unfold LQ at h ⊢
  rw [e, e2]; exact h
theorem getD_add {l l' : List Nat} {j : Nat} (h : j < l.length) : (l ++ l').getD j 0 = l.getD j 0 := by
  rw [List.getD_eq_getElem?_getD, List.getElem?_append_left h, ← List.getD_eq_getElem?_getD]
theorem LQ_app {l l' H : List Nat} {i : Nat} (h : LQ s l H i) : LQ s (l ++ l') H i := by
  refine ⟨h.1, fun z => ?_⟩
  obtain ⟨b, e1, e2, e3, e4⟩ := h.2 z
  refine ⟨b, by rw [List.length_append]; omega, e2, e3, fun j hj => ?_⟩
  rw [getD_add (by omega)]; exact e4 j hj
/-- the class goes on a TOKEN -/
theorem YC_23 (h : YC s tp n a σ) {b : Nat} (ht : TC t tp n b) (hg : mg s t (fun c => c = 23)) : YC t tp n b σ := by
  have e26 := hg.2 26 (by decide)
  have e27 := hg.2 27 (by decide)
  refine ⟨GC_23 h.1 ht hg, ?_, LQ_27 h.2.2.1 (by rw [e27]) (by rw [e27]), LQ_27 h.2.2.2 (by rw [e27]) (by rw [e27])⟩
  intro j hj
  rw [e26]; exact h.2.1 j hj
theorem l131 (hD : 6 ≤ D) (h : YC s tp n a σ) : ∃ t, mj_call X D 131 [.ref 23] (mw_U s) = some (.inl none, mw_U t) ∧ YC t tp n (te tp n a) σ ∧ fL s t := by
  obtain ⟨d, rfl⟩ : ∃ d, D = d + 6 := ⟨D - 6, by omega⟩
  obtain ⟨t, e, h1, h2⟩ := c131 (X := X) (d := d) (TC_PC h.1.1)
  exact ⟨t, e, YC_23 h h1 h2, fL_23 h2⟩
theorem l93 (hD : 7 ≤ D) (h : YC s tp n a σ) {lo hi : Nat} (hlo : lo < 100000) (hhi : hi ≤ 9999) (hf : nfl tp n a lo hi = 0) : ∃ t, mj_call X D 93 [.ref 22, .int (nI lo), .int (nI hi)] (mw_U s) = some (.inl (some (.int (nI (nmv tp n a)))), mw_U t) ∧ YC t tp n (te tp n a) σ ∧ fL s t := by
  obtain ⟨d, rfl⟩ : ∃ d, D = d + 7 := ⟨D - 7, by omega⟩
  obtain ⟨t, e, h1, h2⟩ := c93 (X := X) (d := d) h.1.1 hlo hhi hf
  exact ⟨t, e, YC_23 h h1 h2, fL_23 h2⟩
theorem l93f (hD : 7 ≤ D) (h : YC s tp n a σ) {lo hi : Nat} (hlo : lo < 100000) (hhi : hi ≤ 9999) (hf : ¬ nfl tp n a lo hi = 0) : mj_call X D 93 [.ref 22, .int (nI lo), .int (nI hi)] (mw_U s) = some (.inl (some (.int (-1))), mw_U (mw_p (mw_p s 22 3 (nI (nfl tp n a lo hi))) 22 4 (nI (tb tp n a)))) := by
  obtain ⟨d, rfl⟩ : ∃ d, D = d + 7 := ⟨D - 7, by omega⟩
  exact c93f h.1.1 hlo hhi hf
theorem l95 (hD : 3 ≤ D) (h : YC s tp n a σ) (hg : ∀ j, σ.1 j < 2147483648) (hf : pfl tp n a (σ.1 55) = 0) : mj_call X D 95 [.ref 22] (mw_U s) = some (.inl (some (.int (nI (nmv tp n a)))), mw_U s) := by
  obtain ⟨d, rfl⟩ : ∃ d, D = d + 3 := ⟨D - 3, by omega⟩
  rw [c95 h.1.1 h.2.1 hg, if_pos hf]
theorem l95f (hD : 3 ≤ D) (h : YC s tp n a σ) (hg : ∀ j, σ.1 j < 2147483648) (hf : ¬ pfl tp n a (σ.1 55) = 0) : mj_call X D 95 [.ref 22] (mw_U s) = some (.inl (some (.int (-1))), mw_U (mw_p (mw_p s 22 3 (nI (pfl tp n a (σ.1 55)))) 22 4 (nI (tb tp n a)))) := by
  obtain ⟨d, rfl⟩ : ∃ d, D = d + 3 := ⟨D - 3, by omega⟩
  rw [c95 h.1.1 h.2.1 hg, if_neg hf]
theorem l92 (hD : 1 ≤ D) (h : YC s tp n a σ) {k : Nat} : mj_call X D 92 [.ref 22, .int (nI k)] (mw_U s) = some (.inl (some (.int (nI 0))), mw_U (mw_p (mw_p s 22 3 (nI k)) 22 4 (nI (tb tp n a)))) := by
  obtain ⟨d, rfl⟩ : ∃ d, D = d + 1 := ⟨D - 1, by omega⟩
  exact c92 h.1.1
theorem l22 {x y : Int32} : (mw_p (mw_p s 22 3 x) 22 4 y).1 22 3 = x ∧ (mw_p (mw_p s 22 3 x) 22 4 y).1 22 4 = y := ⟨by rw [mw_pnj (by decide), mw_peq], mw_peq⟩
theorem m42 {x y : Int32} : (mw_p (mw_p s 42 22 x) 42 23 y).1 42 22 = x ∧ (mw_p (mw_p s 42 22 x) 42 23 y).1 42 23 = y := ⟨by rw [mw_pnj (by decide), mw_peq], mw_peq⟩
/-- the class's row is written -/
theorem YC_set (h : YC s tp n a σ) {g : Nat → Nat} : YC (mr_set s 26 64 g) tp n a (g, σ.2) := by
  have m : mg s (mr_set s 26 64 g) (fun c => c = 26) := mg_set mg_refl rfl
  have e27 := m.2 27 (by decide)
  have e28 := m.2 28 (by decide)
  refine ⟨⟨TC_mg h.1.1 m (by decide) (by decide), by rw [e27]; exact h.1.2.1, h.1.2.2.1, fun j hj => by rw [e28]; exact h.1.2.2.2.1 j hj, by rw [m.2 22 (by decide)]; exact h.1.2.2.2.2⟩, mr_is_set, LQ_27 h.2.2.1 (by rw [e27]) (by rw [e27]), LQ_27 h.2.2.2 (by rw [e27]) (by rw [e27])⟩
theorem TR_w (h : TR s tp n a) {c j : Nat} {v : Int32} (h1 : ¬ c = 42) (h2 : ¬ c = 56) : TR (mw_p s c j v) tp n a := by
  obtain ⟨e1, e2, e3, e4, e5, e6, e7, e8, e9⟩ := h
  have e : ∀ b, (mw_p s c j v).1 42 b = s.1 42 b := fun b => mw_pne (fun z => h1 z.symm)
  refine ⟨e1, e2, by rw [e]; exact e3, by rw [e]; exact e4, by rw [e]; exact e5, fun q => by rw [e]; exact e6 q, by rw [e]; exact e7, by rw [e]; exact e8, fun j hj => ?_⟩
  rw [mw_pne (fun z => h2 z.symm)]; exact e9 j hj
theorem fR_22 (h : fR s t) (h0 : s.1 42 22 = nI 0) : t.1 42 22 = nI 0 := by rw [h.2.2 22 (by decide) (by decide) (by decide) (by decide) (by decide)]; exact h0
theorem tRL_c {g : Nat → Nat} (h : tRL s g) (e : ∀ c, 45 ≤ c → c ≤ 51 → t.1 c = s.1 c) : tRL t g := by
  unfold tRL at h ⊢
  rw [e 45 (by decide) (by decide), e 46 (by decide) (by decide), e 47 (by decide) (by decide), e 48 (by decide) (by decide), e 49 (by decide) (by decide), e 50 (by decide) (by decide), e 51 (by decide) (by decide)]
  exact h
theorem LM_c {o : Bool} {H : List Nat} (h : LM s o H) (e : t.1 45 (kW o) = s.1 45 (kW o)) (e2 : t.1 (kK o) = s.1 (kK o)) : LM t o H := by
  unfold LM at h ⊢
  rw [e, e2]; exact h
/-- the reference goes on a TOKEN -/
theorem YR_R (h : YR s tp n a σ) {b : Nat} (ht : TR t tp n b) (hf : fR s t) : YR t tp n b σ := by
  have e : ∀ c, ¬ c = 42 → t.1 c = s.1 c := hf.2.1
  exact ⟨ht, fR_22 hf h.2.1, tRL_c h.2.2.1 (fun c h1 h2 => e c (by omega)), LM_c h.2.2.2.1 (by rw [e 45 (by decide)]) (e _ (kK_ne _).1), LM_c h.2.2.2.2 (by rw [e 45 (by decide)]) (e _ (kK_ne _).1)⟩
theorem m198 (hD : 2 ≤ D) (h : YR s tp n a σ) : ∃ t, mj_call X D 198 [.ref 42] (mw_U (mp s f)) = some (.inl none, mw_U (mp t f)) ∧ YR t tp n (te tp n a) σ ∧ fR s t := by
  obtain ⟨d, rfl⟩ : ∃ d, D = d + 2 := ⟨D - 2, by omega⟩
  obtain ⟨t, e, h1, h2⟩ := c198 (X := X) (d := d) (f := f) (TR_PR h.1)
  exact ⟨t, e, YR_R h h1 h2, h2⟩
theorem m214 (hD : 3 ≤ D) (h : YR s tp n a σ) {lo hi : Nat} (hlo : lo < 100000) (hhi : hi ≤ 9999) (hf : nfl tp n a lo hi = 0) : ∃ t, mj_call X D 214 [.ref 42, .int (nI lo), .int (nI hi)] (mw_U (mp s f)) = some (.inl (some (.int (nI (nmv tp n a)))), mw_U (mp t f)) ∧ YR t tp n (te tp n a) σ ∧ fR s t := by
  obtain ⟨d, rfl⟩ : ∃ d, D = d + 3 := ⟨D - 3, by omega⟩
  obtain ⟨t, e, h1, h2⟩ := r214 (X := X) (d := d) (f := f) h.1 h.2.1 hlo hhi hf
  exact ⟨t, e, YR_R h h1 h2, h2⟩
theorem m198t (hD : 2 ≤ D) (h : TR s tp n a) : ∃ t, mj_call X D 198 [.ref 42] (mw_U (mp s f)) = some (.inl none, mw_U (mp t f)) ∧ TR t tp n (te tp n a) ∧ fR s t := by
  obtain ⟨d, rfl⟩ : ∃ d, D = d + 2 := ⟨D - 2, by omega⟩
  exact c198 (X := X) (d := d) (f := f) (TR_PR h)
theorem m214t (hD : 3 ≤ D) (h : TR s tp n a) (h22 : s.1 42 22 = nI 0) {lo hi : Nat} (hlo : lo < 100000) (hhi : hi ≤ 9999) (hf : nfl tp n a lo hi = 0) : ∃ t, mj_call X D 214 [.ref 42, .int (nI lo), .int (nI hi)] (mw_U (mp s f)) = some (.inl (some (.int (nI (nmv tp n a)))), mw_U (mp t f)) ∧ TR t tp n (te tp n a) ∧ fR s t := by
  obtain ⟨d, rfl⟩ : ∃ d, D = d + 3 := ⟨D - 3, by omega⟩
  exact r214 h h22 hlo hhi hf
theorem m214f (hD : 3 ≤ D) (h : TR s tp n a) (h22 : s.1 42 22 = nI 0) {lo hi : Nat} (hlo : lo < 100000) (hhi : hi ≤ 9999) (hf : ¬ nfl tp n a lo hi = 0) : mj_call X D 214 [.ref 42, .int (nI lo), .int (nI hi)] (mw_U (mp s f)) = some (.inl (some (.int (nI 0))), mw_U (mp (mw_p (mw_p s 42 22 (nI (nfl tp n a lo hi))) 42 23 (nI (tb tp n a))) f)) := by
  obtain ⟨d, rfl⟩ : ∃ d, D = d + 3 := ⟨D - 3, by omega⟩
  exact r214f h h22 hlo hhi hf
theorem m214b (hD : 3 ≤ D) {k : Nat} {x y : Int32} (h22 : s.1 42 22 = nI k) (hk : 0 < k) (hk2 : k < 10) : mj_call X D 214 [.ref 42, .int x, .int y] (mw_U (mp s f)) = some (.inl (some (.int (nI 0))), mw_U (mp s f)) := by
  obtain ⟨d, rfl⟩ : ∃ d, D = d + 3 := ⟨D - 3, by omega⟩
  exact r214b h22 hk hk2
theorem m220 (hD : 2 ≤ D) (h : YR s tp n a σ) (hN : σ.1 55 ≤ 8) (hf : pfl tp n a (σ.1 55) = 0) : mj_call X D 220 [.ref 42] (mw_U (mp s f)) = some (.inl (some (.int (nI (nmv tp n a)))), mw_U (mp s f)) := by
  obtain ⟨d, rfl⟩ : ∃ d, D = d + 2 := ⟨D - 2, by omega⟩
  rw [r220 h.1 h.2.1 h.2.2.1.1 hN, if_pos hf]
theorem m220f (hD : 2 ≤ D) (h : YR s tp n a σ) (hN : σ.1 55 ≤ 8) (hf : ¬ pfl tp n a (σ.1 55) = 0) : mj_call X D 220 [.ref 42] (mw_U (mp s f)) = some (.inl (some (.int (nI 0))), mw_U (mp (mw_p (mw_p s 42 22 (nI (pfl tp n a (σ.1 55)))) 42 23 (nI (tb tp n a))) f)) := by
  obtain ⟨d, rfl⟩ : ∃ d, D = d + 2 := ⟨D - 2, by omega⟩
  rw [r220 h.1 h.2.1 h.2.2.1.1 hN, if_neg hf]
theorem m220b (hD : 2 ≤ D) {k : Nat} (h22 : s.1 42 22 = nI k) (hk : 0 < k) (hk2 : k < 10) : mj_call X D 220 [.ref 42] (mw_U (mp s f)) = some (.inl (some (.int (nI 0))), mw_U (mp s f)) := by
  obtain ⟨d, rfl⟩ : ∃ d, D = d + 2 := ⟨D - 2, by omega⟩
  have n0 : ¬ k = 0 := by omega
  have e : ∀ d x y, mj_call X d 215 [.ref 42, .int x, .int y] (mw_U (mp s f)) = some (.inl (some (.int (nI 0))), mw_U (mp s f)) := by
    intro d x y
    simp (disch := first | assumption | exact hf _ | omega) only [b215, b215_0, b215_7, b215_9, b215_17, b215_22, b215_25, b215_38, b215_46, b215_54, b215_59, b215_66, b215_73, b215_74, nI_add, mn_mul, mn_sub, mn_m1, mn_m8, mn_eq, mn_lt, mn_le, mn_eq0, mn_0eq, mn_lt0, mn_0lt, mn_le0, mn_0le, mn_eqm, mn_meq, mn_ltm, mn_mlt, mn_lem, mn_mle, mn_mm1, mn_mm2, mn_mm3, mn_mm4, mn_mm5, mn_mm6, mn_and, mn_or, mn_an, mn_shl, mn_shr, mn_div, mn_rem, mn_clamp, mn_in, mn_inm, mn_nz, mn_zo, mn_min, mn_max, mn_abs, mn_rfit, mn_cp, mn_les, mn_gre, mn_a127, mn_a15, mn_a1, mn_a255, mn_tn0, mn_tn0e, mn_tnr, mn_tnz, mr_get, mr_ne, mr_put, mu_ne, mu_eq, mj_bk_i, mj_bk_v, mj_bk_x, decide_eq_true_eq, decide_true, decide_false, Bool.false_eq_true, Bool.true_eq_false, reduceCtorEq, mt_le_t, mt_le_f, mt_lt_t, mt_lt_f, mt_eq_t, mt_eq_f, mt_ee, not_true_eq_false, not_false_eq_true, and_true, true_and, and_self, Nat.zero_add, Nat.add_zero, Nat.one_mul, Nat.mul_one, Nat.reduceAdd, Nat.reduceMul, Nat.reduceSub, Nat.reducePow, Nat.reduceDiv, Nat.reduceMod, ↓reduceIte, mp_h, mp_w, mp_c, mp_s, mp_d, mp_n, mp_54, mp_52, mp_55, mp_l, mp_o, mp_42, mp_45, gh_gp, gw_gp, gc_gp, mw_pne, Nat.or_zero, h22, n0]
  simp (disch := first | assumption | exact hf _ | omega) only [b220, b220_0, b220_8, b220_16, b220_26, b220_31, b220_38, b220_42, b220_43, nI_add, mn_mul, mn_sub, mn_m1, mn_m8, mn_eq, mn_lt, mn_le, mn_eq0, mn_0eq, mn_lt0, mn_0lt, mn_le0, mn_0le, mn_eqm, mn_meq, mn_ltm, mn_mlt, mn_lem, mn_mle, mn_mm1, mn_mm2, mn_mm3, mn_mm4, mn_mm5, mn_mm6, mn_and, mn_or, mn_an, mn_shl, mn_shr, mn_div, mn_rem, mn_clamp, mn_in, mn_inm, mn_nz, mn_zo, mn_min, mn_max, mn_abs, mn_rfit, mn_cp, mn_les, mn_gre, mn_a127, mn_a15, mn_a1, mn_a255, mn_tn0, mn_tn0e, mn_tnr, mn_tnz, mr_get, mr_ne, mr_put, mu_ne, mu_eq, mj_bk_i, mj_bk_v, mj_bk_x, decide_eq_true_eq, decide_true, decide_false, Bool.false_eq_true, Bool.true_eq_false, reduceCtorEq, mt_le_t, mt_le_f, mt_lt_t, mt_lt_f, mt_eq_t, mt_eq_f, mt_ee, not_true_eq_false, not_false_eq_true, and_true, true_and, and_self, Nat.zero_add, Nat.add_zero, Nat.one_mul, Nat.mul_one, Nat.reduceAdd, Nat.reduceMul, Nat.reduceSub, Nat.reducePow, Nat.reduceDiv, Nat.reduceMod, ↓reduceIte, mp_h, mp_w, mp_c, mp_s, mp_d, mp_n, mp_54, mp_52, mp_55, mp_l, mp_o, mp_42, mp_45, gh_gp, gw_gp, gc_gp, mw_pne, Nat.or_zero, e, h22, n0]
theorem m206 (h : TR s tp n a) (h22 : s.1 42 22 = nI 0) {k : Nat} : mj_call X D 206 [.ref 42, .int (nI k)] (mw_U (mp s f)) = some (.inl none, mw_U (mp (mw_p (mw_p s 42 22 (nI k)) 42 23 (nI (tb tp n a))) f)) := c206 h22 h.2.2.2.2.2.2.1
theorem fT_22 {x y : Int32} (h : fT s t) : fT s (mw_p (mw_p t 42 22 x) 42 23 y) := fT_p (fT_p h (Or.inl ⟨rfl, by omega⟩)) (Or.inl ⟨rfl, by omega⟩)
theorem nfl_lt {lo hi : Nat} : nfl tp n a lo hi < 10 := by
  unfold nfl
  split
  · split <;> omega
  · omega
theorem pfl_lt {N : Nat} : pfl tp n a N < 10 := by
  unfold pfl
  split
  · split
    · omega
    · split <;> omega
  · omega
theorem nfl_v {lo hi : Nat} (h : nfl tp n a lo hi = 0) : tkd tp n a = 2 ∧ lo ≤ nmv tp n a ∧ nmv tp n a ≤ hi := by
  unfold nfl at h
  split at h
  · next q =>
    split at h
    · cases h
    · next q2 => exact ⟨q, by omega, by omega⟩
  · cases h
theorem pfl_v {N : Nat} (h : pfl tp n a N = 0) : tkd tp n a = 2 ∧ nmv tp n a < N := by
  unfold pfl at h
  split at h
  · next q =>
    split at h
    · cases h
    · split at h
      · next q2 => exact ⟨q, q2⟩
      · cases h
  · cases h
theorem te_lt (h : ¬ tkd tp n a = 0) : a < te tp n a := Nat.lt_of_le_of_lt tb_ge (te_gt h)
end
/-- a line: it ends well; it ends with a fault -/
def LCo (X : mj_X) (z : Nat) (ar : List Value) (D : Nat) (tp : Nat → Nat) (n a : Nat) (σ : YS) (a' : Nat) (σ' : YS) : Prop := ∀ d s, D ≤ d → YC s tp n a σ → ∃ t, mj_call X d z (.ref 22 :: ar) (mw_U s) = some (.inl (some (.int (nI 1))), mw_U t) ∧ YC t tp n a' σ' ∧ fL s t
def LCf (X : mj_X) (z : Nat) (ar : List Value) (D : Nat) (tp : Nat → Nat) (n a : Nat) (σ : YS) (k p : Nat) : Prop := ∀ d s, D ≤ d → YC s tp n a σ → ∃ t, mj_call X d z (.ref 22 :: ar) (mw_U s) = some (.inl (some (.int (nI 0))), mw_U t) ∧ t.1 22 3 = nI k ∧ t.1 22 4 = nI p ∧ fL s t
def LRo (X : mj_X) (z : Nat) (ar : List Value) (D : Nat) (tp : Nat → Nat) (n a : Nat) (σ : YS) (a' : Nat) (σ' : YS) : Prop := ∀ d s f, D ≤ d → f 55 ≤ 8 → YR s tp n a σ → ∃ t, mj_call X d z (.ref 42 :: ar) (mw_U (mp s f)) = some (.inl none, mw_U (mp t f)) ∧ YR t tp n a' σ' ∧ fT s t
def LRf (X : mj_X) (z : Nat) (ar : List Value) (D : Nat) (tp : Nat → Nat) (n a : Nat) (σ : YS) (k p : Nat) : Prop := ∀ d s f, D ≤ d → f 55 ≤ 8 → YR s tp n a σ → ∃ t, mj_call X d z (.ref 42 :: ar) (mw_U (mp s f)) = some (.inl none, mw_U (mp t f)) ∧ t.1 42 22 = nI k ∧ t.1 42 23 = nI p ∧ fT s t
def JL (X : mj_X) (zc : Nat) (ac : List Value) (zr : Nat) (ar : List Value) (D : Nat) (tp : Nat → Nat) (n a : Nat) (σ : YS) : Prop := WL n a σ →
  (∃ a' σ', a < a' ∧ WL n a' σ' ∧ σ'.2 = σ.2 ∧ LCo X zc ac D tp n a σ a' σ' ∧ LRo X zr ar D tp n a σ a' σ') ∨
  (∃ k p, 0 < k ∧ k < 10 ∧ p ≤ n ∧ LCf X zc ac D tp n a σ k p ∧ LRf X zr ar D tp n a σ k p)
