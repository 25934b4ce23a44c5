/-! both readers at once: what a joint contract is; a part -/
def hl : List Nat → Nat → Option Nat
  | [], h => some h
  | c :: l, h => (rh1 c h).bind (hl l)
theorem hl_app {l m : List Nat} : ∀ {h : Nat}, hl (l ++ m) h = (hl l h).bind (hl m) := by
  induction l with
  | nil => intro h; rfl
  | cons c l ih =>
    intro h
    show (rh1 c h).bind (hl (l ++ m)) = ((rh1 c h).bind (hl l)).bind (hl m)
    cases rh1 c h with
    | none => rfl
    | some k => exact ih
def FP (t : mw_S) (p : Nat) : Prop := t.1 22 4 = nI p ∧ (∃ m, m ≤ 700 ∧ t.1 27 1 = nI m) ∧ p ≤ 700
def fC (s t : mw_S) : Prop := mg s t (fun c => c = 22 ∨ c = 23 ∨ c = 27 ∨ c = 28) ∧ ∀ b, ¬ b = 1 → t.1 27 b = s.1 27 b
theorem fC_refl {s : mw_S} : fC s s := ⟨mg_refl, fun _ _ => rfl⟩
theorem fC_trans {s t u : mw_S} (h : fC s t) (h2 : fC t u) : fC s u := ⟨mg_trans h.1 h2.1, fun b hb => (h2.2 b hb).trans (h.2 b hb)⟩
theorem fC_23 {s t : mw_S} (h : mg s t (fun c => c = 23)) : fC s t := ⟨mg_mono h (fun c hc => by omega), fun b _ => by rw [h.2 27 (by decide)]⟩
section
variable {X : mj_X} {d : Nat} {s t : mw_S} {f : Nat → Nat} {tp : Nat → Nat} {n a : Nat} {o : Bool} {r l : List Nat}
theorem GC_23 (h : GC s tp n a l) {b : Nat} (ht : TC t tp n b) (hg : mg s t (fun c => c = 23)) : GC t tp n b l := ⟨ht, by rw [hg.2 27 (by decide)]; exact h.2.1, h.2.2.1, fun j hj => by rw [hg.2 28 (by decide)]; exact h.2.2.2.1 j hj, by rw [hg.2 22 (by decide)]; exact h.2.2.2.2⟩
theorem g131 (h : GC s tp n a l) : ∃ t, mj_call X (d + 6) 131 [.ref 23] (mw_U s) = some (.inl none, mw_U t) ∧ GC t tp n (te tp n a) l ∧ fC s t := by
  obtain ⟨t, e, h1, h2⟩ := c131 (X := X) (d := d) (TC_PC h.1)
  exact ⟨t, e, GC_23 h h1 h2, fC_23 h2⟩
theorem g123 (h : GC s tp n a l) (hl : l.length < 700) {c : Nat} {x : Int32} (hx : x = rc c) : ∃ t, mj_call X d 123 [.ref 27, .int x] (mw_U s) = some (.inl none, mw_U t) ∧ GC t tp n a (l ++ [c]) ∧ fC s t := by
  obtain ⟨⟨ha, hn, h1, h2, h3, h4, h5, h6⟩, h7, h8, h9, h10⟩ := h
  refine ⟨_, c123 h7 hl, ⟨⟨ha, hn, ?_, ?_, ?_, ?_, ?_, ?_⟩, ?_, ?_, ?_, ?_⟩, ⟨mg_p (mg_p mg_refl (by omega)) (by omega), ?_⟩⟩
  · rw [mw_pne (by decide), mw_pne (by decide)]; exact h1
  · rw [mw_pne (by decide), mw_pne (by decide)]; exact h2
  · rw [mw_pne (by decide), mw_pne (by decide)]; exact h3
  · rw [mw_pne (by decide), mw_pne (by decide)]; exact h4
  · intro q; rw [mw_pne (by decide), mw_pne (by decide)]; exact h5 q
  · intro j hj; rw [mw_pne (by decide), mw_pne (by decide)]; exact h6 j hj
  · rw [mw_peq, List.length_append]; rfl
  · rw [List.length_append]; exact hl
  · intro j hj
    rw [List.length_append] at hj
    rw [mw_pne (by decide), getD_app hj]
    by_cases q : j < l.length
    · rw [if_pos q, mw_pnj (by omega)]; exact h9 j q
    · have : j = l.length := by
        have : j < l.length + 1 := hj
        omega
      rw [if_neg q, this, mw_peq, hx]
  · rw [mw_pne (by decide), mw_pne (by decide)]; exact h10
  · intro b hb
    rw [mw_pnj hb, mw_pne (by decide)]
theorem g92 (h : GC s tp n a l) {k : Nat} : ∃ t, mj_call X (d + 1) 92 [.ref 22, .int (nI k)] (mw_U s) = some (.inl (some (.int (nI 0))), mw_U t) ∧ t.1 22 3 = nI k ∧ FP t (tb tp n a) ∧ fC s t := ⟨_, c92 h.1, by rw [mw_pnj (by decide), mw_peq], ⟨mw_peq, ⟨l.length, h.2.2.1, by rw [mw_pne (by decide), mw_pne (by decide)]; exact h.2.1⟩, Nat.le_trans (tb_le h.1.1) h.1.2.1⟩, mg_p (mg_p mg_refl (by omega)) (by omega), fun b _ => by rw [mw_pne (by decide), mw_pne (by decide)]⟩
theorem g123f {k p : Nat} (h3 : s.1 22 3 = nI k) (hF : FP s p) {x : Int32} : ∃ t, mj_call X d 123 [.ref 27, .int x] (mw_U s) = some (.inl none, mw_U t) ∧ t.1 22 3 = nI k ∧ FP t p ∧ fC s t := by
  obtain ⟨h4, ⟨m, hm, h5⟩, hp⟩ := hF
  have k27 := mw_c_27
  by_cases q : m < 700
  · refine ⟨_, c123 h5 q, ?_, ⟨?_, ⟨m + 1, q, mw_peq⟩, hp⟩, mg_p (mg_p mg_refl (by omega)) (by omega), fun b hb => ?_⟩
    · rw [mw_pne (by decide), mw_pne (by decide)]; exact h3
    · rw [mw_pne (by decide), mw_pne (by decide)]; exact h4
    · rw [mw_pnj hb, mw_pne (by decide)]
  · have hle : nI 700 ≤ nI m := by rw [mn_le (by omega) (by omega)]; omega
    refine ⟨s, ?_, h3, ⟨h4, ⟨m, hm, h5⟩, hp⟩, fC_refl⟩
    rw [b123, b123_0 k27, h5, if_pos hle, b123_30 k27]
theorem g206 (h : GR o s tp n a r) {k : Nat} : ∃ t, mj_call X d 206 [.ref 42, .int (nI k)] (mw_U (mp s f)) = some (.inl none, mw_U (mp t f)) ∧ t.1 42 22 = nI k ∧ t.1 42 23 = nI (tb tp n a) ∧ fE o s t := ⟨_, c206 h.2.1 h.1.2.2.2.2.2.2.1, by rw [mw_pnj (by decide), mw_peq], mw_peq, fE_trans (fE_p (by omega)) (fE_p (by omega))⟩
end
/-- the class's call ends well; it ends with a fault -/
def JCo (X : mj_X) (z D : Nat) (tp : Nat → Nat) (n w a : Nat) (l : List Nat) (a' : Nat) (l' : List Nat) : Prop := ∀ d s, GC s tp n a l → ∃ t, mj_call X (d + D) z [.ref 22, .int (nI w)] (mw_U s) = some (.inl (some (.int (nI 1))), mw_U t) ∧ GC t tp n a' (l ++ l') ∧ fC s t
def JCf (X : mj_X) (z D : Nat) (tp : Nat → Nat) (n w a : Nat) (l : List Nat) (k p : Nat) : Prop := ∀ d s, GC s tp n a l → ∃ t, mj_call X (d + D) z [.ref 22, .int (nI w)] (mw_U s) = some (.inl (some (.int (nI 0))), mw_U t) ∧ t.1 22 3 = nI k ∧ FP t p ∧ fC s t
def JRo (X : mj_X) (z D : Nat) (tp : Nat → Nat) (n w : Nat) (o : Bool) (a : Nat) (r : List Nat) (a' : Nat) (l' : List Nat) : Prop := ∀ d s f, GR o s tp n a r → ∃ t, mj_call X (d + D) z [.ref 42, .int (nI w)] (mw_U (mp s f)) = some (.inl none, mw_U (mp t f)) ∧ GR o t tp n a' (r ++ l') ∧ fE o s t
def JRf (X : mj_X) (z D : Nat) (tp : Nat → Nat) (n w : Nat) (o : Bool) (a : Nat) (r : List Nat) (k p : Nat) : Prop := ∀ d s f, GR o s tp n a r → ∃ t, mj_call X (d + D) z [.ref 42, .int (nI w)] (mw_U (mp s f)) = some (.inl none, mw_U (mp t f)) ∧ t.1 42 22 = nI k ∧ t.1 42 23 = nI p ∧ fE o s t
/-- both at once: nd is how high the stack goes -/
def JJ (X : mj_X) (zc zr D : Nat) (tp : Nat → Nat) (n w nd : Nat) : Prop := ∀ o a l r, a ≤ n → l.length ≤ a → r.length ≤ a →
  (∃ a' l', a < a' ∧ a' ≤ n ∧ l'.length ≤ a' - a ∧ (∀ h, h + nd ≤ 40 → hl l' h = some (h + 1)) ∧ JCo X zc D tp n w a l a' l' ∧ JRo X zr D tp n w o a r a' l') ∨
  (∃ k p, 0 < k ∧ k < 10 ∧ JCf X zc D tp n w a l k p ∧ JRf X zr D tp n w o a r k p)
section
variable {X : mj_X} {d : Nat} {s t : mw_S} {f : Nat → Nat} {tp : Nat → Nat} {n a : Nat} {o : Bool} {r l : List Nat} {k : Nat} {x : Int32}
/-- with a fault, the reference does nothing more -/
theorem nb213 (h22 : s.1 42 22 = nI k) (hk : 0 < k) (hk2 : k < 10) : mj_call X d 213 [.ref 42, .int x] (mw_U (mp s f)) = some (.inl none, mw_U (mp s f)) := by
  have n0 : ¬ k = 0 := by omega
  simp (disch := first | assumption | exact hf _ | omega) only [b213, b213_0, b213_7, b213_8, b213_16, b213_25, b213_28, b213_29, b213_37, b213_45, b213_51, b213_56, b213_63, b213_70, b213_74, b213_75, b213_81, b213_88, b213_94, nI_add, mn_mul, mn_sub, mn_m1, mn_m8, mn_eq, mn_lt, mn_le, mn_eq0, mn_0eq, mn_lt0, mn_0lt, mn_le0, mn_0le, mn_eqm, mn_meq, mn_ltm, mn_mlt, mn_lem, mn_mle, mn_mm1, mn_mm2, mn_mm3, mn_mm4, mn_mm5, mn_mm6, mn_and, mn_or, mn_an, mn_shl, mn_shr, mn_div, mn_rem, mn_clamp, mn_in, mn_inm, mn_nz, mn_zo, mn_min, mn_max, mn_abs, mn_rfit, mn_cp, mn_les, mn_gre, mn_a127, mn_a15, mn_a1, mn_a255, mn_tn0, mn_tn0e, mn_tnr, mn_tnz, mr_get, mr_ne, mr_put, mu_ne, mu_eq, mj_bk_i, mj_bk_v, mj_bk_x, decide_eq_true_eq, decide_true, decide_false, Bool.false_eq_true, Bool.true_eq_false, reduceCtorEq, mt_le_t, mt_le_f, mt_lt_t, mt_lt_f, mt_eq_t, mt_eq_f, mt_ee, not_true_eq_false, not_false_eq_true, and_true, true_and, and_self, Nat.zero_add, Nat.add_zero, Nat.one_mul, Nat.mul_one, Nat.reduceAdd, Nat.reduceMul, Nat.reduceSub, Nat.reducePow, Nat.reduceDiv, Nat.reduceMod, ↓reduceIte, mp_h, mp_w, mp_c, mp_s, mp_d, mp_n, mp_54, mp_52, mp_55, mp_l, mp_o, mp_42, mp_45, gh_gp, gw_gp, gc_gp, mw_pne, Nat.or_zero, h22, n0]
theorem nb212 (h22 : s.1 42 22 = nI k) (hk : 0 < k) (hk2 : k < 10) : mj_call X (d + 1) 212 [.ref 42, .int x] (mw_U (mp s f)) = some (.inl none, mw_U (mp s f)) := by
  have st : mj_call X (d + 1) 212 [.ref 42, .int x] (mw_U (mp s f)) = mj_exec X (d + 1) 212 5 [some (.ref 42), some (.int x), none] [] (mw_U (mp s f)) := by
    rw [b212, b212_0, nb213 h22 hk hk2, mj_bk_v]
  rw [st, b212_5]
  simp (disch := first | assumption | exact hf _ | omega) only [b212, b212_0, b212_11, b212_14, b212_20, b212_23, b212_29, b212_32, b212_37, b212_39, b212_44, b212_49, b212_54, b212_57, nI_add, mn_mul, mn_sub, mn_m1, mn_m8, mn_eq, mn_lt, mn_le, mn_eq0, mn_0eq, mn_lt0, mn_0lt, mn_le0, mn_0le, mn_eqm, mn_meq, mn_ltm, mn_mlt, mn_lem, mn_mle, mn_mm1, mn_mm2, mn_mm3, mn_mm4, mn_mm5, mn_mm6, mn_and, mn_or, mn_an, mn_shl, mn_shr, mn_div, mn_rem, mn_clamp, mn_in, mn_inm, mn_nz, mn_zo, mn_min, mn_max, mn_abs, mn_rfit, mn_cp, mn_les, mn_gre, mn_a127, mn_a15, mn_a1, mn_a255, mn_tn0, mn_tn0e, mn_tnr, mn_tnz, mr_get, mr_ne, mr_put, mu_ne, mu_eq, mj_bk_i, mj_bk_v, mj_bk_x, decide_eq_true_eq, decide_true, decide_false, Bool.false_eq_true, Bool.true_eq_false, reduceCtorEq, mt_le_t, mt_le_f, mt_lt_t, mt_lt_f, mt_eq_t, mt_eq_f, mt_ee, not_true_eq_false, not_false_eq_true, and_true, true_and, and_self, Nat.zero_add, Nat.add_zero, Nat.one_mul, Nat.mul_one, Nat.reduceAdd, Nat.reduceMul, Nat.reduceSub, Nat.reducePow, Nat.reduceDiv, Nat.reduceMod, ↓reduceIte, mp_h, mp_w, mp_c, mp_s, mp_d, mp_n, mp_54, mp_52, mp_55, mp_l, mp_o, mp_42, mp_45, gh_gp, gw_gp, gc_gp, mw_pne, Nat.or_zero, c208b h22 hk hk2]
theorem nb211 (h22 : s.1 42 22 = nI k) (hk : 0 < k) (hk2 : k < 10) : mj_call X (d + 2) 211 [.ref 42, .int x] (mw_U (mp s f)) = some (.inl none, mw_U (mp s f)) := by
  have st : mj_call X (d + 2) 211 [.ref 42, .int x] (mw_U (mp s f)) = mj_exec X (d + 2) 211 5 [some (.ref 42), some (.int x), none] [] (mw_U (mp s f)) := by
    rw [b211, b211_0, nb212 h22 hk hk2, mj_bk_v]
  rw [st, b211_5]
  simp (disch := first | assumption | exact hf _ | omega) only [b211, b211_0, b211_11, b211_14, b211_20, b211_23, b211_29, b211_32, b211_37, b211_39, b211_44, b211_49, b211_54, b211_57, nI_add, mn_mul, mn_sub, mn_m1, mn_m8, mn_eq, mn_lt, mn_le, mn_eq0, mn_0eq, mn_lt0, mn_0lt, mn_le0, mn_0le, mn_eqm, mn_meq, mn_ltm, mn_mlt, mn_lem, mn_mle, mn_mm1, mn_mm2, mn_mm3, mn_mm4, mn_mm5, mn_mm6, mn_and, mn_or, mn_an, mn_shl, mn_shr, mn_div, mn_rem, mn_clamp, mn_in, mn_inm, mn_nz, mn_zo, mn_min, mn_max, mn_abs, mn_rfit, mn_cp, mn_les, mn_gre, mn_a127, mn_a15, mn_a1, mn_a255, mn_tn0, mn_tn0e, mn_tnr, mn_tnz, mr_get, mr_ne, mr_put, mu_ne, mu_eq, mj_bk_i, mj_bk_v, mj_bk_x, decide_eq_true_eq, decide_true, decide_false, Bool.false_eq_true, Bool.true_eq_false, reduceCtorEq, mt_le_t, mt_le_f, mt_lt_t, mt_lt_f, mt_eq_t, mt_eq_f, mt_ee, not_true_eq_false, not_false_eq_true, and_true, true_and, and_self, Nat.zero_add, Nat.add_zero, Nat.one_mul, Nat.mul_one, Nat.reduceAdd, Nat.reduceMul, Nat.reduceSub, Nat.reducePow, Nat.reduceDiv, Nat.reduceMod, ↓reduceIte, mp_h, mp_w, mp_c, mp_s, mp_d, mp_n, mp_54, mp_52, mp_55, mp_l, mp_o, mp_42, mp_45, gh_gp, gw_gp, gc_gp, mw_pne, Nat.or_zero, c208b h22 hk hk2]
theorem nb217 (h22 : s.1 42 22 = nI k) (hk : 0 < k) (hk2 : k < 10) : mj_call X d 217 [.ref 42, .int x] (mw_U (mp s f)) = some (.inl none, mw_U (mp s f)) := by
  have n0 : ¬ k = 0 := by omega
  simp (disch := first | assumption | exact hf _ | omega) only [b217, b217_0, b217_7, b217_12, b217_15, b217_20, b217_27, b217_31, nI_add, mn_mul, mn_sub, mn_m1, mn_m8, mn_eq, mn_lt, mn_le, mn_eq0, mn_0eq, mn_lt0, mn_0lt, mn_le0, mn_0le, mn_eqm, mn_meq, mn_ltm, mn_mlt, mn_lem, mn_mle, mn_mm1, mn_mm2, mn_mm3, mn_mm4, mn_mm5, mn_mm6, mn_and, mn_or, mn_an, mn_shl, mn_shr, mn_div, mn_rem, mn_clamp, mn_in, mn_inm, mn_nz, mn_zo, mn_min, mn_max, mn_abs, mn_rfit, mn_cp, mn_les, mn_gre, mn_a127, mn_a15, mn_a1, mn_a255, mn_tn0, mn_tn0e, mn_tnr, mn_tnz, mr_get, mr_ne, mr_put, mu_ne, mu_eq, mj_bk_i, mj_bk_v, mj_bk_x, decide_eq_true_eq, decide_true, decide_false, Bool.false_eq_true, Bool.true_eq_false, reduceCtorEq, mt_le_t, mt_le_f, mt_lt_t, mt_lt_f, mt_eq_t, mt_eq_f, mt_ee, not_true_eq_false, not_false_eq_true, and_true, true_and, and_self, Nat.zero_add, Nat.add_zero, Nat.one_mul, Nat.mul_one, Nat.reduceAdd, Nat.reduceMul, Nat.reduceSub, Nat.reducePow, Nat.reduceDiv, Nat.reduceMod, ↓reduceIte, mp_h, mp_w, mp_c, mp_s, mp_d, mp_n, mp_54, mp_52, mp_55, mp_l, mp_o, mp_42, mp_45, gh_gp, gw_gp, gc_gp, mw_pne, Nat.or_zero, h22, n0]
theorem nb207 (h22 : s.1 42 22 = nI k) (hk : 0 < k) (hk2 : k < 10) : mj_call X d 207 [.ref 42, .int x] (mw_U (mp s f)) = some (.inl none, mw_U (mp s f)) := by
  have n0 : ¬ k = 0 := by omega
  simp (disch := first | assumption | exact hf _ | omega) only [b207, b207_0, b207_7, b207_8, b207_16, b207_24, b207_30, b207_33, b207_37, b207_38, b207_43, b207_48, b207_51, b207_57, b207_62, b207_74, b207_77, b207_81, b207_86, b207_92, b207_95, nI_add, mn_mul, mn_sub, mn_m1, mn_m8, mn_eq, mn_lt, mn_le, mn_eq0, mn_0eq, mn_lt0, mn_0lt, mn_le0, mn_0le, mn_eqm, mn_meq, mn_ltm, mn_mlt, mn_lem, mn_mle, mn_mm1, mn_mm2, mn_mm3, mn_mm4, mn_mm5, mn_mm6, mn_and, mn_or, mn_an, mn_shl, mn_shr, mn_div, mn_rem, mn_clamp, mn_in, mn_inm, mn_nz, mn_zo, mn_min, mn_max, mn_abs, mn_rfit, mn_cp, mn_les, mn_gre, mn_a127, mn_a15, mn_a1, mn_a255, mn_tn0, mn_tn0e, mn_tnr, mn_tnz, mr_get, mr_ne, mr_put, mu_ne, mu_eq, mj_bk_i, mj_bk_v, mj_bk_x, decide_eq_true_eq, decide_true, decide_false, Bool.false_eq_true, Bool.true_eq_false, reduceCtorEq, mt_le_t, mt_le_f, mt_lt_t, mt_lt_f, mt_eq_t, mt_eq_f, mt_ee, not_true_eq_false, not_false_eq_true, and_true, true_and, and_self, Nat.zero_add, Nat.add_zero, Nat.one_mul, Nat.mul_one, Nat.reduceAdd, Nat.reduceMul, Nat.reduceSub, Nat.reducePow, Nat.reduceDiv, Nat.reduceMod, ↓reduceIte, mp_h, mp_w, mp_c, mp_s, mp_d, mp_n, mp_54, mp_52, mp_55, mp_l, mp_o, mp_42, mp_45, gh_gp, gw_gp, gc_gp, mw_pne, Nat.or_zero, h22, n0]
theorem g217 (h : GR o s tp n a r) {c : Nat} (hc : c < 256) (hS : tS tp n a c = true) : ∃ t, mj_call X (d + 3) 217 [.ref 42, .int (nI c)] (mw_U (mp s f)) = some (.inl none, mw_U (mp t f)) ∧ GR o t tp n (te tp n a) r ∧ fE o s t := by
  obtain ⟨t, e, h1, h2⟩ := g198 (X := X) (d := d) (f := f) h
  have h22 := h.2.1
  refine ⟨t, ?_, h1, h2⟩
  simp (disch := first | assumption | exact hf _ | omega) only [b217, b217_0, b217_7, b217_12, b217_15, b217_20, b217_27, b217_31, nI_add, mn_mul, mn_sub, mn_m1, mn_m8, mn_eq, mn_lt, mn_le, mn_eq0, mn_0eq, mn_lt0, mn_0lt, mn_le0, mn_0le, mn_eqm, mn_meq, mn_ltm, mn_mlt, mn_lem, mn_mle, mn_mm1, mn_mm2, mn_mm3, mn_mm4, mn_mm5, mn_mm6, mn_and, mn_or, mn_an, mn_shl, mn_shr, mn_div, mn_rem, mn_clamp, mn_in, mn_inm, mn_nz, mn_zo, mn_min, mn_max, mn_abs, mn_rfit, mn_cp, mn_les, mn_gre, mn_a127, mn_a15, mn_a1, mn_a255, mn_tn0, mn_tn0e, mn_tnr, mn_tnz, mr_get, mr_ne, mr_put, mu_ne, mu_eq, mj_bk_i, mj_bk_v, mj_bk_x, decide_eq_true_eq, decide_true, decide_false, Bool.false_eq_true, Bool.true_eq_false, reduceCtorEq, mt_le_t, mt_le_f, mt_lt_t, mt_lt_f, mt_eq_t, mt_eq_f, mt_ee, not_true_eq_false, not_false_eq_true, and_true, true_and, and_self, Nat.zero_add, Nat.add_zero, Nat.one_mul, Nat.mul_one, Nat.reduceAdd, Nat.reduceMul, Nat.reduceSub, Nat.reducePow, Nat.reduceDiv, Nat.reduceMod, ↓reduceIte, mp_h, mp_w, mp_c, mp_s, mp_d, mp_n, mp_54, mp_52, mp_55, mp_l, mp_o, mp_42, mp_45, gh_gp, gw_gp, gc_gp, mw_pne, Nat.or_zero, h22, c208 h.1 h.2.1 hc, hS, Bool.toNat_true, e]
theorem g217f (h : GR o s tp n a r) {c : Nat} (hc : c < 256) (hS : tS tp n a c = false) : ∃ t, mj_call X (d + 3) 217 [.ref 42, .int (nI c)] (mw_U (mp s f)) = some (.inl none, mw_U (mp t f)) ∧ t.1 42 22 = nI 1 ∧ t.1 42 23 = nI (tb tp n a) ∧ fE o s t := by
  obtain ⟨t, e, h1, h2, h3⟩ := g206 (X := X) (d := d + 2) (f := f) (k := 1) h
  have h22 := h.2.1
  refine ⟨t, ?_, h1, h2, h3⟩
  simp (disch := first | assumption | exact hf _ | omega) only [b217, b217_0, b217_7, b217_12, b217_15, b217_20, b217_27, b217_31, nI_add, mn_mul, mn_sub, mn_m1, mn_m8, mn_eq, mn_lt, mn_le, mn_eq0, mn_0eq, mn_lt0, mn_0lt, mn_le0, mn_0le, mn_eqm, mn_meq, mn_ltm, mn_mlt, mn_lem, mn_mle, mn_mm1, mn_mm2, mn_mm3, mn_mm4, mn_mm5, mn_mm6, mn_and, mn_or, mn_an, mn_shl, mn_shr, mn_div, mn_rem, mn_clamp, mn_in, mn_inm, mn_nz, mn_zo, mn_min, mn_max, mn_abs, mn_rfit, mn_cp, mn_les, mn_gre, mn_a127, mn_a15, mn_a1, mn_a255, mn_tn0, mn_tn0e, mn_tnr, mn_tnz, mr_get, mr_ne, mr_put, mu_ne, mu_eq, mj_bk_i, mj_bk_v, mj_bk_x, decide_eq_true_eq, decide_true, decide_false, Bool.false_eq_true, Bool.true_eq_false, reduceCtorEq, mt_le_t, mt_le_f, mt_lt_t, mt_lt_f, mt_eq_t, mt_eq_f, mt_ee, not_true_eq_false, not_false_eq_true, and_true, true_and, and_self, Nat.zero_add, Nat.add_zero, Nat.one_mul, Nat.mul_one, Nat.reduceAdd, Nat.reduceMul, Nat.reduceSub, Nat.reducePow, Nat.reduceDiv, Nat.reduceMod, ↓reduceIte, mp_h, mp_w, mp_c, mp_s, mp_d, mp_n, mp_54, mp_52, mp_55, mp_l, mp_o, mp_42, mp_45, gh_gp, gw_gp, gc_gp, mw_pne, Nat.or_zero, h22, c208 h.1 h.2.1 hc, hS, Bool.toNat_false, e, h1]
end
