/-! the reference's questions -/
theorem words_bit {f : Nat → Nat} {g j : Nat} : (fn_words f g).testBit j = true ↔ ∃ p, p < 8 ∧ g.testBit p = true ∧ (f (8 + p)).testBit j = true := it_or_bit (P := fun p => g.testBit p = true) (v := fun p => f (8 + p)) 8 j
def fn_rdy (f : Nat → Nat) : Nat := mr_it (fun i c => c + (fcs f i).toNat) 28 0
def fn_mild (f : Nat → Nat) : Option Nat := mr_it (fun p (o : Option Nat) => if (f 52).testBit p = true ∧ (∀ b, o = some b → f p < f b) then some p else o) 8 none
def fn_hold (f : Nat → Nat) (w : Nat) : Nat := mr_it (fun p b => if (f 52).testBit p = true ∧ (f (8 + p)).testBit w = true then b ||| 2 ^ p else b) 8 0
def fn_sing (f : Nat → Nat) : Nat := mr_it (fun p b => if (f 52).testBit p = true ∧ fs f p = none then b ||| 2 ^ p else b) 8 0
def fn_cuts (f : Nat → Nat) : Nat := mr_it (fun i c => c + fc f i) 28 0
def fcsp (f : Nat → Nat) (p q : Nat) : Bool := decide (¬ p = q) && fcs f (fp p q)
def nm (o : Option Nat) : Int32 := match o with
  | none => -1
  | some i => nI (10 * mn_l i + mn_g i)
theorem sum_tri (g : Nat → Nat) : mr_it (fun a c => mr_it (fun b c => c + g (fp a b)) a c) 8 0 = mr_it (fun i c => c + g i) 28 0 := by
  have e1 : mr_it (fun a c => mr_it (fun b c => c + g (fp a b)) a c) 8 0 = 0 + g 0 + g 1 + g 7 + g 2 + g 8 + g 13 + g 3 + g 9 + g 14 + g 18 + g 4 + g 10 + g 15 + g 19 + g 22 + g 5 + g 11 + g 16 + g 20 + g 23 + g 25 + g 6 + g 12 + g 17 + g 21 + g 24 + g 26 + g 27 := rfl
  have e2 : mr_it (fun i c => c + g i) 28 0 = 0 + g 0 + g 1 + g 2 + g 3 + g 4 + g 5 + g 6 + g 7 + g 8 + g 9 + g 10 + g 11 + g 12 + g 13 + g 14 + g 15 + g 16 + g 17 + g 18 + g 19 + g 20 + g 21 + g 22 + g 23 + g 24 + g 25 + g 26 + g 27 := rfl
  rw [e1, e2]
  omega
section
variable {f : Nat → Nat} {L : Nat}
theorem lv_n (hw : wf f L) {p : Nat} (h : (f 52).testBit p = true) : p < f 55 := bit_lt (wf_l hw) h
theorem words_n (hw : wf f L) {g : Nat} (hg : g < 2 ^ f 55) : mr_it (fun p b => if g.testBit p then b ||| f (8 + p) else b) (f 55) 0 = fn_words f g := (mr_it_ext (wf_n hw) (fun i a h1 h2 => by
  have : g.testBit i = false := by
    cases h : g.testBit i
    · rfl
    · have := bit_lt hg h; omega
  rw [this]; rfl)).symm
theorem need_64 : mr_it (fun b c => if 0 < gh f b then c ||| 2 ^ gw f b else c) 64 0 = fn_need f := by
  unfold fn_need
  rw [← mr_64 (fun i b => if 0 < fh f i then b ||| 2 ^ fw f i else b)]
  refine mr_it_congr (fun b c hb => ?_)
  unfold gh gw
  by_cases h : b / 8 < b % 8
  · rw [if_pos h, if_pos h, if_pos h]
  · rw [if_neg h, if_neg h, if_neg (by omega), if_neg h]
theorem cuts_64 (hw : wf f L) : mr_it (fun b c => c + (if 0 < gh f b then gc f b else 0)) 64 0 = fn_cuts f := by
  unfold fn_cuts
  rw [← mr_64 (fun i c => c + fc f i)]
  refine mr_it_congr (fun b c hb => ?_)
  unfold gh gc
  by_cases h : b / 8 < b % 8
  · rw [if_pos h, if_pos h, if_pos h]
    have hl := fp64 hb h
    by_cases h0 : 0 < fh f (fp (b / 8) (b % 8))
    · rw [if_pos h0]
    · rw [if_neg h0]
      have := (wf_z hw hl).mpr (by omega)
      unfold fc
      rw [this]
  · rw [if_neg h, if_neg h, if_neg (by omega), if_neg h]
    rfl
theorem gw_lt (f : Nat → Nat) (b : Nat) : gw f b < 16 := by
  unfold gw; split
  · exact fw_lt _ _
  · decide
/-- a word is in one of both's drawers, or a lawyer's -/
theorem settle_eq (hw : wf f L) {p q w : Nat} (hp : p < 8) (hq : q < 8) (hn : ¬ p = q) : (fn_words f (f 53 &&& f 52 ||| 2 ^ mn_l (fp p q) ||| 2 ^ mn_g (fp p q))).testBit w = mr_it (fun r b => b || ((f 53).testBit r && ((f 52).testBit r && (f (8 + r)).testBit w))) (f 55) ((f (8 + p)).testBit w || (f (8 + q)).testBit w) := by
  have hl := fp_lt hp hq hn
  have hlg := (fp_i hl hp hq hn).mp rfl
  have key : ∀ n b, mr_it (fun r b => b || ((f 53).testBit r && ((f 52).testBit r && (f (8 + r)).testBit w))) n b = true ↔ (b = true ∨ ∃ r, r < n ∧ (f 53).testBit r = true ∧ (f 52).testBit r = true ∧ (f (8 + r)).testBit w = true) := by
    intro n
    induction n with
    | zero =>
      intro b
      constructor
      · intro h; exact Or.inl h
      · rintro (h | ⟨r, hr, _⟩)
        · exact h
        · omega
    | succ n ih =>
      intro b
      rw [mr_it, Bool.or_eq_true, ih, Bool.and_eq_true, Bool.and_eq_true]
      constructor
      · rintro ((h | ⟨r, h1, h2⟩) | h)
        · exact Or.inl h
        · exact Or.inr ⟨r, by omega, h2⟩
        · exact Or.inr ⟨n, by omega, h⟩
      · rintro (h | ⟨r, h1, h2⟩)
        · exact Or.inl (Or.inl h)
        · by_cases he : r = n
          · subst he; exact Or.inr h2
          · exact Or.inl (Or.inr ⟨r, by omega, h2⟩)
  rw [Bool.eq_iff_iff, words_bit, key, Bool.or_eq_true]
  constructor
  · rintro ⟨r, h1, h2, h3⟩
    rw [Nat.testBit_or, Nat.testBit_or, Nat.testBit_and, bit_pow, bit_pow, Bool.or_eq_true, Bool.or_eq_true, Bool.and_eq_true, decide_eq_true_eq, decide_eq_true_eq] at h2
    rcases h2 with (h2 | h2) | h2
    · exact Or.inr ⟨r, lv_n hw h2.2, h2.1, h2.2, h3⟩
    · left
      rcases hlg with z | z
      · left; rw [z.1, h2]; exact h3
      · right; rw [z.2, h2]; exact h3
    · left
      rcases hlg with z | z
      · right; rw [z.2, h2]; exact h3
      · left; rw [z.1, h2]; exact h3
  · rintro ((h | h) | ⟨r, h1, h2, h3, h4⟩)
    · refine ⟨p, hp, ?_, h⟩
      rw [Nat.testBit_or, Nat.testBit_or, bit_pow, bit_pow]
      rcases hlg with z | z
      · rw [decide_eq_true z.1.symm]; simp
      · rw [decide_eq_true z.1.symm]; simp
    · refine ⟨q, hq, ?_, h⟩
      rw [Nat.testBit_or, Nat.testBit_or, bit_pow, bit_pow]
      rcases hlg with z | z
      · rw [decide_eq_true z.2.symm]; simp
      · rw [decide_eq_true z.2.symm]; simp
    · refine ⟨r, by have := wf_n hw; omega, ?_, h4⟩
      rw [Nat.testBit_or, Nat.testBit_or, Nat.testBit_and, h2, h3]; rfl
theorem alone_eq (hw : wf f L) {p : Nat} (hp : p < 8) (h : (f 52).testBit p = true) : (mn_d (f 52) (f (56 + p)) = 2 ^ p) = (mn_d (mn_d (f 52) (2 ^ p)) (f (56 + p)) = 0) := by
  have hb : (f (56 + p)).testBit p = false := by
    rw [wf_b hw hp]
    unfold fhp
    rw [if_pos rfl]
    simp
  apply propext
  constructor
  · intro h1
    apply d_eq
    intro i
    have := congrArg (fun x => x.testBit i) h1
    simp only [mn_d_bit, bit_pow] at this
    rw [mn_d_bit, mn_d_bit, bit_pow, Nat.zero_testBit]
    cases h2 : (f 52).testBit i <;> cases h3 : (f (56 + p)).testBit i <;> rw [h2, h3] at this <;> simp_all
  · intro h1
    apply d_eq
    intro i
    have := congrArg (fun x => x.testBit i) h1
    simp only [mn_d_bit, bit_pow, Nat.zero_testBit] at this
    rw [mn_d_bit, bit_pow]
    by_cases he : p = i
    · subst he
      rw [h, hb, decide_eq_true rfl]; rfl
    · rw [decide_eq_false he] at this ⊢
      simpa using this
theorem fr_bit (hw : wf f L) {p q : Nat} (hp : p < 8) (hq : q < 8) : (¬ f (56 + q) &&& f (56 + p) = 0) ↔ (fn_ta f (f (56 + p))).testBit q = true := by
  have sym : ∀ a b, a < 8 → b < 8 → (f (56 + a)).testBit b = (f (56 + b)).testBit a := by
    intro a b ha hb
    rw [wf_b hw ha, wf_b hw hb, decide_eq_true ha, decide_eq_true hb, fhp_comm]
  rw [ta_bit, and_zero]
  constructor
  · intro h
    apply Classical.byContradiction
    intro h2
    apply h
    intro i hi
    cases hc : (f (56 + p)).testBit i
    · rfl
    · exfalso
      have hi8 : i < 8 := bit_lt (n := 8) (wf_t hw hp) hc
      exact h2 ⟨i, hi8, hc, by rw [sym i q hi8 hq]; exact hi⟩
  · rintro ⟨r, h1, h2, h3⟩ h4
    have := h4 r (by rw [sym q r hq h1]; exact h3)
    rw [h2] at this; cases this
end
theorem ip_t {n p : Nat} (h : p < n) (hn : n ≤ 8) : ip n (nI p) = true := by
  unfold ip
  rw [nI_toInt (by omega)]
  exact decide_eq_true (by omega)
theorem ip_x {n : Nat} {x : Int32} (h : ip n x = true) : ∃ p, p < n ∧ x = nI p := by
  unfold ip at h
  rw [decide_eq_true_eq] at h
  refine ⟨x.toInt.toNat, by omega, ?_⟩
  rw [← Int32.toInt_inj, nI_toInt (by have := x.toInt_lt; omega)]
  omega
section
variable {X : mj_X} {d : Nat} {s : mw_S} {f : Nat → Nat} {L : Nat}
theorem c243 (hw : wf f L) {p q : Nat} (hp : p < 8) (hq : q < 8) : mj_call X (d + 2) 243 [.ref 42, .int (nI p), .int (nI q)] (mw_U (mp s f)) = some (.inl (some (.int (nI (fcsp f p q).toNat))), mw_U (mp s f)) := by
  have r60 := mw_r_60
  have hn := wf_n hw
  have hf := wf_lt hw
  have hg := gp_lt hp hq
  unfold fcsp
  by_cases h : p = q
  · subst h
    have e : fhp f p p = 0 := by unfold fhp; rw [if_pos rfl]
    simp (disch := first | assumption | exact hf _ | omega) only [b243, b243_0, b243_6, b243_9, b243_11, b243_20, b243_32, b243_35, b243_45, b243_48, b243_52, b243_53, b243_69, b243_74, b243_85, b243_91, b243_94, b243_105, b243_108, b243_112, b243_113, b243_121, nI_add, mn_mul, mn_sub, mn_m1, mn_m8, mn_eq, mn_lt, mn_le, mn_eq0, mn_0eq, mn_lt0, mn_0lt, mn_le0, mn_0le, mn_eqm, mn_meq, mn_ltm, mn_mlt, mn_lem, mn_mle, mn_mm1, mn_mm2, mn_mm3, mn_mm4, mn_mm5, mn_mm6, mn_and, mn_or, mn_an, mn_shl, mn_shr, mn_div, mn_rem, mn_clamp, mn_in, mn_inm, mn_nz, mn_zo, mn_min, mn_max, mn_abs, mn_rfit, mn_cp, mn_les, mn_gre, mn_a127, mn_a15, mn_a1, mn_a255, mn_tn0, mn_tn0e, mn_tnr, mn_tnz, mr_get, mr_ne, mr_put, mu_ne, mu_eq, mj_bk_i, mj_bk_v, mj_bk_x, decide_eq_true_eq, decide_true, decide_false, Bool.false_eq_true, Bool.true_eq_false, reduceCtorEq, mt_le_t, mt_le_f, mt_lt_t, mt_lt_f, mt_eq_t, mt_eq_f, mt_ee, not_true_eq_false, not_false_eq_true, and_true, true_and, and_self, Nat.zero_add, Nat.add_zero, Nat.one_mul, Nat.mul_one, Nat.reduceAdd, Nat.reduceMul, Nat.reduceSub, Nat.reducePow, Nat.reduceDiv, Nat.reduceMod, ↓reduceIte, mp_h, mp_w, mp_c, mp_s, mp_d, mp_n, mp_54, mp_52, mp_55, mp_l, mp_o, mp_42, mp_45, gh_gp, gw_gp, gc_gp, mw_pne, Nat.or_zero, c229 hp hq, e, Nat.lt_irrefl, Bool.false_and, Bool.toNat_false]
  · have e : fhp f p q = fh f (fp p q) := by unfold fhp; rw [if_neg h]
    have e2 : fwp f p q = fw f (fp p q) := by unfold fwp; rw [if_neg h]
    have hw4 := fw_lt f (fp p q)
    unfold fcs
    by_cases h0 : 0 < fh f (fp p q)
    · rw [settle_eq hw hp hq h]
      have start : ∀ b : Bool, b = ((f (8 + p)).testBit (fw f (fp p q)) || (f (8 + q)).testBit (fw f (fp p q))) → mj_call X (d + 2) 243 [.ref 42, .int (nI p), .int (nI q)] (mw_U (mp s f)) = mj_exec X (d + 2) 243 58 [some (.ref 42), some (.int (nI p)), some (.int (nI q)), some (.int (nI (fw f (fp p q)))), some (.int (nI b.toNat)), some (.int (nI 0))] [] (mw_U (mp s f)) := by
        intro b hb
        cases h1 : (f (8 + p)).testBit (fw f (fp p q))
        · cases h2 : (f (8 + q)).testBit (fw f (fp p q))
          · rw [h1, h2] at hb
            subst hb
            simp (disch := first | assumption | exact hf _ | omega) only [b243, b243_0, b243_6, b243_9, b243_11, b243_20, b243_32, b243_35, b243_45, b243_48, b243_52, b243_53, b243_69, b243_74, b243_85, b243_91, b243_94, b243_105, b243_108, b243_112, b243_113, b243_121, nI_add, mn_mul, mn_sub, mn_m1, mn_m8, mn_eq, mn_lt, mn_le, mn_eq0, mn_0eq, mn_lt0, mn_0lt, mn_le0, mn_0le, mn_eqm, mn_meq, mn_ltm, mn_mlt, mn_lem, mn_mle, mn_mm1, mn_mm2, mn_mm3, mn_mm4, mn_mm5, mn_mm6, mn_and, mn_or, mn_an, mn_shl, mn_shr, mn_div, mn_rem, mn_clamp, mn_in, mn_inm, mn_nz, mn_zo, mn_min, mn_max, mn_abs, mn_rfit, mn_cp, mn_les, mn_gre, mn_a127, mn_a15, mn_a1, mn_a255, mn_tn0, mn_tn0e, mn_tnr, mn_tnz, mr_get, mr_ne, mr_put, mu_ne, mu_eq, mj_bk_i, mj_bk_v, mj_bk_x, decide_eq_true_eq, decide_true, decide_false, Bool.false_eq_true, Bool.true_eq_false, reduceCtorEq, mt_le_t, mt_le_f, mt_lt_t, mt_lt_f, mt_eq_t, mt_eq_f, mt_ee, not_true_eq_false, not_false_eq_true, and_true, true_and, and_self, Nat.zero_add, Nat.add_zero, Nat.one_mul, Nat.mul_one, Nat.reduceAdd, Nat.reduceMul, Nat.reduceSub, Nat.reducePow, Nat.reduceDiv, Nat.reduceMod, ↓reduceIte, mp_h, mp_w, mp_c, mp_s, mp_d, mp_n, mp_54, mp_52, mp_55, mp_l, mp_o, mp_42, mp_45, gh_gp, gw_gp, gc_gp, mw_pne, Nat.or_zero, c229 hp hq, e, e2, h0, c222 hp hq, c236, h1, h2, Bool.or_self, Bool.toNat_false]
          · rw [h1, h2] at hb
            subst hb
            simp (disch := first | assumption | exact hf _ | omega) only [b243, b243_0, b243_6, b243_9, b243_11, b243_20, b243_32, b243_35, b243_45, b243_48, b243_52, b243_53, b243_69, b243_74, b243_85, b243_91, b243_94, b243_105, b243_108, b243_112, b243_113, b243_121, nI_add, mn_mul, mn_sub, mn_m1, mn_m8, mn_eq, mn_lt, mn_le, mn_eq0, mn_0eq, mn_lt0, mn_0lt, mn_le0, mn_0le, mn_eqm, mn_meq, mn_ltm, mn_mlt, mn_lem, mn_mle, mn_mm1, mn_mm2, mn_mm3, mn_mm4, mn_mm5, mn_mm6, mn_and, mn_or, mn_an, mn_shl, mn_shr, mn_div, mn_rem, mn_clamp, mn_in, mn_inm, mn_nz, mn_zo, mn_min, mn_max, mn_abs, mn_rfit, mn_cp, mn_les, mn_gre, mn_a127, mn_a15, mn_a1, mn_a255, mn_tn0, mn_tn0e, mn_tnr, mn_tnz, mr_get, mr_ne, mr_put, mu_ne, mu_eq, mj_bk_i, mj_bk_v, mj_bk_x, decide_eq_true_eq, decide_true, decide_false, Bool.false_eq_true, Bool.true_eq_false, reduceCtorEq, mt_le_t, mt_le_f, mt_lt_t, mt_lt_f, mt_eq_t, mt_eq_f, mt_ee, not_true_eq_false, not_false_eq_true, and_true, true_and, and_self, Nat.zero_add, Nat.add_zero, Nat.one_mul, Nat.mul_one, Nat.reduceAdd, Nat.reduceMul, Nat.reduceSub, Nat.reducePow, Nat.reduceDiv, Nat.reduceMod, ↓reduceIte, mp_h, mp_w, mp_c, mp_s, mp_d, mp_n, mp_54, mp_52, mp_55, mp_l, mp_o, mp_42, mp_45, gh_gp, gw_gp, gc_gp, mw_pne, Nat.or_zero, c229 hp hq, e, e2, h0, c222 hp hq, c236, h1, h2, Bool.false_or, Bool.toNat_true]
        · rw [h1] at hb
          subst hb
          simp (disch := first | assumption | exact hf _ | omega) only [b243, b243_0, b243_6, b243_9, b243_11, b243_20, b243_32, b243_35, b243_45, b243_48, b243_52, b243_53, b243_69, b243_74, b243_85, b243_91, b243_94, b243_105, b243_108, b243_112, b243_113, b243_121, nI_add, mn_mul, mn_sub, mn_m1, mn_m8, mn_eq, mn_lt, mn_le, mn_eq0, mn_0eq, mn_lt0, mn_0lt, mn_le0, mn_0le, mn_eqm, mn_meq, mn_ltm, mn_mlt, mn_lem, mn_mle, mn_mm1, mn_mm2, mn_mm3, mn_mm4, mn_mm5, mn_mm6, mn_and, mn_or, mn_an, mn_shl, mn_shr, mn_div, mn_rem, mn_clamp, mn_in, mn_inm, mn_nz, mn_zo, mn_min, mn_max, mn_abs, mn_rfit, mn_cp, mn_les, mn_gre, mn_a127, mn_a15, mn_a1, mn_a255, mn_tn0, mn_tn0e, mn_tnr, mn_tnz, mr_get, mr_ne, mr_put, mu_ne, mu_eq, mj_bk_i, mj_bk_v, mj_bk_x, decide_eq_true_eq, decide_true, decide_false, Bool.false_eq_true, Bool.true_eq_false, reduceCtorEq, mt_le_t, mt_le_f, mt_lt_t, mt_lt_f, mt_eq_t, mt_eq_f, mt_ee, not_true_eq_false, not_false_eq_true, and_true, true_and, and_self, Nat.zero_add, Nat.add_zero, Nat.one_mul, Nat.mul_one, Nat.reduceAdd, Nat.reduceMul, Nat.reduceSub, Nat.reducePow, Nat.reduceDiv, Nat.reduceMod, ↓reduceIte, mp_h, mp_w, mp_c, mp_s, mp_d, mp_n, mp_54, mp_52, mp_55, mp_l, mp_o, mp_42, mp_45, gh_gp, gw_gp, gc_gp, mw_pne, Nat.or_zero, c229 hp hq, e, e2, h0, c222 hp hq, c236, h1, Bool.true_or, Bool.toNat_true]
      rw [start _ rfl]
      obtain ⟨hI, g, e⟩ := mr_for (E := fun i b (_ : Unit) => mj_exec X (d + 2) 243 58 [some (.ref 42), some (.int (nI p)), some (.int (nI q)), some (.int (nI (fw f (fp p q)))), some (.int (nI (Bool.toNat b))), some (.int (nI i))] [] (mw_U (mp s f))) (F := fun r (b : Bool) => b || ((f 53).testBit r && ((f 52).testBit r && (f (8 + r)).testBit (fw f (fp p q))))) (I := fun i c => True) (N := (f 55)) (by
        intro i b _ hi hI
        refine ⟨trivial, (), ?_⟩
        have t1 : (nI ((f 53).testBit i).toNat = nI 1) = ((f 53).testBit i = true) := by cases (f 53).testBit i <;> decide
        rw [b243_58]
        cases b
        · cases h1 : (f 53).testBit i
          · rw [h1] at t1
            simp (disch := first | assumption | exact hf _ | omega) only [b243, b243_0, b243_6, b243_9, b243_11, b243_20, b243_32, b243_35, b243_45, b243_48, b243_52, b243_53, b243_69, b243_74, b243_85, b243_91, b243_94, b243_105, b243_108, b243_112, b243_113, b243_121, nI_add, mn_mul, mn_sub, mn_m1, mn_m8, mn_eq, mn_lt, mn_le, mn_eq0, mn_0eq, mn_lt0, mn_0lt, mn_le0, mn_0le, mn_eqm, mn_meq, mn_ltm, mn_mlt, mn_lem, mn_mle, mn_mm1, mn_mm2, mn_mm3, mn_mm4, mn_mm5, mn_mm6, mn_and, mn_or, mn_an, mn_shl, mn_shr, mn_div, mn_rem, mn_clamp, mn_in, mn_inm, mn_nz, mn_zo, mn_min, mn_max, mn_abs, mn_rfit, mn_cp, mn_les, mn_gre, mn_a127, mn_a15, mn_a1, mn_a255, mn_tn0, mn_tn0e, mn_tnr, mn_tnz, mr_get, mr_ne, mr_put, mu_ne, mu_eq, mj_bk_i, mj_bk_v, mj_bk_x, decide_eq_true_eq, decide_true, decide_false, Bool.false_eq_true, Bool.true_eq_false, reduceCtorEq, mt_le_t, mt_le_f, mt_lt_t, mt_lt_f, mt_eq_t, mt_eq_f, mt_ee, not_true_eq_false, not_false_eq_true, and_true, true_and, and_self, Nat.zero_add, Nat.add_zero, Nat.one_mul, Nat.mul_one, Nat.reduceAdd, Nat.reduceMul, Nat.reduceSub, Nat.reducePow, Nat.reduceDiv, Nat.reduceMod, ↓reduceIte, mp_h, mp_w, mp_c, mp_s, mp_d, mp_n, mp_54, mp_52, mp_55, mp_l, mp_o, mp_42, mp_45, gh_gp, gw_gp, gc_gp, mw_pne, Nat.or_zero, h1, t1, Bool.false_and, Bool.or_false, Bool.toNat_false]
          · rw [h1] at t1
            cases h2 : (f 52).testBit i
            · simp (disch := first | assumption | exact hf _ | omega) only [b243, b243_0, b243_6, b243_9, b243_11, b243_20, b243_32, b243_35, b243_45, b243_48, b243_52, b243_53, b243_69, b243_74, b243_85, b243_91, b243_94, b243_105, b243_108, b243_112, b243_113, b243_121, nI_add, mn_mul, mn_sub, mn_m1, mn_m8, mn_eq, mn_lt, mn_le, mn_eq0, mn_0eq, mn_lt0, mn_0lt, mn_le0, mn_0le, mn_eqm, mn_meq, mn_ltm, mn_mlt, mn_lem, mn_mle, mn_mm1, mn_mm2, mn_mm3, mn_mm4, mn_mm5, mn_mm6, mn_and, mn_or, mn_an, mn_shl, mn_shr, mn_div, mn_rem, mn_clamp, mn_in, mn_inm, mn_nz, mn_zo, mn_min, mn_max, mn_abs, mn_rfit, mn_cp, mn_les, mn_gre, mn_a127, mn_a15, mn_a1, mn_a255, mn_tn0, mn_tn0e, mn_tnr, mn_tnz, mr_get, mr_ne, mr_put, mu_ne, mu_eq, mj_bk_i, mj_bk_v, mj_bk_x, decide_eq_true_eq, decide_true, decide_false, Bool.false_eq_true, Bool.true_eq_false, reduceCtorEq, mt_le_t, mt_le_f, mt_lt_t, mt_lt_f, mt_eq_t, mt_eq_f, mt_ee, not_true_eq_false, not_false_eq_true, and_true, true_and, and_self, Nat.zero_add, Nat.add_zero, Nat.one_mul, Nat.mul_one, Nat.reduceAdd, Nat.reduceMul, Nat.reduceSub, Nat.reducePow, Nat.reduceDiv, Nat.reduceMod, ↓reduceIte, mp_h, mp_w, mp_c, mp_s, mp_d, mp_n, mp_54, mp_52, mp_55, mp_l, mp_o, mp_42, mp_45, gh_gp, gw_gp, gc_gp, mw_pne, Nat.or_zero, h1, t1, h2, c241 hf (show i < 32 by omega), Bool.false_and, Bool.and_false, Bool.or_false, Bool.toNat_false]
            · cases h3 : (f (8 + i)).testBit (fw f (fp p q))
              · simp (disch := first | assumption | exact hf _ | omega) only [b243, b243_0, b243_6, b243_9, b243_11, b243_20, b243_32, b243_35, b243_45, b243_48, b243_52, b243_53, b243_69, b243_74, b243_85, b243_91, b243_94, b243_105, b243_108, b243_112, b243_113, b243_121, nI_add, mn_mul, mn_sub, mn_m1, mn_m8, mn_eq, mn_lt, mn_le, mn_eq0, mn_0eq, mn_lt0, mn_0lt, mn_le0, mn_0le, mn_eqm, mn_meq, mn_ltm, mn_mlt, mn_lem, mn_mle, mn_mm1, mn_mm2, mn_mm3, mn_mm4, mn_mm5, mn_mm6, mn_and, mn_or, mn_an, mn_shl, mn_shr, mn_div, mn_rem, mn_clamp, mn_in, mn_inm, mn_nz, mn_zo, mn_min, mn_max, mn_abs, mn_rfit, mn_cp, mn_les, mn_gre, mn_a127, mn_a15, mn_a1, mn_a255, mn_tn0, mn_tn0e, mn_tnr, mn_tnz, mr_get, mr_ne, mr_put, mu_ne, mu_eq, mj_bk_i, mj_bk_v, mj_bk_x, decide_eq_true_eq, decide_true, decide_false, Bool.false_eq_true, Bool.true_eq_false, reduceCtorEq, mt_le_t, mt_le_f, mt_lt_t, mt_lt_f, mt_eq_t, mt_eq_f, mt_ee, not_true_eq_false, not_false_eq_true, and_true, true_and, and_self, Nat.zero_add, Nat.add_zero, Nat.one_mul, Nat.mul_one, Nat.reduceAdd, Nat.reduceMul, Nat.reduceSub, Nat.reducePow, Nat.reduceDiv, Nat.reduceMod, ↓reduceIte, mp_h, mp_w, mp_c, mp_s, mp_d, mp_n, mp_54, mp_52, mp_55, mp_l, mp_o, mp_42, mp_45, gh_gp, gw_gp, gc_gp, mw_pne, Nat.or_zero, h1, t1, h2, h3, c241 hf (show i < 32 by omega), c236, Bool.and_false, Bool.or_false, Bool.toNat_false]
              · simp (disch := first | assumption | exact hf _ | omega) only [b243, b243_0, b243_6, b243_9, b243_11, b243_20, b243_32, b243_35, b243_45, b243_48, b243_52, b243_53, b243_69, b243_74, b243_85, b243_91, b243_94, b243_105, b243_108, b243_112, b243_113, b243_121, nI_add, mn_mul, mn_sub, mn_m1, mn_m8, mn_eq, mn_lt, mn_le, mn_eq0, mn_0eq, mn_lt0, mn_0lt, mn_le0, mn_0le, mn_eqm, mn_meq, mn_ltm, mn_mlt, mn_lem, mn_mle, mn_mm1, mn_mm2, mn_mm3, mn_mm4, mn_mm5, mn_mm6, mn_and, mn_or, mn_an, mn_shl, mn_shr, mn_div, mn_rem, mn_clamp, mn_in, mn_inm, mn_nz, mn_zo, mn_min, mn_max, mn_abs, mn_rfit, mn_cp, mn_les, mn_gre, mn_a127, mn_a15, mn_a1, mn_a255, mn_tn0, mn_tn0e, mn_tnr, mn_tnz, mr_get, mr_ne, mr_put, mu_ne, mu_eq, mj_bk_i, mj_bk_v, mj_bk_x, decide_eq_true_eq, decide_true, decide_false, Bool.false_eq_true, Bool.true_eq_false, reduceCtorEq, mt_le_t, mt_le_f, mt_lt_t, mt_lt_f, mt_eq_t, mt_eq_f, mt_ee, not_true_eq_false, not_false_eq_true, and_true, true_and, and_self, Nat.zero_add, Nat.add_zero, Nat.one_mul, Nat.mul_one, Nat.reduceAdd, Nat.reduceMul, Nat.reduceSub, Nat.reducePow, Nat.reduceDiv, Nat.reduceMod, ↓reduceIte, mp_h, mp_w, mp_c, mp_s, mp_d, mp_n, mp_54, mp_52, mp_55, mp_l, mp_o, mp_42, mp_45, gh_gp, gw_gp, gc_gp, mw_pne, Nat.or_zero, h1, t1, h2, h3, c241 hf (show i < 32 by omega), c236, Bool.and_self, Bool.or_true, Bool.false_or, Bool.toNat_true, Bool.toNat_false]
        · simp (disch := first | assumption | exact hf _ | omega) only [b243, b243_0, b243_6, b243_9, b243_11, b243_20, b243_32, b243_35, b243_45, b243_48, b243_52, b243_53, b243_69, b243_74, b243_85, b243_91, b243_94, b243_105, b243_108, b243_112, b243_113, b243_121, nI_add, mn_mul, mn_sub, mn_m1, mn_m8, mn_eq, mn_lt, mn_le, mn_eq0, mn_0eq, mn_lt0, mn_0lt, mn_le0, mn_0le, mn_eqm, mn_meq, mn_ltm, mn_mlt, mn_lem, mn_mle, mn_mm1, mn_mm2, mn_mm3, mn_mm4, mn_mm5, mn_mm6, mn_and, mn_or, mn_an, mn_shl, mn_shr, mn_div, mn_rem, mn_clamp, mn_in, mn_inm, mn_nz, mn_zo, mn_min, mn_max, mn_abs, mn_rfit, mn_cp, mn_les, mn_gre, mn_a127, mn_a15, mn_a1, mn_a255, mn_tn0, mn_tn0e, mn_tnr, mn_tnz, mr_get, mr_ne, mr_put, mu_ne, mu_eq, mj_bk_i, mj_bk_v, mj_bk_x, decide_eq_true_eq, decide_true, decide_false, Bool.false_eq_true, Bool.true_eq_false, reduceCtorEq, mt_le_t, mt_le_f, mt_lt_t, mt_lt_f, mt_eq_t, mt_eq_f, mt_ee, not_true_eq_false, not_false_eq_true, and_true, true_and, and_self, Nat.zero_add, Nat.add_zero, Nat.one_mul, Nat.mul_one, Nat.reduceAdd, Nat.reduceMul, Nat.reduceSub, Nat.reducePow, Nat.reduceDiv, Nat.reduceMod, ↓reduceIte, mp_h, mp_w, mp_c, mp_s, mp_d, mp_n, mp_54, mp_52, mp_55, mp_l, mp_o, mp_42, mp_45, gh_gp, gw_gp, gc_gp, mw_pne, Nat.or_zero, Bool.true_or, Bool.toNat_true]
      ) (a := ((f (8 + p)).testBit (fw f (fp p q)) || (f (8 + q)).testBit (fw f (fp p q)))) trivial () (f 55) (Nat.le_refl (f 55))
      refine e.trans ?_
      rw [b243_58]
      simp (disch := first | assumption | exact hf _ | omega) only [b243, b243_0, b243_6, b243_9, b243_11, b243_20, b243_32, b243_35, b243_45, b243_48, b243_52, b243_53, b243_69, b243_74, b243_85, b243_91, b243_94, b243_105, b243_108, b243_112, b243_113, b243_121, nI_add, mn_mul, mn_sub, mn_m1, mn_m8, mn_eq, mn_lt, mn_le, mn_eq0, mn_0eq, mn_lt0, mn_0lt, mn_le0, mn_0le, mn_eqm, mn_meq, mn_ltm, mn_mlt, mn_lem, mn_mle, mn_mm1, mn_mm2, mn_mm3, mn_mm4, mn_mm5, mn_mm6, mn_and, mn_or, mn_an, mn_shl, mn_shr, mn_div, mn_rem, mn_clamp, mn_in, mn_inm, mn_nz, mn_zo, mn_min, mn_max, mn_abs, mn_rfit, mn_cp, mn_les, mn_gre, mn_a127, mn_a15, mn_a1, mn_a255, mn_tn0, mn_tn0e, mn_tnr, mn_tnz, mr_get, mr_ne, mr_put, mu_ne, mu_eq, mj_bk_i, mj_bk_v, mj_bk_x, decide_eq_true_eq, decide_true, decide_false, Bool.false_eq_true, Bool.true_eq_false, reduceCtorEq, mt_le_t, mt_le_f, mt_lt_t, mt_lt_f, mt_eq_t, mt_eq_f, mt_ee, not_true_eq_false, not_false_eq_true, and_true, true_and, and_self, Nat.zero_add, Nat.add_zero, Nat.one_mul, Nat.mul_one, Nat.reduceAdd, Nat.reduceMul, Nat.reduceSub, Nat.reducePow, Nat.reduceDiv, Nat.reduceMod, ↓reduceIte, mp_h, mp_w, mp_c, mp_s, mp_d, mp_n, mp_54, mp_52, mp_55, mp_l, mp_o, mp_42, mp_45, gh_gp, gw_gp, gc_gp, mw_pne, Nat.or_zero, h, h0, Bool.true_and]
    · simp (disch := first | assumption | exact hf _ | omega) only [b243, b243_0, b243_6, b243_9, b243_11, b243_20, b243_32, b243_35, b243_45, b243_48, b243_52, b243_53, b243_69, b243_74, b243_85, b243_91, b243_94, b243_105, b243_108, b243_112, b243_113, b243_121, nI_add, mn_mul, mn_sub, mn_m1, mn_m8, mn_eq, mn_lt, mn_le, mn_eq0, mn_0eq, mn_lt0, mn_0lt, mn_le0, mn_0le, mn_eqm, mn_meq, mn_ltm, mn_mlt, mn_lem, mn_mle, mn_mm1, mn_mm2, mn_mm3, mn_mm4, mn_mm5, mn_mm6, mn_and, mn_or, mn_an, mn_shl, mn_shr, mn_div, mn_rem, mn_clamp, mn_in, mn_inm, mn_nz, mn_zo, mn_min, mn_max, mn_abs, mn_rfit, mn_cp, mn_les, mn_gre, mn_a127, mn_a15, mn_a1, mn_a255, mn_tn0, mn_tn0e, mn_tnr, mn_tnz, mr_get, mr_ne, mr_put, mu_ne, mu_eq, mj_bk_i, mj_bk_v, mj_bk_x, decide_eq_true_eq, decide_true, decide_false, Bool.false_eq_true, Bool.true_eq_false, reduceCtorEq, mt_le_t, mt_le_f, mt_lt_t, mt_lt_f, mt_eq_t, mt_eq_f, mt_ee, not_true_eq_false, not_false_eq_true, and_true, true_and, and_self, Nat.zero_add, Nat.add_zero, Nat.one_mul, Nat.mul_one, Nat.reduceAdd, Nat.reduceMul, Nat.reduceSub, Nat.reducePow, Nat.reduceDiv, Nat.reduceMod, ↓reduceIte, mp_h, mp_w, mp_c, mp_s, mp_d, mp_n, mp_54, mp_52, mp_55, mp_l, mp_o, mp_42, mp_45, gh_gp, gw_gp, gc_gp, mw_pne, Nat.or_zero, c229 hp hq, e, h, h0, Bool.false_and, Bool.and_false, Bool.toNat_false]
theorem c233 : mj_call X d 233 [.ref 42] (mw_U (mp s f)) = some (.inl (some (.int (nI (fn_need f)))), mw_U (mp s f)) := by
  rw [b233, b233_0]
  obtain ⟨hI, g, e⟩ := mr_for (E := fun i c (_ : Unit) => mj_exec X d 233 4 [some (.ref 42), some (.int (nI c)), some (.int (nI i))] [] (mw_U (mp s f))) (F := fun b c => if 0 < gh f b then c ||| 2 ^ gw f b else c) (I := fun i c => True) (N := 64) (by
    intro i c _ hi hI
    refine ⟨trivial, (), ?_⟩
    have b1 := gh_lt f i
    have b2 := gw_lt f i
    rw [b233_4]
    by_cases h : 0 < gh f i
    · simp (disch := first | assumption | exact hf _ | omega) only [b233, b233_0, b233_10, b233_20, b233_31, b233_32, b233_40, nI_add, mn_mul, mn_sub, mn_m1, mn_m8, mn_eq, mn_lt, mn_le, mn_eq0, mn_0eq, mn_lt0, mn_0lt, mn_le0, mn_0le, mn_eqm, mn_meq, mn_ltm, mn_mlt, mn_lem, mn_mle, mn_mm1, mn_mm2, mn_mm3, mn_mm4, mn_mm5, mn_mm6, mn_and, mn_or, mn_an, mn_shl, mn_shr, mn_div, mn_rem, mn_clamp, mn_in, mn_inm, mn_nz, mn_zo, mn_min, mn_max, mn_abs, mn_rfit, mn_cp, mn_les, mn_gre, mn_a127, mn_a15, mn_a1, mn_a255, mn_tn0, mn_tn0e, mn_tnr, mn_tnz, mr_get, mr_ne, mr_put, mu_ne, mu_eq, mj_bk_i, mj_bk_v, mj_bk_x, decide_eq_true_eq, decide_true, decide_false, Bool.false_eq_true, Bool.true_eq_false, reduceCtorEq, mt_le_t, mt_le_f, mt_lt_t, mt_lt_f, mt_eq_t, mt_eq_f, mt_ee, not_true_eq_false, not_false_eq_true, and_true, true_and, and_self, Nat.zero_add, Nat.add_zero, Nat.one_mul, Nat.mul_one, Nat.reduceAdd, Nat.reduceMul, Nat.reduceSub, Nat.reducePow, Nat.reduceDiv, Nat.reduceMod, ↓reduceIte, mp_h, mp_w, mp_c, mp_s, mp_d, mp_n, mp_54, mp_52, mp_55, mp_l, mp_o, mp_42, mp_45, gh_gp, gw_gp, gc_gp, mw_pne, Nat.or_zero, h]
    · simp (disch := first | assumption | exact hf _ | omega) only [b233, b233_0, b233_10, b233_20, b233_31, b233_32, b233_40, nI_add, mn_mul, mn_sub, mn_m1, mn_m8, mn_eq, mn_lt, mn_le, mn_eq0, mn_0eq, mn_lt0, mn_0lt, mn_le0, mn_0le, mn_eqm, mn_meq, mn_ltm, mn_mlt, mn_lem, mn_mle, mn_mm1, mn_mm2, mn_mm3, mn_mm4, mn_mm5, mn_mm6, mn_and, mn_or, mn_an, mn_shl, mn_shr, mn_div, mn_rem, mn_clamp, mn_in, mn_inm, mn_nz, mn_zo, mn_min, mn_max, mn_abs, mn_rfit, mn_cp, mn_les, mn_gre, mn_a127, mn_a15, mn_a1, mn_a255, mn_tn0, mn_tn0e, mn_tnr, mn_tnz, mr_get, mr_ne, mr_put, mu_ne, mu_eq, mj_bk_i, mj_bk_v, mj_bk_x, decide_eq_true_eq, decide_true, decide_false, Bool.false_eq_true, Bool.true_eq_false, reduceCtorEq, mt_le_t, mt_le_f, mt_lt_t, mt_lt_f, mt_eq_t, mt_eq_f, mt_ee, not_true_eq_false, not_false_eq_true, and_true, true_and, and_self, Nat.zero_add, Nat.add_zero, Nat.one_mul, Nat.mul_one, Nat.reduceAdd, Nat.reduceMul, Nat.reduceSub, Nat.reducePow, Nat.reduceDiv, Nat.reduceMod, ↓reduceIte, mp_h, mp_w, mp_c, mp_s, mp_d, mp_n, mp_54, mp_52, mp_55, mp_l, mp_o, mp_42, mp_45, gh_gp, gw_gp, gc_gp, mw_pne, Nat.or_zero, h]
  ) (a := 0) trivial () 64 (Nat.le_refl 64)
  refine e.trans ?_
  rw [b233_4, need_64]
  simp (disch := first | assumption | exact hf _ | omega) only [b233, b233_0, b233_10, b233_20, b233_31, b233_32, b233_40, nI_add, mn_mul, mn_sub, mn_m1, mn_m8, mn_eq, mn_lt, mn_le, mn_eq0, mn_0eq, mn_lt0, mn_0lt, mn_le0, mn_0le, mn_eqm, mn_meq, mn_ltm, mn_mlt, mn_lem, mn_mle, mn_mm1, mn_mm2, mn_mm3, mn_mm4, mn_mm5, mn_mm6, mn_and, mn_or, mn_an, mn_shl, mn_shr, mn_div, mn_rem, mn_clamp, mn_in, mn_inm, mn_nz, mn_zo, mn_min, mn_max, mn_abs, mn_rfit, mn_cp, mn_les, mn_gre, mn_a127, mn_a15, mn_a1, mn_a255, mn_tn0, mn_tn0e, mn_tnr, mn_tnz, mr_get, mr_ne, mr_put, mu_ne, mu_eq, mj_bk_i, mj_bk_v, mj_bk_x, decide_eq_true_eq, decide_true, decide_false, Bool.false_eq_true, Bool.true_eq_false, reduceCtorEq, mt_le_t, mt_le_f, mt_lt_t, mt_lt_f, mt_eq_t, mt_eq_f, mt_ee, not_true_eq_false, not_false_eq_true, and_true, true_and, and_self, Nat.zero_add, Nat.add_zero, Nat.one_mul, Nat.mul_one, Nat.reduceAdd, Nat.reduceMul, Nat.reduceSub, Nat.reducePow, Nat.reduceDiv, Nat.reduceMod, ↓reduceIte, mp_h, mp_w, mp_c, mp_s, mp_d, mp_n, mp_54, mp_52, mp_55, mp_l, mp_o, mp_42, mp_45, gh_gp, gw_gp, gc_gp, mw_pne, Nat.or_zero]
theorem c273 (hw : wf f L) : mj_call X (d + 1) 273 [.ref 42] (mw_U (mp s f)) = some (.inl (some (.int (nm (fn_hot f)))), mw_U (mp s f)) := by
  have r59 := mw_r_59
  have hn := wf_n hw
  have eh : fn_hot f = mr_it (fun a o => mr_it (fun j (o : Option Nat) => if o.elim 0 (fh f) < fh f (fp a (a + 1 + j)) then some (fp a (a + 1 + j)) else o) (f 55 - (a + 1)) o) (f 55) none := by
    have e1 : fn_hot f = mr_it (fun i (o : Option Nat) => if o.elim 0 (fh f) < fh f i then some i else o) 28 none := by
      unfold fn_hot
      refine mr_it_congr (fun i o hi => ?_)
      by_cases h : o.elim 0 (fh f) < fh f i
      · rw [if_pos h, if_pos ⟨by omega, h⟩]
      · rw [if_neg h, if_neg (fun z => h z.2)]
    rw [e1]
    refine (pairs_n (G := fun i (o : Option Nat) => if o.elim 0 (fh f) < fh f i then some i else o) (I := fun _ => True) hn (fun _ _ _ _ => trivial) (fun p q o h1 h2 h3 _ => ?_) trivial).symm
    have := fhp_n hw (show p < 8 by omega) h2 h3
    unfold fhp at this
    rw [if_neg (by omega)] at this
    rw [if_neg (by omega)]
  rw [eh, b273, b273_0]
  obtain ⟨hI, g_, e⟩ := mr_for (E := fun i (o : Option Nat) (l : Option Value) => mj_exec X (d + 1) 273 6 [some (.ref 42), some (.int (nm o)), some (.int (nI (o.elim 0 (fh f)))), some (.int (nI i)), l] [] (mw_U (mp s f))) (F := fun a o => mr_it (fun j (o : Option Nat) => if o.elim 0 (fh f) < fh f (fp a (a + 1 + j)) then some (fp a (a + 1 + j)) else o) (f 55 - (a + 1)) o) (I := fun _ _ => True) (N := f 55) (by
    intro a o l ha _
    refine ⟨trivial, some (.int (nI (a + 1 + (f 55 - (a + 1))))), ?_⟩
    rw [b273_6]
    simp (disch := first | assumption | exact hf _ | omega) only [mn_in, decide_eq_true_eq, mt_lt_t, mn_clamp, mp_55, mn_le, mt_le_f, ↓reduceIte, b273_16, nI_add]
    obtain ⟨hI, g_, e⟩ := mr_for (E := fun j (o : Option Nat) (_ : Unit) => mj_exec X (d + 1) 273 21 [some (.ref 42), some (.int (nm o)), some (.int (nI (o.elim 0 (fh f)))), some (.int (nI a)), some (.int (nI (a + 1 + j)))] [] (mw_U (mp s f))) (F := fun j (o : Option Nat) => if o.elim 0 (fh f) < fh f (fp a (a + 1 + j)) then some (fp a (a + 1 + j)) else o) (I := fun _ _ => True) (N := f 55 - (a + 1)) (by
      intro j o _ hj _
      refine ⟨trivial, (), ?_⟩
      rw [show a + 1 + (j + 1) = a + 1 + j + 1 from rfl]
      have ha8 : a < 8 := by omega
      have hb8 : a + 1 + j < 8 := by omega
      have hne : ¬ a = a + 1 + j := by omega
      have hg := gp_lt ha8 hb8
      have hl := fh_lt f (fp a (a + 1 + j))
      have he : o.elim 0 (fh f) < 128 := by
        cases o with
        | none => exact Nat.zero_lt_succ _
        | some b => exact fh_lt f b
      have ep : fhp f a (a + 1 + j) = fh f (fp a (a + 1 + j)) := by unfold fhp; rw [if_neg hne]
      have en : nm (some (fp a (a + 1 + j))) = nI (10 * a + (a + 1 + j)) := by
        unfold nm
        obtain ⟨k1, k2⟩ := fp_l (show a < a + 1 + j by omega) hb8
        dsimp only
        rw [k1, k2]
      rw [b273_21]
      by_cases h : o.elim 0 (fh f) < fh f (fp a (a + 1 + j))
      · simp only [if_pos h, en, Option.elim_some]
        simp (disch := first | assumption | exact hf _ | omega) only [b273, b273_0, b273_16, b273_32, b273_42, b273_47, b273_50, b273_68, b273_70, b273_76, b273_82, nI_add, mn_mul, mn_sub, mn_m1, mn_m8, mn_eq, mn_lt, mn_le, mn_eq0, mn_0eq, mn_lt0, mn_0lt, mn_le0, mn_0le, mn_eqm, mn_meq, mn_ltm, mn_mlt, mn_lem, mn_mle, mn_mm1, mn_mm2, mn_mm3, mn_mm4, mn_mm5, mn_mm6, mn_and, mn_or, mn_an, mn_shl, mn_shr, mn_div, mn_rem, mn_clamp, mn_in, mn_inm, mn_nz, mn_zo, mn_min, mn_max, mn_abs, mn_rfit, mn_cp, mn_les, mn_gre, mn_a127, mn_a15, mn_a1, mn_a255, mn_tn0, mn_tn0e, mn_tnr, mn_tnz, mr_get, mr_ne, mr_put, mu_ne, mu_eq, mj_bk_i, mj_bk_v, mj_bk_x, decide_eq_true_eq, decide_true, decide_false, Bool.false_eq_true, Bool.true_eq_false, reduceCtorEq, mt_le_t, mt_le_f, mt_lt_t, mt_lt_f, mt_eq_t, mt_eq_f, mt_ee, not_true_eq_false, not_false_eq_true, and_true, true_and, and_self, Nat.zero_add, Nat.add_zero, Nat.one_mul, Nat.mul_one, Nat.reduceAdd, Nat.reduceMul, Nat.reduceSub, Nat.reducePow, Nat.reduceDiv, Nat.reduceMod, ↓reduceIte, mp_h, mp_w, mp_c, mp_s, mp_d, mp_n, mp_54, mp_52, mp_55, mp_l, mp_o, mp_42, mp_45, gh_gp, gw_gp, gc_gp, mw_pne, Nat.or_zero, c222 ha8 hb8, ep, h]
      · simp only [if_neg h]
        simp (disch := first | assumption | exact hf _ | omega) only [b273, b273_0, b273_16, b273_32, b273_42, b273_47, b273_50, b273_68, b273_70, b273_76, b273_82, nI_add, mn_mul, mn_sub, mn_m1, mn_m8, mn_eq, mn_lt, mn_le, mn_eq0, mn_0eq, mn_lt0, mn_0lt, mn_le0, mn_0le, mn_eqm, mn_meq, mn_ltm, mn_mlt, mn_lem, mn_mle, mn_mm1, mn_mm2, mn_mm3, mn_mm4, mn_mm5, mn_mm6, mn_and, mn_or, mn_an, mn_shl, mn_shr, mn_div, mn_rem, mn_clamp, mn_in, mn_inm, mn_nz, mn_zo, mn_min, mn_max, mn_abs, mn_rfit, mn_cp, mn_les, mn_gre, mn_a127, mn_a15, mn_a1, mn_a255, mn_tn0, mn_tn0e, mn_tnr, mn_tnz, mr_get, mr_ne, mr_put, mu_ne, mu_eq, mj_bk_i, mj_bk_v, mj_bk_x, decide_eq_true_eq, decide_true, decide_false, Bool.false_eq_true, Bool.true_eq_false, reduceCtorEq, mt_le_t, mt_le_f, mt_lt_t, mt_lt_f, mt_eq_t, mt_eq_f, mt_ee, not_true_eq_false, not_false_eq_true, and_true, true_and, and_self, Nat.zero_add, Nat.add_zero, Nat.one_mul, Nat.mul_one, Nat.reduceAdd, Nat.reduceMul, Nat.reduceSub, Nat.reducePow, Nat.reduceDiv, Nat.reduceMod, ↓reduceIte, mp_h, mp_w, mp_c, mp_s, mp_d, mp_n, mp_54, mp_52, mp_55, mp_l, mp_o, mp_42, mp_45, gh_gp, gw_gp, gc_gp, mw_pne, Nat.or_zero, c222 ha8 hb8, ep, h]) (a := o) trivial () (f 55 - (a + 1)) (Nat.le_refl _)
    refine e.trans ?_
    rw [b273_21]
    simp (disch := first | assumption | exact hf _ | omega) only [b273, b273_0, b273_16, b273_32, b273_42, b273_47, b273_50, b273_68, b273_70, b273_76, b273_82, nI_add, mn_mul, mn_sub, mn_m1, mn_m8, mn_eq, mn_lt, mn_le, mn_eq0, mn_0eq, mn_lt0, mn_0lt, mn_le0, mn_0le, mn_eqm, mn_meq, mn_ltm, mn_mlt, mn_lem, mn_mle, mn_mm1, mn_mm2, mn_mm3, mn_mm4, mn_mm5, mn_mm6, mn_and, mn_or, mn_an, mn_shl, mn_shr, mn_div, mn_rem, mn_clamp, mn_in, mn_inm, mn_nz, mn_zo, mn_min, mn_max, mn_abs, mn_rfit, mn_cp, mn_les, mn_gre, mn_a127, mn_a15, mn_a1, mn_a255, mn_tn0, mn_tn0e, mn_tnr, mn_tnz, mr_get, mr_ne, mr_put, mu_ne, mu_eq, mj_bk_i, mj_bk_v, mj_bk_x, decide_eq_true_eq, decide_true, decide_false, Bool.false_eq_true, Bool.true_eq_false, reduceCtorEq, mt_le_t, mt_le_f, mt_lt_t, mt_lt_f, mt_eq_t, mt_eq_f, mt_ee, not_true_eq_false, not_false_eq_true, and_true, true_and, and_self, Nat.zero_add, Nat.add_zero, Nat.one_mul, Nat.mul_one, Nat.reduceAdd, Nat.reduceMul, Nat.reduceSub, Nat.reducePow, Nat.reduceDiv, Nat.reduceMod, ↓reduceIte, mp_h, mp_w, mp_c, mp_s, mp_d, mp_n, mp_54, mp_52, mp_55, mp_l, mp_o, mp_42, mp_45, gh_gp, gw_gp, gc_gp, mw_pne, Nat.or_zero]) (a := none) trivial none (f 55) (Nat.le_refl _)
  refine e.trans ?_
  rw [b273_6]
  simp (disch := first | assumption | exact hf _ | omega) only [b273, b273_0, b273_16, b273_32, b273_42, b273_47, b273_50, b273_68, b273_70, b273_76, b273_82, nI_add, mn_mul, mn_sub, mn_m1, mn_m8, mn_eq, mn_lt, mn_le, mn_eq0, mn_0eq, mn_lt0, mn_0lt, mn_le0, mn_0le, mn_eqm, mn_meq, mn_ltm, mn_mlt, mn_lem, mn_mle, mn_mm1, mn_mm2, mn_mm3, mn_mm4, mn_mm5, mn_mm6, mn_and, mn_or, mn_an, mn_shl, mn_shr, mn_div, mn_rem, mn_clamp, mn_in, mn_inm, mn_nz, mn_zo, mn_min, mn_max, mn_abs, mn_rfit, mn_cp, mn_les, mn_gre, mn_a127, mn_a15, mn_a1, mn_a255, mn_tn0, mn_tn0e, mn_tnr, mn_tnz, mr_get, mr_ne, mr_put, mu_ne, mu_eq, mj_bk_i, mj_bk_v, mj_bk_x, decide_eq_true_eq, decide_true, decide_false, Bool.false_eq_true, Bool.true_eq_false, reduceCtorEq, mt_le_t, mt_le_f, mt_lt_t, mt_lt_f, mt_eq_t, mt_eq_f, mt_ee, not_true_eq_false, not_false_eq_true, and_true, true_and, and_self, Nat.zero_add, Nat.add_zero, Nat.one_mul, Nat.mul_one, Nat.reduceAdd, Nat.reduceMul, Nat.reduceSub, Nat.reducePow, Nat.reduceDiv, Nat.reduceMod, ↓reduceIte, mp_h, mp_w, mp_c, mp_s, mp_d, mp_n, mp_54, mp_52, mp_55, mp_l, mp_o, mp_42, mp_45, gh_gp, gw_gp, gc_gp, mw_pne, Nat.or_zero]
theorem top_n (hw : wf f L) (v : Nat → Nat) : mr_it (fun i (o : Option Nat) => if (f 52).testBit i = true ∧ (∀ b, o = some b → v b < v i) then some i else o) (f 55) none = fn_top f v := (mr_it_ext (wf_n hw) (fun i a h1 h2 => if_neg (fun z => by have := lv_n hw z.1; omega))).symm
theorem c274 (hw : wf f L) : mj_call X (d + 3) 274 [.ref 42] (mw_U (mp s f)) = some (.inl (some (.int (mo (fn_top f (fn_ha f))))), mw_U (mp s f)) := by
  have hn := wf_n hw
  have hf := wf_lt hw
  rw [b274, b274_0]
  obtain ⟨hI, g, e⟩ := mr_for (E := fun i o (_ : Unit) => mj_exec X (d + 3) 274 4 [some (.ref 42), some (.int (mo o)), some (.int (nI i))] [] (mw_U (mp s f))) (F := fun i (o : Option Nat) => if (f 52).testBit i = true ∧ (∀ b, o = some b → fn_ha f b < fn_ha f i) then some i else o) (I := fun i o => ∀ b, o = some b → b < 8) (N := (f 55)) (by
    intro i o _ hi hI
    have hi8 : i < 8 := by omega
    refine ⟨?_, (), ?_⟩
    · intro b hb
      split at hb
      · cases hb; exact hi8
      · exact hI b hb
    have hb := fn_ha_le f i
    rw [b274_4]
    cases h : (f 52).testBit i
    · simp (disch := first | assumption | exact hf _ | omega) only [b274, b274_0, b274_14, b274_19, b274_22, b274_27, b274_32, b274_37, b274_40, b274_42, b274_48, nI_add, mn_mul, mn_sub, mn_m1, mn_m8, mn_eq, mn_lt, mn_le, mn_eq0, mn_0eq, mn_lt0, mn_0lt, mn_le0, mn_0le, mn_eqm, mn_meq, mn_ltm, mn_mlt, mn_lem, mn_mle, mn_mm1, mn_mm2, mn_mm3, mn_mm4, mn_mm5, mn_mm6, mn_and, mn_or, mn_an, mn_shl, mn_shr, mn_div, mn_rem, mn_clamp, mn_in, mn_inm, mn_nz, mn_zo, mn_min, mn_max, mn_abs, mn_rfit, mn_cp, mn_les, mn_gre, mn_a127, mn_a15, mn_a1, mn_a255, mn_tn0, mn_tn0e, mn_tnr, mn_tnz, mr_get, mr_ne, mr_put, mu_ne, mu_eq, mj_bk_i, mj_bk_v, mj_bk_x, decide_eq_true_eq, decide_true, decide_false, Bool.false_eq_true, Bool.true_eq_false, reduceCtorEq, mt_le_t, mt_le_f, mt_lt_t, mt_lt_f, mt_eq_t, mt_eq_f, mt_ee, not_true_eq_false, not_false_eq_true, and_true, true_and, and_self, Nat.zero_add, Nat.add_zero, Nat.one_mul, Nat.mul_one, Nat.reduceAdd, Nat.reduceMul, Nat.reduceSub, Nat.reducePow, Nat.reduceDiv, Nat.reduceMod, ↓reduceIte, mp_h, mp_w, mp_c, mp_s, mp_d, mp_n, mp_54, mp_52, mp_55, mp_l, mp_o, mp_42, mp_45, gh_gp, gw_gp, gc_gp, mw_pne, Nat.or_zero, c241 hf (show i < 32 by omega), h, false_and]
    · cases o with
      | none => simp (disch := first | assumption | exact hf _ | omega) only [b274, b274_0, b274_14, b274_19, b274_22, b274_27, b274_32, b274_37, b274_40, b274_42, b274_48, nI_add, mn_mul, mn_sub, mn_m1, mn_m8, mn_eq, mn_lt, mn_le, mn_eq0, mn_0eq, mn_lt0, mn_0lt, mn_le0, mn_0le, mn_eqm, mn_meq, mn_ltm, mn_mlt, mn_lem, mn_mle, mn_mm1, mn_mm2, mn_mm3, mn_mm4, mn_mm5, mn_mm6, mn_and, mn_or, mn_an, mn_shl, mn_shr, mn_div, mn_rem, mn_clamp, mn_in, mn_inm, mn_nz, mn_zo, mn_min, mn_max, mn_abs, mn_rfit, mn_cp, mn_les, mn_gre, mn_a127, mn_a15, mn_a1, mn_a255, mn_tn0, mn_tn0e, mn_tnr, mn_tnz, mr_get, mr_ne, mr_put, mu_ne, mu_eq, mj_bk_i, mj_bk_v, mj_bk_x, decide_eq_true_eq, decide_true, decide_false, Bool.false_eq_true, Bool.true_eq_false, reduceCtorEq, mt_le_t, mt_le_f, mt_lt_t, mt_lt_f, mt_eq_t, mt_eq_f, mt_ee, not_true_eq_false, not_false_eq_true, and_true, true_and, and_self, Nat.zero_add, Nat.add_zero, Nat.one_mul, Nat.mul_one, Nat.reduceAdd, Nat.reduceMul, Nat.reduceSub, Nat.reducePow, Nat.reduceDiv, Nat.reduceMod, ↓reduceIte, mp_h, mp_w, mp_c, mp_s, mp_d, mp_n, mp_54, mp_52, mp_55, mp_l, mp_o, mp_42, mp_45, gh_gp, gw_gp, gc_gp, mw_pne, Nat.or_zero, c241 hf (show i < 32 by omega), mo, h, false_implies, implies_true, true_and]
      | some b =>
        have hb8 := hI b rfl
        have hb2 := fn_ha_le f b
        by_cases h2 : fn_ha f b < fn_ha f i
        · simp (disch := first | assumption | exact hf _ | omega) only [b274, b274_0, b274_14, b274_19, b274_22, b274_27, b274_32, b274_37, b274_40, b274_42, b274_48, nI_add, mn_mul, mn_sub, mn_m1, mn_m8, mn_eq, mn_lt, mn_le, mn_eq0, mn_0eq, mn_lt0, mn_0lt, mn_le0, mn_0le, mn_eqm, mn_meq, mn_ltm, mn_mlt, mn_lem, mn_mle, mn_mm1, mn_mm2, mn_mm3, mn_mm4, mn_mm5, mn_mm6, mn_and, mn_or, mn_an, mn_shl, mn_shr, mn_div, mn_rem, mn_clamp, mn_in, mn_inm, mn_nz, mn_zo, mn_min, mn_max, mn_abs, mn_rfit, mn_cp, mn_les, mn_gre, mn_a127, mn_a15, mn_a1, mn_a255, mn_tn0, mn_tn0e, mn_tnr, mn_tnz, mr_get, mr_ne, mr_put, mu_ne, mu_eq, mj_bk_i, mj_bk_v, mj_bk_x, decide_eq_true_eq, decide_true, decide_false, Bool.false_eq_true, Bool.true_eq_false, reduceCtorEq, mt_le_t, mt_le_f, mt_lt_t, mt_lt_f, mt_eq_t, mt_eq_f, mt_ee, not_true_eq_false, not_false_eq_true, and_true, true_and, and_self, Nat.zero_add, Nat.add_zero, Nat.one_mul, Nat.mul_one, Nat.reduceAdd, Nat.reduceMul, Nat.reduceSub, Nat.reducePow, Nat.reduceDiv, Nat.reduceMod, ↓reduceIte, mp_h, mp_w, mp_c, mp_s, mp_d, mp_n, mp_54, mp_52, mp_55, mp_l, mp_o, mp_42, mp_45, gh_gp, gw_gp, gc_gp, mw_pne, Nat.or_zero, c241 hf (show i < 32 by omega), c232 hw hi8, c232 hw hb8, mo, h, Option.some.injEq, forall_eq', h2, true_and]
        · simp (disch := first | assumption | exact hf _ | omega) only [b274, b274_0, b274_14, b274_19, b274_22, b274_27, b274_32, b274_37, b274_40, b274_42, b274_48, nI_add, mn_mul, mn_sub, mn_m1, mn_m8, mn_eq, mn_lt, mn_le, mn_eq0, mn_0eq, mn_lt0, mn_0lt, mn_le0, mn_0le, mn_eqm, mn_meq, mn_ltm, mn_mlt, mn_lem, mn_mle, mn_mm1, mn_mm2, mn_mm3, mn_mm4, mn_mm5, mn_mm6, mn_and, mn_or, mn_an, mn_shl, mn_shr, mn_div, mn_rem, mn_clamp, mn_in, mn_inm, mn_nz, mn_zo, mn_min, mn_max, mn_abs, mn_rfit, mn_cp, mn_les, mn_gre, mn_a127, mn_a15, mn_a1, mn_a255, mn_tn0, mn_tn0e, mn_tnr, mn_tnz, mr_get, mr_ne, mr_put, mu_ne, mu_eq, mj_bk_i, mj_bk_v, mj_bk_x, decide_eq_true_eq, decide_true, decide_false, Bool.false_eq_true, Bool.true_eq_false, reduceCtorEq, mt_le_t, mt_le_f, mt_lt_t, mt_lt_f, mt_eq_t, mt_eq_f, mt_ee, not_true_eq_false, not_false_eq_true, and_true, true_and, and_self, Nat.zero_add, Nat.add_zero, Nat.one_mul, Nat.mul_one, Nat.reduceAdd, Nat.reduceMul, Nat.reduceSub, Nat.reducePow, Nat.reduceDiv, Nat.reduceMod, ↓reduceIte, mp_h, mp_w, mp_c, mp_s, mp_d, mp_n, mp_54, mp_52, mp_55, mp_l, mp_o, mp_42, mp_45, gh_gp, gw_gp, gc_gp, mw_pne, Nat.or_zero, c241 hf (show i < 32 by omega), c232 hw hi8, c232 hw hb8, mo, h, Option.some.injEq, forall_eq', h2, true_and]
  ) (a := none) (by intro b hb; cases hb) () (f 55) (Nat.le_refl (f 55))
  refine e.trans ?_
  rw [b274_4, top_n hw]
  simp (disch := first | assumption | exact hf _ | omega) only [b274, b274_0, b274_14, b274_19, b274_22, b274_27, b274_32, b274_37, b274_40, b274_42, b274_48, nI_add, mn_mul, mn_sub, mn_m1, mn_m8, mn_eq, mn_lt, mn_le, mn_eq0, mn_0eq, mn_lt0, mn_0lt, mn_le0, mn_0le, mn_eqm, mn_meq, mn_ltm, mn_mlt, mn_lem, mn_mle, mn_mm1, mn_mm2, mn_mm3, mn_mm4, mn_mm5, mn_mm6, mn_and, mn_or, mn_an, mn_shl, mn_shr, mn_div, mn_rem, mn_clamp, mn_in, mn_inm, mn_nz, mn_zo, mn_min, mn_max, mn_abs, mn_rfit, mn_cp, mn_les, mn_gre, mn_a127, mn_a15, mn_a1, mn_a255, mn_tn0, mn_tn0e, mn_tnr, mn_tnz, mr_get, mr_ne, mr_put, mu_ne, mu_eq, mj_bk_i, mj_bk_v, mj_bk_x, decide_eq_true_eq, decide_true, decide_false, Bool.false_eq_true, Bool.true_eq_false, reduceCtorEq, mt_le_t, mt_le_f, mt_lt_t, mt_lt_f, mt_eq_t, mt_eq_f, mt_ee, not_true_eq_false, not_false_eq_true, and_true, true_and, and_self, Nat.zero_add, Nat.add_zero, Nat.one_mul, Nat.mul_one, Nat.reduceAdd, Nat.reduceMul, Nat.reduceSub, Nat.reducePow, Nat.reduceDiv, Nat.reduceMod, ↓reduceIte, mp_h, mp_w, mp_c, mp_s, mp_d, mp_n, mp_54, mp_52, mp_55, mp_l, mp_o, mp_42, mp_45, gh_gp, gw_gp, gc_gp, mw_pne, Nat.or_zero]
theorem fcp_z (hw : wf f L) {p q : Nat} (hp : p < 8) (hq : q < 8) (h : ¬ 0 < fhp f p q) : fcp f p q = 0 := by
  unfold fhp at h
  unfold fcp
  by_cases he : p = q
  · rw [if_pos he]
  · rw [if_neg he] at h ⊢
    have := (wf_z hw (fp_lt hp hq he)).mpr (by omega)
    unfold fc
    rw [this]
theorem c276 (hw : wf f L) {p : Nat} (hp : p < 8) : mj_call X (d + 2) 276 [.ref 42, .int (nI p)] (mw_U (mp s f)) = some (.inl (some (.int (nI (fn_ca f p)))), mw_U (mp s f)) := by
  have r61 := mw_r_61
  have hn := wf_n hw
  rw [b276, b276_0]
  obtain ⟨hI, g, e⟩ := mr_for (E := fun i c (_ : Unit) => mj_exec X (d + 2) 276 4 [some (.ref 42), some (.int (nI p)), some (.int (nI c)), some (.int (nI i))] [] (mw_U (mp s f))) (F := fun q c => c + fcp f p q) (I := fun i c => True) (N := (f 55)) (by
    intro i c _ hi hI
    refine ⟨trivial, (), ?_⟩
    have hi8 : i < 8 := by omega
    have hg := gp_lt hp hi8
    rw [b276_4]
    by_cases h : 0 < fhp f p i
    · simp (disch := first | assumption | exact hf _ | omega) only [b276, b276_0, b276_14, b276_21, b276_24, b276_33, b276_37, b276_38, b276_46, nI_add, mn_mul, mn_sub, mn_m1, mn_m8, mn_eq, mn_lt, mn_le, mn_eq0, mn_0eq, mn_lt0, mn_0lt, mn_le0, mn_0le, mn_eqm, mn_meq, mn_ltm, mn_mlt, mn_lem, mn_mle, mn_mm1, mn_mm2, mn_mm3, mn_mm4, mn_mm5, mn_mm6, mn_and, mn_or, mn_an, mn_shl, mn_shr, mn_div, mn_rem, mn_clamp, mn_in, mn_inm, mn_nz, mn_zo, mn_min, mn_max, mn_abs, mn_rfit, mn_cp, mn_les, mn_gre, mn_a127, mn_a15, mn_a1, mn_a255, mn_tn0, mn_tn0e, mn_tnr, mn_tnz, mr_get, mr_ne, mr_put, mu_ne, mu_eq, mj_bk_i, mj_bk_v, mj_bk_x, decide_eq_true_eq, decide_true, decide_false, Bool.false_eq_true, Bool.true_eq_false, reduceCtorEq, mt_le_t, mt_le_f, mt_lt_t, mt_lt_f, mt_eq_t, mt_eq_f, mt_ee, not_true_eq_false, not_false_eq_true, and_true, true_and, and_self, Nat.zero_add, Nat.add_zero, Nat.one_mul, Nat.mul_one, Nat.reduceAdd, Nat.reduceMul, Nat.reduceSub, Nat.reducePow, Nat.reduceDiv, Nat.reduceMod, ↓reduceIte, mp_h, mp_w, mp_c, mp_s, mp_d, mp_n, mp_54, mp_52, mp_55, mp_l, mp_o, mp_42, mp_45, gh_gp, gw_gp, gc_gp, mw_pne, Nat.or_zero, c229 hp hi8, c222 hp hi8, h]
    · have h0 := fcp_z hw hp hi8 h
      simp (disch := first | assumption | exact hf _ | omega) only [b276, b276_0, b276_14, b276_21, b276_24, b276_33, b276_37, b276_38, b276_46, nI_add, mn_mul, mn_sub, mn_m1, mn_m8, mn_eq, mn_lt, mn_le, mn_eq0, mn_0eq, mn_lt0, mn_0lt, mn_le0, mn_0le, mn_eqm, mn_meq, mn_ltm, mn_mlt, mn_lem, mn_mle, mn_mm1, mn_mm2, mn_mm3, mn_mm4, mn_mm5, mn_mm6, mn_and, mn_or, mn_an, mn_shl, mn_shr, mn_div, mn_rem, mn_clamp, mn_in, mn_inm, mn_nz, mn_zo, mn_min, mn_max, mn_abs, mn_rfit, mn_cp, mn_les, mn_gre, mn_a127, mn_a15, mn_a1, mn_a255, mn_tn0, mn_tn0e, mn_tnr, mn_tnz, mr_get, mr_ne, mr_put, mu_ne, mu_eq, mj_bk_i, mj_bk_v, mj_bk_x, decide_eq_true_eq, decide_true, decide_false, Bool.false_eq_true, Bool.true_eq_false, reduceCtorEq, mt_le_t, mt_le_f, mt_lt_t, mt_lt_f, mt_eq_t, mt_eq_f, mt_ee, not_true_eq_false, not_false_eq_true, and_true, true_and, and_self, Nat.zero_add, Nat.add_zero, Nat.one_mul, Nat.mul_one, Nat.reduceAdd, Nat.reduceMul, Nat.reduceSub, Nat.reducePow, Nat.reduceDiv, Nat.reduceMod, ↓reduceIte, mp_h, mp_w, mp_c, mp_s, mp_d, mp_n, mp_54, mp_52, mp_55, mp_l, mp_o, mp_42, mp_45, gh_gp, gw_gp, gc_gp, mw_pne, Nat.or_zero, c229 hp hi8, h, h0]
  ) (a := 0) trivial () (f 55) (Nat.le_refl (f 55))
  refine e.trans ?_
  have ee : mr_it (fun q c => c + fcp f p q) 8 0 = mr_it (fun q c => c + fcp f p q) (f 55) 0 := mr_it_ext hn (fun i a h1 h2 => by rw [fcp_z hw hp h2 (by rw [fhp_n hw hp h2 h1]; decide)]; rfl)
  rw [b276_4, ← ee]
  simp (disch := first | assumption | exact hf _ | omega) only [b276, b276_0, b276_14, b276_21, b276_24, b276_33, b276_37, b276_38, b276_46, nI_add, mn_mul, mn_sub, mn_m1, mn_m8, mn_eq, mn_lt, mn_le, mn_eq0, mn_0eq, mn_lt0, mn_0lt, mn_le0, mn_0le, mn_eqm, mn_meq, mn_ltm, mn_mlt, mn_lem, mn_mle, mn_mm1, mn_mm2, mn_mm3, mn_mm4, mn_mm5, mn_mm6, mn_and, mn_or, mn_an, mn_shl, mn_shr, mn_div, mn_rem, mn_clamp, mn_in, mn_inm, mn_nz, mn_zo, mn_min, mn_max, mn_abs, mn_rfit, mn_cp, mn_les, mn_gre, mn_a127, mn_a15, mn_a1, mn_a255, mn_tn0, mn_tn0e, mn_tnr, mn_tnz, mr_get, mr_ne, mr_put, mu_ne, mu_eq, mj_bk_i, mj_bk_v, mj_bk_x, decide_eq_true_eq, decide_true, decide_false, Bool.false_eq_true, Bool.true_eq_false, reduceCtorEq, mt_le_t, mt_le_f, mt_lt_t, mt_lt_f, mt_eq_t, mt_eq_f, mt_ee, not_true_eq_false, not_false_eq_true, and_true, true_and, and_self, Nat.zero_add, Nat.add_zero, Nat.one_mul, Nat.mul_one, Nat.reduceAdd, Nat.reduceMul, Nat.reduceSub, Nat.reducePow, Nat.reduceDiv, Nat.reduceMod, ↓reduceIte, mp_h, mp_w, mp_c, mp_s, mp_d, mp_n, mp_54, mp_52, mp_55, mp_l, mp_o, mp_42, mp_45, gh_gp, gw_gp, gc_gp, mw_pne, Nat.or_zero]
  rfl
theorem m281 (hw : wf f L) {p q : Nat} (hp : p < f 55) (hq : q < f 55) : mj_call X (d + 3) 281 [.ref 42, .int (nI p), .int (nI q)] (mw_U (mp s f)) = some (.inl (some (.int (mo (fn_btw f p q)))), mw_U (mp (mw_p s 42 2 (nI 0)) f)) := by
  have hn := wf_n hw
  have hf := wf_lt hw
  have h52 := wf_l8 hw
  have i1 := ip_t hp hn
  have i2 := ip_t hq hn
  have hp8 : p < 8 := by omega
  unfold fn_btw
  cases h1 : (f 52).testBit p
  · simp (disch := first | assumption | exact hf _ | omega) only [b281, b281_0, b281_10, b281_13, b281_18, b281_21, b281_26, b281_27, b281_32, b281_35, b281_40, b281_43, b281_45, b281_59, b281_64, b281_67, b281_70, b281_87, b281_95, b281_98, b281_108, b281_114, b281_115, b281_124, b281_133, nI_add, mn_mul, mn_sub, mn_m1, mn_m8, mn_eq, mn_lt, mn_le, mn_eq0, mn_0eq, mn_lt0, mn_0lt, mn_le0, mn_0le, mn_eqm, mn_meq, mn_ltm, mn_mlt, mn_lem, mn_mle, mn_mm1, mn_mm2, mn_mm3, mn_mm4, mn_mm5, mn_mm6, mn_and, mn_or, mn_an, mn_shl, mn_shr, mn_div, mn_rem, mn_clamp, mn_in, mn_inm, mn_nz, mn_zo, mn_min, mn_max, mn_abs, mn_rfit, mn_cp, mn_les, mn_gre, mn_a127, mn_a15, mn_a1, mn_a255, mn_tn0, mn_tn0e, mn_tnr, mn_tnz, mr_get, mr_ne, mr_put, mu_ne, mu_eq, mj_bk_i, mj_bk_v, mj_bk_x, decide_eq_true_eq, decide_true, decide_false, Bool.false_eq_true, Bool.true_eq_false, reduceCtorEq, mt_le_t, mt_le_f, mt_lt_t, mt_lt_f, mt_eq_t, mt_eq_f, mt_ee, not_true_eq_false, not_false_eq_true, and_true, true_and, and_self, Nat.zero_add, Nat.add_zero, Nat.one_mul, Nat.mul_one, Nat.reduceAdd, Nat.reduceMul, Nat.reduceSub, Nat.reducePow, Nat.reduceDiv, Nat.reduceMod, ↓reduceIte, mp_h, mp_w, mp_c, mp_s, mp_d, mp_n, mp_54, mp_52, mp_55, mp_l, mp_o, mp_42, mp_45, gh_gp, gw_gp, gc_gp, mw_pne, Nat.or_zero, mp_wo, c239 hn, i1, i2, c241 hf (show p < 32 by omega), h1, false_and]
    rfl
  cases h2 : (f 52).testBit q
  · simp (disch := first | assumption | exact hf _ | omega) only [b281, b281_0, b281_10, b281_13, b281_18, b281_21, b281_26, b281_27, b281_32, b281_35, b281_40, b281_43, b281_45, b281_59, b281_64, b281_67, b281_70, b281_87, b281_95, b281_98, b281_108, b281_114, b281_115, b281_124, b281_133, nI_add, mn_mul, mn_sub, mn_m1, mn_m8, mn_eq, mn_lt, mn_le, mn_eq0, mn_0eq, mn_lt0, mn_0lt, mn_le0, mn_0le, mn_eqm, mn_meq, mn_ltm, mn_mlt, mn_lem, mn_mle, mn_mm1, mn_mm2, mn_mm3, mn_mm4, mn_mm5, mn_mm6, mn_and, mn_or, mn_an, mn_shl, mn_shr, mn_div, mn_rem, mn_clamp, mn_in, mn_inm, mn_nz, mn_zo, mn_min, mn_max, mn_abs, mn_rfit, mn_cp, mn_les, mn_gre, mn_a127, mn_a15, mn_a1, mn_a255, mn_tn0, mn_tn0e, mn_tnr, mn_tnz, mr_get, mr_ne, mr_put, mu_ne, mu_eq, mj_bk_i, mj_bk_v, mj_bk_x, decide_eq_true_eq, decide_true, decide_false, Bool.false_eq_true, Bool.true_eq_false, reduceCtorEq, mt_le_t, mt_le_f, mt_lt_t, mt_lt_f, mt_eq_t, mt_eq_f, mt_ee, not_true_eq_false, not_false_eq_true, and_true, true_and, and_self, Nat.zero_add, Nat.add_zero, Nat.one_mul, Nat.mul_one, Nat.reduceAdd, Nat.reduceMul, Nat.reduceSub, Nat.reducePow, Nat.reduceDiv, Nat.reduceMod, ↓reduceIte, mp_h, mp_w, mp_c, mp_s, mp_d, mp_n, mp_54, mp_52, mp_55, mp_l, mp_o, mp_42, mp_45, gh_gp, gw_gp, gc_gp, mw_pne, Nat.or_zero, mp_wo, c239 hn, i1, i2, c241 hf (show p < 32 by omega), c241 hf (show q < 32 by omega), h1, h2, and_false]
    rfl
  simp only [and_self, if_true]
  have hrn : ∀ k, fn_rch f p k < 2 ^ f 55 := fun k => mr_it_inv (I := fun _ c => c < 2 ^ f 55) (Nat.pow_lt_pow_right (by decide) hp) (fun i a _ h => Nat.or_lt_two_pow h (it_or_lt (m := f 55) 8 (fun i hi => Nat.lt_of_le_of_lt (mn_d_le _ _) (wf_l hw))))
  have one_n : ∀ r, r < 2 ^ f 55 → mr_it (fun p b => if r.testBit p then b ||| mn_d (f 52) (f (56 + p)) else b) (f 55) r = r ||| fn_one f r := by
    intro r hr
    apply d_eq
    intro j
    have hz : ∀ n c, (mr_it (fun p b => if r.testBit p then b ||| mn_d (f 52) (f (56 + p)) else b) n c) = c ||| mr_it (fun p b => if r.testBit p then b ||| mn_d (f 52) (f (56 + p)) else b) n 0 := by
      intro n
      induction n with
      | zero => intro c; exact (Nat.or_zero c).symm
      | succ n ih =>
        intro c
        rw [mr_it, mr_it, ih c]
        split
        · rw [Nat.or_assoc]
        · rfl
    rw [hz, Nat.testBit_or, Nat.testBit_or]
    cases hrj : r.testBit j
    · rw [Bool.false_or, Bool.false_or, Bool.eq_iff_iff]
      unfold fn_one
      rw [it_or_bit (P := fun p => r.testBit p = true), it_or_bit (P := fun p => r.testBit p = true)]
      constructor
      · rintro ⟨a, a1, a2, a3⟩; exact ⟨a, by omega, a2, a3⟩
      · rintro ⟨a, a1, a2, a3⟩; exact ⟨a, bit_lt hr a2, a2, a3⟩
    · rfl
  have hrch := fun k => rch_lt hw hp8 k
  have step : ∀ n, n ≤ 8 → (∀ j, j < n → (fn_rch f p j).testBit q = false) → ∃ l5 l6, mj_exec X (d + 3) 281 52 [some (.ref 42), some (.int (nI p)), some (.int (nI q)), some (.int (nI (2 ^ p))), some (.int (nI 0)), none, none] [] (mw_U (mp (mw_p s 42 2 (nI 0)) f)) = mj_exec X (d + 3) 281 52 [some (.ref 42), some (.int (nI p)), some (.int (nI q)), some (.int (nI (fn_rch f p n))), some (.int (nI n)), l5, l6] [] (mw_U (mp (mw_p s 42 2 (nI 0)) f)) := by
    intro n
    induction n with
    | zero => intro _ _; exact ⟨none, none, rfl⟩
    | succ n ih =>
      intro hn8 hj
      obtain ⟨l5, l6, e0⟩ := ih (by omega) (fun j h => hj j (by omega))
      have hr := hrch n
      have hz := hj n (by omega)
      obtain ⟨hI, g_, e⟩ := mr_for (E := fun i c (_ : Unit) => mj_exec X (d + 3) 281 76 [some (.ref 42), some (.int (nI p)), some (.int (nI q)), some (.int (nI (fn_rch f p n))), some (.int (nI n)), some (.int (nI c)), some (.int (nI i))] [] (mw_U (mp (mw_p s 42 2 (nI 0)) f))) (F := fun i b => if (fn_rch f p n).testBit i then b ||| mn_d (f 52) (f (56 + i)) else b) (I := fun _ _ => True) (N := f 55) (by
        intro i c _ hi _
        refine ⟨trivial, (), ?_⟩
        rw [b281_76]
        cases h : (fn_rch f p n).testBit i
        · simp (disch := first | assumption | exact hf _ | omega) only [b281, b281_0, b281_10, b281_13, b281_18, b281_21, b281_26, b281_27, b281_32, b281_35, b281_40, b281_43, b281_45, b281_59, b281_64, b281_67, b281_70, b281_87, b281_95, b281_98, b281_108, b281_114, b281_115, b281_124, b281_133, nI_add, mn_mul, mn_sub, mn_m1, mn_m8, mn_eq, mn_lt, mn_le, mn_eq0, mn_0eq, mn_lt0, mn_0lt, mn_le0, mn_0le, mn_eqm, mn_meq, mn_ltm, mn_mlt, mn_lem, mn_mle, mn_mm1, mn_mm2, mn_mm3, mn_mm4, mn_mm5, mn_mm6, mn_and, mn_or, mn_an, mn_shl, mn_shr, mn_div, mn_rem, mn_clamp, mn_in, mn_inm, mn_nz, mn_zo, mn_min, mn_max, mn_abs, mn_rfit, mn_cp, mn_les, mn_gre, mn_a127, mn_a15, mn_a1, mn_a255, mn_tn0, mn_tn0e, mn_tnr, mn_tnz, mr_get, mr_ne, mr_put, mu_ne, mu_eq, mj_bk_i, mj_bk_v, mj_bk_x, decide_eq_true_eq, decide_true, decide_false, Bool.false_eq_true, Bool.true_eq_false, reduceCtorEq, mt_le_t, mt_le_f, mt_lt_t, mt_lt_f, mt_eq_t, mt_eq_f, mt_ee, not_true_eq_false, not_false_eq_true, and_true, true_and, and_self, Nat.zero_add, Nat.add_zero, Nat.one_mul, Nat.mul_one, Nat.reduceAdd, Nat.reduceMul, Nat.reduceSub, Nat.reducePow, Nat.reduceDiv, Nat.reduceMod, ↓reduceIte, mp_h, mp_w, mp_c, mp_s, mp_d, mp_n, mp_54, mp_52, mp_55, mp_l, mp_o, mp_42, mp_45, gh_gp, gw_gp, gc_gp, mw_pne, Nat.or_zero, c236, h]
        · simp (disch := first | assumption | exact hf _ | omega) only [b281, b281_0, b281_10, b281_13, b281_18, b281_21, b281_26, b281_27, b281_32, b281_35, b281_40, b281_43, b281_45, b281_59, b281_64, b281_67, b281_70, b281_87, b281_95, b281_98, b281_108, b281_114, b281_115, b281_124, b281_133, nI_add, mn_mul, mn_sub, mn_m1, mn_m8, mn_eq, mn_lt, mn_le, mn_eq0, mn_0eq, mn_lt0, mn_0lt, mn_le0, mn_0le, mn_eqm, mn_meq, mn_ltm, mn_mlt, mn_lem, mn_mle, mn_mm1, mn_mm2, mn_mm3, mn_mm4, mn_mm5, mn_mm6, mn_and, mn_or, mn_an, mn_shl, mn_shr, mn_div, mn_rem, mn_clamp, mn_in, mn_inm, mn_nz, mn_zo, mn_min, mn_max, mn_abs, mn_rfit, mn_cp, mn_les, mn_gre, mn_a127, mn_a15, mn_a1, mn_a255, mn_tn0, mn_tn0e, mn_tnr, mn_tnz, mr_get, mr_ne, mr_put, mu_ne, mu_eq, mj_bk_i, mj_bk_v, mj_bk_x, decide_eq_true_eq, decide_true, decide_false, Bool.false_eq_true, Bool.true_eq_false, reduceCtorEq, mt_le_t, mt_le_f, mt_lt_t, mt_lt_f, mt_eq_t, mt_eq_f, mt_ee, not_true_eq_false, not_false_eq_true, and_true, true_and, and_self, Nat.zero_add, Nat.add_zero, Nat.one_mul, Nat.mul_one, Nat.reduceAdd, Nat.reduceMul, Nat.reduceSub, Nat.reducePow, Nat.reduceDiv, Nat.reduceMod, ↓reduceIte, mp_h, mp_w, mp_c, mp_s, mp_d, mp_n, mp_54, mp_52, mp_55, mp_l, mp_o, mp_42, mp_45, gh_gp, gw_gp, gc_gp, mw_pne, Nat.or_zero, c236, h, c228 hw (show i < 8 by omega)]) (a := fn_rch f p n) trivial () (f 55) (Nat.le_refl _)
      refine ⟨some (.int (nI (fn_rch f p (n + 1)))), some (.int (nI (f 55))), ?_⟩
      rw [e0, b281_52]
      simp (disch := first | assumption | exact hf _ | omega) only [mn_le, mt_le_f, ↓reduceIte, b281_59, c236, hz, mj_bk_i, b281_64, Bool.toNat_false, mn_eq0, mt_ee, b281_70]
      refine e.trans ?_
      rw [one_n _ (hrn n), b281_76]
      simp (disch := first | assumption | exact hf _ | omega) only [b281, b281_0, b281_10, b281_13, b281_18, b281_21, b281_26, b281_27, b281_32, b281_35, b281_40, b281_43, b281_45, b281_59, b281_64, b281_67, b281_70, b281_87, b281_95, b281_98, b281_108, b281_114, b281_115, b281_124, b281_133, nI_add, mn_mul, mn_sub, mn_m1, mn_m8, mn_eq, mn_lt, mn_le, mn_eq0, mn_0eq, mn_lt0, mn_0lt, mn_le0, mn_0le, mn_eqm, mn_meq, mn_ltm, mn_mlt, mn_lem, mn_mle, mn_mm1, mn_mm2, mn_mm3, mn_mm4, mn_mm5, mn_mm6, mn_and, mn_or, mn_an, mn_shl, mn_shr, mn_div, mn_rem, mn_clamp, mn_in, mn_inm, mn_nz, mn_zo, mn_min, mn_max, mn_abs, mn_rfit, mn_cp, mn_les, mn_gre, mn_a127, mn_a15, mn_a1, mn_a255, mn_tn0, mn_tn0e, mn_tnr, mn_tnz, mr_get, mr_ne, mr_put, mu_ne, mu_eq, mj_bk_i, mj_bk_v, mj_bk_x, decide_eq_true_eq, decide_true, decide_false, Bool.false_eq_true, Bool.true_eq_false, reduceCtorEq, mt_le_t, mt_le_f, mt_lt_t, mt_lt_f, mt_eq_t, mt_eq_f, mt_ee, not_true_eq_false, not_false_eq_true, and_true, true_and, and_self, Nat.zero_add, Nat.add_zero, Nat.one_mul, Nat.mul_one, Nat.reduceAdd, Nat.reduceMul, Nat.reduceSub, Nat.reducePow, Nat.reduceDiv, Nat.reduceMod, ↓reduceIte, mp_h, mp_w, mp_c, mp_s, mp_d, mp_n, mp_54, mp_52, mp_55, mp_l, mp_o, mp_42, mp_45, gh_gp, gw_gp, gc_gp, mw_pne, Nat.or_zero]
      rfl
  have start : mj_call X (d + 3) 281 [.ref 42, .int (nI p), .int (nI q)] (mw_U (mp s f)) = mj_exec X (d + 3) 281 52 [some (.ref 42), some (.int (nI p)), some (.int (nI q)), some (.int (nI (2 ^ p))), some (.int (nI 0)), none, none] [] (mw_U (mp (mw_p s 42 2 (nI 0)) f)) := by
    simp (disch := first | assumption | exact hf _ | omega) only [b281, b281_0, b281_10, b281_13, b281_18, b281_21, b281_26, b281_27, b281_32, b281_35, b281_40, b281_43, b281_45, b281_59, b281_64, b281_67, b281_70, b281_87, b281_95, b281_98, b281_108, b281_114, b281_115, b281_124, b281_133, nI_add, mn_mul, mn_sub, mn_m1, mn_m8, mn_eq, mn_lt, mn_le, mn_eq0, mn_0eq, mn_lt0, mn_0lt, mn_le0, mn_0le, mn_eqm, mn_meq, mn_ltm, mn_mlt, mn_lem, mn_mle, mn_mm1, mn_mm2, mn_mm3, mn_mm4, mn_mm5, mn_mm6, mn_and, mn_or, mn_an, mn_shl, mn_shr, mn_div, mn_rem, mn_clamp, mn_in, mn_inm, mn_nz, mn_zo, mn_min, mn_max, mn_abs, mn_rfit, mn_cp, mn_les, mn_gre, mn_a127, mn_a15, mn_a1, mn_a255, mn_tn0, mn_tn0e, mn_tnr, mn_tnz, mr_get, mr_ne, mr_put, mu_ne, mu_eq, mj_bk_i, mj_bk_v, mj_bk_x, decide_eq_true_eq, decide_true, decide_false, Bool.false_eq_true, Bool.true_eq_false, reduceCtorEq, mt_le_t, mt_le_f, mt_lt_t, mt_lt_f, mt_eq_t, mt_eq_f, mt_ee, not_true_eq_false, not_false_eq_true, and_true, true_and, and_self, Nat.zero_add, Nat.add_zero, Nat.one_mul, Nat.mul_one, Nat.reduceAdd, Nat.reduceMul, Nat.reduceSub, Nat.reducePow, Nat.reduceDiv, Nat.reduceMod, ↓reduceIte, mp_h, mp_w, mp_c, mp_s, mp_d, mp_n, mp_54, mp_52, mp_55, mp_l, mp_o, mp_42, mp_45, gh_gp, gw_gp, gc_gp, mw_pne, Nat.or_zero, mp_wo, c239 hn, i1, i2, c241 hf (show p < 32 by omega), c241 hf (show q < 32 by omega), h1, h2]
  rw [start]
  by_cases hex : ∃ n, n < 8 ∧ (fn_rch f p n).testBit q = true
  · obtain ⟨n, hn, hb, hmin⟩ : ∃ n, n < 8 ∧ (fn_rch f p n).testBit q = true ∧ ∀ j, j < n → (fn_rch f p j).testBit q = false := by
      obtain ⟨n, hn, hb⟩ := hex
      induction n using Nat.strongRecOn with
      | ind n ih =>
        by_cases h : ∃ j, j < n ∧ (fn_rch f p j).testBit q = true
        · obtain ⟨j, hj, hjb⟩ := h
          exact ih j hj (by omega) hjb
        · exact ⟨n, hn, hb, fun j hj => by
            cases hc : (fn_rch f p j).testBit q
            · rfl
            · exact absurd ⟨j, hj, hc⟩ h⟩
    obtain ⟨l5, l6, e0⟩ := step n (by omega) hmin
    rw [find_range hmin hn hb, e0, b281_52]
    have hr := hrch n
    simp (disch := first | assumption | exact hf _ | omega) only [b281, b281_0, b281_10, b281_13, b281_18, b281_21, b281_26, b281_27, b281_32, b281_35, b281_40, b281_43, b281_45, b281_59, b281_64, b281_67, b281_70, b281_87, b281_95, b281_98, b281_108, b281_114, b281_115, b281_124, b281_133, nI_add, mn_mul, mn_sub, mn_m1, mn_m8, mn_eq, mn_lt, mn_le, mn_eq0, mn_0eq, mn_lt0, mn_0lt, mn_le0, mn_0le, mn_eqm, mn_meq, mn_ltm, mn_mlt, mn_lem, mn_mle, mn_mm1, mn_mm2, mn_mm3, mn_mm4, mn_mm5, mn_mm6, mn_and, mn_or, mn_an, mn_shl, mn_shr, mn_div, mn_rem, mn_clamp, mn_in, mn_inm, mn_nz, mn_zo, mn_min, mn_max, mn_abs, mn_rfit, mn_cp, mn_les, mn_gre, mn_a127, mn_a15, mn_a1, mn_a255, mn_tn0, mn_tn0e, mn_tnr, mn_tnz, mr_get, mr_ne, mr_put, mu_ne, mu_eq, mj_bk_i, mj_bk_v, mj_bk_x, decide_eq_true_eq, decide_true, decide_false, Bool.false_eq_true, Bool.true_eq_false, reduceCtorEq, mt_le_t, mt_le_f, mt_lt_t, mt_lt_f, mt_eq_t, mt_eq_f, mt_ee, not_true_eq_false, not_false_eq_true, and_true, true_and, and_self, Nat.zero_add, Nat.add_zero, Nat.one_mul, Nat.mul_one, Nat.reduceAdd, Nat.reduceMul, Nat.reduceSub, Nat.reducePow, Nat.reduceDiv, Nat.reduceMod, ↓reduceIte, mp_h, mp_w, mp_c, mp_s, mp_d, mp_n, mp_54, mp_52, mp_55, mp_l, mp_o, mp_42, mp_45, gh_gp, gw_gp, gc_gp, mw_pne, Nat.or_zero, c236, hb]
    rfl
  · have hall : ∀ j, j < 8 → (fn_rch f p j).testBit q = false := fun j hj => by
      cases hc : (fn_rch f p j).testBit q
      · rfl
      · exact absurd ⟨j, hj, hc⟩ hex
    obtain ⟨l5, l6, e0⟩ := step 8 (Nat.le_refl 8) hall
    rw [find_none hall, e0, b281_52]
    simp (disch := first | assumption | exact hf _ | omega) only [b281, b281_0, b281_10, b281_13, b281_18, b281_21, b281_26, b281_27, b281_32, b281_35, b281_40, b281_43, b281_45, b281_59, b281_64, b281_67, b281_70, b281_87, b281_95, b281_98, b281_108, b281_114, b281_115, b281_124, b281_133, nI_add, mn_mul, mn_sub, mn_m1, mn_m8, mn_eq, mn_lt, mn_le, mn_eq0, mn_0eq, mn_lt0, mn_0lt, mn_le0, mn_0le, mn_eqm, mn_meq, mn_ltm, mn_mlt, mn_lem, mn_mle, mn_mm1, mn_mm2, mn_mm3, mn_mm4, mn_mm5, mn_mm6, mn_and, mn_or, mn_an, mn_shl, mn_shr, mn_div, mn_rem, mn_clamp, mn_in, mn_inm, mn_nz, mn_zo, mn_min, mn_max, mn_abs, mn_rfit, mn_cp, mn_les, mn_gre, mn_a127, mn_a15, mn_a1, mn_a255, mn_tn0, mn_tn0e, mn_tnr, mn_tnz, mr_get, mr_ne, mr_put, mu_ne, mu_eq, mj_bk_i, mj_bk_v, mj_bk_x, decide_eq_true_eq, decide_true, decide_false, Bool.false_eq_true, Bool.true_eq_false, reduceCtorEq, mt_le_t, mt_le_f, mt_lt_t, mt_lt_f, mt_eq_t, mt_eq_f, mt_ee, not_true_eq_false, not_false_eq_true, and_true, true_and, and_self, Nat.zero_add, Nat.add_zero, Nat.one_mul, Nat.mul_one, Nat.reduceAdd, Nat.reduceMul, Nat.reduceSub, Nat.reducePow, Nat.reduceDiv, Nat.reduceMod, ↓reduceIte, mp_h, mp_w, mp_c, mp_s, mp_d, mp_n, mp_54, mp_52, mp_55, mp_l, mp_o, mp_42, mp_45, gh_gp, gw_gp, gc_gp, mw_pne, Nat.or_zero]
    rfl
theorem m282 (hw : wf f L) : mj_call X (d + 2) 282 [.ref 42] (mw_U (mp s f)) = some (.inl (some (.int (mo (fn_draw f)))), mw_U (mp (mw_p s 42 2 (nI 0)) f)) := by
  have hn := wf_n hw
  have hf := wf_lt hw
  have h52 := wf_l8 hw
  have hneed := fn_need_lt f
  rw [b282]
  simp (disch := first | assumption | exact hf _ | omega) only [b282_0, mp_wo]
  obtain ⟨hI, g, e⟩ := mr_for (E := fun i o (l : Option Value × Option Value) => mj_exec X (d + 2) 282 9 [some (.ref 42), some (.int (mo o)), some (.int (nI i)), l.1, l.2] [] (mw_U (mp (mw_p s 42 2 (nI 0)) f))) (F := fun g (o : Option Nat) => if mn_d g (f 52) = 0 ∧ (∀ b, o = some b → fn_cnt g < fn_cnt b) ∧ mn_d (fn_need f) (fn_words f g) = 0 then some g else o) (I := fun i o => ∀ b, o = some b → b < 256) (N := (f 52 + 1)) (by
    intro i o l hi hI
    refine ⟨?_, ?_⟩
    · intro b hb
      split at hb
      · cases hb; omega
      · exact hI b hb
    have h1 : mn_d i (f 52) < 2147483648 := Nat.lt_of_le_of_lt (mn_d_le _ _) (by omega)
    have h2 : mn_d (fn_need f) (fn_words f i) < 2147483648 := Nat.lt_of_le_of_lt (mn_d_le _ _) (by omega)
    have h3 := fn_cnt_le i
    have inner : ∀ l3 l4, ∃ k3 k4, mj_exec X (d + 2) 282 47 [some (.ref 42), some (.int (mo o)), some (.int (nI i)), l3, l4] [] (mw_U (mp (mw_p s 42 2 (nI 0)) f)) = mj_exec X (d + 2) 282 105 [some (.ref 42), some (.int (if mn_d (fn_need f) (fn_words f i) = 0 then nI i else mo o)), some (.int (nI i)), k3, k4] [] (mw_U (mp (mw_p s 42 2 (nI 0)) f)) := by
      intro l3 l4
      obtain ⟨hI, g_, e⟩ := mr_for (E := fun j c (_ : Unit) => mj_exec X (d + 2) 282 52 [some (.ref 42), some (.int (mo o)), some (.int (nI i)), some (.int (nI c)), some (.int (nI j))] [] (mw_U (mp (mw_p s 42 2 (nI 0)) f))) (F := fun p b => if i.testBit p then b ||| f (8 + p) else b) (I := fun _ _ => True) (N := f 55) (by
        intro j c _ hj _
        refine ⟨trivial, (), ?_⟩
        rw [b282_52]
        cases h : i.testBit j
        · simp (disch := first | assumption | exact hf _ | omega) only [b282, b282_0, b282_17, b282_28, b282_33, b282_37, b282_41, b282_44, b282_47, b282_63, b282_70, b282_73, b282_83, b282_84, b282_92, b282_96, b282_103, b282_105, b282_111, nI_add, mn_mul, mn_sub, mn_m1, mn_m8, mn_eq, mn_lt, mn_le, mn_eq0, mn_0eq, mn_lt0, mn_0lt, mn_le0, mn_0le, mn_eqm, mn_meq, mn_ltm, mn_mlt, mn_lem, mn_mle, mn_mm1, mn_mm2, mn_mm3, mn_mm4, mn_mm5, mn_mm6, mn_and, mn_or, mn_an, mn_shl, mn_shr, mn_div, mn_rem, mn_clamp, mn_in, mn_inm, mn_nz, mn_zo, mn_min, mn_max, mn_abs, mn_rfit, mn_cp, mn_les, mn_gre, mn_a127, mn_a15, mn_a1, mn_a255, mn_tn0, mn_tn0e, mn_tnr, mn_tnz, mr_get, mr_ne, mr_put, mu_ne, mu_eq, mj_bk_i, mj_bk_v, mj_bk_x, decide_eq_true_eq, decide_true, decide_false, Bool.false_eq_true, Bool.true_eq_false, reduceCtorEq, mt_le_t, mt_le_f, mt_lt_t, mt_lt_f, mt_eq_t, mt_eq_f, mt_ee, not_true_eq_false, not_false_eq_true, and_true, true_and, and_self, Nat.zero_add, Nat.add_zero, Nat.one_mul, Nat.mul_one, Nat.reduceAdd, Nat.reduceMul, Nat.reduceSub, Nat.reducePow, Nat.reduceDiv, Nat.reduceMod, ↓reduceIte, mp_h, mp_w, mp_c, mp_s, mp_d, mp_n, mp_54, mp_52, mp_55, mp_l, mp_o, mp_42, mp_45, gh_gp, gw_gp, gc_gp, mw_pne, Nat.or_zero, c236, h]
        · simp (disch := first | assumption | exact hf _ | omega) only [b282, b282_0, b282_17, b282_28, b282_33, b282_37, b282_41, b282_44, b282_47, b282_63, b282_70, b282_73, b282_83, b282_84, b282_92, b282_96, b282_103, b282_105, b282_111, nI_add, mn_mul, mn_sub, mn_m1, mn_m8, mn_eq, mn_lt, mn_le, mn_eq0, mn_0eq, mn_lt0, mn_0lt, mn_le0, mn_0le, mn_eqm, mn_meq, mn_ltm, mn_mlt, mn_lem, mn_mle, mn_mm1, mn_mm2, mn_mm3, mn_mm4, mn_mm5, mn_mm6, mn_and, mn_or, mn_an, mn_shl, mn_shr, mn_div, mn_rem, mn_clamp, mn_in, mn_inm, mn_nz, mn_zo, mn_min, mn_max, mn_abs, mn_rfit, mn_cp, mn_les, mn_gre, mn_a127, mn_a15, mn_a1, mn_a255, mn_tn0, mn_tn0e, mn_tnr, mn_tnz, mr_get, mr_ne, mr_put, mu_ne, mu_eq, mj_bk_i, mj_bk_v, mj_bk_x, decide_eq_true_eq, decide_true, decide_false, Bool.false_eq_true, Bool.true_eq_false, reduceCtorEq, mt_le_t, mt_le_f, mt_lt_t, mt_lt_f, mt_eq_t, mt_eq_f, mt_ee, not_true_eq_false, not_false_eq_true, and_true, true_and, and_self, Nat.zero_add, Nat.add_zero, Nat.one_mul, Nat.mul_one, Nat.reduceAdd, Nat.reduceMul, Nat.reduceSub, Nat.reducePow, Nat.reduceDiv, Nat.reduceMod, ↓reduceIte, mp_h, mp_w, mp_c, mp_s, mp_d, mp_n, mp_54, mp_52, mp_55, mp_l, mp_o, mp_42, mp_45, gh_gp, gw_gp, gc_gp, mw_pne, Nat.or_zero, c236, h]) (a := 0) trivial () (f 55) (Nat.le_refl _)
      refine ⟨some (.int (nI (fn_words f i))), some (.int (nI (f 55))), ?_⟩
      rw [b282_47]
      refine e.trans ?_
      have hi2 : i < 2 ^ f 55 := by have := wf_l hw; omega
      rw [words_n hw hi2, b282_52]
      by_cases q3 : mn_d (fn_need f) (fn_words f i) = 0
      · simp (disch := first | assumption | exact hf _ | omega) only [mn_in, decide_eq_true_eq, mt_lt_t, mn_clamp, mp_55, mn_le, mt_le_t, Nat.le_refl, ↓reduceIte, b282_92, c233, mj_bk_i, b282_96, mn_an, mn_eq0, q3, mt_ee, b282_103]
      · simp (disch := first | assumption | exact hf _ | omega) only [mn_in, decide_eq_true_eq, mt_lt_t, mn_clamp, mp_55, mn_le, mt_le_t, Nat.le_refl, ↓reduceIte, b282_92, c233, mj_bk_i, b282_96, mn_an, mn_eq0, q3]
    obtain ⟨k3, k4, ei⟩ := inner l.1 l.2
    rw [b282_9]
    by_cases q1 : mn_d i (f 52) = 0
    · cases o with
      | none =>
        refine ⟨(k3, k4), ?_⟩
        simp (disch := first | assumption | exact hf _ | omega) only [mp_52, mn_lt, mt_lt_f, ↓reduceIte, b282_17, mn_an, mn_eq0, q1, mt_ee, b282_28, mo] at ei ⊢
        rw [ei, b282_105]
        by_cases q3 : mn_d (fn_need f) (fn_words f i) = 0
        · simp (disch := first | assumption | exact hf _ | omega) only [b282, b282_0, b282_17, b282_28, b282_33, b282_37, b282_41, b282_44, b282_47, b282_63, b282_70, b282_73, b282_83, b282_84, b282_92, b282_96, b282_103, b282_105, b282_111, nI_add, mn_mul, mn_sub, mn_m1, mn_m8, mn_eq, mn_lt, mn_le, mn_eq0, mn_0eq, mn_lt0, mn_0lt, mn_le0, mn_0le, mn_eqm, mn_meq, mn_ltm, mn_mlt, mn_lem, mn_mle, mn_mm1, mn_mm2, mn_mm3, mn_mm4, mn_mm5, mn_mm6, mn_and, mn_or, mn_an, mn_shl, mn_shr, mn_div, mn_rem, mn_clamp, mn_in, mn_inm, mn_nz, mn_zo, mn_min, mn_max, mn_abs, mn_rfit, mn_cp, mn_les, mn_gre, mn_a127, mn_a15, mn_a1, mn_a255, mn_tn0, mn_tn0e, mn_tnr, mn_tnz, mr_get, mr_ne, mr_put, mu_ne, mu_eq, mj_bk_i, mj_bk_v, mj_bk_x, decide_eq_true_eq, decide_true, decide_false, Bool.false_eq_true, Bool.true_eq_false, reduceCtorEq, mt_le_t, mt_le_f, mt_lt_t, mt_lt_f, mt_eq_t, mt_eq_f, mt_ee, not_true_eq_false, not_false_eq_true, and_true, true_and, and_self, Nat.zero_add, Nat.add_zero, Nat.one_mul, Nat.mul_one, Nat.reduceAdd, Nat.reduceMul, Nat.reduceSub, Nat.reducePow, Nat.reduceDiv, Nat.reduceMod, ↓reduceIte, mp_h, mp_w, mp_c, mp_s, mp_d, mp_n, mp_54, mp_52, mp_55, mp_l, mp_o, mp_42, mp_45, gh_gp, gw_gp, gc_gp, mw_pne, Nat.or_zero, q3, reduceCtorEq, false_implies, implies_true, and_self]
        · simp (disch := first | assumption | exact hf _ | omega) only [b282, b282_0, b282_17, b282_28, b282_33, b282_37, b282_41, b282_44, b282_47, b282_63, b282_70, b282_73, b282_83, b282_84, b282_92, b282_96, b282_103, b282_105, b282_111, nI_add, mn_mul, mn_sub, mn_m1, mn_m8, mn_eq, mn_lt, mn_le, mn_eq0, mn_0eq, mn_lt0, mn_0lt, mn_le0, mn_0le, mn_eqm, mn_meq, mn_ltm, mn_mlt, mn_lem, mn_mle, mn_mm1, mn_mm2, mn_mm3, mn_mm4, mn_mm5, mn_mm6, mn_and, mn_or, mn_an, mn_shl, mn_shr, mn_div, mn_rem, mn_clamp, mn_in, mn_inm, mn_nz, mn_zo, mn_min, mn_max, mn_abs, mn_rfit, mn_cp, mn_les, mn_gre, mn_a127, mn_a15, mn_a1, mn_a255, mn_tn0, mn_tn0e, mn_tnr, mn_tnz, mr_get, mr_ne, mr_put, mu_ne, mu_eq, mj_bk_i, mj_bk_v, mj_bk_x, decide_eq_true_eq, decide_true, decide_false, Bool.false_eq_true, Bool.true_eq_false, reduceCtorEq, mt_le_t, mt_le_f, mt_lt_t, mt_lt_f, mt_eq_t, mt_eq_f, mt_ee, not_true_eq_false, not_false_eq_true, and_true, true_and, and_self, Nat.zero_add, Nat.add_zero, Nat.one_mul, Nat.mul_one, Nat.reduceAdd, Nat.reduceMul, Nat.reduceSub, Nat.reducePow, Nat.reduceDiv, Nat.reduceMod, ↓reduceIte, mp_h, mp_w, mp_c, mp_s, mp_d, mp_n, mp_54, mp_52, mp_55, mp_l, mp_o, mp_42, mp_45, gh_gp, gw_gp, gc_gp, mw_pne, Nat.or_zero, q3, and_false]
      | some b =>
        have hbi : b < 1024 := by have := hI b rfl; omega
        have h4 := fn_cnt_le b
        by_cases q2 : fn_cnt i < fn_cnt b
        · refine ⟨(k3, k4), ?_⟩
          simp (disch := first | assumption | exact hf _ | omega) only [mp_52, mn_lt, mt_lt_f, ↓reduceIte, b282_17, mn_an, mn_eq0, q1, mt_ee, b282_28, mo, mn_eqm, b282_33, c230 (show i < 1024 by omega), c230 hbi, mj_bk_i, b282_37, b282_41, q2] at ei ⊢
          rw [ei, b282_105]
          by_cases q3 : mn_d (fn_need f) (fn_words f i) = 0
          · simp (disch := first | assumption | exact hf _ | omega) only [b282, b282_0, b282_17, b282_28, b282_33, b282_37, b282_41, b282_44, b282_47, b282_63, b282_70, b282_73, b282_83, b282_84, b282_92, b282_96, b282_103, b282_105, b282_111, nI_add, mn_mul, mn_sub, mn_m1, mn_m8, mn_eq, mn_lt, mn_le, mn_eq0, mn_0eq, mn_lt0, mn_0lt, mn_le0, mn_0le, mn_eqm, mn_meq, mn_ltm, mn_mlt, mn_lem, mn_mle, mn_mm1, mn_mm2, mn_mm3, mn_mm4, mn_mm5, mn_mm6, mn_and, mn_or, mn_an, mn_shl, mn_shr, mn_div, mn_rem, mn_clamp, mn_in, mn_inm, mn_nz, mn_zo, mn_min, mn_max, mn_abs, mn_rfit, mn_cp, mn_les, mn_gre, mn_a127, mn_a15, mn_a1, mn_a255, mn_tn0, mn_tn0e, mn_tnr, mn_tnz, mr_get, mr_ne, mr_put, mu_ne, mu_eq, mj_bk_i, mj_bk_v, mj_bk_x, decide_eq_true_eq, decide_true, decide_false, Bool.false_eq_true, Bool.true_eq_false, reduceCtorEq, mt_le_t, mt_le_f, mt_lt_t, mt_lt_f, mt_eq_t, mt_eq_f, mt_ee, not_true_eq_false, not_false_eq_true, and_true, true_and, and_self, Nat.zero_add, Nat.add_zero, Nat.one_mul, Nat.mul_one, Nat.reduceAdd, Nat.reduceMul, Nat.reduceSub, Nat.reducePow, Nat.reduceDiv, Nat.reduceMod, ↓reduceIte, mp_h, mp_w, mp_c, mp_s, mp_d, mp_n, mp_54, mp_52, mp_55, mp_l, mp_o, mp_42, mp_45, gh_gp, gw_gp, gc_gp, mw_pne, Nat.or_zero, q3, Option.some.injEq, forall_eq', q2, and_self]
          · simp (disch := first | assumption | exact hf _ | omega) only [b282, b282_0, b282_17, b282_28, b282_33, b282_37, b282_41, b282_44, b282_47, b282_63, b282_70, b282_73, b282_83, b282_84, b282_92, b282_96, b282_103, b282_105, b282_111, nI_add, mn_mul, mn_sub, mn_m1, mn_m8, mn_eq, mn_lt, mn_le, mn_eq0, mn_0eq, mn_lt0, mn_0lt, mn_le0, mn_0le, mn_eqm, mn_meq, mn_ltm, mn_mlt, mn_lem, mn_mle, mn_mm1, mn_mm2, mn_mm3, mn_mm4, mn_mm5, mn_mm6, mn_and, mn_or, mn_an, mn_shl, mn_shr, mn_div, mn_rem, mn_clamp, mn_in, mn_inm, mn_nz, mn_zo, mn_min, mn_max, mn_abs, mn_rfit, mn_cp, mn_les, mn_gre, mn_a127, mn_a15, mn_a1, mn_a255, mn_tn0, mn_tn0e, mn_tnr, mn_tnz, mr_get, mr_ne, mr_put, mu_ne, mu_eq, mj_bk_i, mj_bk_v, mj_bk_x, decide_eq_true_eq, decide_true, decide_false, Bool.false_eq_true, Bool.true_eq_false, reduceCtorEq, mt_le_t, mt_le_f, mt_lt_t, mt_lt_f, mt_eq_t, mt_eq_f, mt_ee, not_true_eq_false, not_false_eq_true, and_true, true_and, and_self, Nat.zero_add, Nat.add_zero, Nat.one_mul, Nat.mul_one, Nat.reduceAdd, Nat.reduceMul, Nat.reduceSub, Nat.reducePow, Nat.reduceDiv, Nat.reduceMod, ↓reduceIte, mp_h, mp_w, mp_c, mp_s, mp_d, mp_n, mp_54, mp_52, mp_55, mp_l, mp_o, mp_42, mp_45, gh_gp, gw_gp, gc_gp, mw_pne, Nat.or_zero, q3, and_false]
        · refine ⟨l, ?_⟩
          simp (disch := first | assumption | exact hf _ | omega) only [b282, b282_0, b282_17, b282_28, b282_33, b282_37, b282_41, b282_44, b282_47, b282_63, b282_70, b282_73, b282_83, b282_84, b282_92, b282_96, b282_103, b282_105, b282_111, nI_add, mn_mul, mn_sub, mn_m1, mn_m8, mn_eq, mn_lt, mn_le, mn_eq0, mn_0eq, mn_lt0, mn_0lt, mn_le0, mn_0le, mn_eqm, mn_meq, mn_ltm, mn_mlt, mn_lem, mn_mle, mn_mm1, mn_mm2, mn_mm3, mn_mm4, mn_mm5, mn_mm6, mn_and, mn_or, mn_an, mn_shl, mn_shr, mn_div, mn_rem, mn_clamp, mn_in, mn_inm, mn_nz, mn_zo, mn_min, mn_max, mn_abs, mn_rfit, mn_cp, mn_les, mn_gre, mn_a127, mn_a15, mn_a1, mn_a255, mn_tn0, mn_tn0e, mn_tnr, mn_tnz, mr_get, mr_ne, mr_put, mu_ne, mu_eq, mj_bk_i, mj_bk_v, mj_bk_x, decide_eq_true_eq, decide_true, decide_false, Bool.false_eq_true, Bool.true_eq_false, reduceCtorEq, mt_le_t, mt_le_f, mt_lt_t, mt_lt_f, mt_eq_t, mt_eq_f, mt_ee, not_true_eq_false, not_false_eq_true, and_true, true_and, and_self, Nat.zero_add, Nat.add_zero, Nat.one_mul, Nat.mul_one, Nat.reduceAdd, Nat.reduceMul, Nat.reduceSub, Nat.reducePow, Nat.reduceDiv, Nat.reduceMod, ↓reduceIte, mp_h, mp_w, mp_c, mp_s, mp_d, mp_n, mp_54, mp_52, mp_55, mp_l, mp_o, mp_42, mp_45, gh_gp, gw_gp, gc_gp, mw_pne, Nat.or_zero, q1, mo, c230 (show i < 1024 by omega), c230 hbi, q2, Option.some.injEq, forall_eq', false_and]
    · refine ⟨l, ?_⟩
      simp (disch := first | assumption | exact hf _ | omega) only [b282, b282_0, b282_17, b282_28, b282_33, b282_37, b282_41, b282_44, b282_47, b282_63, b282_70, b282_73, b282_83, b282_84, b282_92, b282_96, b282_103, b282_105, b282_111, nI_add, mn_mul, mn_sub, mn_m1, mn_m8, mn_eq, mn_lt, mn_le, mn_eq0, mn_0eq, mn_lt0, mn_0lt, mn_le0, mn_0le, mn_eqm, mn_meq, mn_ltm, mn_mlt, mn_lem, mn_mle, mn_mm1, mn_mm2, mn_mm3, mn_mm4, mn_mm5, mn_mm6, mn_and, mn_or, mn_an, mn_shl, mn_shr, mn_div, mn_rem, mn_clamp, mn_in, mn_inm, mn_nz, mn_zo, mn_min, mn_max, mn_abs, mn_rfit, mn_cp, mn_les, mn_gre, mn_a127, mn_a15, mn_a1, mn_a255, mn_tn0, mn_tn0e, mn_tnr, mn_tnz, mr_get, mr_ne, mr_put, mu_ne, mu_eq, mj_bk_i, mj_bk_v, mj_bk_x, decide_eq_true_eq, decide_true, decide_false, Bool.false_eq_true, Bool.true_eq_false, reduceCtorEq, mt_le_t, mt_le_f, mt_lt_t, mt_lt_f, mt_eq_t, mt_eq_f, mt_ee, not_true_eq_false, not_false_eq_true, and_true, true_and, and_self, Nat.zero_add, Nat.add_zero, Nat.one_mul, Nat.mul_one, Nat.reduceAdd, Nat.reduceMul, Nat.reduceSub, Nat.reducePow, Nat.reduceDiv, Nat.reduceMod, ↓reduceIte, mp_h, mp_w, mp_c, mp_s, mp_d, mp_n, mp_54, mp_52, mp_55, mp_l, mp_o, mp_42, mp_45, gh_gp, gw_gp, gc_gp, mw_pne, Nat.or_zero, q1, false_and]
  ) (a := none) (by intro b hb; cases hb) (none, none) (f 52 + 1) (Nat.le_refl (f 52 + 1))
  refine e.trans ?_
  have ee : fn_draw f = mr_it (fun g (o : Option Nat) => if mn_d g (f 52) = 0 ∧ (∀ b, o = some b → fn_cnt g < fn_cnt b) ∧ mn_d (fn_need f) (fn_words f g) = 0 then some g else o) (f 52 + 1) none := mr_it_ext (m := 256) (by omega) (fun g o h1 h2 => if_neg (fun z => by
    have := d_sub_le z.1
    omega))
  rw [b282_9, ← ee]
  simp (disch := first | assumption | exact hf _ | omega) only [b282, b282_0, b282_17, b282_28, b282_33, b282_37, b282_41, b282_44, b282_47, b282_63, b282_70, b282_73, b282_83, b282_84, b282_92, b282_96, b282_103, b282_105, b282_111, nI_add, mn_mul, mn_sub, mn_m1, mn_m8, mn_eq, mn_lt, mn_le, mn_eq0, mn_0eq, mn_lt0, mn_0lt, mn_le0, mn_0le, mn_eqm, mn_meq, mn_ltm, mn_mlt, mn_lem, mn_mle, mn_mm1, mn_mm2, mn_mm3, mn_mm4, mn_mm5, mn_mm6, mn_and, mn_or, mn_an, mn_shl, mn_shr, mn_div, mn_rem, mn_clamp, mn_in, mn_inm, mn_nz, mn_zo, mn_min, mn_max, mn_abs, mn_rfit, mn_cp, mn_les, mn_gre, mn_a127, mn_a15, mn_a1, mn_a255, mn_tn0, mn_tn0e, mn_tnr, mn_tnz, mr_get, mr_ne, mr_put, mu_ne, mu_eq, mj_bk_i, mj_bk_v, mj_bk_x, decide_eq_true_eq, decide_true, decide_false, Bool.false_eq_true, Bool.true_eq_false, reduceCtorEq, mt_le_t, mt_le_f, mt_lt_t, mt_lt_f, mt_eq_t, mt_eq_f, mt_ee, not_true_eq_false, not_false_eq_true, and_true, true_and, and_self, Nat.zero_add, Nat.add_zero, Nat.one_mul, Nat.mul_one, Nat.reduceAdd, Nat.reduceMul, Nat.reduceSub, Nat.reducePow, Nat.reduceDiv, Nat.reduceMod, ↓reduceIte, mp_h, mp_w, mp_c, mp_s, mp_d, mp_n, mp_54, mp_52, mp_55, mp_l, mp_o, mp_42, mp_45, gh_gp, gw_gp, gc_gp, mw_pne, Nat.or_zero]
end
