/-! Circle: by ties and who lives -/
def cI (s : mw_S) (f : Nat → Nat) : Prop := s.1 31 2 = nI (f 52) ∧ ∀ p, p < 8 → s.1 32 p = nI (f (56 + p))
def fn_ta (f : Nat → Nat) (g : Nat) : Nat := mr_it (fun p b => if g.testBit p then b ||| f (56 + p) else b) 8 0
def fq (f : Nat → Nat) (g : Nat) : Bool := decide (fn_ta f g &&& g = 0)
def fn_ask (f : Nat → Nat) : Nat := mr_it (fun g b => if fn_cnt b < fn_cnt g ∧ mn_d g (f 52) = 0 ∧ fq f g = true then g else b) 256 0
def cstep (f : Nat → Nat) (x : Nat × Nat) : Nat × Nat := (x.1 ||| fn_ta f (x.2 ||| fn_ta f x.1), x.2 ||| fn_ta f x.1)
def cpass (f : Nat → Nat) (p : Nat) (x : Nat × Nat) : Nat × Nat := if (mn_d (f 52) (x.1 ||| x.2)).testBit p then mr_it (fun _ x => cstep f x) 8 (x.1 ||| 2 ^ p, x.2) else x
def fn_camp (f : Nat → Nat) : Int32 := if (mr_it (cpass f) 8 (0, 0)).1 &&& (mr_it (cpass f) 8 (0, 0)).2 = 0 then nI (mr_it (cpass f) 8 (0, 0)).1 else -1
def fn_one (f : Nat → Nat) (g : Nat) : Nat := mr_it (fun p b => if g.testBit p then b ||| mn_d (f 52) (f (56 + p)) else b) 8 0
def fn_rch (f : Nat → Nat) (p n : Nat) : Nat := mr_it (fun _ r => r ||| fn_one f r) n (2 ^ p)
def fn_btw (f : Nat → Nat) (p q : Nat) : Option Nat := if (f 52).testBit p = true ∧ (f 52).testBit q = true then (List.range 8).find? (fun n => (fn_rch f p n).testBit q) else none
def fn_fr (f : Nat → Nat) (p : Nat) : Nat := if (f 52).testBit p then mn_d (mn_d (fn_ta f (f (56 + p)) &&& f 52) (f (56 + p))) (2 ^ p) else 0
def fn_thr (f : Nat → Nat) : Nat := mr_it (fun i c => if 0 < fh f i then c + fn_cnt (f (56 + mn_l i) &&& f (56 + mn_g i)) else c) 28 0
def fn_aln (f : Nat → Nat) : Nat := mr_it (fun p b => if (f 52).testBit p = true ∧ mn_d (mn_d (f 52) (2 ^ p)) (f (56 + p)) = 0 then b ||| 2 ^ p else b) 8 0
theorem mr_it_shift {α : Type} {F : Nat → α → α} {a : α} : ∀ n, mr_it F (n + 1) a = mr_it (fun i => F (i + 1)) n (F 0 a)
  | 0 => rfl
  | n + 1 => by rw [mr_it, mr_it_shift n]; rfl
theorem it_or_lt {P : Nat → Prop} [DecidablePred P] {v : Nat → Nat} {m : Nat} (n : Nat) (hv : ∀ i, i < n → v i < 2 ^ m) : mr_it (fun p b => if P p then b ||| v p else b) n 0 < 2 ^ m := mr_it_inv (I := fun _ c => c < 2 ^ m) (Nat.two_pow_pos m) (by
  intro i a hi h
  split
  · exact Nat.or_lt_two_pow h (hv i hi)
  · exact h)
section
variable {f : Nat → Nat} {L : Nat}
theorem ta_lt (hw : wf f L) (g : Nat) : fn_ta f g < 256 := it_or_lt (m := 8) 8 (fun i hi => wf_t hw hi)
theorem ask_lt (f : Nat → Nat) : ∀ n, n ≤ 256 → mr_it (fun g b => if fn_cnt b < fn_cnt g ∧ mn_d g (f 52) = 0 ∧ fq f g = true then g else b) n 0 < 256 := fun n hn => mr_it_inv (I := fun _ c => c < 256) (by decide) (by
  intro i a hi h
  split
  · omega
  · exact h)
theorem or8 {a b : Nat} (ha : a < 256) (hb : b < 256) : a ||| b < 256 := Nat.or_lt_two_pow (n := 8) ha hb
theorem p8 {p : Nat} (hp : p < 8) : 2 ^ p < 256 := by
  have := Nat.pow_le_pow_right (n := 2) (by decide) (by omega : p ≤ 7)
  omega
theorem cstep_lt (hw : wf f L) {x : Nat × Nat} (h : x.1 < 256 ∧ x.2 < 256) : (cstep f x).1 < 256 ∧ (cstep f x).2 < 256 := ⟨or8 h.1 (ta_lt hw _), or8 h.2 (ta_lt hw _)⟩
theorem cpass_lt (hw : wf f L) {x : Nat × Nat} {p : Nat} (hp : p < 8) (h : x.1 < 256 ∧ x.2 < 256) : (cpass f p x).1 < 256 ∧ (cpass f p x).2 < 256 := by
  unfold cpass
  split
  · exact mr_it_inv (I := fun _ (x : Nat × Nat) => x.1 < 256 ∧ x.2 < 256) ⟨or8 h.1 (p8 hp), h.2⟩ (fun i a _ ha => cstep_lt hw ha)
  · exact h
theorem one_lt (hw : wf f L) (g : Nat) : fn_one f g < 256 := it_or_lt (m := 8) 8 (fun i hi => Nat.lt_of_le_of_lt (mn_d_le _ _) (wf_l8 hw))
theorem rch_lt (hw : wf f L) {p : Nat} (hp : p < 8) (n : Nat) : fn_rch f p n < 256 := mr_it_inv (I := fun _ c => c < 256) (p8 hp) (fun i a _ h => or8 h (one_lt hw _))
end
section
variable {X : mj_X} {d k : Nat} {s : mw_S} {f : Nat → Nat} {L : Nat}
theorem c15 (hw : wf f L) (hk : mw_cl k = some 3) (hR : mr_is s (k + 1) 64 f) : ∃ t, mj_call X (d + 2) 15 [.ref 31, .ref k] (mw_U s) = some (.inl none, mw_U t) ∧ cI t f ∧ mg s t (fun a => a = 31 ∨ a = 32) := by
  have r32 := mw_r_32
  have hf := wf_lt hw
  have hk4 : ¬ k + 1 = 31 ∧ ¬ k + 1 = 32 := by
    rcases mw_is3 hk with h | h | h | h | h <;> subst h <;> decide
  obtain ⟨t, ⟨h1, h2, h3⟩, e⟩ := mr_forg (α := Unit) (γ := mw_S) (E := fun i _ t => mj_exec X (d + 2) 15 10 [some (.ref 31), some (.ref k), some (.int (nI i))] [] (mw_U t)) (F := fun _ a => a) (I := fun i _ t => mg s t (fun a => a = 31 ∨ a = 32) ∧ t.1 31 2 = nI (f 52) ∧ ∀ p, p < i → t.1 32 p = nI (f (56 + p))) (N := 8) (by
    intro i _ t hi ⟨h1, h2, h3⟩
    have hR' : mr_is t (k + 1) 64 f := fun j hj => by rw [h1.2 (k + 1) (by omega)]; exact hR j hj
    refine ⟨mw_p t 32 i (nI (f (56 + i))), ⟨mg_p h1 (Or.inr rfl), by rw [mw_pne (by decide)]; exact h2, ?_⟩, ?_⟩
    · intro p hp
      by_cases he : p = i
      · subst he; rw [mw_peq]
      · rw [mw_pnj he]; exact h3 p (by omega)
    · rw [b15_10 hk]
      simp (disch := first | assumption | exact hf _ | omega) only [b15, b15_0, b15_5, b15_16, b15_26, b15_33, nI_add, mn_mul, mn_sub, mn_m1, mn_m8, mn_eq, mn_lt, mn_le, mn_eq0, mn_0eq, mn_lt0, mn_0lt, mn_le0, mn_0le, mn_eqm, mn_meq, mn_ltm, mn_mlt, mn_lem, mn_mle, mn_mm1, mn_mm2, mn_mm3, mn_mm4, mn_mm5, mn_mm6, mn_and, mn_or, mn_an, mn_shl, mn_shr, mn_div, mn_rem, mn_clamp, mn_in, mn_inm, mn_nz, mn_zo, mn_min, mn_max, mn_abs, mn_rfit, mn_cp, mn_les, mn_gre, mn_a127, mn_a15, mn_a1, mn_a255, mn_tn0, mn_tn0e, mn_tnr, mn_tnz, mr_get, mr_ne, mr_put, mu_ne, mu_eq, mj_bk_i, mj_bk_v, mj_bk_x, decide_eq_true_eq, decide_true, decide_false, Bool.false_eq_true, Bool.true_eq_false, reduceCtorEq, mt_le_t, mt_le_f, mt_lt_t, mt_lt_f, mt_eq_t, mt_eq_f, mt_ee, not_true_eq_false, not_false_eq_true, and_true, true_and, and_self, Nat.zero_add, Nat.add_zero, Nat.one_mul, Nat.mul_one, Nat.reduceAdd, Nat.reduceMul, Nat.reduceSub, Nat.reducePow, Nat.reduceDiv, Nat.reduceMod, ↓reduceIte, r40 hk hR' hf hi]) (a := ()) (g := mw_p s 31 2 (nI (f 52))) ⟨mg_p mg_refl (Or.inl rfl), mw_peq, fun p hp => by omega⟩ 8 (Nat.le_refl 8)
  refine ⟨t, ?_, ⟨h2, h3⟩, h1⟩
  rw [b15]
  simp (disch := first | assumption | exact hf _ | omega) only [b15_0, r49 hk hR hf, mj_bk_i, b15_5]
  refine e.trans ?_
  rw [b15_10 hk]
  simp (disch := first | assumption | exact hf _ | omega) only [b15, b15_0, b15_5, b15_16, b15_26, b15_33, nI_add, mn_mul, mn_sub, mn_m1, mn_m8, mn_eq, mn_lt, mn_le, mn_eq0, mn_0eq, mn_lt0, mn_0lt, mn_le0, mn_0le, mn_eqm, mn_meq, mn_ltm, mn_mlt, mn_lem, mn_mle, mn_mm1, mn_mm2, mn_mm3, mn_mm4, mn_mm5, mn_mm6, mn_and, mn_or, mn_an, mn_shl, mn_shr, mn_div, mn_rem, mn_clamp, mn_in, mn_inm, mn_nz, mn_zo, mn_min, mn_max, mn_abs, mn_rfit, mn_cp, mn_les, mn_gre, mn_a127, mn_a15, mn_a1, mn_a255, mn_tn0, mn_tn0e, mn_tnr, mn_tnz, mr_get, mr_ne, mr_put, mu_ne, mu_eq, mj_bk_i, mj_bk_v, mj_bk_x, decide_eq_true_eq, decide_true, decide_false, Bool.false_eq_true, Bool.true_eq_false, reduceCtorEq, mt_le_t, mt_le_f, mt_lt_t, mt_lt_f, mt_eq_t, mt_eq_f, mt_ee, not_true_eq_false, not_false_eq_true, and_true, true_and, and_self, Nat.zero_add, Nat.add_zero, Nat.one_mul, Nat.mul_one, Nat.reduceAdd, Nat.reduceMul, Nat.reduceSub, Nat.reducePow, Nat.reduceDiv, Nat.reduceMod, ↓reduceIte]
theorem c17 (hw : wf f L) (hc : cI s f) {g : Nat} (hg : g < 2147483648) : mj_call X (d + 1) 17 [.ref 31, .int (nI g)] (mw_U s) = some (.inl (some (.int (nI (fn_ta f g)))), mw_U s) := by
  rw [b17, b17_0]
  obtain ⟨hI, g, e⟩ := mr_for (E := fun i c (_ : Unit) => mj_exec X (d + 1) 17 4 [some (.ref 31), some (.int (nI g)), some (.int (nI c)), some (.int (nI i))] [] (mw_U s)) (F := fun p c => if g.testBit p then c ||| f (56 + p) else c) (I := fun i c => True) (N := 8) (by
    intro i c _ hi hI
    refine ⟨trivial, (), ?_⟩
    have h2 := hc.2 i hi
    rw [b17_4]
    cases h : g.testBit i
    · simp (disch := first | assumption | exact hf _ | omega) only [b17, b17_0, b17_10, b17_15, b17_18, b17_27, b17_33, nI_add, mn_mul, mn_sub, mn_m1, mn_m8, mn_eq, mn_lt, mn_le, mn_eq0, mn_0eq, mn_lt0, mn_0lt, mn_le0, mn_0le, mn_eqm, mn_meq, mn_ltm, mn_mlt, mn_lem, mn_mle, mn_mm1, mn_mm2, mn_mm3, mn_mm4, mn_mm5, mn_mm6, mn_and, mn_or, mn_an, mn_shl, mn_shr, mn_div, mn_rem, mn_clamp, mn_in, mn_inm, mn_nz, mn_zo, mn_min, mn_max, mn_abs, mn_rfit, mn_cp, mn_les, mn_gre, mn_a127, mn_a15, mn_a1, mn_a255, mn_tn0, mn_tn0e, mn_tnr, mn_tnz, mr_get, mr_ne, mr_put, mu_ne, mu_eq, mj_bk_i, mj_bk_v, mj_bk_x, decide_eq_true_eq, decide_true, decide_false, Bool.false_eq_true, Bool.true_eq_false, reduceCtorEq, mt_le_t, mt_le_f, mt_lt_t, mt_lt_f, mt_eq_t, mt_eq_f, mt_ee, not_true_eq_false, not_false_eq_true, and_true, true_and, and_self, Nat.zero_add, Nat.add_zero, Nat.one_mul, Nat.mul_one, Nat.reduceAdd, Nat.reduceMul, Nat.reduceSub, Nat.reducePow, Nat.reduceDiv, Nat.reduceMod, ↓reduceIte, c149, h]
    · simp (disch := first | assumption | exact hf _ | omega) only [b17, b17_0, b17_10, b17_15, b17_18, b17_27, b17_33, nI_add, mn_mul, mn_sub, mn_m1, mn_m8, mn_eq, mn_lt, mn_le, mn_eq0, mn_0eq, mn_lt0, mn_0lt, mn_le0, mn_0le, mn_eqm, mn_meq, mn_ltm, mn_mlt, mn_lem, mn_mle, mn_mm1, mn_mm2, mn_mm3, mn_mm4, mn_mm5, mn_mm6, mn_and, mn_or, mn_an, mn_shl, mn_shr, mn_div, mn_rem, mn_clamp, mn_in, mn_inm, mn_nz, mn_zo, mn_min, mn_max, mn_abs, mn_rfit, mn_cp, mn_les, mn_gre, mn_a127, mn_a15, mn_a1, mn_a255, mn_tn0, mn_tn0e, mn_tnr, mn_tnz, mr_get, mr_ne, mr_put, mu_ne, mu_eq, mj_bk_i, mj_bk_v, mj_bk_x, decide_eq_true_eq, decide_true, decide_false, Bool.false_eq_true, Bool.true_eq_false, reduceCtorEq, mt_le_t, mt_le_f, mt_lt_t, mt_lt_f, mt_eq_t, mt_eq_f, mt_ee, not_true_eq_false, not_false_eq_true, and_true, true_and, and_self, Nat.zero_add, Nat.add_zero, Nat.one_mul, Nat.mul_one, Nat.reduceAdd, Nat.reduceMul, Nat.reduceSub, Nat.reducePow, Nat.reduceDiv, Nat.reduceMod, ↓reduceIte, c149, h, h2]
  ) (a := 0) trivial () 8 (Nat.le_refl 8)
  refine e.trans ?_
  rw [b17_4]
  simp (disch := first | assumption | exact hf _ | omega) only [b17, b17_0, b17_10, b17_15, b17_18, b17_27, b17_33, nI_add, mn_mul, mn_sub, mn_m1, mn_m8, mn_eq, mn_lt, mn_le, mn_eq0, mn_0eq, mn_lt0, mn_0lt, mn_le0, mn_0le, mn_eqm, mn_meq, mn_ltm, mn_mlt, mn_lem, mn_mle, mn_mm1, mn_mm2, mn_mm3, mn_mm4, mn_mm5, mn_mm6, mn_and, mn_or, mn_an, mn_shl, mn_shr, mn_div, mn_rem, mn_clamp, mn_in, mn_inm, mn_nz, mn_zo, mn_min, mn_max, mn_abs, mn_rfit, mn_cp, mn_les, mn_gre, mn_a127, mn_a15, mn_a1, mn_a255, mn_tn0, mn_tn0e, mn_tnr, mn_tnz, mr_get, mr_ne, mr_put, mu_ne, mu_eq, mj_bk_i, mj_bk_v, mj_bk_x, decide_eq_true_eq, decide_true, decide_false, Bool.false_eq_true, Bool.true_eq_false, reduceCtorEq, mt_le_t, mt_le_f, mt_lt_t, mt_lt_f, mt_eq_t, mt_eq_f, mt_ee, not_true_eq_false, not_false_eq_true, and_true, true_and, and_self, Nat.zero_add, Nat.add_zero, Nat.one_mul, Nat.mul_one, Nat.reduceAdd, Nat.reduceMul, Nat.reduceSub, Nat.reducePow, Nat.reduceDiv, Nat.reduceMod, ↓reduceIte]
  rfl
theorem c23 (hw : wf f L) (hc : cI s f) {g : Nat} (hg : g < 2147483648) : mj_call X (d + 2) 23 [.ref 31, .int (nI g)] (mw_U s) = some (.inl (some (.int (nI (fq f g).toNat))), mw_U s) := by
  have hl := ta_lt hw g
  have hl2 : fn_ta f g &&& g < 2147483648 := Nat.lt_of_le_of_lt Nat.and_le_left (by omega)
  unfold fq
  by_cases h : fn_ta f g &&& g = 0
  · simp (disch := first | assumption | exact hf _ | omega) only [b23, b23_0, b23_5, b23_10, b23_14, b23_15, nI_add, mn_mul, mn_sub, mn_m1, mn_m8, mn_eq, mn_lt, mn_le, mn_eq0, mn_0eq, mn_lt0, mn_0lt, mn_le0, mn_0le, mn_eqm, mn_meq, mn_ltm, mn_mlt, mn_lem, mn_mle, mn_mm1, mn_mm2, mn_mm3, mn_mm4, mn_mm5, mn_mm6, mn_and, mn_or, mn_an, mn_shl, mn_shr, mn_div, mn_rem, mn_clamp, mn_in, mn_inm, mn_nz, mn_zo, mn_min, mn_max, mn_abs, mn_rfit, mn_cp, mn_les, mn_gre, mn_a127, mn_a15, mn_a1, mn_a255, mn_tn0, mn_tn0e, mn_tnr, mn_tnz, mr_get, mr_ne, mr_put, mu_ne, mu_eq, mj_bk_i, mj_bk_v, mj_bk_x, decide_eq_true_eq, decide_true, decide_false, Bool.false_eq_true, Bool.true_eq_false, reduceCtorEq, mt_le_t, mt_le_f, mt_lt_t, mt_lt_f, mt_eq_t, mt_eq_f, mt_ee, not_true_eq_false, not_false_eq_true, and_true, true_and, and_self, Nat.zero_add, Nat.add_zero, Nat.one_mul, Nat.mul_one, Nat.reduceAdd, Nat.reduceMul, Nat.reduceSub, Nat.reducePow, Nat.reduceDiv, Nat.reduceMod, ↓reduceIte, c17 hw hc hg, h]
    rfl
  · simp (disch := first | assumption | exact hf _ | omega) only [b23, b23_0, b23_5, b23_10, b23_14, b23_15, nI_add, mn_mul, mn_sub, mn_m1, mn_m8, mn_eq, mn_lt, mn_le, mn_eq0, mn_0eq, mn_lt0, mn_0lt, mn_le0, mn_0le, mn_eqm, mn_meq, mn_ltm, mn_mlt, mn_lem, mn_mle, mn_mm1, mn_mm2, mn_mm3, mn_mm4, mn_mm5, mn_mm6, mn_and, mn_or, mn_an, mn_shl, mn_shr, mn_div, mn_rem, mn_clamp, mn_in, mn_inm, mn_nz, mn_zo, mn_min, mn_max, mn_abs, mn_rfit, mn_cp, mn_les, mn_gre, mn_a127, mn_a15, mn_a1, mn_a255, mn_tn0, mn_tn0e, mn_tnr, mn_tnz, mr_get, mr_ne, mr_put, mu_ne, mu_eq, mj_bk_i, mj_bk_v, mj_bk_x, decide_eq_true_eq, decide_true, decide_false, Bool.false_eq_true, Bool.true_eq_false, reduceCtorEq, mt_le_t, mt_le_f, mt_lt_t, mt_lt_f, mt_eq_t, mt_eq_f, mt_ee, not_true_eq_false, not_false_eq_true, and_true, true_and, and_self, Nat.zero_add, Nat.add_zero, Nat.one_mul, Nat.mul_one, Nat.reduceAdd, Nat.reduceMul, Nat.reduceSub, Nat.reducePow, Nat.reduceDiv, Nat.reduceMod, ↓reduceIte, c17 hw hc hg, h]
    rfl
theorem c21 (hc : cI s f) {g : Nat} (hg : g < 2147483648) : mj_call X d 21 [.ref 31, .int (nI g)] (mw_U s) = some (.inl (some (.int (nI (decide (mn_d g (f 52) = 0)).toNat))), mw_U s) := by
  have h0 := hc.1
  have hl : mn_d g (f 52) < 2147483648 := Nat.lt_of_le_of_lt (mn_d_le _ _) hg
  by_cases h : mn_d g (f 52) = 0
  · simp (disch := first | assumption | exact hf _ | omega) only [b21, b21_0, b21_11, b21_15, b21_16, nI_add, mn_mul, mn_sub, mn_m1, mn_m8, mn_eq, mn_lt, mn_le, mn_eq0, mn_0eq, mn_lt0, mn_0lt, mn_le0, mn_0le, mn_eqm, mn_meq, mn_ltm, mn_mlt, mn_lem, mn_mle, mn_mm1, mn_mm2, mn_mm3, mn_mm4, mn_mm5, mn_mm6, mn_and, mn_or, mn_an, mn_shl, mn_shr, mn_div, mn_rem, mn_clamp, mn_in, mn_inm, mn_nz, mn_zo, mn_min, mn_max, mn_abs, mn_rfit, mn_cp, mn_les, mn_gre, mn_a127, mn_a15, mn_a1, mn_a255, mn_tn0, mn_tn0e, mn_tnr, mn_tnz, mr_get, mr_ne, mr_put, mu_ne, mu_eq, mj_bk_i, mj_bk_v, mj_bk_x, decide_eq_true_eq, decide_true, decide_false, Bool.false_eq_true, Bool.true_eq_false, reduceCtorEq, mt_le_t, mt_le_f, mt_lt_t, mt_lt_f, mt_eq_t, mt_eq_f, mt_ee, not_true_eq_false, not_false_eq_true, and_true, true_and, and_self, Nat.zero_add, Nat.add_zero, Nat.one_mul, Nat.mul_one, Nat.reduceAdd, Nat.reduceMul, Nat.reduceSub, Nat.reducePow, Nat.reduceDiv, Nat.reduceMod, ↓reduceIte, h0, h]
    rfl
  · simp (disch := first | assumption | exact hf _ | omega) only [b21, b21_0, b21_11, b21_15, b21_16, nI_add, mn_mul, mn_sub, mn_m1, mn_m8, mn_eq, mn_lt, mn_le, mn_eq0, mn_0eq, mn_lt0, mn_0lt, mn_le0, mn_0le, mn_eqm, mn_meq, mn_ltm, mn_mlt, mn_lem, mn_mle, mn_mm1, mn_mm2, mn_mm3, mn_mm4, mn_mm5, mn_mm6, mn_and, mn_or, mn_an, mn_shl, mn_shr, mn_div, mn_rem, mn_clamp, mn_in, mn_inm, mn_nz, mn_zo, mn_min, mn_max, mn_abs, mn_rfit, mn_cp, mn_les, mn_gre, mn_a127, mn_a15, mn_a1, mn_a255, mn_tn0, mn_tn0e, mn_tnr, mn_tnz, mr_get, mr_ne, mr_put, mu_ne, mu_eq, mj_bk_i, mj_bk_v, mj_bk_x, decide_eq_true_eq, decide_true, decide_false, Bool.false_eq_true, Bool.true_eq_false, reduceCtorEq, mt_le_t, mt_le_f, mt_lt_t, mt_lt_f, mt_eq_t, mt_eq_f, mt_ee, not_true_eq_false, not_false_eq_true, and_true, true_and, and_self, Nat.zero_add, Nat.add_zero, Nat.one_mul, Nat.mul_one, Nat.reduceAdd, Nat.reduceMul, Nat.reduceSub, Nat.reducePow, Nat.reduceDiv, Nat.reduceMod, ↓reduceIte, h0, h]
    rfl
theorem c24 (hw : wf f L) (hc : cI s f) : mj_call X (d + 3) 24 [.ref 31] (mw_U s) = some (.inl (some (.int (nI (fn_ask f)))), mw_U s) := by
  rw [b24, b24_0]
  obtain ⟨hI, g, e⟩ := mr_for (E := fun i c l => mj_exec X (d + 3) 24 4 [some (.ref 31), some (.int (nI c)), some (.int (nI (i + 1))), l] [] (mw_U s)) (F := fun i b => if fn_cnt b < fn_cnt (i + 1) ∧ mn_d (i + 1) (f 52) = 0 ∧ fq f (i + 1) = true then (i + 1) else b) (I := fun i c => c < 256) (N := 255) (by
    intro i c l hi hI
    refine ⟨by split <;> omega, ?_⟩
    have e1 : mj_call X (d + 2) 348 [.int (nI (i + 1))] (mw_U s) = some (.inl (some (.int (nI (fn_cnt (i + 1))))), mw_U s) := c348 (by omega)
    have e2 : mj_call X (d + 2) 348 [.int (nI c)] (mw_U s) = some (.inl (some (.int (nI (fn_cnt c)))), mw_U s) := c348 (by omega)
    have b1 := fn_cnt_le (i + 1)
    have b2 := fn_cnt_le c
    have hg : i + 1 < 2147483648 := by omega
    rw [b24_4]
    by_cases h1 : fn_cnt c < fn_cnt (i + 1)
    · refine ⟨some (.int (nI 1)), ?_⟩
      by_cases h2 : mn_d (i + 1) (f 52) = 0
      · cases h3 : fq f (i + 1)
        · simp (disch := first | assumption | exact hf _ | omega) only [b24, b24_0, b24_11, b24_15, b24_19, b24_22, b24_26, b24_27, b24_32, b24_37, b24_40, b24_45, b24_48, b24_50, b24_56, nI_add, mn_mul, mn_sub, mn_m1, mn_m8, mn_eq, mn_lt, mn_le, mn_eq0, mn_0eq, mn_lt0, mn_0lt, mn_le0, mn_0le, mn_eqm, mn_meq, mn_ltm, mn_mlt, mn_lem, mn_mle, mn_mm1, mn_mm2, mn_mm3, mn_mm4, mn_mm5, mn_mm6, mn_and, mn_or, mn_an, mn_shl, mn_shr, mn_div, mn_rem, mn_clamp, mn_in, mn_inm, mn_nz, mn_zo, mn_min, mn_max, mn_abs, mn_rfit, mn_cp, mn_les, mn_gre, mn_a127, mn_a15, mn_a1, mn_a255, mn_tn0, mn_tn0e, mn_tnr, mn_tnz, mr_get, mr_ne, mr_put, mu_ne, mu_eq, mj_bk_i, mj_bk_v, mj_bk_x, decide_eq_true_eq, decide_true, decide_false, Bool.false_eq_true, Bool.true_eq_false, reduceCtorEq, mt_le_t, mt_le_f, mt_lt_t, mt_lt_f, mt_eq_t, mt_eq_f, mt_ee, not_true_eq_false, not_false_eq_true, and_true, true_and, and_self, Nat.zero_add, Nat.add_zero, Nat.one_mul, Nat.mul_one, Nat.reduceAdd, Nat.reduceMul, Nat.reduceSub, Nat.reducePow, Nat.reduceDiv, Nat.reduceMod, ↓reduceIte, e1, e2, c21 hc hg, c23 hw hc hg, h1, h2, h3, Nat.add_assoc]
        · simp (disch := first | assumption | exact hf _ | omega) only [b24, b24_0, b24_11, b24_15, b24_19, b24_22, b24_26, b24_27, b24_32, b24_37, b24_40, b24_45, b24_48, b24_50, b24_56, nI_add, mn_mul, mn_sub, mn_m1, mn_m8, mn_eq, mn_lt, mn_le, mn_eq0, mn_0eq, mn_lt0, mn_0lt, mn_le0, mn_0le, mn_eqm, mn_meq, mn_ltm, mn_mlt, mn_lem, mn_mle, mn_mm1, mn_mm2, mn_mm3, mn_mm4, mn_mm5, mn_mm6, mn_and, mn_or, mn_an, mn_shl, mn_shr, mn_div, mn_rem, mn_clamp, mn_in, mn_inm, mn_nz, mn_zo, mn_min, mn_max, mn_abs, mn_rfit, mn_cp, mn_les, mn_gre, mn_a127, mn_a15, mn_a1, mn_a255, mn_tn0, mn_tn0e, mn_tnr, mn_tnz, mr_get, mr_ne, mr_put, mu_ne, mu_eq, mj_bk_i, mj_bk_v, mj_bk_x, decide_eq_true_eq, decide_true, decide_false, Bool.false_eq_true, Bool.true_eq_false, reduceCtorEq, mt_le_t, mt_le_f, mt_lt_t, mt_lt_f, mt_eq_t, mt_eq_f, mt_ee, not_true_eq_false, not_false_eq_true, and_true, true_and, and_self, Nat.zero_add, Nat.add_zero, Nat.one_mul, Nat.mul_one, Nat.reduceAdd, Nat.reduceMul, Nat.reduceSub, Nat.reducePow, Nat.reduceDiv, Nat.reduceMod, ↓reduceIte, e1, e2, c21 hc hg, c23 hw hc hg, h1, h2, h3, Nat.add_assoc]
      · simp (disch := first | assumption | exact hf _ | omega) only [b24, b24_0, b24_11, b24_15, b24_19, b24_22, b24_26, b24_27, b24_32, b24_37, b24_40, b24_45, b24_48, b24_50, b24_56, nI_add, mn_mul, mn_sub, mn_m1, mn_m8, mn_eq, mn_lt, mn_le, mn_eq0, mn_0eq, mn_lt0, mn_0lt, mn_le0, mn_0le, mn_eqm, mn_meq, mn_ltm, mn_mlt, mn_lem, mn_mle, mn_mm1, mn_mm2, mn_mm3, mn_mm4, mn_mm5, mn_mm6, mn_and, mn_or, mn_an, mn_shl, mn_shr, mn_div, mn_rem, mn_clamp, mn_in, mn_inm, mn_nz, mn_zo, mn_min, mn_max, mn_abs, mn_rfit, mn_cp, mn_les, mn_gre, mn_a127, mn_a15, mn_a1, mn_a255, mn_tn0, mn_tn0e, mn_tnr, mn_tnz, mr_get, mr_ne, mr_put, mu_ne, mu_eq, mj_bk_i, mj_bk_v, mj_bk_x, decide_eq_true_eq, decide_true, decide_false, Bool.false_eq_true, Bool.true_eq_false, reduceCtorEq, mt_le_t, mt_le_f, mt_lt_t, mt_lt_f, mt_eq_t, mt_eq_f, mt_ee, not_true_eq_false, not_false_eq_true, and_true, true_and, and_self, Nat.zero_add, Nat.add_zero, Nat.one_mul, Nat.mul_one, Nat.reduceAdd, Nat.reduceMul, Nat.reduceSub, Nat.reducePow, Nat.reduceDiv, Nat.reduceMod, ↓reduceIte, e1, e2, c21 hc hg, h1, h2, false_and, Nat.add_assoc]
    · refine ⟨some (.int (nI 0)), ?_⟩
      simp (disch := first | assumption | exact hf _ | omega) only [b24, b24_0, b24_11, b24_15, b24_19, b24_22, b24_26, b24_27, b24_32, b24_37, b24_40, b24_45, b24_48, b24_50, b24_56, nI_add, mn_mul, mn_sub, mn_m1, mn_m8, mn_eq, mn_lt, mn_le, mn_eq0, mn_0eq, mn_lt0, mn_0lt, mn_le0, mn_0le, mn_eqm, mn_meq, mn_ltm, mn_mlt, mn_lem, mn_mle, mn_mm1, mn_mm2, mn_mm3, mn_mm4, mn_mm5, mn_mm6, mn_and, mn_or, mn_an, mn_shl, mn_shr, mn_div, mn_rem, mn_clamp, mn_in, mn_inm, mn_nz, mn_zo, mn_min, mn_max, mn_abs, mn_rfit, mn_cp, mn_les, mn_gre, mn_a127, mn_a15, mn_a1, mn_a255, mn_tn0, mn_tn0e, mn_tnr, mn_tnz, mr_get, mr_ne, mr_put, mu_ne, mu_eq, mj_bk_i, mj_bk_v, mj_bk_x, decide_eq_true_eq, decide_true, decide_false, Bool.false_eq_true, Bool.true_eq_false, reduceCtorEq, mt_le_t, mt_le_f, mt_lt_t, mt_lt_f, mt_eq_t, mt_eq_f, mt_ee, not_true_eq_false, not_false_eq_true, and_true, true_and, and_self, Nat.zero_add, Nat.add_zero, Nat.one_mul, Nat.mul_one, Nat.reduceAdd, Nat.reduceMul, Nat.reduceSub, Nat.reducePow, Nat.reduceDiv, Nat.reduceMod, ↓reduceIte, e1, e2, h1, false_and, Nat.add_assoc]
  ) (a := 0) (by decide) none 255 (Nat.le_refl 255)
  refine e.trans ?_
  have es := mr_it_shift (F := fun g b => if fn_cnt b < fn_cnt g ∧ mn_d g (f 52) = 0 ∧ fq f g = true then g else b) (a := 0) 255
  have e0 : (if fn_cnt 0 < fn_cnt 0 ∧ mn_d 0 (f 52) = 0 ∧ fq f 0 = true then 0 else 0) = 0 := by split <;> rfl

  rw [e0] at es
  rw [b24_4, ← es]
  simp (disch := first | assumption | exact hf _ | omega) only [b24, b24_0, b24_11, b24_15, b24_19, b24_22, b24_26, b24_27, b24_32, b24_37, b24_40, b24_45, b24_48, b24_50, b24_56, nI_add, mn_mul, mn_sub, mn_m1, mn_m8, mn_eq, mn_lt, mn_le, mn_eq0, mn_0eq, mn_lt0, mn_0lt, mn_le0, mn_0le, mn_eqm, mn_meq, mn_ltm, mn_mlt, mn_lem, mn_mle, mn_mm1, mn_mm2, mn_mm3, mn_mm4, mn_mm5, mn_mm6, mn_and, mn_or, mn_an, mn_shl, mn_shr, mn_div, mn_rem, mn_clamp, mn_in, mn_inm, mn_nz, mn_zo, mn_min, mn_max, mn_abs, mn_rfit, mn_cp, mn_les, mn_gre, mn_a127, mn_a15, mn_a1, mn_a255, mn_tn0, mn_tn0e, mn_tnr, mn_tnz, mr_get, mr_ne, mr_put, mu_ne, mu_eq, mj_bk_i, mj_bk_v, mj_bk_x, decide_eq_true_eq, decide_true, decide_false, Bool.false_eq_true, Bool.true_eq_false, reduceCtorEq, mt_le_t, mt_le_f, mt_lt_t, mt_lt_f, mt_eq_t, mt_eq_f, mt_ee, not_true_eq_false, not_false_eq_true, and_true, true_and, and_self, Nat.zero_add, Nat.add_zero, Nat.one_mul, Nat.mul_one, Nat.reduceAdd, Nat.reduceMul, Nat.reduceSub, Nat.reducePow, Nat.reduceDiv, Nat.reduceMod, ↓reduceIte]
  rfl
theorem c16 (hw : wf f L) (hc : cI s f) : mj_call X (d + 2) 16 [.ref 31] (mw_U s) = some (.inl (some (.int (fn_camp f))), mw_U s) := by
  have h0 := hc.1
  have h52 := wf_l8 hw
  rw [b16, b16_0]
  obtain ⟨hI, g, e⟩ := mr_for (E := fun i x l => mj_exec X (d + 2) 16 6 [some (.ref 31), some (.int (nI x.1)), some (.int (nI x.2)), some (.int (nI i)), l] [] (mw_U s)) (F := fun p (x : Nat × Nat) => cpass f p x) (I := fun i x => x.1 < 256 ∧ x.2 < 256) (N := 8) (by
    intro i x l hi hI
    refine ⟨cpass_lt hw hi hI, ?_⟩
    have hd : mn_d (f 52) (x.1 ||| x.2) < 2147483648 := Nat.lt_of_le_of_lt (mn_d_le _ _) (by omega)
    rw [b16_6]
    cases h : (mn_d (f 52) (x.1 ||| x.2)).testBit i
    · refine ⟨l, ?_⟩
      have : cpass f i x = x := by unfold cpass; rw [h]; rfl
      rw [this]
      simp (disch := first | assumption | exact hf _ | omega) only [b16, b16_0, b16_12, b16_26, b16_29, b16_45, b16_51, b16_59, b16_67, b16_73, b16_79, b16_83, b16_84, nI_add, mn_mul, mn_sub, mn_m1, mn_m8, mn_eq, mn_lt, mn_le, mn_eq0, mn_0eq, mn_lt0, mn_0lt, mn_le0, mn_0le, mn_eqm, mn_meq, mn_ltm, mn_mlt, mn_lem, mn_mle, mn_mm1, mn_mm2, mn_mm3, mn_mm4, mn_mm5, mn_mm6, mn_and, mn_or, mn_an, mn_shl, mn_shr, mn_div, mn_rem, mn_clamp, mn_in, mn_inm, mn_nz, mn_zo, mn_min, mn_max, mn_abs, mn_rfit, mn_cp, mn_les, mn_gre, mn_a127, mn_a15, mn_a1, mn_a255, mn_tn0, mn_tn0e, mn_tnr, mn_tnz, mr_get, mr_ne, mr_put, mu_ne, mu_eq, mj_bk_i, mj_bk_v, mj_bk_x, decide_eq_true_eq, decide_true, decide_false, Bool.false_eq_true, Bool.true_eq_false, reduceCtorEq, mt_le_t, mt_le_f, mt_lt_t, mt_lt_f, mt_eq_t, mt_eq_f, mt_ee, not_true_eq_false, not_false_eq_true, and_true, true_and, and_self, Nat.zero_add, Nat.add_zero, Nat.one_mul, Nat.mul_one, Nat.reduceAdd, Nat.reduceMul, Nat.reduceSub, Nat.reducePow, Nat.reduceDiv, Nat.reduceMod, ↓reduceIte, h0, c149, h]
    · have hcp : cpass f i x = mr_it (fun _ x => cstep f x) 8 (x.1 ||| 2 ^ i, x.2) := by unfold cpass; rw [h]; rfl
      rw [hcp]
      obtain ⟨hI2, _, e2⟩ := mr_for (E := fun j (y : Nat × Nat) (_ : Unit) => mj_exec X (d + 2) 16 38 [some (.ref 31), some (.int (nI y.1)), some (.int (nI y.2)), some (.int (nI i)), some (.int (nI j))] [] (mw_U s)) (F := fun _ y => cstep f y) (I := fun _ y => y.1 < 256 ∧ y.2 < 256) (N := 8) (by
        intro j y _ hj hy
        refine ⟨cstep_lt hw hy, (), ?_⟩
        have t1 := ta_lt hw y.1
        have o1 := or8 hy.2 t1
        rw [b16_38]
        simp (disch := first | assumption | exact hf _ | omega) only [b16, b16_0, b16_12, b16_26, b16_29, b16_45, b16_51, b16_59, b16_67, b16_73, b16_79, b16_83, b16_84, nI_add, mn_mul, mn_sub, mn_m1, mn_m8, mn_eq, mn_lt, mn_le, mn_eq0, mn_0eq, mn_lt0, mn_0lt, mn_le0, mn_0le, mn_eqm, mn_meq, mn_ltm, mn_mlt, mn_lem, mn_mle, mn_mm1, mn_mm2, mn_mm3, mn_mm4, mn_mm5, mn_mm6, mn_and, mn_or, mn_an, mn_shl, mn_shr, mn_div, mn_rem, mn_clamp, mn_in, mn_inm, mn_nz, mn_zo, mn_min, mn_max, mn_abs, mn_rfit, mn_cp, mn_les, mn_gre, mn_a127, mn_a15, mn_a1, mn_a255, mn_tn0, mn_tn0e, mn_tnr, mn_tnz, mr_get, mr_ne, mr_put, mu_ne, mu_eq, mj_bk_i, mj_bk_v, mj_bk_x, decide_eq_true_eq, decide_true, decide_false, Bool.false_eq_true, Bool.true_eq_false, reduceCtorEq, mt_le_t, mt_le_f, mt_lt_t, mt_lt_f, mt_eq_t, mt_eq_f, mt_ee, not_true_eq_false, not_false_eq_true, and_true, true_and, and_self, Nat.zero_add, Nat.add_zero, Nat.one_mul, Nat.mul_one, Nat.reduceAdd, Nat.reduceMul, Nat.reduceSub, Nat.reducePow, Nat.reduceDiv, Nat.reduceMod, ↓reduceIte, c17 hw hc (show y.1 < 2147483648 by omega), c17 hw hc (show y.2 ||| fn_ta f y.1 < 2147483648 by omega)]
        rfl) (a := (x.1 ||| 2 ^ i, x.2)) ⟨or8 hI.1 (p8 hi), hI.2⟩ () 8 (Nat.le_refl 8)
      refine ⟨some (.int (nI 8)), ?_⟩
      simp (disch := first | assumption | exact hf _ | omega) only [mn_le, mt_le_f, ↓reduceIte, b16_12, h0, mn_or, mn_an, c149, h, mj_bk_i, b16_26, Bool.toNat_true, mn_eq0, mt_eq_f, b16_29, mn_shl, Nat.one_mul]
      refine e2.trans ?_
      rw [b16_38]
      simp (disch := first | assumption | exact hf _ | omega) only [b16, b16_0, b16_12, b16_26, b16_29, b16_45, b16_51, b16_59, b16_67, b16_73, b16_79, b16_83, b16_84, nI_add, mn_mul, mn_sub, mn_m1, mn_m8, mn_eq, mn_lt, mn_le, mn_eq0, mn_0eq, mn_lt0, mn_0lt, mn_le0, mn_0le, mn_eqm, mn_meq, mn_ltm, mn_mlt, mn_lem, mn_mle, mn_mm1, mn_mm2, mn_mm3, mn_mm4, mn_mm5, mn_mm6, mn_and, mn_or, mn_an, mn_shl, mn_shr, mn_div, mn_rem, mn_clamp, mn_in, mn_inm, mn_nz, mn_zo, mn_min, mn_max, mn_abs, mn_rfit, mn_cp, mn_les, mn_gre, mn_a127, mn_a15, mn_a1, mn_a255, mn_tn0, mn_tn0e, mn_tnr, mn_tnz, mr_get, mr_ne, mr_put, mu_ne, mu_eq, mj_bk_i, mj_bk_v, mj_bk_x, decide_eq_true_eq, decide_true, decide_false, Bool.false_eq_true, Bool.true_eq_false, reduceCtorEq, mt_le_t, mt_le_f, mt_lt_t, mt_lt_f, mt_eq_t, mt_eq_f, mt_ee, not_true_eq_false, not_false_eq_true, and_true, true_and, and_self, Nat.zero_add, Nat.add_zero, Nat.one_mul, Nat.mul_one, Nat.reduceAdd, Nat.reduceMul, Nat.reduceSub, Nat.reducePow, Nat.reduceDiv, Nat.reduceMod, ↓reduceIte]
  ) (a := (0, 0)) ⟨by decide, by decide⟩ none 8 (Nat.le_refl 8)
  refine e.trans ?_
  rw [b16_6]
  unfold fn_camp
  have hl : (mr_it (fun p x => cpass f p x) 8 (0, 0)).1 &&& (mr_it (fun p x => cpass f p x) 8 (0, 0)).2 < 2147483648 := Nat.lt_of_le_of_lt Nat.and_le_left (by omega)
  by_cases hz : (mr_it (cpass f) 8 (0, 0)).1 &&& (mr_it (cpass f) 8 (0, 0)).2 = 0
  · simp (disch := first | assumption | exact hf _ | omega) only [b16, b16_0, b16_12, b16_26, b16_29, b16_45, b16_51, b16_59, b16_67, b16_73, b16_79, b16_83, b16_84, nI_add, mn_mul, mn_sub, mn_m1, mn_m8, mn_eq, mn_lt, mn_le, mn_eq0, mn_0eq, mn_lt0, mn_0lt, mn_le0, mn_0le, mn_eqm, mn_meq, mn_ltm, mn_mlt, mn_lem, mn_mle, mn_mm1, mn_mm2, mn_mm3, mn_mm4, mn_mm5, mn_mm6, mn_and, mn_or, mn_an, mn_shl, mn_shr, mn_div, mn_rem, mn_clamp, mn_in, mn_inm, mn_nz, mn_zo, mn_min, mn_max, mn_abs, mn_rfit, mn_cp, mn_les, mn_gre, mn_a127, mn_a15, mn_a1, mn_a255, mn_tn0, mn_tn0e, mn_tnr, mn_tnz, mr_get, mr_ne, mr_put, mu_ne, mu_eq, mj_bk_i, mj_bk_v, mj_bk_x, decide_eq_true_eq, decide_true, decide_false, Bool.false_eq_true, Bool.true_eq_false, reduceCtorEq, mt_le_t, mt_le_f, mt_lt_t, mt_lt_f, mt_eq_t, mt_eq_f, mt_ee, not_true_eq_false, not_false_eq_true, and_true, true_and, and_self, Nat.zero_add, Nat.add_zero, Nat.one_mul, Nat.mul_one, Nat.reduceAdd, Nat.reduceMul, Nat.reduceSub, Nat.reducePow, Nat.reduceDiv, Nat.reduceMod, ↓reduceIte, hz]
  · simp (disch := first | assumption | exact hf _ | omega) only [b16, b16_0, b16_12, b16_26, b16_29, b16_45, b16_51, b16_59, b16_67, b16_73, b16_79, b16_83, b16_84, nI_add, mn_mul, mn_sub, mn_m1, mn_m8, mn_eq, mn_lt, mn_le, mn_eq0, mn_0eq, mn_lt0, mn_0lt, mn_le0, mn_0le, mn_eqm, mn_meq, mn_ltm, mn_mlt, mn_lem, mn_mle, mn_mm1, mn_mm2, mn_mm3, mn_mm4, mn_mm5, mn_mm6, mn_and, mn_or, mn_an, mn_shl, mn_shr, mn_div, mn_rem, mn_clamp, mn_in, mn_inm, mn_nz, mn_zo, mn_min, mn_max, mn_abs, mn_rfit, mn_cp, mn_les, mn_gre, mn_a127, mn_a15, mn_a1, mn_a255, mn_tn0, mn_tn0e, mn_tnr, mn_tnz, mr_get, mr_ne, mr_put, mu_ne, mu_eq, mj_bk_i, mj_bk_v, mj_bk_x, decide_eq_true_eq, decide_true, decide_false, Bool.false_eq_true, Bool.true_eq_false, reduceCtorEq, mt_le_t, mt_le_f, mt_lt_t, mt_lt_f, mt_eq_t, mt_eq_f, mt_ee, not_true_eq_false, not_false_eq_true, and_true, true_and, and_self, Nat.zero_add, Nat.add_zero, Nat.one_mul, Nat.mul_one, Nat.reduceAdd, Nat.reduceMul, Nat.reduceSub, Nat.reducePow, Nat.reduceDiv, Nat.reduceMod, ↓reduceIte, hz]
theorem c26 (hw : wf f L) (hc : cI s f) {g : Nat} (hg : g < 2147483648) : mj_call X (d + 1) 26 [.ref 31, .int (nI g)] (mw_U s) = some (.inl (some (.int (nI (fn_one f g)))), mw_U s) := by
  have h0 := hc.1
  rw [b26, b26_0]
  obtain ⟨hI, g, e⟩ := mr_for (E := fun i c (_ : Unit) => mj_exec X (d + 1) 26 4 [some (.ref 31), some (.int (nI g)), some (.int (nI c)), some (.int (nI i))] [] (mw_U s)) (F := fun p c => if g.testBit p then c ||| mn_d (f 52) (f (56 + p)) else c) (I := fun i c => True) (N := 8) (by
    intro i c _ hi hI
    refine ⟨trivial, (), ?_⟩
    have h2 := hc.2 i hi
    rw [b26_4]
    cases h : g.testBit i
    · simp (disch := first | assumption | exact hf _ | omega) only [b26, b26_0, b26_10, b26_15, b26_18, b26_34, b26_40, nI_add, mn_mul, mn_sub, mn_m1, mn_m8, mn_eq, mn_lt, mn_le, mn_eq0, mn_0eq, mn_lt0, mn_0lt, mn_le0, mn_0le, mn_eqm, mn_meq, mn_ltm, mn_mlt, mn_lem, mn_mle, mn_mm1, mn_mm2, mn_mm3, mn_mm4, mn_mm5, mn_mm6, mn_and, mn_or, mn_an, mn_shl, mn_shr, mn_div, mn_rem, mn_clamp, mn_in, mn_inm, mn_nz, mn_zo, mn_min, mn_max, mn_abs, mn_rfit, mn_cp, mn_les, mn_gre, mn_a127, mn_a15, mn_a1, mn_a255, mn_tn0, mn_tn0e, mn_tnr, mn_tnz, mr_get, mr_ne, mr_put, mu_ne, mu_eq, mj_bk_i, mj_bk_v, mj_bk_x, decide_eq_true_eq, decide_true, decide_false, Bool.false_eq_true, Bool.true_eq_false, reduceCtorEq, mt_le_t, mt_le_f, mt_lt_t, mt_lt_f, mt_eq_t, mt_eq_f, mt_ee, not_true_eq_false, not_false_eq_true, and_true, true_and, and_self, Nat.zero_add, Nat.add_zero, Nat.one_mul, Nat.mul_one, Nat.reduceAdd, Nat.reduceMul, Nat.reduceSub, Nat.reducePow, Nat.reduceDiv, Nat.reduceMod, ↓reduceIte, c149, h]
    · simp (disch := first | assumption | exact hf _ | omega) only [b26, b26_0, b26_10, b26_15, b26_18, b26_34, b26_40, nI_add, mn_mul, mn_sub, mn_m1, mn_m8, mn_eq, mn_lt, mn_le, mn_eq0, mn_0eq, mn_lt0, mn_0lt, mn_le0, mn_0le, mn_eqm, mn_meq, mn_ltm, mn_mlt, mn_lem, mn_mle, mn_mm1, mn_mm2, mn_mm3, mn_mm4, mn_mm5, mn_mm6, mn_and, mn_or, mn_an, mn_shl, mn_shr, mn_div, mn_rem, mn_clamp, mn_in, mn_inm, mn_nz, mn_zo, mn_min, mn_max, mn_abs, mn_rfit, mn_cp, mn_les, mn_gre, mn_a127, mn_a15, mn_a1, mn_a255, mn_tn0, mn_tn0e, mn_tnr, mn_tnz, mr_get, mr_ne, mr_put, mu_ne, mu_eq, mj_bk_i, mj_bk_v, mj_bk_x, decide_eq_true_eq, decide_true, decide_false, Bool.false_eq_true, Bool.true_eq_false, reduceCtorEq, mt_le_t, mt_le_f, mt_lt_t, mt_lt_f, mt_eq_t, mt_eq_f, mt_ee, not_true_eq_false, not_false_eq_true, and_true, true_and, and_self, Nat.zero_add, Nat.add_zero, Nat.one_mul, Nat.mul_one, Nat.reduceAdd, Nat.reduceMul, Nat.reduceSub, Nat.reducePow, Nat.reduceDiv, Nat.reduceMod, ↓reduceIte, c149, h, h2, h0]
  ) (a := 0) trivial () 8 (Nat.le_refl 8)
  refine e.trans ?_
  rw [b26_4]
  simp (disch := first | assumption | exact hf _ | omega) only [b26, b26_0, b26_10, b26_15, b26_18, b26_34, b26_40, nI_add, mn_mul, mn_sub, mn_m1, mn_m8, mn_eq, mn_lt, mn_le, mn_eq0, mn_0eq, mn_lt0, mn_0lt, mn_le0, mn_0le, mn_eqm, mn_meq, mn_ltm, mn_mlt, mn_lem, mn_mle, mn_mm1, mn_mm2, mn_mm3, mn_mm4, mn_mm5, mn_mm6, mn_and, mn_or, mn_an, mn_shl, mn_shr, mn_div, mn_rem, mn_clamp, mn_in, mn_inm, mn_nz, mn_zo, mn_min, mn_max, mn_abs, mn_rfit, mn_cp, mn_les, mn_gre, mn_a127, mn_a15, mn_a1, mn_a255, mn_tn0, mn_tn0e, mn_tnr, mn_tnz, mr_get, mr_ne, mr_put, mu_ne, mu_eq, mj_bk_i, mj_bk_v, mj_bk_x, decide_eq_true_eq, decide_true, decide_false, Bool.false_eq_true, Bool.true_eq_false, reduceCtorEq, mt_le_t, mt_le_f, mt_lt_t, mt_lt_f, mt_eq_t, mt_eq_f, mt_ee, not_true_eq_false, not_false_eq_true, and_true, true_and, and_self, Nat.zero_add, Nat.add_zero, Nat.one_mul, Nat.mul_one, Nat.reduceAdd, Nat.reduceMul, Nat.reduceSub, Nat.reducePow, Nat.reduceDiv, Nat.reduceMod, ↓reduceIte]
  rfl
theorem find_range {P : Nat → Bool} {N i : Nat} (h : ∀ j, j < i → P j = false) (hi : i < N) (hp : P i = true) : (List.range N).find? P = some i := by
  rw [List.find?_range_eq_some]
  exact ⟨hp, List.mem_range.mpr hi, fun j hj => by rw [h j hj]; rfl⟩
theorem find_none {P : Nat → Bool} {N : Nat} (h : ∀ j, j < N → P j = false) : (List.range N).find? P = none := by
  rw [List.find?_eq_none]
  intro x hx
  rw [h x (List.mem_range.mp hx)]
  decide
theorem c25 (hw : wf f L) (hc : cI s f) {p q : Nat} (hp : p < 8) (hq : q < 8) : mj_call X (d + 2) 25 [.ref 31, .int (nI p), .int (nI q)] (mw_U s) = some (.inl (some (.int (mo (fn_btw f p q)))), mw_U s) := by
  have h0 := hc.1
  have h52 := wf_l8 hw
  unfold fn_btw
  cases h1 : (f 52).testBit p
  · simp (disch := first | assumption | exact hf _ | omega) only [b25, b25_0, b25_8, b25_11, b25_19, b25_22, b25_24, b25_38, b25_43, b25_46, b25_49, b25_55, b25_63, nI_add, mn_mul, mn_sub, mn_m1, mn_m8, mn_eq, mn_lt, mn_le, mn_eq0, mn_0eq, mn_lt0, mn_0lt, mn_le0, mn_0le, mn_eqm, mn_meq, mn_ltm, mn_mlt, mn_lem, mn_mle, mn_mm1, mn_mm2, mn_mm3, mn_mm4, mn_mm5, mn_mm6, mn_and, mn_or, mn_an, mn_shl, mn_shr, mn_div, mn_rem, mn_clamp, mn_in, mn_inm, mn_nz, mn_zo, mn_min, mn_max, mn_abs, mn_rfit, mn_cp, mn_les, mn_gre, mn_a127, mn_a15, mn_a1, mn_a255, mn_tn0, mn_tn0e, mn_tnr, mn_tnz, mr_get, mr_ne, mr_put, mu_ne, mu_eq, mj_bk_i, mj_bk_v, mj_bk_x, decide_eq_true_eq, decide_true, decide_false, Bool.false_eq_true, Bool.true_eq_false, reduceCtorEq, mt_le_t, mt_le_f, mt_lt_t, mt_lt_f, mt_eq_t, mt_eq_f, mt_ee, not_true_eq_false, not_false_eq_true, and_true, true_and, and_self, Nat.zero_add, Nat.add_zero, Nat.one_mul, Nat.mul_one, Nat.reduceAdd, Nat.reduceMul, Nat.reduceSub, Nat.reducePow, Nat.reduceDiv, Nat.reduceMod, ↓reduceIte, h0, c149, h1, false_and]
    rfl
  cases h2 : (f 52).testBit q
  · simp (disch := first | assumption | exact hf _ | omega) only [b25, b25_0, b25_8, b25_11, b25_19, b25_22, b25_24, b25_38, b25_43, b25_46, b25_49, b25_55, b25_63, nI_add, mn_mul, mn_sub, mn_m1, mn_m8, mn_eq, mn_lt, mn_le, mn_eq0, mn_0eq, mn_lt0, mn_0lt, mn_le0, mn_0le, mn_eqm, mn_meq, mn_ltm, mn_mlt, mn_lem, mn_mle, mn_mm1, mn_mm2, mn_mm3, mn_mm4, mn_mm5, mn_mm6, mn_and, mn_or, mn_an, mn_shl, mn_shr, mn_div, mn_rem, mn_clamp, mn_in, mn_inm, mn_nz, mn_zo, mn_min, mn_max, mn_abs, mn_rfit, mn_cp, mn_les, mn_gre, mn_a127, mn_a15, mn_a1, mn_a255, mn_tn0, mn_tn0e, mn_tnr, mn_tnz, mr_get, mr_ne, mr_put, mu_ne, mu_eq, mj_bk_i, mj_bk_v, mj_bk_x, decide_eq_true_eq, decide_true, decide_false, Bool.false_eq_true, Bool.true_eq_false, reduceCtorEq, mt_le_t, mt_le_f, mt_lt_t, mt_lt_f, mt_eq_t, mt_eq_f, mt_ee, not_true_eq_false, not_false_eq_true, and_true, true_and, and_self, Nat.zero_add, Nat.add_zero, Nat.one_mul, Nat.mul_one, Nat.reduceAdd, Nat.reduceMul, Nat.reduceSub, Nat.reducePow, Nat.reduceDiv, Nat.reduceMod, ↓reduceIte, h0, c149, h1, h2, and_false]
    rfl
  simp only [and_self, if_true]
  have step : ∀ n, n ≤ 8 → (∀ j, j < n → (fn_rch f p j).testBit q = false) → mj_exec X (d + 2) 25 31 [some (.ref 31), some (.int (nI p)), some (.int (nI q)), some (.int (nI (2 ^ p))), some (.int (nI 0))] [] (mw_U s) = mj_exec X (d + 2) 25 31 [some (.ref 31), some (.int (nI p)), some (.int (nI q)), some (.int (nI (fn_rch f p n))), some (.int (nI n))] [] (mw_U s) := by
    intro n
    induction n with
    | zero => intro _ _; rfl
    | succ n ih =>
      intro hn hj
      rw [ih (by omega) (fun j h => hj j (by omega)), b25_31]
      have hr := rch_lt hw hp n
      have hz := hj n (by omega)
      simp (disch := first | assumption | exact hf _ | omega) only [b25, b25_0, b25_8, b25_11, b25_19, b25_22, b25_24, b25_38, b25_43, b25_46, b25_49, b25_55, b25_63, nI_add, mn_mul, mn_sub, mn_m1, mn_m8, mn_eq, mn_lt, mn_le, mn_eq0, mn_0eq, mn_lt0, mn_0lt, mn_le0, mn_0le, mn_eqm, mn_meq, mn_ltm, mn_mlt, mn_lem, mn_mle, mn_mm1, mn_mm2, mn_mm3, mn_mm4, mn_mm5, mn_mm6, mn_and, mn_or, mn_an, mn_shl, mn_shr, mn_div, mn_rem, mn_clamp, mn_in, mn_inm, mn_nz, mn_zo, mn_min, mn_max, mn_abs, mn_rfit, mn_cp, mn_les, mn_gre, mn_a127, mn_a15, mn_a1, mn_a255, mn_tn0, mn_tn0e, mn_tnr, mn_tnz, mr_get, mr_ne, mr_put, mu_ne, mu_eq, mj_bk_i, mj_bk_v, mj_bk_x, decide_eq_true_eq, decide_true, decide_false, Bool.false_eq_true, Bool.true_eq_false, reduceCtorEq, mt_le_t, mt_le_f, mt_lt_t, mt_lt_f, mt_eq_t, mt_eq_f, mt_ee, not_true_eq_false, not_false_eq_true, and_true, true_and, and_self, Nat.zero_add, Nat.add_zero, Nat.one_mul, Nat.mul_one, Nat.reduceAdd, Nat.reduceMul, Nat.reduceSub, Nat.reducePow, Nat.reduceDiv, Nat.reduceMod, ↓reduceIte, c149, hz, c26 hw hc (show fn_rch f p n < 2147483648 by omega)]
      rfl
  have start : mj_call X (d + 2) 25 [.ref 31, .int (nI p), .int (nI q)] (mw_U s) = mj_exec X (d + 2) 25 31 [some (.ref 31), some (.int (nI p)), some (.int (nI q)), some (.int (nI (2 ^ p))), some (.int (nI 0))] [] (mw_U s) := by
    simp (disch := first | assumption | exact hf _ | omega) only [b25, b25_0, b25_8, b25_11, b25_19, b25_22, b25_24, b25_38, b25_43, b25_46, b25_49, b25_55, b25_63, nI_add, mn_mul, mn_sub, mn_m1, mn_m8, mn_eq, mn_lt, mn_le, mn_eq0, mn_0eq, mn_lt0, mn_0lt, mn_le0, mn_0le, mn_eqm, mn_meq, mn_ltm, mn_mlt, mn_lem, mn_mle, mn_mm1, mn_mm2, mn_mm3, mn_mm4, mn_mm5, mn_mm6, mn_and, mn_or, mn_an, mn_shl, mn_shr, mn_div, mn_rem, mn_clamp, mn_in, mn_inm, mn_nz, mn_zo, mn_min, mn_max, mn_abs, mn_rfit, mn_cp, mn_les, mn_gre, mn_a127, mn_a15, mn_a1, mn_a255, mn_tn0, mn_tn0e, mn_tnr, mn_tnz, mr_get, mr_ne, mr_put, mu_ne, mu_eq, mj_bk_i, mj_bk_v, mj_bk_x, decide_eq_true_eq, decide_true, decide_false, Bool.false_eq_true, Bool.true_eq_false, reduceCtorEq, mt_le_t, mt_le_f, mt_lt_t, mt_lt_f, mt_eq_t, mt_eq_f, mt_ee, not_true_eq_false, not_false_eq_true, and_true, true_and, and_self, Nat.zero_add, Nat.add_zero, Nat.one_mul, Nat.mul_one, Nat.reduceAdd, Nat.reduceMul, Nat.reduceSub, Nat.reducePow, Nat.reduceDiv, Nat.reduceMod, ↓reduceIte, h0, c149, h1, h2]
  rw [start]
  by_cases hex : ∃ n, n < 8 ∧ (fn_rch f p n).testBit q = true
  · obtain ⟨n, hn, hb, hmin⟩ : ∃ n, n < 8 ∧ (fn_rch f p n).testBit q = true ∧ ∀ j, j < n → (fn_rch f p j).testBit q = false := by
      obtain ⟨n, hn, hb⟩ := hex
      induction n using Nat.strongRecOn with
      | ind n ih =>
        by_cases h : ∃ j, j < n ∧ (fn_rch f p j).testBit q = true
        · obtain ⟨j, hj, hjb⟩ := h
          exact ih j hj (by omega) hjb
        · exact ⟨n, hn, hb, fun j hj => by
            cases hc : (fn_rch f p j).testBit q
            · rfl
            · exact absurd ⟨j, hj, hc⟩ h⟩
    rw [find_range hmin hn hb, step n (by omega) hmin, b25_31]
    have hr := rch_lt hw hp n
    simp (disch := first | assumption | exact hf _ | omega) only [b25, b25_0, b25_8, b25_11, b25_19, b25_22, b25_24, b25_38, b25_43, b25_46, b25_49, b25_55, b25_63, nI_add, mn_mul, mn_sub, mn_m1, mn_m8, mn_eq, mn_lt, mn_le, mn_eq0, mn_0eq, mn_lt0, mn_0lt, mn_le0, mn_0le, mn_eqm, mn_meq, mn_ltm, mn_mlt, mn_lem, mn_mle, mn_mm1, mn_mm2, mn_mm3, mn_mm4, mn_mm5, mn_mm6, mn_and, mn_or, mn_an, mn_shl, mn_shr, mn_div, mn_rem, mn_clamp, mn_in, mn_inm, mn_nz, mn_zo, mn_min, mn_max, mn_abs, mn_rfit, mn_cp, mn_les, mn_gre, mn_a127, mn_a15, mn_a1, mn_a255, mn_tn0, mn_tn0e, mn_tnr, mn_tnz, mr_get, mr_ne, mr_put, mu_ne, mu_eq, mj_bk_i, mj_bk_v, mj_bk_x, decide_eq_true_eq, decide_true, decide_false, Bool.false_eq_true, Bool.true_eq_false, reduceCtorEq, mt_le_t, mt_le_f, mt_lt_t, mt_lt_f, mt_eq_t, mt_eq_f, mt_ee, not_true_eq_false, not_false_eq_true, and_true, true_and, and_self, Nat.zero_add, Nat.add_zero, Nat.one_mul, Nat.mul_one, Nat.reduceAdd, Nat.reduceMul, Nat.reduceSub, Nat.reducePow, Nat.reduceDiv, Nat.reduceMod, ↓reduceIte, c149, hb]
    rfl
  · have hall : ∀ j, j < 8 → (fn_rch f p j).testBit q = false := fun j hj => by
      cases hc : (fn_rch f p j).testBit q
      · rfl
      · exact absurd ⟨j, hj, hc⟩ hex
    rw [find_none hall, step 8 (Nat.le_refl 8) hall, b25_31]
    simp (disch := first | assumption | exact hf _ | omega) only [b25, b25_0, b25_8, b25_11, b25_19, b25_22, b25_24, b25_38, b25_43, b25_46, b25_49, b25_55, b25_63, nI_add, mn_mul, mn_sub, mn_m1, mn_m8, mn_eq, mn_lt, mn_le, mn_eq0, mn_0eq, mn_lt0, mn_0lt, mn_le0, mn_0le, mn_eqm, mn_meq, mn_ltm, mn_mlt, mn_lem, mn_mle, mn_mm1, mn_mm2, mn_mm3, mn_mm4, mn_mm5, mn_mm6, mn_and, mn_or, mn_an, mn_shl, mn_shr, mn_div, mn_rem, mn_clamp, mn_in, mn_inm, mn_nz, mn_zo, mn_min, mn_max, mn_abs, mn_rfit, mn_cp, mn_les, mn_gre, mn_a127, mn_a15, mn_a1, mn_a255, mn_tn0, mn_tn0e, mn_tnr, mn_tnz, mr_get, mr_ne, mr_put, mu_ne, mu_eq, mj_bk_i, mj_bk_v, mj_bk_x, decide_eq_true_eq, decide_true, decide_false, Bool.false_eq_true, Bool.true_eq_false, reduceCtorEq, mt_le_t, mt_le_f, mt_lt_t, mt_lt_f, mt_eq_t, mt_eq_f, mt_ee, not_true_eq_false, not_false_eq_true, and_true, true_and, and_self, Nat.zero_add, Nat.add_zero, Nat.one_mul, Nat.mul_one, Nat.reduceAdd, Nat.reduceMul, Nat.reduceSub, Nat.reducePow, Nat.reduceDiv, Nat.reduceMod, ↓reduceIte]
    rfl
theorem c27 (hw : wf f L) (hc : cI s f) {p : Nat} (hp : p < 8) : mj_call X (d + 2) 27 [.ref 31, .int (nI p)] (mw_U s) = some (.inl (some (.int (nI (fn_fr f p)))), mw_U s) := by
  have h0 := hc.1
  have h52 := wf_l8 hw
  have h2 := hc.2 p hp
  have ht := wf_t hw hp
  unfold fn_fr
  cases h1 : (f 52).testBit p
  · simp (disch := first | assumption | exact hf _ | omega) only [b27, b27_0, b27_8, b27_11, b27_13, b27_25, nI_add, mn_mul, mn_sub, mn_m1, mn_m8, mn_eq, mn_lt, mn_le, mn_eq0, mn_0eq, mn_lt0, mn_0lt, mn_le0, mn_0le, mn_eqm, mn_meq, mn_ltm, mn_mlt, mn_lem, mn_mle, mn_mm1, mn_mm2, mn_mm3, mn_mm4, mn_mm5, mn_mm6, mn_and, mn_or, mn_an, mn_shl, mn_shr, mn_div, mn_rem, mn_clamp, mn_in, mn_inm, mn_nz, mn_zo, mn_min, mn_max, mn_abs, mn_rfit, mn_cp, mn_les, mn_gre, mn_a127, mn_a15, mn_a1, mn_a255, mn_tn0, mn_tn0e, mn_tnr, mn_tnz, mr_get, mr_ne, mr_put, mu_ne, mu_eq, mj_bk_i, mj_bk_v, mj_bk_x, decide_eq_true_eq, decide_true, decide_false, Bool.false_eq_true, Bool.true_eq_false, reduceCtorEq, mt_le_t, mt_le_f, mt_lt_t, mt_lt_f, mt_eq_t, mt_eq_f, mt_ee, not_true_eq_false, not_false_eq_true, and_true, true_and, and_self, Nat.zero_add, Nat.add_zero, Nat.one_mul, Nat.mul_one, Nat.reduceAdd, Nat.reduceMul, Nat.reduceSub, Nat.reducePow, Nat.reduceDiv, Nat.reduceMod, ↓reduceIte, h0, c149, h1]
  · simp (disch := first | assumption | exact hf _ | omega) only [b27, b27_0, b27_8, b27_11, b27_13, b27_25, nI_add, mn_mul, mn_sub, mn_m1, mn_m8, mn_eq, mn_lt, mn_le, mn_eq0, mn_0eq, mn_lt0, mn_0lt, mn_le0, mn_0le, mn_eqm, mn_meq, mn_ltm, mn_mlt, mn_lem, mn_mle, mn_mm1, mn_mm2, mn_mm3, mn_mm4, mn_mm5, mn_mm6, mn_and, mn_or, mn_an, mn_shl, mn_shr, mn_div, mn_rem, mn_clamp, mn_in, mn_inm, mn_nz, mn_zo, mn_min, mn_max, mn_abs, mn_rfit, mn_cp, mn_les, mn_gre, mn_a127, mn_a15, mn_a1, mn_a255, mn_tn0, mn_tn0e, mn_tnr, mn_tnz, mr_get, mr_ne, mr_put, mu_ne, mu_eq, mj_bk_i, mj_bk_v, mj_bk_x, decide_eq_true_eq, decide_true, decide_false, Bool.false_eq_true, Bool.true_eq_false, reduceCtorEq, mt_le_t, mt_le_f, mt_lt_t, mt_lt_f, mt_eq_t, mt_eq_f, mt_ee, not_true_eq_false, not_false_eq_true, and_true, true_and, and_self, Nat.zero_add, Nat.add_zero, Nat.one_mul, Nat.mul_one, Nat.reduceAdd, Nat.reduceMul, Nat.reduceSub, Nat.reducePow, Nat.reduceDiv, Nat.reduceMod, ↓reduceIte, h0, c149, h1, h2, c17 hw hc (show f (56 + p) < 2147483648 by omega)]
theorem c18 (hw : wf f L) (hc : cI s f) : mj_call X (d + 1) 18 [.ref 31] (mw_U s) = some (.inl (some (.int (nI (fn_thr f / 3)))), mw_U s) := by
  rw [b18, b18_0]
  obtain ⟨hI, g, e⟩ := mr_for (E := fun i c (l : Option Value × Option Value) => mj_exec X (d + 1) 18 4 [some (.ref 31), some (.int (nI c)), some (.int (nI i)), l.1, l.2] [] (mw_U s)) (F := fun i c => if 0 < fh f i then c + fn_cnt (f (56 + mn_l i) &&& f (56 + mn_g i)) else c) (I := fun i c => c ≤ 10 * i) (N := 28) (by
    intro i c l hi hI
    have hlg := mn_lg hi
    have t1 := wf_t hw (show mn_l i < 8 by omega)
    have t2 := wf_t hw (show mn_g i < 8 by omega)
    have r1 := hc.2 (mn_l i) (by omega)
    have r2 := hc.2 (mn_g i) (by omega)
    have b1 := fn_cnt_le (f (56 + mn_l i) &&& f (56 + mn_g i))
    have hb : (f (56 + mn_l i)).testBit (mn_g i) = decide (0 < fh f i) := by
      rw [wf_b hw (by omega), decide_eq_true hlg.2, Bool.true_and]
      unfold fhp
      rw [if_neg (by omega), fp_lg hi]
    have ha : f (56 + mn_l i) &&& f (56 + mn_g i) < 1024 := Nat.lt_of_le_of_lt Nat.and_le_left (by omega)
    have e1 : mj_call X d 348 [.int (nI (f (56 + mn_l i) &&& f (56 + mn_g i)))] (mw_U s) = some (.inl (some (.int (nI (fn_cnt (f (56 + mn_l i) &&& f (56 + mn_g i)))))), mw_U s) := c348 ha
    refine ⟨by split <;> omega, (some (.int (nI (mn_l i))), some (.int (nI (mn_g i)))), ?_⟩
    rw [b18_4]
    by_cases h : 0 < fh f i
    · rw [decide_eq_true h] at hb
      simp (disch := first | assumption | exact hf _ | omega) only [b18, b18_0, b18_10, b18_34, b18_37, b18_55, b18_57, b18_63, nI_add, mn_mul, mn_sub, mn_m1, mn_m8, mn_eq, mn_lt, mn_le, mn_eq0, mn_0eq, mn_lt0, mn_0lt, mn_le0, mn_0le, mn_eqm, mn_meq, mn_ltm, mn_mlt, mn_lem, mn_mle, mn_mm1, mn_mm2, mn_mm3, mn_mm4, mn_mm5, mn_mm6, mn_and, mn_or, mn_an, mn_shl, mn_shr, mn_div, mn_rem, mn_clamp, mn_in, mn_inm, mn_nz, mn_zo, mn_min, mn_max, mn_abs, mn_rfit, mn_cp, mn_les, mn_gre, mn_a127, mn_a15, mn_a1, mn_a255, mn_tn0, mn_tn0e, mn_tnr, mn_tnz, mr_get, mr_ne, mr_put, mu_ne, mu_eq, mj_bk_i, mj_bk_v, mj_bk_x, decide_eq_true_eq, decide_true, decide_false, Bool.false_eq_true, Bool.true_eq_false, reduceCtorEq, mt_le_t, mt_le_f, mt_lt_t, mt_lt_f, mt_eq_t, mt_eq_f, mt_ee, not_true_eq_false, not_false_eq_true, and_true, true_and, and_self, Nat.zero_add, Nat.add_zero, Nat.one_mul, Nat.mul_one, Nat.reduceAdd, Nat.reduceMul, Nat.reduceSub, Nat.reducePow, Nat.reduceDiv, Nat.reduceMod, ↓reduceIte, r1, r2, c149, hb, h, e1]
    · rw [decide_eq_false h] at hb
      simp (disch := first | assumption | exact hf _ | omega) only [b18, b18_0, b18_10, b18_34, b18_37, b18_55, b18_57, b18_63, nI_add, mn_mul, mn_sub, mn_m1, mn_m8, mn_eq, mn_lt, mn_le, mn_eq0, mn_0eq, mn_lt0, mn_0lt, mn_le0, mn_0le, mn_eqm, mn_meq, mn_ltm, mn_mlt, mn_lem, mn_mle, mn_mm1, mn_mm2, mn_mm3, mn_mm4, mn_mm5, mn_mm6, mn_and, mn_or, mn_an, mn_shl, mn_shr, mn_div, mn_rem, mn_clamp, mn_in, mn_inm, mn_nz, mn_zo, mn_min, mn_max, mn_abs, mn_rfit, mn_cp, mn_les, mn_gre, mn_a127, mn_a15, mn_a1, mn_a255, mn_tn0, mn_tn0e, mn_tnr, mn_tnz, mr_get, mr_ne, mr_put, mu_ne, mu_eq, mj_bk_i, mj_bk_v, mj_bk_x, decide_eq_true_eq, decide_true, decide_false, Bool.false_eq_true, Bool.true_eq_false, reduceCtorEq, mt_le_t, mt_le_f, mt_lt_t, mt_lt_f, mt_eq_t, mt_eq_f, mt_ee, not_true_eq_false, not_false_eq_true, and_true, true_and, and_self, Nat.zero_add, Nat.add_zero, Nat.one_mul, Nat.mul_one, Nat.reduceAdd, Nat.reduceMul, Nat.reduceSub, Nat.reducePow, Nat.reduceDiv, Nat.reduceMod, ↓reduceIte, r1, r2, c149, hb, h]
  ) (a := 0) (Nat.zero_le _) (none, none) 28 (Nat.le_refl 28)
  refine e.trans ?_
  rw [b18_4]
  simp (disch := first | assumption | exact hf _ | omega) only [b18, b18_0, b18_10, b18_34, b18_37, b18_55, b18_57, b18_63, nI_add, mn_mul, mn_sub, mn_m1, mn_m8, mn_eq, mn_lt, mn_le, mn_eq0, mn_0eq, mn_lt0, mn_0lt, mn_le0, mn_0le, mn_eqm, mn_meq, mn_ltm, mn_mlt, mn_lem, mn_mle, mn_mm1, mn_mm2, mn_mm3, mn_mm4, mn_mm5, mn_mm6, mn_and, mn_or, mn_an, mn_shl, mn_shr, mn_div, mn_rem, mn_clamp, mn_in, mn_inm, mn_nz, mn_zo, mn_min, mn_max, mn_abs, mn_rfit, mn_cp, mn_les, mn_gre, mn_a127, mn_a15, mn_a1, mn_a255, mn_tn0, mn_tn0e, mn_tnr, mn_tnz, mr_get, mr_ne, mr_put, mu_ne, mu_eq, mj_bk_i, mj_bk_v, mj_bk_x, decide_eq_true_eq, decide_true, decide_false, Bool.false_eq_true, Bool.true_eq_false, reduceCtorEq, mt_le_t, mt_le_f, mt_lt_t, mt_lt_f, mt_eq_t, mt_eq_f, mt_ee, not_true_eq_false, not_false_eq_true, and_true, true_and, and_self, Nat.zero_add, Nat.add_zero, Nat.one_mul, Nat.mul_one, Nat.reduceAdd, Nat.reduceMul, Nat.reduceSub, Nat.reducePow, Nat.reduceDiv, Nat.reduceMod, ↓reduceIte]
  rfl
theorem c19 (hw : wf f L) (hc : cI s f) : mj_call X (d + 1) 19 [.ref 31] (mw_U s) = some (.inl (some (.int (nI (fn_aln f)))), mw_U s) := by
  have h0 := hc.1
  have h52 := wf_l8 hw
  rw [b19, b19_0]
  obtain ⟨hI, g, e⟩ := mr_for (E := fun i c l => mj_exec X (d + 1) 19 4 [some (.ref 31), some (.int (nI c)), some (.int (nI i)), l] [] (mw_U s)) (F := fun p b => if (f 52).testBit p = true ∧ mn_d (mn_d (f 52) (2 ^ p)) (f (56 + p)) = 0 then b ||| 2 ^ p else b) (I := fun i c => True) (N := 8) (by
    intro i c l hi hI
    refine ⟨trivial, some (.int (nI (mn_d (f 52) (2 ^ i)))), ?_⟩
    have h2 := hc.2 i hi
    have hd : mn_d (mn_d (f 52) (2 ^ i)) (f (56 + i)) < 2147483648 := Nat.lt_of_le_of_lt (mn_d_le _ _) (Nat.lt_of_le_of_lt (mn_d_le _ _) (by omega))
    rw [b19_4]
    cases h : (f 52).testBit i
    · simp (disch := first | assumption | exact hf _ | omega) only [b19, b19_0, b19_10, b19_29, b19_32, b19_45, b19_51, b19_57, nI_add, mn_mul, mn_sub, mn_m1, mn_m8, mn_eq, mn_lt, mn_le, mn_eq0, mn_0eq, mn_lt0, mn_0lt, mn_le0, mn_0le, mn_eqm, mn_meq, mn_ltm, mn_mlt, mn_lem, mn_mle, mn_mm1, mn_mm2, mn_mm3, mn_mm4, mn_mm5, mn_mm6, mn_and, mn_or, mn_an, mn_shl, mn_shr, mn_div, mn_rem, mn_clamp, mn_in, mn_inm, mn_nz, mn_zo, mn_min, mn_max, mn_abs, mn_rfit, mn_cp, mn_les, mn_gre, mn_a127, mn_a15, mn_a1, mn_a255, mn_tn0, mn_tn0e, mn_tnr, mn_tnz, mr_get, mr_ne, mr_put, mu_ne, mu_eq, mj_bk_i, mj_bk_v, mj_bk_x, decide_eq_true_eq, decide_true, decide_false, Bool.false_eq_true, Bool.true_eq_false, reduceCtorEq, mt_le_t, mt_le_f, mt_lt_t, mt_lt_f, mt_eq_t, mt_eq_f, mt_ee, not_true_eq_false, not_false_eq_true, and_true, true_and, and_self, Nat.zero_add, Nat.add_zero, Nat.one_mul, Nat.mul_one, Nat.reduceAdd, Nat.reduceMul, Nat.reduceSub, Nat.reducePow, Nat.reduceDiv, Nat.reduceMod, ↓reduceIte, h0, c149, h, false_and]
    · by_cases h3 : mn_d (mn_d (f 52) (2 ^ i)) (f (56 + i)) = 0
      · simp (disch := first | assumption | exact hf _ | omega) only [b19, b19_0, b19_10, b19_29, b19_32, b19_45, b19_51, b19_57, nI_add, mn_mul, mn_sub, mn_m1, mn_m8, mn_eq, mn_lt, mn_le, mn_eq0, mn_0eq, mn_lt0, mn_0lt, mn_le0, mn_0le, mn_eqm, mn_meq, mn_ltm, mn_mlt, mn_lem, mn_mle, mn_mm1, mn_mm2, mn_mm3, mn_mm4, mn_mm5, mn_mm6, mn_and, mn_or, mn_an, mn_shl, mn_shr, mn_div, mn_rem, mn_clamp, mn_in, mn_inm, mn_nz, mn_zo, mn_min, mn_max, mn_abs, mn_rfit, mn_cp, mn_les, mn_gre, mn_a127, mn_a15, mn_a1, mn_a255, mn_tn0, mn_tn0e, mn_tnr, mn_tnz, mr_get, mr_ne, mr_put, mu_ne, mu_eq, mj_bk_i, mj_bk_v, mj_bk_x, decide_eq_true_eq, decide_true, decide_false, Bool.false_eq_true, Bool.true_eq_false, reduceCtorEq, mt_le_t, mt_le_f, mt_lt_t, mt_lt_f, mt_eq_t, mt_eq_f, mt_ee, not_true_eq_false, not_false_eq_true, and_true, true_and, and_self, Nat.zero_add, Nat.add_zero, Nat.one_mul, Nat.mul_one, Nat.reduceAdd, Nat.reduceMul, Nat.reduceSub, Nat.reducePow, Nat.reduceDiv, Nat.reduceMod, ↓reduceIte, h0, c149, h, h2, h3]
      · simp (disch := first | assumption | exact hf _ | omega) only [b19, b19_0, b19_10, b19_29, b19_32, b19_45, b19_51, b19_57, nI_add, mn_mul, mn_sub, mn_m1, mn_m8, mn_eq, mn_lt, mn_le, mn_eq0, mn_0eq, mn_lt0, mn_0lt, mn_le0, mn_0le, mn_eqm, mn_meq, mn_ltm, mn_mlt, mn_lem, mn_mle, mn_mm1, mn_mm2, mn_mm3, mn_mm4, mn_mm5, mn_mm6, mn_and, mn_or, mn_an, mn_shl, mn_shr, mn_div, mn_rem, mn_clamp, mn_in, mn_inm, mn_nz, mn_zo, mn_min, mn_max, mn_abs, mn_rfit, mn_cp, mn_les, mn_gre, mn_a127, mn_a15, mn_a1, mn_a255, mn_tn0, mn_tn0e, mn_tnr, mn_tnz, mr_get, mr_ne, mr_put, mu_ne, mu_eq, mj_bk_i, mj_bk_v, mj_bk_x, decide_eq_true_eq, decide_true, decide_false, Bool.false_eq_true, Bool.true_eq_false, reduceCtorEq, mt_le_t, mt_le_f, mt_lt_t, mt_lt_f, mt_eq_t, mt_eq_f, mt_ee, not_true_eq_false, not_false_eq_true, and_true, true_and, and_self, Nat.zero_add, Nat.add_zero, Nat.one_mul, Nat.mul_one, Nat.reduceAdd, Nat.reduceMul, Nat.reduceSub, Nat.reducePow, Nat.reduceDiv, Nat.reduceMod, ↓reduceIte, h0, c149, h, h2, h3]
  ) (a := 0) trivial none 8 (Nat.le_refl 8)
  refine e.trans ?_
  rw [b19_4]
  simp (disch := first | assumption | exact hf _ | omega) only [b19, b19_0, b19_10, b19_29, b19_32, b19_45, b19_51, b19_57, nI_add, mn_mul, mn_sub, mn_m1, mn_m8, mn_eq, mn_lt, mn_le, mn_eq0, mn_0eq, mn_lt0, mn_0lt, mn_le0, mn_0le, mn_eqm, mn_meq, mn_ltm, mn_mlt, mn_lem, mn_mle, mn_mm1, mn_mm2, mn_mm3, mn_mm4, mn_mm5, mn_mm6, mn_and, mn_or, mn_an, mn_shl, mn_shr, mn_div, mn_rem, mn_clamp, mn_in, mn_inm, mn_nz, mn_zo, mn_min, mn_max, mn_abs, mn_rfit, mn_cp, mn_les, mn_gre, mn_a127, mn_a15, mn_a1, mn_a255, mn_tn0, mn_tn0e, mn_tnr, mn_tnz, mr_get, mr_ne, mr_put, mu_ne, mu_eq, mj_bk_i, mj_bk_v, mj_bk_x, decide_eq_true_eq, decide_true, decide_false, Bool.false_eq_true, Bool.true_eq_false, reduceCtorEq, mt_le_t, mt_le_f, mt_lt_t, mt_lt_f, mt_eq_t, mt_eq_f, mt_ee, not_true_eq_false, not_false_eq_true, and_true, true_and, and_self, Nat.zero_add, Nat.add_zero, Nat.one_mul, Nat.mul_one, Nat.reduceAdd, Nat.reduceMul, Nat.reduceSub, Nat.reducePow, Nat.reduceDiv, Nat.reduceMod, ↓reduceIte]
  rfl
end
