/-! the reference: what it answers of quarrels, over the picture -/
theorem mw_pne {s : mw_S} {k j a b : Nat} {v : Int32} (h : ¬ a = k) : (mw_p s k j v).1 a b = s.1 a b := if_neg (fun z => h z.1)
theorem mw_pnj {s : mw_S} {k j b : Nat} {v : Int32} (h : ¬ b = j) : (mw_p s k j v).1 k b = s.1 k b := if_neg (fun z => h z.2)
theorem mw_peq {s : mw_S} {k j : Nat} {v : Int32} : (mw_p s k j v).1 k j = v := if_pos ⟨rfl, rfl⟩
theorem mw_pp {s : mw_S} {k j : Nat} {v w : Int32} : mw_p (mw_p s k j v) k j w = mw_p s k j w := by
  refine Prod.ext ?_ rfl
  funext a b
  show (if a = k ∧ b = j then w else if a = k ∧ b = j then v else s.1 a b) = if a = k ∧ b = j then w else s.1 a b
  split <;> rfl
theorem mr_it_ext {α : Type} {F : Nat → α → α} {n : Nat} {a : α} : ∀ {m : Nat}, n ≤ m → (∀ i a, n ≤ i → i < m → F i a = a) → mr_it F m a = mr_it F n a
  | 0, h, _ => by rw [show n = 0 by omega]
  | m + 1, h, hs => by
    by_cases he : n = m + 1
    · rw [he]
    · rw [mr_it, hs m _ (by omega) (by omega)]
      exact mr_it_ext (by omega) (fun i a h1 h2 => hs i a h1 (by omega))
theorem it_bits {P : Nat → Prop} [DecidablePred P] (n j : Nat) : (mr_it (fun q c => if P q then c ||| 2 ^ q else c) n 0).testBit j = decide (j < n ∧ P j) := by
  induction n with
  | zero => rw [mr_it, Nat.zero_testBit]; simp
  | succ n ih =>
    rw [mr_it]
    by_cases hp : P n
    · rw [if_pos hp, Nat.testBit_or, ih, bit_pow, Bool.eq_iff_iff, Bool.or_eq_true, decide_eq_true_eq, decide_eq_true_eq, decide_eq_true_eq]
      constructor
      · rintro (⟨h1, h2⟩ | h)
        · exact ⟨by omega, h2⟩
        · subst h; exact ⟨by omega, hp⟩
      · rintro ⟨h1, h2⟩
        by_cases he : n = j
        · exact Or.inr he
        · exact Or.inl ⟨by omega, h2⟩
    · rw [if_neg hp, ih, Bool.eq_iff_iff, decide_eq_true_eq, decide_eq_true_eq]
      constructor
      · rintro ⟨h1, h2⟩; exact ⟨by omega, h2⟩
      · rintro ⟨h1, h2⟩
        have : j ≠ n := fun z => hp (z ▸ h2)
        exact ⟨by omega, h2⟩
theorem it_bits_lt {P : Nat → Prop} [DecidablePred P] (n : Nat) : mr_it (fun q c => if P q then c ||| 2 ^ q else c) n 0 < 2 ^ n := Nat.lt_pow_two_of_testBit _ (fun i hi => by rw [it_bits, decide_eq_false]; omega)
theorem cnt_and : ∀ {v : Nat}, v < 1024 → 0 < v → (v &&& (v - 1)) < v ∧ fn_cnt (v &&& (v - 1)) + 1 = fn_cnt v := by
  have : ∀ v, v < 1024 → 0 < v → (v &&& (v - 1)) < v ∧ fn_cnt (v &&& (v - 1)) + 1 = fn_cnt v := by decide +kernel
  intro v h1 h2; exact this v h1 h2
theorem sum_sym (g : Nat → Nat) : mr_it (fun p c => c + mr_it (fun q c => c + (if p = q then 0 else g (fp p q))) 8 0) 8 0 = 2 * mr_it (fun i c => c + g i) 28 0 := by
  have e1 : mr_it (fun p c => c + mr_it (fun q c => c + (if p = q then 0 else g (fp p q))) 8 0) 8 0 = ((((((((0 + (0 + 0 + g 0 + g 1 + g 2 + g 3 + g 4 + g 5 + g 6)) + (0 + g 0 + 0 + g 7 + g 8 + g 9 + g 10 + g 11 + g 12)) + (0 + g 1 + g 7 + 0 + g 13 + g 14 + g 15 + g 16 + g 17)) + (0 + g 2 + g 8 + g 13 + 0 + g 18 + g 19 + g 20 + g 21)) + (0 + g 3 + g 9 + g 14 + g 18 + 0 + g 22 + g 23 + g 24)) + (0 + g 4 + g 10 + g 15 + g 19 + g 22 + 0 + g 25 + g 26)) + (0 + g 5 + g 11 + g 16 + g 20 + g 23 + g 25 + 0 + g 27)) + (0 + g 6 + g 12 + g 17 + g 21 + g 24 + g 26 + g 27 + 0)) := rfl
  have e2 : mr_it (fun i c => c + g i) 28 0 = 0 + g 0 + g 1 + g 2 + g 3 + g 4 + g 5 + g 6 + g 7 + g 8 + g 9 + g 10 + g 11 + g 12 + g 13 + g 14 + g 15 + g 16 + g 17 + g 18 + g 19 + g 20 + g 21 + g 22 + g 23 + g 24 + g 25 + g 26 + g 27 := rfl
  rw [e1, e2]
  omega
section
variable {f : Nat → Nat} {L : Nat}
theorem fhp_n (hw : wf f L) {p q : Nat} (hp : p < 8) (hq : q < 8) (hn : f 55 ≤ q) : fhp f p q = 0 := by
  rcases Nat.eq_zero_or_pos (fhp f p q) with h | h
  · exact h
  · have := (wf_mn hw hp hq h).2.2.2.2; omega
theorem fhp_n1 (hw : wf f L) {p q : Nat} (hp : p < 8) (hq : q < 8) (hn : f 55 ≤ p) : fhp f p q = 0 := by
  rw [fhp_comm]; exact fhp_n hw hq hp hn
theorem cnt_t (hw : wf f L) {p : Nat} (hp : p < 8) : fn_cnt (f (56 + p)) = mr_it (fun q c => c + (if p = q then 0 else (decide (0 < fh f (fp p q))).toNat)) 8 0 := by
  unfold fn_cnt
  rw [mr_it_ext (n := 8) (by omega) (fun i a h1 h2 => by rw [wf_b hw hp, decide_eq_false (by omega)]; rfl)]
  refine mr_it_congr (fun q c hq => ?_)
  rw [wf_b hw hp, decide_eq_true hq, Bool.true_and]
  unfold fhp
  by_cases h : p = q
  · rw [if_pos h, if_pos h]; rfl
  · rw [if_neg h, if_neg h]
theorem many_sum (hw : wf f L) : fn_many f = mr_it (fun i c => c + (decide (0 < fh f i)).toNat) 28 0 := by
  unfold fn_many
  refine mr_it_congr (fun i c hi => ?_)
  have := wf_z hw hi
  by_cases h : f (24 + i) = 0
  · rw [if_pos h, decide_eq_false (by rw [this.mp h]; omega)]; rfl
  · rw [if_neg h, decide_eq_true (Nat.pos_of_ne_zero (fun z => h (this.mpr z)))]; rfl
theorem many_t (hw : wf f L) : mr_it (fun p c => c + fn_cnt (f (56 + p))) 8 0 = 2 * fn_many f := by
  rw [many_sum hw, ← sum_sym]
  exact mr_it_congr (fun p c hp => by rw [cnt_t hw hp])
theorem all_t : mr_it (fun p c => c + fn_ha f p) 8 0 = 2 * fn_all f := sum_sym (fh f)
theorem ties_it (hw : wf f L) {p : Nat} (hp : p < 8) : mr_it (fun q c => if 0 < fhp f p q then c ||| 2 ^ q else c) (f 55) 0 = f (56 + p) := by
  have hn := wf_n hw
  apply Nat.eq_of_testBit_eq
  intro j
  rw [it_bits, wf_b hw hp, Bool.eq_iff_iff, Bool.and_eq_true, decide_eq_true_eq, decide_eq_true_eq, decide_eq_true_eq]
  constructor
  · rintro ⟨h1, h2⟩; exact ⟨by omega, h2⟩
  · rintro ⟨h1, h2⟩; exact ⟨(wf_mn hw hp h1 h2).2.2.2.2, h2⟩
theorem fn_ha_n (hw : wf f L) {p : Nat} (hp : p < 8) : mr_it (fun q c => c + fhp f p q) (f 55) 0 = fn_ha f p := (mr_it_ext (wf_n hw) (fun i a h1 h2 => by rw [fhp_n hw hp h2 h1]; rfl)).symm
theorem fn_ha_0 (hw : wf f L) {p : Nat} (hp : p < 8) (hn : f 55 ≤ p) : fn_ha f p = 0 := mr_it_inv (I := fun _ c => c = 0) rfl (fun i a hi h => by rw [fhp_n1 hw hp hi hn, h])
theorem ties_0 (hw : wf f L) {p : Nat} (hp : p < 8) (hn : f 55 ≤ p) : f (56 + p) = 0 := by
  apply Nat.eq_of_testBit_eq
  intro j
  rw [wf_b hw hp, Nat.zero_testBit]
  by_cases hj : j < 8
  · rw [fhp_n1 hw hp hj hn]; simp
  · rw [decide_eq_false hj]; rfl
end
theorem i64_le {a b : Int64} : (a ≤ b) = (a.toInt ≤ b.toInt) := propext Int64.le_iff_toInt_le
theorem lg_lt0 {a b : Int64} : (lg_cmp a b < 0) = (a.toInt < b.toInt) := by
  unfold lg_cmp
  apply propext
  by_cases h1 : a > b
  · rw [if_pos h1]
    have h2 : b.toInt < a.toInt := Int64.lt_iff_toInt_lt.mp h1
    constructor
    · intro z; exact absurd z (by decide)
    · intro z; omega
  · rw [if_neg h1]
    have h2 : ¬ b.toInt < a.toInt := fun z => h1 (Int64.lt_iff_toInt_lt.mpr z)
    by_cases h3 : a = b
    · rw [if_pos h3, h3]
      constructor
      · intro z; exact absurd z (by decide)
      · intro z; omega
    · rw [if_neg h3]
      have h4 : ¬ a.toInt = b.toInt := fun z => h3 (Int64.toInt_inj.mp z)
      constructor
      · intro _; omega
      · intro _; decide
theorem lg_0lt {a b : Int64} : (0 < lg_cmp a b) = (b.toInt < a.toInt) := by
  unfold lg_cmp
  apply propext
  by_cases h1 : a > b
  · rw [if_pos h1]
    have h2 : b.toInt < a.toInt := Int64.lt_iff_toInt_lt.mp h1
    exact ⟨fun _ => h2, fun _ => by decide⟩
  · rw [if_neg h1]
    have h2 : ¬ b.toInt < a.toInt := fun z => h1 (Int64.lt_iff_toInt_lt.mpr z)
    by_cases h3 : a = b
    · rw [if_pos h3]
      exact ⟨fun z => absurd z (by decide), fun z => absurd z h2⟩
    · rw [if_neg h3]
      exact ⟨fun z => absurd z (by decide), fun z => absurd z h2⟩
theorem i64_n {n : Nat} (h : n < 2147483648) : (Int64.ofNat n).toInt = n := Int64.toInt_ofNat_of_lt (by omega)
theorem i64_i {x : Int32} : (Int32.toInt64 x).toInt = x.toInt := Int32.toInt_toInt64 x
section
variable {X : mj_X} {d : Nat} {s : mw_S} {f : Nat → Nat} {L : Nat}
theorem c222 {p q : Nat} {w : mw_S} (hp : p < 8) (hq : q < 8) : mj_call X d 222 [.int (nI p), .int (nI q)] (mw_U w) = some (.inl (some (.int (nI (gp p q)))), mw_U w) := by
  simp (disch := first | assumption | exact hf _ | omega) only [b222, b222_0, nI_add, mn_mul, mn_sub, mn_m1, mn_m8, mn_eq, mn_lt, mn_le, mn_eq0, mn_0eq, mn_lt0, mn_0lt, mn_le0, mn_0le, mn_eqm, mn_meq, mn_ltm, mn_mlt, mn_lem, mn_mle, mn_mm1, mn_mm2, mn_mm3, mn_mm4, mn_mm5, mn_mm6, mn_and, mn_or, mn_an, mn_shl, mn_shr, mn_div, mn_rem, mn_clamp, mn_in, mn_inm, mn_nz, mn_zo, mn_min, mn_max, mn_abs, mn_rfit, mn_cp, mn_les, mn_gre, mn_a127, mn_a15, mn_a1, mn_a255, mn_tn0, mn_tn0e, mn_tnr, mn_tnz, mr_get, mr_ne, mr_put, mu_ne, mu_eq, mj_bk_i, mj_bk_v, mj_bk_x, decide_eq_true_eq, decide_true, decide_false, Bool.false_eq_true, Bool.true_eq_false, reduceCtorEq, mt_le_t, mt_le_f, mt_lt_t, mt_lt_f, mt_eq_t, mt_eq_f, mt_ee, not_true_eq_false, not_false_eq_true, and_true, true_and, and_self, Nat.zero_add, Nat.add_zero, Nat.one_mul, Nat.mul_one, Nat.reduceAdd, Nat.reduceMul, Nat.reduceSub, Nat.reducePow, Nat.reduceDiv, Nat.reduceMod, ↓reduceIte, mp_h, mp_w, mp_c, mp_s, mp_d, mp_n, mp_54, mp_52, mp_55, mp_l, mp_o, mp_42, mp_45, gh_gp, gw_gp, gc_gp, mw_pne, Nat.or_zero]
  rfl
theorem c229 {p q : Nat} (hp : p < 8) (hq : q < 8) : mj_call X (d + 1) 229 [.ref 42, .int (nI p), .int (nI q)] (mw_U (mp s f)) = some (.inl (some (.int (nI (decide (0 < fhp f p q)).toNat))), mw_U (mp s f)) := by
  have r59 := mw_r_59
  have hg := gp_lt hp hq
  have hl := fhp_lt f p q
  by_cases h : p = q
  · have e : fhp f p q = 0 := by unfold fhp; rw [if_pos h]
    simp (disch := first | assumption | exact hf _ | omega) only [b229, b229_0, b229_5, b229_14, b229_18, b229_22, b229_23, nI_add, mn_mul, mn_sub, mn_m1, mn_m8, mn_eq, mn_lt, mn_le, mn_eq0, mn_0eq, mn_lt0, mn_0lt, mn_le0, mn_0le, mn_eqm, mn_meq, mn_ltm, mn_mlt, mn_lem, mn_mle, mn_mm1, mn_mm2, mn_mm3, mn_mm4, mn_mm5, mn_mm6, mn_and, mn_or, mn_an, mn_shl, mn_shr, mn_div, mn_rem, mn_clamp, mn_in, mn_inm, mn_nz, mn_zo, mn_min, mn_max, mn_abs, mn_rfit, mn_cp, mn_les, mn_gre, mn_a127, mn_a15, mn_a1, mn_a255, mn_tn0, mn_tn0e, mn_tnr, mn_tnz, mr_get, mr_ne, mr_put, mu_ne, mu_eq, mj_bk_i, mj_bk_v, mj_bk_x, decide_eq_true_eq, decide_true, decide_false, Bool.false_eq_true, Bool.true_eq_false, reduceCtorEq, mt_le_t, mt_le_f, mt_lt_t, mt_lt_f, mt_eq_t, mt_eq_f, mt_ee, not_true_eq_false, not_false_eq_true, and_true, true_and, and_self, Nat.zero_add, Nat.add_zero, Nat.one_mul, Nat.mul_one, Nat.reduceAdd, Nat.reduceMul, Nat.reduceSub, Nat.reducePow, Nat.reduceDiv, Nat.reduceMod, ↓reduceIte, mp_h, mp_w, mp_c, mp_s, mp_d, mp_n, mp_54, mp_52, mp_55, mp_l, mp_o, mp_42, mp_45, gh_gp, gw_gp, gc_gp, mw_pne, Nat.or_zero, h, Nat.lt_irrefl, e]
    subst h
    rw [e]
    rfl
  · by_cases h2 : 0 < fhp f p q
    · simp (disch := first | assumption | exact hf _ | omega) only [b229, b229_0, b229_5, b229_14, b229_18, b229_22, b229_23, nI_add, mn_mul, mn_sub, mn_m1, mn_m8, mn_eq, mn_lt, mn_le, mn_eq0, mn_0eq, mn_lt0, mn_0lt, mn_le0, mn_0le, mn_eqm, mn_meq, mn_ltm, mn_mlt, mn_lem, mn_mle, mn_mm1, mn_mm2, mn_mm3, mn_mm4, mn_mm5, mn_mm6, mn_and, mn_or, mn_an, mn_shl, mn_shr, mn_div, mn_rem, mn_clamp, mn_in, mn_inm, mn_nz, mn_zo, mn_min, mn_max, mn_abs, mn_rfit, mn_cp, mn_les, mn_gre, mn_a127, mn_a15, mn_a1, mn_a255, mn_tn0, mn_tn0e, mn_tnr, mn_tnz, mr_get, mr_ne, mr_put, mu_ne, mu_eq, mj_bk_i, mj_bk_v, mj_bk_x, decide_eq_true_eq, decide_true, decide_false, Bool.false_eq_true, Bool.true_eq_false, reduceCtorEq, mt_le_t, mt_le_f, mt_lt_t, mt_lt_f, mt_eq_t, mt_eq_f, mt_ee, not_true_eq_false, not_false_eq_true, and_true, true_and, and_self, Nat.zero_add, Nat.add_zero, Nat.one_mul, Nat.mul_one, Nat.reduceAdd, Nat.reduceMul, Nat.reduceSub, Nat.reducePow, Nat.reduceDiv, Nat.reduceMod, ↓reduceIte, mp_h, mp_w, mp_c, mp_s, mp_d, mp_n, mp_54, mp_52, mp_55, mp_l, mp_o, mp_42, mp_45, gh_gp, gw_gp, gc_gp, mw_pne, Nat.or_zero, c222 hp hq, h, h2]
      rfl
    · simp (disch := first | assumption | exact hf _ | omega) only [b229, b229_0, b229_5, b229_14, b229_18, b229_22, b229_23, nI_add, mn_mul, mn_sub, mn_m1, mn_m8, mn_eq, mn_lt, mn_le, mn_eq0, mn_0eq, mn_lt0, mn_0lt, mn_le0, mn_0le, mn_eqm, mn_meq, mn_ltm, mn_mlt, mn_lem, mn_mle, mn_mm1, mn_mm2, mn_mm3, mn_mm4, mn_mm5, mn_mm6, mn_and, mn_or, mn_an, mn_shl, mn_shr, mn_div, mn_rem, mn_clamp, mn_in, mn_inm, mn_nz, mn_zo, mn_min, mn_max, mn_abs, mn_rfit, mn_cp, mn_les, mn_gre, mn_a127, mn_a15, mn_a1, mn_a255, mn_tn0, mn_tn0e, mn_tnr, mn_tnz, mr_get, mr_ne, mr_put, mu_ne, mu_eq, mj_bk_i, mj_bk_v, mj_bk_x, decide_eq_true_eq, decide_true, decide_false, Bool.false_eq_true, Bool.true_eq_false, reduceCtorEq, mt_le_t, mt_le_f, mt_lt_t, mt_lt_f, mt_eq_t, mt_eq_f, mt_ee, not_true_eq_false, not_false_eq_true, and_true, true_and, and_self, Nat.zero_add, Nat.add_zero, Nat.one_mul, Nat.mul_one, Nat.reduceAdd, Nat.reduceMul, Nat.reduceSub, Nat.reducePow, Nat.reduceDiv, Nat.reduceMod, ↓reduceIte, mp_h, mp_w, mp_c, mp_s, mp_d, mp_n, mp_54, mp_52, mp_55, mp_l, mp_o, mp_42, mp_45, gh_gp, gw_gp, gc_gp, mw_pne, Nat.or_zero, c222 hp hq, h, h2]
      rfl
theorem c236 {p b : Nat} {w : mw_S} (hp : p < 32) (hb : b < 2147483648) : mj_call X d 236 [.int (nI b), .int (nI p)] (mw_U w) = some (.inl (some (.int (nI (b.testBit p).toNat))), mw_U w) := by
  rw [Nat.testBit_eq_decide_div_mod_eq]
  have hq : b / 2 ^ p ≤ b := Nat.div_le_self _ _
  by_cases h : b / 2 ^ p % 2 = 1
  · simp (disch := first | assumption | exact hf _ | omega) only [b236, b236_0, b236_9, b236_13, b236_14, nI_add, mn_mul, mn_sub, mn_m1, mn_m8, mn_eq, mn_lt, mn_le, mn_eq0, mn_0eq, mn_lt0, mn_0lt, mn_le0, mn_0le, mn_eqm, mn_meq, mn_ltm, mn_mlt, mn_lem, mn_mle, mn_mm1, mn_mm2, mn_mm3, mn_mm4, mn_mm5, mn_mm6, mn_and, mn_or, mn_an, mn_shl, mn_shr, mn_div, mn_rem, mn_clamp, mn_in, mn_inm, mn_nz, mn_zo, mn_min, mn_max, mn_abs, mn_rfit, mn_cp, mn_les, mn_gre, mn_a127, mn_a15, mn_a1, mn_a255, mn_tn0, mn_tn0e, mn_tnr, mn_tnz, mr_get, mr_ne, mr_put, mu_ne, mu_eq, mj_bk_i, mj_bk_v, mj_bk_x, decide_eq_true_eq, decide_true, decide_false, Bool.false_eq_true, Bool.true_eq_false, reduceCtorEq, mt_le_t, mt_le_f, mt_lt_t, mt_lt_f, mt_eq_t, mt_eq_f, mt_ee, not_true_eq_false, not_false_eq_true, and_true, true_and, and_self, Nat.zero_add, Nat.add_zero, Nat.one_mul, Nat.mul_one, Nat.reduceAdd, Nat.reduceMul, Nat.reduceSub, Nat.reducePow, Nat.reduceDiv, Nat.reduceMod, ↓reduceIte, h]
    rfl
  · simp (disch := first | assumption | exact hf _ | omega) only [b236, b236_0, b236_9, b236_13, b236_14, nI_add, mn_mul, mn_sub, mn_m1, mn_m8, mn_eq, mn_lt, mn_le, mn_eq0, mn_0eq, mn_lt0, mn_0lt, mn_le0, mn_0le, mn_eqm, mn_meq, mn_ltm, mn_mlt, mn_lem, mn_mle, mn_mm1, mn_mm2, mn_mm3, mn_mm4, mn_mm5, mn_mm6, mn_and, mn_or, mn_an, mn_shl, mn_shr, mn_div, mn_rem, mn_clamp, mn_in, mn_inm, mn_nz, mn_zo, mn_min, mn_max, mn_abs, mn_rfit, mn_cp, mn_les, mn_gre, mn_a127, mn_a15, mn_a1, mn_a255, mn_tn0, mn_tn0e, mn_tnr, mn_tnz, mr_get, mr_ne, mr_put, mu_ne, mu_eq, mj_bk_i, mj_bk_v, mj_bk_x, decide_eq_true_eq, decide_true, decide_false, Bool.false_eq_true, Bool.true_eq_false, reduceCtorEq, mt_le_t, mt_le_f, mt_lt_t, mt_lt_f, mt_eq_t, mt_eq_f, mt_ee, not_true_eq_false, not_false_eq_true, and_true, true_and, and_self, Nat.zero_add, Nat.add_zero, Nat.one_mul, Nat.mul_one, Nat.reduceAdd, Nat.reduceMul, Nat.reduceSub, Nat.reducePow, Nat.reduceDiv, Nat.reduceMod, ↓reduceIte, h]
    rfl
theorem c241 (hf : ∀ j, f j < 2147483648) {p : Nat} (hp : p < 32) : mj_call X (d + 1) 241 [.ref 42, .int (nI p)] (mw_U (mp s f)) = some (.inl (some (.int (nI ((f 52).testBit p).toNat))), mw_U (mp s f)) := by
  simp (disch := first | assumption | exact hf _ | omega) only [b241, b241_0, b241_8, nI_add, mn_mul, mn_sub, mn_m1, mn_m8, mn_eq, mn_lt, mn_le, mn_eq0, mn_0eq, mn_lt0, mn_0lt, mn_le0, mn_0le, mn_eqm, mn_meq, mn_ltm, mn_mlt, mn_lem, mn_mle, mn_mm1, mn_mm2, mn_mm3, mn_mm4, mn_mm5, mn_mm6, mn_and, mn_or, mn_an, mn_shl, mn_shr, mn_div, mn_rem, mn_clamp, mn_in, mn_inm, mn_nz, mn_zo, mn_min, mn_max, mn_abs, mn_rfit, mn_cp, mn_les, mn_gre, mn_a127, mn_a15, mn_a1, mn_a255, mn_tn0, mn_tn0e, mn_tnr, mn_tnz, mr_get, mr_ne, mr_put, mu_ne, mu_eq, mj_bk_i, mj_bk_v, mj_bk_x, decide_eq_true_eq, decide_true, decide_false, Bool.false_eq_true, Bool.true_eq_false, reduceCtorEq, mt_le_t, mt_le_f, mt_lt_t, mt_lt_f, mt_eq_t, mt_eq_f, mt_ee, not_true_eq_false, not_false_eq_true, and_true, true_and, and_self, Nat.zero_add, Nat.add_zero, Nat.one_mul, Nat.mul_one, Nat.reduceAdd, Nat.reduceMul, Nat.reduceSub, Nat.reducePow, Nat.reduceDiv, Nat.reduceMod, ↓reduceIte, mp_h, mp_w, mp_c, mp_s, mp_d, mp_n, mp_54, mp_52, mp_55, mp_l, mp_o, mp_42, mp_45, gh_gp, gw_gp, gc_gp, mw_pne, Nat.or_zero, c236]
theorem c230l {x0 : Int32} {w : mw_S} : ∀ v, v < 1024 → ∀ c, mj_exec X d 230 4 [some (.int x0), some (.int (nI c)), some (.int (nI v))] [] (mw_U w) = some (.inl (some (.int (nI (c + fn_cnt v)))), mw_U w) := by
  intro v
  induction v using Nat.strongRecOn with
  | ind v ih =>
    intro hv c
    rw [b230_4]
    by_cases h : v = 0
    · subst h
      simp (disch := first | assumption | exact hf _ | omega) only [b230, b230_0, b230_8, b230_20, nI_add, mn_mul, mn_sub, mn_m1, mn_m8, mn_eq, mn_lt, mn_le, mn_eq0, mn_0eq, mn_lt0, mn_0lt, mn_le0, mn_0le, mn_eqm, mn_meq, mn_ltm, mn_mlt, mn_lem, mn_mle, mn_mm1, mn_mm2, mn_mm3, mn_mm4, mn_mm5, mn_mm6, mn_and, mn_or, mn_an, mn_shl, mn_shr, mn_div, mn_rem, mn_clamp, mn_in, mn_inm, mn_nz, mn_zo, mn_min, mn_max, mn_abs, mn_rfit, mn_cp, mn_les, mn_gre, mn_a127, mn_a15, mn_a1, mn_a255, mn_tn0, mn_tn0e, mn_tnr, mn_tnz, mr_get, mr_ne, mr_put, mu_ne, mu_eq, mj_bk_i, mj_bk_v, mj_bk_x, decide_eq_true_eq, decide_true, decide_false, Bool.false_eq_true, Bool.true_eq_false, reduceCtorEq, mt_le_t, mt_le_f, mt_lt_t, mt_lt_f, mt_eq_t, mt_eq_f, mt_ee, not_true_eq_false, not_false_eq_true, and_true, true_and, and_self, Nat.zero_add, Nat.add_zero, Nat.one_mul, Nat.mul_one, Nat.reduceAdd, Nat.reduceMul, Nat.reduceSub, Nat.reducePow, Nat.reduceDiv, Nat.reduceMod, ↓reduceIte]
      rfl
    · obtain ⟨h1, h2⟩ := cnt_and hv (by omega)
      simp (disch := first | assumption | exact hf _ | omega) only [b230, b230_0, b230_8, b230_20, nI_add, mn_mul, mn_sub, mn_m1, mn_m8, mn_eq, mn_lt, mn_le, mn_eq0, mn_0eq, mn_lt0, mn_0lt, mn_le0, mn_0le, mn_eqm, mn_meq, mn_ltm, mn_mlt, mn_lem, mn_mle, mn_mm1, mn_mm2, mn_mm3, mn_mm4, mn_mm5, mn_mm6, mn_and, mn_or, mn_an, mn_shl, mn_shr, mn_div, mn_rem, mn_clamp, mn_in, mn_inm, mn_nz, mn_zo, mn_min, mn_max, mn_abs, mn_rfit, mn_cp, mn_les, mn_gre, mn_a127, mn_a15, mn_a1, mn_a255, mn_tn0, mn_tn0e, mn_tnr, mn_tnz, mr_get, mr_ne, mr_put, mu_ne, mu_eq, mj_bk_i, mj_bk_v, mj_bk_x, decide_eq_true_eq, decide_true, decide_false, Bool.false_eq_true, Bool.true_eq_false, reduceCtorEq, mt_le_t, mt_le_f, mt_lt_t, mt_lt_f, mt_eq_t, mt_eq_f, mt_ee, not_true_eq_false, not_false_eq_true, and_true, true_and, and_self, Nat.zero_add, Nat.add_zero, Nat.one_mul, Nat.mul_one, Nat.reduceAdd, Nat.reduceMul, Nat.reduceSub, Nat.reducePow, Nat.reduceDiv, Nat.reduceMod, ↓reduceIte, h]
      rw [ih _ h1 (by omega), show c + 1 + fn_cnt (v &&& (v - 1)) = c + fn_cnt v by omega]
theorem c230 {b : Nat} {w : mw_S} (hb : b < 1024) : mj_call X d 230 [.int (nI b)] (mw_U w) = some (.inl (some (.int (nI (fn_cnt b)))), mw_U w) := by
  rw [b230, b230_0, c230l b hb, Nat.zero_add]
theorem c228 (hw : wf f L) {p : Nat} (hp : p < 8) : mj_call X (d + 2) 228 [.ref 42, .int (nI p)] (mw_U (mp s f)) = some (.inl (some (.int (nI (f (56 + p))))), mw_U (mp s f)) := by
  have hn := wf_n hw
  rw [b228, b228_0]
  obtain ⟨hI, g, e⟩ := mr_for (E := fun i c (_ : Unit) => mj_exec X (d + 2) 228 4 [some (.ref 42), some (.int (nI p)), some (.int (nI c)), some (.int (nI i))] [] (mw_U (mp s f))) (F := fun q c => if 0 < fhp f p q then c ||| 2 ^ q else c) (I := fun i c => True) (N := (f 55)) (by
    intro i c g hi hI
    refine ⟨trivial, (), ?_⟩
    rw [b228_4]
    by_cases h : 0 < fhp f p i
    · simp (disch := first | assumption | exact hf _ | omega) only [b228, b228_0, b228_14, b228_21, b228_24, b228_30, b228_31, b228_39, nI_add, mn_mul, mn_sub, mn_m1, mn_m8, mn_eq, mn_lt, mn_le, mn_eq0, mn_0eq, mn_lt0, mn_0lt, mn_le0, mn_0le, mn_eqm, mn_meq, mn_ltm, mn_mlt, mn_lem, mn_mle, mn_mm1, mn_mm2, mn_mm3, mn_mm4, mn_mm5, mn_mm6, mn_and, mn_or, mn_an, mn_shl, mn_shr, mn_div, mn_rem, mn_clamp, mn_in, mn_inm, mn_nz, mn_zo, mn_min, mn_max, mn_abs, mn_rfit, mn_cp, mn_les, mn_gre, mn_a127, mn_a15, mn_a1, mn_a255, mn_tn0, mn_tn0e, mn_tnr, mn_tnz, mr_get, mr_ne, mr_put, mu_ne, mu_eq, mj_bk_i, mj_bk_v, mj_bk_x, decide_eq_true_eq, decide_true, decide_false, Bool.false_eq_true, Bool.true_eq_false, reduceCtorEq, mt_le_t, mt_le_f, mt_lt_t, mt_lt_f, mt_eq_t, mt_eq_f, mt_ee, not_true_eq_false, not_false_eq_true, and_true, true_and, and_self, Nat.zero_add, Nat.add_zero, Nat.one_mul, Nat.mul_one, Nat.reduceAdd, Nat.reduceMul, Nat.reduceSub, Nat.reducePow, Nat.reduceDiv, Nat.reduceMod, ↓reduceIte, mp_h, mp_w, mp_c, mp_s, mp_d, mp_n, mp_54, mp_52, mp_55, mp_l, mp_o, mp_42, mp_45, gh_gp, gw_gp, gc_gp, mw_pne, Nat.or_zero, c229 hp (show i < 8 by omega), h]
    · simp (disch := first | assumption | exact hf _ | omega) only [b228, b228_0, b228_14, b228_21, b228_24, b228_30, b228_31, b228_39, nI_add, mn_mul, mn_sub, mn_m1, mn_m8, mn_eq, mn_lt, mn_le, mn_eq0, mn_0eq, mn_lt0, mn_0lt, mn_le0, mn_0le, mn_eqm, mn_meq, mn_ltm, mn_mlt, mn_lem, mn_mle, mn_mm1, mn_mm2, mn_mm3, mn_mm4, mn_mm5, mn_mm6, mn_and, mn_or, mn_an, mn_shl, mn_shr, mn_div, mn_rem, mn_clamp, mn_in, mn_inm, mn_nz, mn_zo, mn_min, mn_max, mn_abs, mn_rfit, mn_cp, mn_les, mn_gre, mn_a127, mn_a15, mn_a1, mn_a255, mn_tn0, mn_tn0e, mn_tnr, mn_tnz, mr_get, mr_ne, mr_put, mu_ne, mu_eq, mj_bk_i, mj_bk_v, mj_bk_x, decide_eq_true_eq, decide_true, decide_false, Bool.false_eq_true, Bool.true_eq_false, reduceCtorEq, mt_le_t, mt_le_f, mt_lt_t, mt_lt_f, mt_eq_t, mt_eq_f, mt_ee, not_true_eq_false, not_false_eq_true, and_true, true_and, and_self, Nat.zero_add, Nat.add_zero, Nat.one_mul, Nat.mul_one, Nat.reduceAdd, Nat.reduceMul, Nat.reduceSub, Nat.reducePow, Nat.reduceDiv, Nat.reduceMod, ↓reduceIte, mp_h, mp_w, mp_c, mp_s, mp_d, mp_n, mp_54, mp_52, mp_55, mp_l, mp_o, mp_42, mp_45, gh_gp, gw_gp, gc_gp, mw_pne, Nat.or_zero, c229 hp (show i < 8 by omega), h]
  ) (a := 0) trivial () (f 55) (Nat.le_refl (f 55))
  refine e.trans ?_
  rw [b228_4, ties_it hw hp]
  simp (disch := first | assumption | exact hf _ | omega) only [b228, b228_0, b228_14, b228_21, b228_24, b228_30, b228_31, b228_39, nI_add, mn_mul, mn_sub, mn_m1, mn_m8, mn_eq, mn_lt, mn_le, mn_eq0, mn_0eq, mn_lt0, mn_0lt, mn_le0, mn_0le, mn_eqm, mn_meq, mn_ltm, mn_mlt, mn_lem, mn_mle, mn_mm1, mn_mm2, mn_mm3, mn_mm4, mn_mm5, mn_mm6, mn_and, mn_or, mn_an, mn_shl, mn_shr, mn_div, mn_rem, mn_clamp, mn_in, mn_inm, mn_nz, mn_zo, mn_min, mn_max, mn_abs, mn_rfit, mn_cp, mn_les, mn_gre, mn_a127, mn_a15, mn_a1, mn_a255, mn_tn0, mn_tn0e, mn_tnr, mn_tnz, mr_get, mr_ne, mr_put, mu_ne, mu_eq, mj_bk_i, mj_bk_v, mj_bk_x, decide_eq_true_eq, decide_true, decide_false, Bool.false_eq_true, Bool.true_eq_false, reduceCtorEq, mt_le_t, mt_le_f, mt_lt_t, mt_lt_f, mt_eq_t, mt_eq_f, mt_ee, not_true_eq_false, not_false_eq_true, and_true, true_and, and_self, Nat.zero_add, Nat.add_zero, Nat.one_mul, Nat.mul_one, Nat.reduceAdd, Nat.reduceMul, Nat.reduceSub, Nat.reducePow, Nat.reduceDiv, Nat.reduceMod, ↓reduceIte, mp_h, mp_w, mp_c, mp_s, mp_d, mp_n, mp_54, mp_52, mp_55, mp_l, mp_o, mp_42, mp_45, gh_gp, gw_gp, gc_gp, mw_pne, Nat.or_zero]
theorem c232 (hw : wf f L) {p : Nat} (hp : p < 8) : mj_call X (d + 2) 232 [.ref 42, .int (nI p)] (mw_U (mp s f)) = some (.inl (some (.int (nI (fn_ha f p)))), mw_U (mp s f)) := by
  have r59 := mw_r_59
  have hn := wf_n hw
  rw [b232, b232_0]
  obtain ⟨hI, g, e⟩ := mr_for (E := fun i c (_ : Unit) => mj_exec X (d + 2) 232 4 [some (.ref 42), some (.int (nI p)), some (.int (nI c)), some (.int (nI i))] [] (mw_U (mp s f))) (F := fun q c => c + fhp f p q) (I := fun i c => True) (N := (f 55)) (by
    intro i c g hi hI
    refine ⟨trivial, (), ?_⟩
    have hi8 : i < 8 := by omega
    have hg := gp_lt hp hi8
    rw [b232_4]
    by_cases h : 0 < fhp f p i
    · simp (disch := first | assumption | exact hf _ | omega) only [b232, b232_0, b232_14, b232_21, b232_24, b232_33, b232_37, b232_38, b232_46, nI_add, mn_mul, mn_sub, mn_m1, mn_m8, mn_eq, mn_lt, mn_le, mn_eq0, mn_0eq, mn_lt0, mn_0lt, mn_le0, mn_0le, mn_eqm, mn_meq, mn_ltm, mn_mlt, mn_lem, mn_mle, mn_mm1, mn_mm2, mn_mm3, mn_mm4, mn_mm5, mn_mm6, mn_and, mn_or, mn_an, mn_shl, mn_shr, mn_div, mn_rem, mn_clamp, mn_in, mn_inm, mn_nz, mn_zo, mn_min, mn_max, mn_abs, mn_rfit, mn_cp, mn_les, mn_gre, mn_a127, mn_a15, mn_a1, mn_a255, mn_tn0, mn_tn0e, mn_tnr, mn_tnz, mr_get, mr_ne, mr_put, mu_ne, mu_eq, mj_bk_i, mj_bk_v, mj_bk_x, decide_eq_true_eq, decide_true, decide_false, Bool.false_eq_true, Bool.true_eq_false, reduceCtorEq, mt_le_t, mt_le_f, mt_lt_t, mt_lt_f, mt_eq_t, mt_eq_f, mt_ee, not_true_eq_false, not_false_eq_true, and_true, true_and, and_self, Nat.zero_add, Nat.add_zero, Nat.one_mul, Nat.mul_one, Nat.reduceAdd, Nat.reduceMul, Nat.reduceSub, Nat.reducePow, Nat.reduceDiv, Nat.reduceMod, ↓reduceIte, mp_h, mp_w, mp_c, mp_s, mp_d, mp_n, mp_54, mp_52, mp_55, mp_l, mp_o, mp_42, mp_45, gh_gp, gw_gp, gc_gp, mw_pne, Nat.or_zero, c229 hp hi8, c222 hp hi8, h]
    · have h0 : fhp f p i = 0 := by omega
      simp (disch := first | assumption | exact hf _ | omega) only [b232, b232_0, b232_14, b232_21, b232_24, b232_33, b232_37, b232_38, b232_46, nI_add, mn_mul, mn_sub, mn_m1, mn_m8, mn_eq, mn_lt, mn_le, mn_eq0, mn_0eq, mn_lt0, mn_0lt, mn_le0, mn_0le, mn_eqm, mn_meq, mn_ltm, mn_mlt, mn_lem, mn_mle, mn_mm1, mn_mm2, mn_mm3, mn_mm4, mn_mm5, mn_mm6, mn_and, mn_or, mn_an, mn_shl, mn_shr, mn_div, mn_rem, mn_clamp, mn_in, mn_inm, mn_nz, mn_zo, mn_min, mn_max, mn_abs, mn_rfit, mn_cp, mn_les, mn_gre, mn_a127, mn_a15, mn_a1, mn_a255, mn_tn0, mn_tn0e, mn_tnr, mn_tnz, mr_get, mr_ne, mr_put, mu_ne, mu_eq, mj_bk_i, mj_bk_v, mj_bk_x, decide_eq_true_eq, decide_true, decide_false, Bool.false_eq_true, Bool.true_eq_false, reduceCtorEq, mt_le_t, mt_le_f, mt_lt_t, mt_lt_f, mt_eq_t, mt_eq_f, mt_ee, not_true_eq_false, not_false_eq_true, and_true, true_and, and_self, Nat.zero_add, Nat.add_zero, Nat.one_mul, Nat.mul_one, Nat.reduceAdd, Nat.reduceMul, Nat.reduceSub, Nat.reducePow, Nat.reduceDiv, Nat.reduceMod, ↓reduceIte, mp_h, mp_w, mp_c, mp_s, mp_d, mp_n, mp_54, mp_52, mp_55, mp_l, mp_o, mp_42, mp_45, gh_gp, gw_gp, gc_gp, mw_pne, Nat.or_zero, c229 hp hi8, h0, Nat.lt_irrefl]
  ) (a := 0) trivial () (f 55) (Nat.le_refl (f 55))
  refine e.trans ?_
  rw [b232_4, fn_ha_n hw hp]
  simp (disch := first | assumption | exact hf _ | omega) only [b232, b232_0, b232_14, b232_21, b232_24, b232_33, b232_37, b232_38, b232_46, nI_add, mn_mul, mn_sub, mn_m1, mn_m8, mn_eq, mn_lt, mn_le, mn_eq0, mn_0eq, mn_lt0, mn_0lt, mn_le0, mn_0le, mn_eqm, mn_meq, mn_ltm, mn_mlt, mn_lem, mn_mle, mn_mm1, mn_mm2, mn_mm3, mn_mm4, mn_mm5, mn_mm6, mn_and, mn_or, mn_an, mn_shl, mn_shr, mn_div, mn_rem, mn_clamp, mn_in, mn_inm, mn_nz, mn_zo, mn_min, mn_max, mn_abs, mn_rfit, mn_cp, mn_les, mn_gre, mn_a127, mn_a15, mn_a1, mn_a255, mn_tn0, mn_tn0e, mn_tnr, mn_tnz, mr_get, mr_ne, mr_put, mu_ne, mu_eq, mj_bk_i, mj_bk_v, mj_bk_x, decide_eq_true_eq, decide_true, decide_false, Bool.false_eq_true, Bool.true_eq_false, reduceCtorEq, mt_le_t, mt_le_f, mt_lt_t, mt_lt_f, mt_eq_t, mt_eq_f, mt_ee, not_true_eq_false, not_false_eq_true, and_true, true_and, and_self, Nat.zero_add, Nat.add_zero, Nat.one_mul, Nat.mul_one, Nat.reduceAdd, Nat.reduceMul, Nat.reduceSub, Nat.reducePow, Nat.reduceDiv, Nat.reduceMod, ↓reduceIte, mp_h, mp_w, mp_c, mp_s, mp_d, mp_n, mp_54, mp_52, mp_55, mp_l, mp_o, mp_42, mp_45, gh_gp, gw_gp, gc_gp, mw_pne, Nat.or_zero]
theorem c227 (hw : wf f L) : mj_call X (d + 3) 227 [.ref 42] (mw_U (mp s f)) = some (.inl (some (.int (nI (fn_many f)))), mw_U (mp s f)) := by
  have hn := wf_n hw
  rw [b227, b227_0]
  obtain ⟨hI, g, e⟩ := mr_for (E := fun i c (_ : Unit) => mj_exec X (d + 3) 227 4 [some (.ref 42), some (.int (nI c)), some (.int (nI i))] [] (mw_U (mp s f))) (F := fun p c => c + fn_cnt (f (56 + p))) (I := fun i c => c ≤ 10 * i) (N := (f 55)) (by
    intro i c g hi hI
    have hi8 : i < 8 := by omega
    have h10 := fn_cnt_le (f (56 + i))
    have ht := wf_t hw hi8
    refine ⟨by omega, (), ?_⟩
    rw [b227_4]
    simp (disch := first | assumption | exact hf _ | omega) only [b227, b227_0, b227_14, b227_20, b227_23, b227_31, nI_add, mn_mul, mn_sub, mn_m1, mn_m8, mn_eq, mn_lt, mn_le, mn_eq0, mn_0eq, mn_lt0, mn_0lt, mn_le0, mn_0le, mn_eqm, mn_meq, mn_ltm, mn_mlt, mn_lem, mn_mle, mn_mm1, mn_mm2, mn_mm3, mn_mm4, mn_mm5, mn_mm6, mn_and, mn_or, mn_an, mn_shl, mn_shr, mn_div, mn_rem, mn_clamp, mn_in, mn_inm, mn_nz, mn_zo, mn_min, mn_max, mn_abs, mn_rfit, mn_cp, mn_les, mn_gre, mn_a127, mn_a15, mn_a1, mn_a255, mn_tn0, mn_tn0e, mn_tnr, mn_tnz, mr_get, mr_ne, mr_put, mu_ne, mu_eq, mj_bk_i, mj_bk_v, mj_bk_x, decide_eq_true_eq, decide_true, decide_false, Bool.false_eq_true, Bool.true_eq_false, reduceCtorEq, mt_le_t, mt_le_f, mt_lt_t, mt_lt_f, mt_eq_t, mt_eq_f, mt_ee, not_true_eq_false, not_false_eq_true, and_true, true_and, and_self, Nat.zero_add, Nat.add_zero, Nat.one_mul, Nat.mul_one, Nat.reduceAdd, Nat.reduceMul, Nat.reduceSub, Nat.reducePow, Nat.reduceDiv, Nat.reduceMod, ↓reduceIte, mp_h, mp_w, mp_c, mp_s, mp_d, mp_n, mp_54, mp_52, mp_55, mp_l, mp_o, mp_42, mp_45, gh_gp, gw_gp, gc_gp, mw_pne, Nat.or_zero, c228 hw hi8, c230 (show f (56 + i) < 1024 by omega)]
  ) (a := 0) (Nat.zero_le _) () (f 55) (Nat.le_refl (f 55))
  refine e.trans ?_
  have e2 := many_t hw
  rw [mr_it_ext hn (fun i a h1 h2 => by rw [ties_0 hw h2 h1]; rfl)] at e2
  rw [e2] at hI ⊢
  rw [b227_4]
  simp (disch := first | assumption | exact hf _ | omega) only [b227, b227_0, b227_14, b227_20, b227_23, b227_31, nI_add, mn_mul, mn_sub, mn_m1, mn_m8, mn_eq, mn_lt, mn_le, mn_eq0, mn_0eq, mn_lt0, mn_0lt, mn_le0, mn_0le, mn_eqm, mn_meq, mn_ltm, mn_mlt, mn_lem, mn_mle, mn_mm1, mn_mm2, mn_mm3, mn_mm4, mn_mm5, mn_mm6, mn_and, mn_or, mn_an, mn_shl, mn_shr, mn_div, mn_rem, mn_clamp, mn_in, mn_inm, mn_nz, mn_zo, mn_min, mn_max, mn_abs, mn_rfit, mn_cp, mn_les, mn_gre, mn_a127, mn_a15, mn_a1, mn_a255, mn_tn0, mn_tn0e, mn_tnr, mn_tnz, mr_get, mr_ne, mr_put, mu_ne, mu_eq, mj_bk_i, mj_bk_v, mj_bk_x, decide_eq_true_eq, decide_true, decide_false, Bool.false_eq_true, Bool.true_eq_false, reduceCtorEq, mt_le_t, mt_le_f, mt_lt_t, mt_lt_f, mt_eq_t, mt_eq_f, mt_ee, not_true_eq_false, not_false_eq_true, and_true, true_and, and_self, Nat.zero_add, Nat.add_zero, Nat.one_mul, Nat.mul_one, Nat.reduceAdd, Nat.reduceMul, Nat.reduceSub, Nat.reducePow, Nat.reduceDiv, Nat.reduceMod, ↓reduceIte, mp_h, mp_w, mp_c, mp_s, mp_d, mp_n, mp_54, mp_52, mp_55, mp_l, mp_o, mp_42, mp_45, gh_gp, gw_gp, gc_gp, mw_pne, Nat.or_zero, Nat.mul_div_cancel_left]
theorem c231 (hw : wf f L) : mj_call X (d + 3) 231 [.ref 42] (mw_U (mp s f)) = some (.inl (some (.int (nI (fn_all f)))), mw_U (mp s f)) := by
  have hn := wf_n hw
  rw [b231, b231_0]
  obtain ⟨hI, g, e⟩ := mr_for (E := fun i c (_ : Unit) => mj_exec X (d + 3) 231 4 [some (.ref 42), some (.int (nI c)), some (.int (nI i))] [] (mw_U (mp s f))) (F := fun p c => c + fn_ha f p) (I := fun i c => c ≤ 1016 * i) (N := (f 55)) (by
    intro i c g hi hI
    have hi8 : i < 8 := by omega
    have h10 := fn_ha_le f i
    refine ⟨by omega, (), ?_⟩
    rw [b231_4]
    simp (disch := first | assumption | exact hf _ | omega) only [b231, b231_0, b231_14, b231_20, b231_28, nI_add, mn_mul, mn_sub, mn_m1, mn_m8, mn_eq, mn_lt, mn_le, mn_eq0, mn_0eq, mn_lt0, mn_0lt, mn_le0, mn_0le, mn_eqm, mn_meq, mn_ltm, mn_mlt, mn_lem, mn_mle, mn_mm1, mn_mm2, mn_mm3, mn_mm4, mn_mm5, mn_mm6, mn_and, mn_or, mn_an, mn_shl, mn_shr, mn_div, mn_rem, mn_clamp, mn_in, mn_inm, mn_nz, mn_zo, mn_min, mn_max, mn_abs, mn_rfit, mn_cp, mn_les, mn_gre, mn_a127, mn_a15, mn_a1, mn_a255, mn_tn0, mn_tn0e, mn_tnr, mn_tnz, mr_get, mr_ne, mr_put, mu_ne, mu_eq, mj_bk_i, mj_bk_v, mj_bk_x, decide_eq_true_eq, decide_true, decide_false, Bool.false_eq_true, Bool.true_eq_false, reduceCtorEq, mt_le_t, mt_le_f, mt_lt_t, mt_lt_f, mt_eq_t, mt_eq_f, mt_ee, not_true_eq_false, not_false_eq_true, and_true, true_and, and_self, Nat.zero_add, Nat.add_zero, Nat.one_mul, Nat.mul_one, Nat.reduceAdd, Nat.reduceMul, Nat.reduceSub, Nat.reducePow, Nat.reduceDiv, Nat.reduceMod, ↓reduceIte, mp_h, mp_w, mp_c, mp_s, mp_d, mp_n, mp_54, mp_52, mp_55, mp_l, mp_o, mp_42, mp_45, gh_gp, gw_gp, gc_gp, mw_pne, Nat.or_zero, c232 hw hi8]
  ) (a := 0) (Nat.zero_le _) () (f 55) (Nat.le_refl (f 55))
  refine e.trans ?_
  have e2 := all_t (f := f)
  rw [mr_it_ext hn (fun i a h1 h2 => by rw [fn_ha_0 hw h2 h1]; rfl)] at e2
  rw [e2] at hI ⊢
  rw [b231_4]
  simp (disch := first | assumption | exact hf _ | omega) only [b231, b231_0, b231_14, b231_20, b231_28, nI_add, mn_mul, mn_sub, mn_m1, mn_m8, mn_eq, mn_lt, mn_le, mn_eq0, mn_0eq, mn_lt0, mn_0lt, mn_le0, mn_0le, mn_eqm, mn_meq, mn_ltm, mn_mlt, mn_lem, mn_mle, mn_mm1, mn_mm2, mn_mm3, mn_mm4, mn_mm5, mn_mm6, mn_and, mn_or, mn_an, mn_shl, mn_shr, mn_div, mn_rem, mn_clamp, mn_in, mn_inm, mn_nz, mn_zo, mn_min, mn_max, mn_abs, mn_rfit, mn_cp, mn_les, mn_gre, mn_a127, mn_a15, mn_a1, mn_a255, mn_tn0, mn_tn0e, mn_tnr, mn_tnz, mr_get, mr_ne, mr_put, mu_ne, mu_eq, mj_bk_i, mj_bk_v, mj_bk_x, decide_eq_true_eq, decide_true, decide_false, Bool.false_eq_true, Bool.true_eq_false, reduceCtorEq, mt_le_t, mt_le_f, mt_lt_t, mt_lt_f, mt_eq_t, mt_eq_f, mt_ee, not_true_eq_false, not_false_eq_true, and_true, true_and, and_self, Nat.zero_add, Nat.add_zero, Nat.one_mul, Nat.mul_one, Nat.reduceAdd, Nat.reduceMul, Nat.reduceSub, Nat.reducePow, Nat.reduceDiv, Nat.reduceMod, ↓reduceIte, mp_h, mp_w, mp_c, mp_s, mp_d, mp_n, mp_54, mp_52, mp_55, mp_l, mp_o, mp_42, mp_45, gh_gp, gw_gp, gc_gp, mw_pne, Nat.or_zero, Nat.mul_div_cancel_left]
theorem c240 {a b c : Int64} {w : mw_S} : mj_call X d 240 [.long a, .long b, .long c] (mw_U w) = some (.inl (some (.int (nI (decide (b.toInt ≤ a.toInt ∧ a.toInt ≤ c.toInt)).toNat))), mw_U w) := by
  by_cases h1 : a.toInt < b.toInt
  · have h3 : ¬ (b.toInt ≤ a.toInt ∧ a.toInt ≤ c.toInt) := by omega
    simp (disch := first | assumption | exact hf _ | omega) only [b240, b240_0, b240_6, b240_13, b240_17, b240_18, nI_add, mn_mul, mn_sub, mn_m1, mn_m8, mn_eq, mn_lt, mn_le, mn_eq0, mn_0eq, mn_lt0, mn_0lt, mn_le0, mn_0le, mn_eqm, mn_meq, mn_ltm, mn_mlt, mn_lem, mn_mle, mn_mm1, mn_mm2, mn_mm3, mn_mm4, mn_mm5, mn_mm6, mn_and, mn_or, mn_an, mn_shl, mn_shr, mn_div, mn_rem, mn_clamp, mn_in, mn_inm, mn_nz, mn_zo, mn_min, mn_max, mn_abs, mn_rfit, mn_cp, mn_les, mn_gre, mn_a127, mn_a15, mn_a1, mn_a255, mn_tn0, mn_tn0e, mn_tnr, mn_tnz, mr_get, mr_ne, mr_put, mu_ne, mu_eq, mj_bk_i, mj_bk_v, mj_bk_x, decide_eq_true_eq, decide_true, decide_false, Bool.false_eq_true, Bool.true_eq_false, reduceCtorEq, mt_le_t, mt_le_f, mt_lt_t, mt_lt_f, mt_eq_t, mt_eq_f, mt_ee, not_true_eq_false, not_false_eq_true, and_true, true_and, and_self, Nat.zero_add, Nat.add_zero, Nat.one_mul, Nat.mul_one, Nat.reduceAdd, Nat.reduceMul, Nat.reduceSub, Nat.reducePow, Nat.reduceDiv, Nat.reduceMod, ↓reduceIte, lg_lt0, lg_0lt, h1, h3, Bool.toNat_false]
  · by_cases h2 : c.toInt < a.toInt
    · have h3 : ¬ (b.toInt ≤ a.toInt ∧ a.toInt ≤ c.toInt) := by omega
      simp (disch := first | assumption | exact hf _ | omega) only [b240, b240_0, b240_6, b240_13, b240_17, b240_18, nI_add, mn_mul, mn_sub, mn_m1, mn_m8, mn_eq, mn_lt, mn_le, mn_eq0, mn_0eq, mn_lt0, mn_0lt, mn_le0, mn_0le, mn_eqm, mn_meq, mn_ltm, mn_mlt, mn_lem, mn_mle, mn_mm1, mn_mm2, mn_mm3, mn_mm4, mn_mm5, mn_mm6, mn_and, mn_or, mn_an, mn_shl, mn_shr, mn_div, mn_rem, mn_clamp, mn_in, mn_inm, mn_nz, mn_zo, mn_min, mn_max, mn_abs, mn_rfit, mn_cp, mn_les, mn_gre, mn_a127, mn_a15, mn_a1, mn_a255, mn_tn0, mn_tn0e, mn_tnr, mn_tnz, mr_get, mr_ne, mr_put, mu_ne, mu_eq, mj_bk_i, mj_bk_v, mj_bk_x, decide_eq_true_eq, decide_true, decide_false, Bool.false_eq_true, Bool.true_eq_false, reduceCtorEq, mt_le_t, mt_le_f, mt_lt_t, mt_lt_f, mt_eq_t, mt_eq_f, mt_ee, not_true_eq_false, not_false_eq_true, and_true, true_and, and_self, Nat.zero_add, Nat.add_zero, Nat.one_mul, Nat.mul_one, Nat.reduceAdd, Nat.reduceMul, Nat.reduceSub, Nat.reducePow, Nat.reduceDiv, Nat.reduceMod, ↓reduceIte, lg_lt0, lg_0lt, h1, h2, h3, Bool.toNat_false]
    · have h3 : (b.toInt ≤ a.toInt ∧ a.toInt ≤ c.toInt) := by omega
      simp (disch := first | assumption | exact hf _ | omega) only [b240, b240_0, b240_6, b240_13, b240_17, b240_18, nI_add, mn_mul, mn_sub, mn_m1, mn_m8, mn_eq, mn_lt, mn_le, mn_eq0, mn_0eq, mn_lt0, mn_0lt, mn_le0, mn_0le, mn_eqm, mn_meq, mn_ltm, mn_mlt, mn_lem, mn_mle, mn_mm1, mn_mm2, mn_mm3, mn_mm4, mn_mm5, mn_mm6, mn_and, mn_or, mn_an, mn_shl, mn_shr, mn_div, mn_rem, mn_clamp, mn_in, mn_inm, mn_nz, mn_zo, mn_min, mn_max, mn_abs, mn_rfit, mn_cp, mn_les, mn_gre, mn_a127, mn_a15, mn_a1, mn_a255, mn_tn0, mn_tn0e, mn_tnr, mn_tnz, mr_get, mr_ne, mr_put, mu_ne, mu_eq, mj_bk_i, mj_bk_v, mj_bk_x, decide_eq_true_eq, decide_true, decide_false, Bool.false_eq_true, Bool.true_eq_false, reduceCtorEq, mt_le_t, mt_le_f, mt_lt_t, mt_lt_f, mt_eq_t, mt_eq_f, mt_ee, not_true_eq_false, not_false_eq_true, and_true, true_and, and_self, Nat.zero_add, Nat.add_zero, Nat.one_mul, Nat.mul_one, Nat.reduceAdd, Nat.reduceMul, Nat.reduceSub, Nat.reducePow, Nat.reduceDiv, Nat.reduceMod, ↓reduceIte, lg_lt0, lg_0lt, h1, h2, Bool.toNat_true, h3.1, h3.2]
def ip (n : Nat) (x : Int32) : Bool := decide (0 ≤ x.toInt ∧ x.toInt < n)
theorem c239 (hn : f 55 ≤ 8) {x : Int32} : mj_call X (d + 1) 239 [.ref 42, .int x] (mw_U (mp s f)) = some (.inl (some (.int (nI (ip (f 55) x).toNat))), mw_U (mp s f)) := by
  have e : (Int32.toInt64 (nI (f 55) - nI 1)).toInt = (f 55 : Int) - 1 := by
    rw [i64_i]; exact mn_toInt_sub (by omega) (by decide)
  have e2 : decide (0 ≤ x.toInt ∧ x.toInt ≤ (f 55 : Int) - 1) = ip (f 55) x := by
    unfold ip
    apply decide_eq_decide.mpr
    omega
  rw [b239, b239_0]
  simp (disch := first | assumption | exact hf _ | omega) only [mn_in, mp_55, mn_clamp, decide_eq_true_eq, mt_lt_t, ↓reduceIte, c240, e, i64_i, i64_n, Int.ofNat_zero, mj_bk_i]
  rw [e2]
  simp (disch := first | assumption | exact hf _ | omega) only [b239, b239_0, b239_15, nI_add, mn_mul, mn_sub, mn_m1, mn_m8, mn_eq, mn_lt, mn_le, mn_eq0, mn_0eq, mn_lt0, mn_0lt, mn_le0, mn_0le, mn_eqm, mn_meq, mn_ltm, mn_mlt, mn_lem, mn_mle, mn_mm1, mn_mm2, mn_mm3, mn_mm4, mn_mm5, mn_mm6, mn_and, mn_or, mn_an, mn_shl, mn_shr, mn_div, mn_rem, mn_clamp, mn_in, mn_inm, mn_nz, mn_zo, mn_min, mn_max, mn_abs, mn_rfit, mn_cp, mn_les, mn_gre, mn_a127, mn_a15, mn_a1, mn_a255, mn_tn0, mn_tn0e, mn_tnr, mn_tnz, mr_get, mr_ne, mr_put, mu_ne, mu_eq, mj_bk_i, mj_bk_v, mj_bk_x, decide_eq_true_eq, decide_true, decide_false, Bool.false_eq_true, Bool.true_eq_false, reduceCtorEq, mt_le_t, mt_le_f, mt_lt_t, mt_lt_f, mt_eq_t, mt_eq_f, mt_ee, not_true_eq_false, not_false_eq_true, and_true, true_and, and_self, Nat.zero_add, Nat.add_zero, Nat.one_mul, Nat.mul_one, Nat.reduceAdd, Nat.reduceMul, Nat.reduceSub, Nat.reducePow, Nat.reduceDiv, Nat.reduceMod, ↓reduceIte]
theorem c255 {p q : Nat} {x : Int32} (hp : p < 8) (hq : q < 8) (hn : ¬ p = q) : mj_call X d 255 [.ref 42, .int (nI (gp p q))] (mw_U (mw_p (mp s f) 59 (gp p q) x)) = some (.inl none, mw_U (mp s (fe f (fp p q)))) := by
  have hg := gp_lt hp hq
  have hl := fp_lt hp hq hn
  simp (disch := first | assumption | exact hf _ | omega) only [b255, b255_0, nI_add, mn_mul, mn_sub, mn_m1, mn_m8, mn_eq, mn_lt, mn_le, mn_eq0, mn_0eq, mn_lt0, mn_0lt, mn_le0, mn_0le, mn_eqm, mn_meq, mn_ltm, mn_mlt, mn_lem, mn_mle, mn_mm1, mn_mm2, mn_mm3, mn_mm4, mn_mm5, mn_mm6, mn_and, mn_or, mn_an, mn_shl, mn_shr, mn_div, mn_rem, mn_clamp, mn_in, mn_inm, mn_nz, mn_zo, mn_min, mn_max, mn_abs, mn_rfit, mn_cp, mn_les, mn_gre, mn_a127, mn_a15, mn_a1, mn_a255, mn_tn0, mn_tn0e, mn_tnr, mn_tnz, mr_get, mr_ne, mr_put, mu_ne, mu_eq, mj_bk_i, mj_bk_v, mj_bk_x, decide_eq_true_eq, decide_true, decide_false, Bool.false_eq_true, Bool.true_eq_false, reduceCtorEq, mt_le_t, mt_le_f, mt_lt_t, mt_lt_f, mt_eq_t, mt_eq_f, mt_ee, not_true_eq_false, not_false_eq_true, and_true, true_and, and_self, Nat.zero_add, Nat.add_zero, Nat.one_mul, Nat.mul_one, Nat.reduceAdd, Nat.reduceMul, Nat.reduceSub, Nat.reducePow, Nat.reduceDiv, Nat.reduceMod, ↓reduceIte, mp_h, mp_w, mp_c, mp_s, mp_d, mp_n, mp_54, mp_52, mp_55, mp_l, mp_o, mp_42, mp_45, gh_gp, gw_gp, gc_gp, mw_pne, Nat.or_zero, mw_pp]
  have := mp_w3 (s := s) (f := f) (h := 0) (w := 0) (c := 0) hp hq hn (by decide) (by decide)
  rw [this]
  congr 3
  exact mp_ext (fun j hj => by rw [fe_j hl hj]; rfl) (by rw [fe_64 hl]; exact mu_ne (by omega))
theorem mp_w1s {p q : Nat} (hp : p < 8) (hq : q < 8) : mw_p (mp s f) 59 (gp p q) (nI (fhp f p q)) = mp s f := by
  have hg := gp_lt hp hq
  refine Prod.ext ?_ rfl
  funext a b
  show (if a = 59 ∧ b = gp p q then _ else (mp s f).1 a b) = (mp s f).1 a b
  split
  · next h => rw [h.1, h.2, mp_h hg, gh_gp hp hq]
  · rfl
theorem c255' {p q : Nat} (hp : p < 8) (hq : q < 8) (hn : ¬ p = q) : mj_call X d 255 [.ref 42, .int (nI (gp p q))] (mw_U (mp s f)) = some (.inl none, mw_U (mp s (fe f (fp p q)))) := by
  have h := c255 (X := X) (d := d) (s := s) (f := f) (x := nI (fhp f p q)) hp hq hn
  rwa [mp_w1s hp hq] at h
theorem c258 {p h q : Nat} (hp : p < 8) (hh : h < 8) (hq : q < 8) (hn : ¬ p = q) (hn2 : ¬ h = q) : mj_call X (d + 1) 258 [.ref 42, .int (nI p), .int (nI h), .int (nI q)] (mw_U (mp s f)) = some (.inl none, mw_U (mp s (fi f (fp p q) (fp h q)))) := by
  have hg := gp_lt hp hq
  have hg2 := gp_lt hh hq
  have hl := fp_lt hp hq hn
  have hl2 := fp_lt hh hq hn2
  have e1 : fhp f p q = fh f (fp p q) := by unfold fhp; rw [if_neg hn]
  have e2 : fhp f h q = fh f (fp h q) := by unfold fhp; rw [if_neg hn2]
  have e3 : fwp f p q = fw f (fp p q) := by unfold fwp; rw [if_neg hn]
  have b1 := fh_lt f (fp p q)
  have b2 := fh_lt f (fp h q)
  unfold fi
  by_cases h0 : 0 < fh f (fp h q)
  · simp (disch := first | assumption | exact hf _ | omega) only [b258, b258_0, b258_5, b258_12, b258_24, b258_54, b258_90, nI_add, mn_mul, mn_sub, mn_m1, mn_m8, mn_eq, mn_lt, mn_le, mn_eq0, mn_0eq, mn_lt0, mn_0lt, mn_le0, mn_0le, mn_eqm, mn_meq, mn_ltm, mn_mlt, mn_lem, mn_mle, mn_mm1, mn_mm2, mn_mm3, mn_mm4, mn_mm5, mn_mm6, mn_and, mn_or, mn_an, mn_shl, mn_shr, mn_div, mn_rem, mn_clamp, mn_in, mn_inm, mn_nz, mn_zo, mn_min, mn_max, mn_abs, mn_rfit, mn_cp, mn_les, mn_gre, mn_a127, mn_a15, mn_a1, mn_a255, mn_tn0, mn_tn0e, mn_tnr, mn_tnz, mr_get, mr_ne, mr_put, mu_ne, mu_eq, mj_bk_i, mj_bk_v, mj_bk_x, decide_eq_true_eq, decide_true, decide_false, Bool.false_eq_true, Bool.true_eq_false, reduceCtorEq, mt_le_t, mt_le_f, mt_lt_t, mt_lt_f, mt_eq_t, mt_eq_f, mt_ee, not_true_eq_false, not_false_eq_true, and_true, true_and, and_self, Nat.zero_add, Nat.add_zero, Nat.one_mul, Nat.mul_one, Nat.reduceAdd, Nat.reduceMul, Nat.reduceSub, Nat.reducePow, Nat.reduceDiv, Nat.reduceMod, ↓reduceIte, mp_h, mp_w, mp_c, mp_s, mp_d, mp_n, mp_54, mp_52, mp_55, mp_l, mp_o, mp_42, mp_45, gh_gp, gw_gp, gc_gp, mw_pne, Nat.or_zero, c222 hp hq, c222 hh hq, e1, e2, h0]
    rw [mp_w1 hh hq hn2 (by omega)]
  · simp (disch := first | assumption | exact hf _ | omega) only [b258, b258_0, b258_5, b258_12, b258_24, b258_54, b258_90, nI_add, mn_mul, mn_sub, mn_m1, mn_m8, mn_eq, mn_lt, mn_le, mn_eq0, mn_0eq, mn_lt0, mn_0lt, mn_le0, mn_0le, mn_eqm, mn_meq, mn_ltm, mn_mlt, mn_lem, mn_mle, mn_mm1, mn_mm2, mn_mm3, mn_mm4, mn_mm5, mn_mm6, mn_and, mn_or, mn_an, mn_shl, mn_shr, mn_div, mn_rem, mn_clamp, mn_in, mn_inm, mn_nz, mn_zo, mn_min, mn_max, mn_abs, mn_rfit, mn_cp, mn_les, mn_gre, mn_a127, mn_a15, mn_a1, mn_a255, mn_tn0, mn_tn0e, mn_tnr, mn_tnz, mr_get, mr_ne, mr_put, mu_ne, mu_eq, mj_bk_i, mj_bk_v, mj_bk_x, decide_eq_true_eq, decide_true, decide_false, Bool.false_eq_true, Bool.true_eq_false, reduceCtorEq, mt_le_t, mt_le_f, mt_lt_t, mt_lt_f, mt_eq_t, mt_eq_f, mt_ee, not_true_eq_false, not_false_eq_true, and_true, true_and, and_self, Nat.zero_add, Nat.add_zero, Nat.one_mul, Nat.mul_one, Nat.reduceAdd, Nat.reduceMul, Nat.reduceSub, Nat.reducePow, Nat.reduceDiv, Nat.reduceMod, ↓reduceIte, mp_h, mp_w, mp_c, mp_s, mp_d, mp_n, mp_54, mp_52, mp_55, mp_l, mp_o, mp_42, mp_45, gh_gp, gw_gp, gc_gp, mw_pne, Nat.or_zero, c222 hp hq, c222 hh hq, e1, e2, e3, h0]
    rw [mp_w3 hh hq hn2 b1 (fw_lt _ _)]
    congr 3
    exact mp_ext (fun j hj => by rw [fb_j hl2 hj]; unfold mr_u; simp) (by rw [fb_64 hl2]; exact mu_ne (by omega))
theorem c266 {p q h w : Nat} (hp : p < 8) (hq : q < 8) (hn : ¬ p = q) (hh : h < 128) (hw : w < 16) : mj_call X (d + 1) 266 [.ref 42, .int (nI p), .int (nI q), .int (nI h), .int (nI w)] (mw_U (mp s f)) = some (.inl none, mw_U (mp s (fb f (fp p q) h w))) := by
  have hg := gp_lt hp hq
  have hl := fp_lt hp hq hn
  simp (disch := first | assumption | exact hf _ | omega) only [b266, b266_0, b266_5, nI_add, mn_mul, mn_sub, mn_m1, mn_m8, mn_eq, mn_lt, mn_le, mn_eq0, mn_0eq, mn_lt0, mn_0lt, mn_le0, mn_0le, mn_eqm, mn_meq, mn_ltm, mn_mlt, mn_lem, mn_mle, mn_mm1, mn_mm2, mn_mm3, mn_mm4, mn_mm5, mn_mm6, mn_and, mn_or, mn_an, mn_shl, mn_shr, mn_div, mn_rem, mn_clamp, mn_in, mn_inm, mn_nz, mn_zo, mn_min, mn_max, mn_abs, mn_rfit, mn_cp, mn_les, mn_gre, mn_a127, mn_a15, mn_a1, mn_a255, mn_tn0, mn_tn0e, mn_tnr, mn_tnz, mr_get, mr_ne, mr_put, mu_ne, mu_eq, mj_bk_i, mj_bk_v, mj_bk_x, decide_eq_true_eq, decide_true, decide_false, Bool.false_eq_true, Bool.true_eq_false, reduceCtorEq, mt_le_t, mt_le_f, mt_lt_t, mt_lt_f, mt_eq_t, mt_eq_f, mt_ee, not_true_eq_false, not_false_eq_true, and_true, true_and, and_self, Nat.zero_add, Nat.add_zero, Nat.one_mul, Nat.mul_one, Nat.reduceAdd, Nat.reduceMul, Nat.reduceSub, Nat.reducePow, Nat.reduceDiv, Nat.reduceMod, ↓reduceIte, mp_h, mp_w, mp_c, mp_s, mp_d, mp_n, mp_54, mp_52, mp_55, mp_l, mp_o, mp_42, mp_45, gh_gp, gw_gp, gc_gp, mw_pne, Nat.or_zero, c222 hp hq]
  rw [mp_w3 hp hq hn hh hw]
  congr 3
  exact mp_ext (fun j hj => by rw [fb_j hl hj]; unfold mr_u; simp) (by rw [fb_64 hl]; exact mu_ne (by omega))
theorem c262 {p q : Nat} (h55 : 0 < f 55) (hp : p < 8) (hq : q < 8) (hn : ¬ p = q) : mj_call X (d + 1) 262 [.ref 42, .int (nI p), .int (nI q)] (mw_U (mp s f)) = some (.inl none, mw_U (mp s (fe (fj f p q) (fp p q)))) := by
  have hg := gp_lt hp hq
  have h55' : 0 < mr_u f (16 + p) (q + 1) 55 := by rw [mu_ne (by omega)]; exact h55
  simp (disch := first | assumption | exact hf _ | omega) only [b262, b262_0, b262_20, b262_23, nI_add, mn_mul, mn_sub, mn_m1, mn_m8, mn_eq, mn_lt, mn_le, mn_eq0, mn_0eq, mn_lt0, mn_0lt, mn_le0, mn_0le, mn_eqm, mn_meq, mn_ltm, mn_mlt, mn_lem, mn_mle, mn_mm1, mn_mm2, mn_mm3, mn_mm4, mn_mm5, mn_mm6, mn_and, mn_or, mn_an, mn_shl, mn_shr, mn_div, mn_rem, mn_clamp, mn_in, mn_inm, mn_nz, mn_zo, mn_min, mn_max, mn_abs, mn_rfit, mn_cp, mn_les, mn_gre, mn_a127, mn_a15, mn_a1, mn_a255, mn_tn0, mn_tn0e, mn_tnr, mn_tnz, mr_get, mr_ne, mr_put, mu_ne, mu_eq, mj_bk_i, mj_bk_v, mj_bk_x, decide_eq_true_eq, decide_true, decide_false, Bool.false_eq_true, Bool.true_eq_false, reduceCtorEq, mt_le_t, mt_le_f, mt_lt_t, mt_lt_f, mt_eq_t, mt_eq_f, mt_ee, not_true_eq_false, not_false_eq_true, and_true, true_and, and_self, Nat.zero_add, Nat.add_zero, Nat.one_mul, Nat.mul_one, Nat.reduceAdd, Nat.reduceMul, Nat.reduceSub, Nat.reducePow, Nat.reduceDiv, Nat.reduceMod, ↓reduceIte, mp_h, mp_w, mp_c, mp_s, mp_d, mp_n, mp_54, mp_52, mp_55, mp_l, mp_o, mp_42, mp_45, gh_gp, gw_gp, gc_gp, mw_pne, Nat.or_zero, mp_w57, c222 hp hq, c255' hp hq hn]
  rfl
theorem mo_m1 {o : Option Nat} (h : ∀ b, o = some b → b < 8) : (mo o = -1) = (o = none) := by
  cases o with
  | none => simp [mo]
  | some b =>
    have := h b rfl
    simp only [mo, mn_eqm (show b < 2147483648 by omega), reduceCtorEq]
theorem c261 (hw : wf f L) {p q : Nat} (hp : p < 8) (hq : q < 8) : mj_call X (d + 2) 261 [.ref 42, .int (nI p), .int (nI q)] (mw_U (mp s f)) = some (.inl (some (.int (nI (fcm f p q).toNat))), mw_U (mp s f)) := by
  have hf := wf_lt hw
  have m1 := mo_m1 (o := fs f p) (fun b hb => (wf_s hw hp hb).1)
  have m2 := mo_m1 (o := fs f q) (fun b hb => (wf_s hw hq hb).1)
  have s1 : (fs f p = none) = (f (16 + p) = 0) := by unfold fs; split <;> simp_all
  have s2 : (fs f q = none) = (f (16 + q) = 0) := by unfold fs; split <;> simp_all
  unfold fcm fsg
  by_cases h : p = q
  · simp (disch := first | assumption | exact hf _ | omega) only [b261, b261_0, b261_5, b261_10, b261_13, b261_18, b261_21, b261_31, b261_41, b261_45, b261_46, nI_add, mn_mul, mn_sub, mn_m1, mn_m8, mn_eq, mn_lt, mn_le, mn_eq0, mn_0eq, mn_lt0, mn_0lt, mn_le0, mn_0le, mn_eqm, mn_meq, mn_ltm, mn_mlt, mn_lem, mn_mle, mn_mm1, mn_mm2, mn_mm3, mn_mm4, mn_mm5, mn_mm6, mn_and, mn_or, mn_an, mn_shl, mn_shr, mn_div, mn_rem, mn_clamp, mn_in, mn_inm, mn_nz, mn_zo, mn_min, mn_max, mn_abs, mn_rfit, mn_cp, mn_les, mn_gre, mn_a127, mn_a15, mn_a1, mn_a255, mn_tn0, mn_tn0e, mn_tnr, mn_tnz, mr_get, mr_ne, mr_put, mu_ne, mu_eq, mj_bk_i, mj_bk_v, mj_bk_x, decide_eq_true_eq, decide_true, decide_false, Bool.false_eq_true, Bool.true_eq_false, reduceCtorEq, mt_le_t, mt_le_f, mt_lt_t, mt_lt_f, mt_eq_t, mt_eq_f, mt_ee, not_true_eq_false, not_false_eq_true, and_true, true_and, and_self, Nat.zero_add, Nat.add_zero, Nat.one_mul, Nat.mul_one, Nat.reduceAdd, Nat.reduceMul, Nat.reduceSub, Nat.reducePow, Nat.reduceDiv, Nat.reduceMod, ↓reduceIte, mp_h, mp_w, mp_c, mp_s, mp_d, mp_n, mp_54, mp_52, mp_55, mp_l, mp_o, mp_42, mp_45, gh_gp, gw_gp, gc_gp, mw_pne, Nat.or_zero, h, Bool.false_and, Bool.toNat_false]
  · cases h1 : (f 52).testBit p
    · simp (disch := first | assumption | exact hf _ | omega) only [b261, b261_0, b261_5, b261_10, b261_13, b261_18, b261_21, b261_31, b261_41, b261_45, b261_46, nI_add, mn_mul, mn_sub, mn_m1, mn_m8, mn_eq, mn_lt, mn_le, mn_eq0, mn_0eq, mn_lt0, mn_0lt, mn_le0, mn_0le, mn_eqm, mn_meq, mn_ltm, mn_mlt, mn_lem, mn_mle, mn_mm1, mn_mm2, mn_mm3, mn_mm4, mn_mm5, mn_mm6, mn_and, mn_or, mn_an, mn_shl, mn_shr, mn_div, mn_rem, mn_clamp, mn_in, mn_inm, mn_nz, mn_zo, mn_min, mn_max, mn_abs, mn_rfit, mn_cp, mn_les, mn_gre, mn_a127, mn_a15, mn_a1, mn_a255, mn_tn0, mn_tn0e, mn_tnr, mn_tnz, mr_get, mr_ne, mr_put, mu_ne, mu_eq, mj_bk_i, mj_bk_v, mj_bk_x, decide_eq_true_eq, decide_true, decide_false, Bool.false_eq_true, Bool.true_eq_false, reduceCtorEq, mt_le_t, mt_le_f, mt_lt_t, mt_lt_f, mt_eq_t, mt_eq_f, mt_ee, not_true_eq_false, not_false_eq_true, and_true, true_and, and_self, Nat.zero_add, Nat.add_zero, Nat.one_mul, Nat.mul_one, Nat.reduceAdd, Nat.reduceMul, Nat.reduceSub, Nat.reducePow, Nat.reduceDiv, Nat.reduceMod, ↓reduceIte, mp_h, mp_w, mp_c, mp_s, mp_d, mp_n, mp_54, mp_52, mp_55, mp_l, mp_o, mp_42, mp_45, gh_gp, gw_gp, gc_gp, mw_pne, Nat.or_zero, h, h1, c241 hf (show p < 32 by omega), Bool.false_and, Bool.and_false, Bool.toNat_false]
    · cases h2 : (f 52).testBit q
      · simp (disch := first | assumption | exact hf _ | omega) only [b261, b261_0, b261_5, b261_10, b261_13, b261_18, b261_21, b261_31, b261_41, b261_45, b261_46, nI_add, mn_mul, mn_sub, mn_m1, mn_m8, mn_eq, mn_lt, mn_le, mn_eq0, mn_0eq, mn_lt0, mn_0lt, mn_le0, mn_0le, mn_eqm, mn_meq, mn_ltm, mn_mlt, mn_lem, mn_mle, mn_mm1, mn_mm2, mn_mm3, mn_mm4, mn_mm5, mn_mm6, mn_and, mn_or, mn_an, mn_shl, mn_shr, mn_div, mn_rem, mn_clamp, mn_in, mn_inm, mn_nz, mn_zo, mn_min, mn_max, mn_abs, mn_rfit, mn_cp, mn_les, mn_gre, mn_a127, mn_a15, mn_a1, mn_a255, mn_tn0, mn_tn0e, mn_tnr, mn_tnz, mr_get, mr_ne, mr_put, mu_ne, mu_eq, mj_bk_i, mj_bk_v, mj_bk_x, decide_eq_true_eq, decide_true, decide_false, Bool.false_eq_true, Bool.true_eq_false, reduceCtorEq, mt_le_t, mt_le_f, mt_lt_t, mt_lt_f, mt_eq_t, mt_eq_f, mt_ee, not_true_eq_false, not_false_eq_true, and_true, true_and, and_self, Nat.zero_add, Nat.add_zero, Nat.one_mul, Nat.mul_one, Nat.reduceAdd, Nat.reduceMul, Nat.reduceSub, Nat.reducePow, Nat.reduceDiv, Nat.reduceMod, ↓reduceIte, mp_h, mp_w, mp_c, mp_s, mp_d, mp_n, mp_54, mp_52, mp_55, mp_l, mp_o, mp_42, mp_45, gh_gp, gw_gp, gc_gp, mw_pne, Nat.or_zero, h, h1, h2, c241 hf (show p < 32 by omega), c241 hf (show q < 32 by omega), Bool.false_and, Bool.and_false, Bool.true_and, Bool.toNat_false]
      · have h55 : 0 < f 55 := Nat.lt_of_le_of_lt (Nat.zero_le _) (bit_lt (wf_l hw) h1)
        by_cases h3 : f (16 + p) = 0
        · by_cases h4 : f (16 + q) = 0
          · simp (disch := first | assumption | exact hf _ | omega) only [b261, b261_0, b261_5, b261_10, b261_13, b261_18, b261_21, b261_31, b261_41, b261_45, b261_46, nI_add, mn_mul, mn_sub, mn_m1, mn_m8, mn_eq, mn_lt, mn_le, mn_eq0, mn_0eq, mn_lt0, mn_0lt, mn_le0, mn_0le, mn_eqm, mn_meq, mn_ltm, mn_mlt, mn_lem, mn_mle, mn_mm1, mn_mm2, mn_mm3, mn_mm4, mn_mm5, mn_mm6, mn_and, mn_or, mn_an, mn_shl, mn_shr, mn_div, mn_rem, mn_clamp, mn_in, mn_inm, mn_nz, mn_zo, mn_min, mn_max, mn_abs, mn_rfit, mn_cp, mn_les, mn_gre, mn_a127, mn_a15, mn_a1, mn_a255, mn_tn0, mn_tn0e, mn_tnr, mn_tnz, mr_get, mr_ne, mr_put, mu_ne, mu_eq, mj_bk_i, mj_bk_v, mj_bk_x, decide_eq_true_eq, decide_true, decide_false, Bool.false_eq_true, Bool.true_eq_false, reduceCtorEq, mt_le_t, mt_le_f, mt_lt_t, mt_lt_f, mt_eq_t, mt_eq_f, mt_ee, not_true_eq_false, not_false_eq_true, and_true, true_and, and_self, Nat.zero_add, Nat.add_zero, Nat.one_mul, Nat.mul_one, Nat.reduceAdd, Nat.reduceMul, Nat.reduceSub, Nat.reducePow, Nat.reduceDiv, Nat.reduceMod, ↓reduceIte, mp_h, mp_w, mp_c, mp_s, mp_d, mp_n, mp_54, mp_52, mp_55, mp_l, mp_o, mp_42, mp_45, gh_gp, gw_gp, gc_gp, mw_pne, Nat.or_zero, h, h1, h2, c241 hf (show p < 32 by omega), c241 hf (show q < 32 by omega), m1, m2, s1, s2, h3, h4, Bool.and_true, Bool.true_and, Bool.toNat_true]
          · simp (disch := first | assumption | exact hf _ | omega) only [b261, b261_0, b261_5, b261_10, b261_13, b261_18, b261_21, b261_31, b261_41, b261_45, b261_46, nI_add, mn_mul, mn_sub, mn_m1, mn_m8, mn_eq, mn_lt, mn_le, mn_eq0, mn_0eq, mn_lt0, mn_0lt, mn_le0, mn_0le, mn_eqm, mn_meq, mn_ltm, mn_mlt, mn_lem, mn_mle, mn_mm1, mn_mm2, mn_mm3, mn_mm4, mn_mm5, mn_mm6, mn_and, mn_or, mn_an, mn_shl, mn_shr, mn_div, mn_rem, mn_clamp, mn_in, mn_inm, mn_nz, mn_zo, mn_min, mn_max, mn_abs, mn_rfit, mn_cp, mn_les, mn_gre, mn_a127, mn_a15, mn_a1, mn_a255, mn_tn0, mn_tn0e, mn_tnr, mn_tnz, mr_get, mr_ne, mr_put, mu_ne, mu_eq, mj_bk_i, mj_bk_v, mj_bk_x, decide_eq_true_eq, decide_true, decide_false, Bool.false_eq_true, Bool.true_eq_false, reduceCtorEq, mt_le_t, mt_le_f, mt_lt_t, mt_lt_f, mt_eq_t, mt_eq_f, mt_ee, not_true_eq_false, not_false_eq_true, and_true, true_and, and_self, Nat.zero_add, Nat.add_zero, Nat.one_mul, Nat.mul_one, Nat.reduceAdd, Nat.reduceMul, Nat.reduceSub, Nat.reducePow, Nat.reduceDiv, Nat.reduceMod, ↓reduceIte, mp_h, mp_w, mp_c, mp_s, mp_d, mp_n, mp_54, mp_52, mp_55, mp_l, mp_o, mp_42, mp_45, gh_gp, gw_gp, gc_gp, mw_pne, Nat.or_zero, h, h1, h2, c241 hf (show p < 32 by omega), c241 hf (show q < 32 by omega), m1, m2, s1, s2, h3, h4, Bool.and_false, Bool.true_and, Bool.toNat_false]
        · simp (disch := first | assumption | exact hf _ | omega) only [b261, b261_0, b261_5, b261_10, b261_13, b261_18, b261_21, b261_31, b261_41, b261_45, b261_46, nI_add, mn_mul, mn_sub, mn_m1, mn_m8, mn_eq, mn_lt, mn_le, mn_eq0, mn_0eq, mn_lt0, mn_0lt, mn_le0, mn_0le, mn_eqm, mn_meq, mn_ltm, mn_mlt, mn_lem, mn_mle, mn_mm1, mn_mm2, mn_mm3, mn_mm4, mn_mm5, mn_mm6, mn_and, mn_or, mn_an, mn_shl, mn_shr, mn_div, mn_rem, mn_clamp, mn_in, mn_inm, mn_nz, mn_zo, mn_min, mn_max, mn_abs, mn_rfit, mn_cp, mn_les, mn_gre, mn_a127, mn_a15, mn_a1, mn_a255, mn_tn0, mn_tn0e, mn_tnr, mn_tnz, mr_get, mr_ne, mr_put, mu_ne, mu_eq, mj_bk_i, mj_bk_v, mj_bk_x, decide_eq_true_eq, decide_true, decide_false, Bool.false_eq_true, Bool.true_eq_false, reduceCtorEq, mt_le_t, mt_le_f, mt_lt_t, mt_lt_f, mt_eq_t, mt_eq_f, mt_ee, not_true_eq_false, not_false_eq_true, and_true, true_and, and_self, Nat.zero_add, Nat.add_zero, Nat.one_mul, Nat.mul_one, Nat.reduceAdd, Nat.reduceMul, Nat.reduceSub, Nat.reducePow, Nat.reduceDiv, Nat.reduceMod, ↓reduceIte, mp_h, mp_w, mp_c, mp_s, mp_d, mp_n, mp_54, mp_52, mp_55, mp_l, mp_o, mp_42, mp_45, gh_gp, gw_gp, gc_gp, mw_pne, Nat.or_zero, h, h1, h2, c241 hf (show p < 32 by omega), c241 hf (show q < 32 by omega), m1, s1, h3, Bool.and_false, Bool.false_and, Bool.true_and, Bool.toNat_false]
theorem c265 (hw : wf f L) {p q : Nat} (hp : p < 8) (hq : q < 8) : mj_call X (d + 2) 265 [.ref 42, .int (nI p), .int (nI q)] (mw_U (mp s f)) = some (.inl (some (.int (nI (fcq f p q).toNat))), mw_U (mp s f)) := by
  have hf := wf_lt hw
  have h16 := hf (16 + p)
  unfold fcq
  by_cases h : p = q
  · simp (disch := first | assumption | exact hf _ | omega) only [b265, b265_0, b265_5, b265_10, b265_13, b265_18, b265_21, b265_27, b265_30, b265_40, b265_44, b265_45, nI_add, mn_mul, mn_sub, mn_m1, mn_m8, mn_eq, mn_lt, mn_le, mn_eq0, mn_0eq, mn_lt0, mn_0lt, mn_le0, mn_0le, mn_eqm, mn_meq, mn_ltm, mn_mlt, mn_lem, mn_mle, mn_mm1, mn_mm2, mn_mm3, mn_mm4, mn_mm5, mn_mm6, mn_and, mn_or, mn_an, mn_shl, mn_shr, mn_div, mn_rem, mn_clamp, mn_in, mn_inm, mn_nz, mn_zo, mn_min, mn_max, mn_abs, mn_rfit, mn_cp, mn_les, mn_gre, mn_a127, mn_a15, mn_a1, mn_a255, mn_tn0, mn_tn0e, mn_tnr, mn_tnz, mr_get, mr_ne, mr_put, mu_ne, mu_eq, mj_bk_i, mj_bk_v, mj_bk_x, decide_eq_true_eq, decide_true, decide_false, Bool.false_eq_true, Bool.true_eq_false, reduceCtorEq, mt_le_t, mt_le_f, mt_lt_t, mt_lt_f, mt_eq_t, mt_eq_f, mt_ee, not_true_eq_false, not_false_eq_true, and_true, true_and, and_self, Nat.zero_add, Nat.add_zero, Nat.one_mul, Nat.mul_one, Nat.reduceAdd, Nat.reduceMul, Nat.reduceSub, Nat.reducePow, Nat.reduceDiv, Nat.reduceMod, ↓reduceIte, mp_h, mp_w, mp_c, mp_s, mp_d, mp_n, mp_54, mp_52, mp_55, mp_l, mp_o, mp_42, mp_45, gh_gp, gw_gp, gc_gp, mw_pne, Nat.or_zero, h, Bool.false_and, Bool.toNat_false]
  · have e1 : fhp f p q = fh f (fp p q) := by unfold fhp; rw [if_neg h]
    cases h1 : (f 52).testBit p
    · simp (disch := first | assumption | exact hf _ | omega) only [b265, b265_0, b265_5, b265_10, b265_13, b265_18, b265_21, b265_27, b265_30, b265_40, b265_44, b265_45, nI_add, mn_mul, mn_sub, mn_m1, mn_m8, mn_eq, mn_lt, mn_le, mn_eq0, mn_0eq, mn_lt0, mn_0lt, mn_le0, mn_0le, mn_eqm, mn_meq, mn_ltm, mn_mlt, mn_lem, mn_mle, mn_mm1, mn_mm2, mn_mm3, mn_mm4, mn_mm5, mn_mm6, mn_and, mn_or, mn_an, mn_shl, mn_shr, mn_div, mn_rem, mn_clamp, mn_in, mn_inm, mn_nz, mn_zo, mn_min, mn_max, mn_abs, mn_rfit, mn_cp, mn_les, mn_gre, mn_a127, mn_a15, mn_a1, mn_a255, mn_tn0, mn_tn0e, mn_tnr, mn_tnz, mr_get, mr_ne, mr_put, mu_ne, mu_eq, mj_bk_i, mj_bk_v, mj_bk_x, decide_eq_true_eq, decide_true, decide_false, Bool.false_eq_true, Bool.true_eq_false, reduceCtorEq, mt_le_t, mt_le_f, mt_lt_t, mt_lt_f, mt_eq_t, mt_eq_f, mt_ee, not_true_eq_false, not_false_eq_true, and_true, true_and, and_self, Nat.zero_add, Nat.add_zero, Nat.one_mul, Nat.mul_one, Nat.reduceAdd, Nat.reduceMul, Nat.reduceSub, Nat.reducePow, Nat.reduceDiv, Nat.reduceMod, ↓reduceIte, mp_h, mp_w, mp_c, mp_s, mp_d, mp_n, mp_54, mp_52, mp_55, mp_l, mp_o, mp_42, mp_45, gh_gp, gw_gp, gc_gp, mw_pne, Nat.or_zero, h, h1, c241 hf (show p < 32 by omega), Bool.false_and, Bool.and_false, Bool.toNat_false]
    · cases h2 : (f 52).testBit q
      · simp (disch := first | assumption | exact hf _ | omega) only [b265, b265_0, b265_5, b265_10, b265_13, b265_18, b265_21, b265_27, b265_30, b265_40, b265_44, b265_45, nI_add, mn_mul, mn_sub, mn_m1, mn_m8, mn_eq, mn_lt, mn_le, mn_eq0, mn_0eq, mn_lt0, mn_0lt, mn_le0, mn_0le, mn_eqm, mn_meq, mn_ltm, mn_mlt, mn_lem, mn_mle, mn_mm1, mn_mm2, mn_mm3, mn_mm4, mn_mm5, mn_mm6, mn_and, mn_or, mn_an, mn_shl, mn_shr, mn_div, mn_rem, mn_clamp, mn_in, mn_inm, mn_nz, mn_zo, mn_min, mn_max, mn_abs, mn_rfit, mn_cp, mn_les, mn_gre, mn_a127, mn_a15, mn_a1, mn_a255, mn_tn0, mn_tn0e, mn_tnr, mn_tnz, mr_get, mr_ne, mr_put, mu_ne, mu_eq, mj_bk_i, mj_bk_v, mj_bk_x, decide_eq_true_eq, decide_true, decide_false, Bool.false_eq_true, Bool.true_eq_false, reduceCtorEq, mt_le_t, mt_le_f, mt_lt_t, mt_lt_f, mt_eq_t, mt_eq_f, mt_ee, not_true_eq_false, not_false_eq_true, and_true, true_and, and_self, Nat.zero_add, Nat.add_zero, Nat.one_mul, Nat.mul_one, Nat.reduceAdd, Nat.reduceMul, Nat.reduceSub, Nat.reducePow, Nat.reduceDiv, Nat.reduceMod, ↓reduceIte, mp_h, mp_w, mp_c, mp_s, mp_d, mp_n, mp_54, mp_52, mp_55, mp_l, mp_o, mp_42, mp_45, gh_gp, gw_gp, gc_gp, mw_pne, Nat.or_zero, h, h1, h2, c241 hf (show p < 32 by omega), c241 hf (show q < 32 by omega), Bool.false_and, Bool.and_false, Bool.true_and, Bool.toNat_false]
      · have h55 : 0 < f 55 := Nat.lt_of_le_of_lt (Nat.zero_le _) (bit_lt (wf_l hw) h1)
        have hsp : (mo (fs f p) = nI q) = (fs f p = some q) := by
          unfold fs mo
          by_cases h0 : f (16 + p) = 0
          · rw [if_pos h0]
            simp only [mn_meq (show q < 2147483648 by omega), reduceCtorEq]
          · rw [if_neg h0]
            simp only [Option.some.injEq]
            exact mn_eq (by omega) (by omega)
        by_cases h3 : fs f p = some q
        · by_cases h4 : 0 < fh f (fp p q)
          · simp (disch := first | assumption | exact hf _ | omega) only [b265, b265_0, b265_5, b265_10, b265_13, b265_18, b265_21, b265_27, b265_30, b265_40, b265_44, b265_45, nI_add, mn_mul, mn_sub, mn_m1, mn_m8, mn_eq, mn_lt, mn_le, mn_eq0, mn_0eq, mn_lt0, mn_0lt, mn_le0, mn_0le, mn_eqm, mn_meq, mn_ltm, mn_mlt, mn_lem, mn_mle, mn_mm1, mn_mm2, mn_mm3, mn_mm4, mn_mm5, mn_mm6, mn_and, mn_or, mn_an, mn_shl, mn_shr, mn_div, mn_rem, mn_clamp, mn_in, mn_inm, mn_nz, mn_zo, mn_min, mn_max, mn_abs, mn_rfit, mn_cp, mn_les, mn_gre, mn_a127, mn_a15, mn_a1, mn_a255, mn_tn0, mn_tn0e, mn_tnr, mn_tnz, mr_get, mr_ne, mr_put, mu_ne, mu_eq, mj_bk_i, mj_bk_v, mj_bk_x, decide_eq_true_eq, decide_true, decide_false, Bool.false_eq_true, Bool.true_eq_false, reduceCtorEq, mt_le_t, mt_le_f, mt_lt_t, mt_lt_f, mt_eq_t, mt_eq_f, mt_ee, not_true_eq_false, not_false_eq_true, and_true, true_and, and_self, Nat.zero_add, Nat.add_zero, Nat.one_mul, Nat.mul_one, Nat.reduceAdd, Nat.reduceMul, Nat.reduceSub, Nat.reducePow, Nat.reduceDiv, Nat.reduceMod, ↓reduceIte, mp_h, mp_w, mp_c, mp_s, mp_d, mp_n, mp_54, mp_52, mp_55, mp_l, mp_o, mp_42, mp_45, gh_gp, gw_gp, gc_gp, mw_pne, Nat.or_zero, h, h1, h2, c241 hf (show p < 32 by omega), c241 hf (show q < 32 by omega), c229 hp hq, e1, h4, h3, Bool.and_false, Bool.false_and, Bool.true_and, Bool.toNat_false, Bool.toNat_true]
          · simp (disch := first | assumption | exact hf _ | omega) only [b265, b265_0, b265_5, b265_10, b265_13, b265_18, b265_21, b265_27, b265_30, b265_40, b265_44, b265_45, nI_add, mn_mul, mn_sub, mn_m1, mn_m8, mn_eq, mn_lt, mn_le, mn_eq0, mn_0eq, mn_lt0, mn_0lt, mn_le0, mn_0le, mn_eqm, mn_meq, mn_ltm, mn_mlt, mn_lem, mn_mle, mn_mm1, mn_mm2, mn_mm3, mn_mm4, mn_mm5, mn_mm6, mn_and, mn_or, mn_an, mn_shl, mn_shr, mn_div, mn_rem, mn_clamp, mn_in, mn_inm, mn_nz, mn_zo, mn_min, mn_max, mn_abs, mn_rfit, mn_cp, mn_les, mn_gre, mn_a127, mn_a15, mn_a1, mn_a255, mn_tn0, mn_tn0e, mn_tnr, mn_tnz, mr_get, mr_ne, mr_put, mu_ne, mu_eq, mj_bk_i, mj_bk_v, mj_bk_x, decide_eq_true_eq, decide_true, decide_false, Bool.false_eq_true, Bool.true_eq_false, reduceCtorEq, mt_le_t, mt_le_f, mt_lt_t, mt_lt_f, mt_eq_t, mt_eq_f, mt_ee, not_true_eq_false, not_false_eq_true, and_true, true_and, and_self, Nat.zero_add, Nat.add_zero, Nat.one_mul, Nat.mul_one, Nat.reduceAdd, Nat.reduceMul, Nat.reduceSub, Nat.reducePow, Nat.reduceDiv, Nat.reduceMod, ↓reduceIte, mp_h, mp_w, mp_c, mp_s, mp_d, mp_n, mp_54, mp_52, mp_55, mp_l, mp_o, mp_42, mp_45, gh_gp, gw_gp, gc_gp, mw_pne, Nat.or_zero, h, h1, h2, c241 hf (show p < 32 by omega), c241 hf (show q < 32 by omega), c229 hp hq, e1, h4, hsp, h3, mo, Bool.and_false, Bool.false_and, Bool.true_and, Bool.toNat_false]
        · by_cases h4 : 0 < fh f (fp p q)
          · simp (disch := first | assumption | exact hf _ | omega) only [b265, b265_0, b265_5, b265_10, b265_13, b265_18, b265_21, b265_27, b265_30, b265_40, b265_44, b265_45, nI_add, mn_mul, mn_sub, mn_m1, mn_m8, mn_eq, mn_lt, mn_le, mn_eq0, mn_0eq, mn_lt0, mn_0lt, mn_le0, mn_0le, mn_eqm, mn_meq, mn_ltm, mn_mlt, mn_lem, mn_mle, mn_mm1, mn_mm2, mn_mm3, mn_mm4, mn_mm5, mn_mm6, mn_and, mn_or, mn_an, mn_shl, mn_shr, mn_div, mn_rem, mn_clamp, mn_in, mn_inm, mn_nz, mn_zo, mn_min, mn_max, mn_abs, mn_rfit, mn_cp, mn_les, mn_gre, mn_a127, mn_a15, mn_a1, mn_a255, mn_tn0, mn_tn0e, mn_tnr, mn_tnz, mr_get, mr_ne, mr_put, mu_ne, mu_eq, mj_bk_i, mj_bk_v, mj_bk_x, decide_eq_true_eq, decide_true, decide_false, Bool.false_eq_true, Bool.true_eq_false, reduceCtorEq, mt_le_t, mt_le_f, mt_lt_t, mt_lt_f, mt_eq_t, mt_eq_f, mt_ee, not_true_eq_false, not_false_eq_true, and_true, true_and, and_self, Nat.zero_add, Nat.add_zero, Nat.one_mul, Nat.mul_one, Nat.reduceAdd, Nat.reduceMul, Nat.reduceSub, Nat.reducePow, Nat.reduceDiv, Nat.reduceMod, ↓reduceIte, mp_h, mp_w, mp_c, mp_s, mp_d, mp_n, mp_54, mp_52, mp_55, mp_l, mp_o, mp_42, mp_45, gh_gp, gw_gp, gc_gp, mw_pne, Nat.or_zero, h, h1, h2, c241 hf (show p < 32 by omega), c241 hf (show q < 32 by omega), c229 hp hq, e1, h4, h3, Bool.and_false, Bool.false_and, Bool.true_and, Bool.toNat_false, Bool.toNat_true]
          · simp (disch := first | assumption | exact hf _ | omega) only [b265, b265_0, b265_5, b265_10, b265_13, b265_18, b265_21, b265_27, b265_30, b265_40, b265_44, b265_45, nI_add, mn_mul, mn_sub, mn_m1, mn_m8, mn_eq, mn_lt, mn_le, mn_eq0, mn_0eq, mn_lt0, mn_0lt, mn_le0, mn_0le, mn_eqm, mn_meq, mn_ltm, mn_mlt, mn_lem, mn_mle, mn_mm1, mn_mm2, mn_mm3, mn_mm4, mn_mm5, mn_mm6, mn_and, mn_or, mn_an, mn_shl, mn_shr, mn_div, mn_rem, mn_clamp, mn_in, mn_inm, mn_nz, mn_zo, mn_min, mn_max, mn_abs, mn_rfit, mn_cp, mn_les, mn_gre, mn_a127, mn_a15, mn_a1, mn_a255, mn_tn0, mn_tn0e, mn_tnr, mn_tnz, mr_get, mr_ne, mr_put, mu_ne, mu_eq, mj_bk_i, mj_bk_v, mj_bk_x, decide_eq_true_eq, decide_true, decide_false, Bool.false_eq_true, Bool.true_eq_false, reduceCtorEq, mt_le_t, mt_le_f, mt_lt_t, mt_lt_f, mt_eq_t, mt_eq_f, mt_ee, not_true_eq_false, not_false_eq_true, and_true, true_and, and_self, Nat.zero_add, Nat.add_zero, Nat.one_mul, Nat.mul_one, Nat.reduceAdd, Nat.reduceMul, Nat.reduceSub, Nat.reducePow, Nat.reduceDiv, Nat.reduceMod, ↓reduceIte, mp_h, mp_w, mp_c, mp_s, mp_d, mp_n, mp_54, mp_52, mp_55, mp_l, mp_o, mp_42, mp_45, gh_gp, gw_gp, gc_gp, mw_pne, Nat.or_zero, h, h1, h2, c241 hf (show p < 32 by omega), c241 hf (show q < 32 by omega), c229 hp hq, e1, h4, hsp, h3, Bool.and_true, Bool.false_and, Bool.true_and, Bool.toNat_false, Bool.toNat_true]
end
