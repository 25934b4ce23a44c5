/-! a week, by the class -/
def rvl (f : Nat → Nat) (i : Nat) : Nat → Int32 := fun j => if j = 0 then nI (fh f i) else if j = 1 then nI (f (mn_l i) + f (mn_g i)) else if j = 2 then nI ((f (mn_l i) - f (mn_g i)) + (f (mn_g i) - f (mn_l i))) else if j = 3 then nI (fn_cnt (f (56 + mn_l i)) + fn_cnt (f (56 + mn_g i))) - nI 1 else if j = 4 then nI (fc f i) else nI (f 54)
def rch (Q : rQ) (v : Nat → Int32) : Int32 := if Q.2.1 = 0 then (if v 1 ≤ nI 9 then -1 else nI 1) else mw_max (-9) (mw_min (nI 9) (rv v Q.1 Q.2.1))
def rcu (Q : rQ) (v : Nat → Int32) : Bool := if Q.2.2.2 = 0 then decide (¬ v 0 < nI 20) else decide (¬ rv v Q.2.2.1 Q.2.2.2 ≤ 0)
def rnh (Q : rQ) (f : Nat → Nat) (i : Nat) : Nat := min 99 ((fh f i : Int) + (rch Q (rvl f i)).toInt).toNat
def fstep (Q : rQ) (f : Nat → Nat) (i : Nat) : Nat → Nat := if rnh Q f i = 0 then fe f i else if rcu Q (rvl (fsh f i (rnh Q f i)) i) then fac (fsh f i (rnh Q f i)) i else fsh f i (rnh Q f i)
def fst1 (Q : rQ) (f : Nat → Nat) (i : Nat) : Nat → Nat := if 0 < fh f i then fstep Q f i else f
def fwk0 (Q : rQ) (f : Nat → Nat) : Nat → Nat := mr_it (fun i f => fst1 Q f i) 28 f
def fwk (Q : rQ) (f : Nat → Nat) : Nat → Nat := mr_u (fwk0 Q f) 54 (fwk0 Q f 54 + 1)
def fwks (Q : rQ) (f : Nat → Nat) (n : Nat) : Nat → Nat := mr_it (fun _ f => fwk Q f) n f
theorem rch_r (Q : rQ) (v : Nat → Int32) : -9 ≤ (rch Q v).toInt ∧ (rch Q v).toInt ≤ 9 := by
  unfold rch
  split
  · split <;> decide
  · unfold mw_max mw_min
    have h9 : (nI 9).toInt = 9 := by decide
    have h9m : (-9 : Int32).toInt = -9 := by decide
    split
    · next h =>
      rw [Int32.lt_iff_toInt_lt, h9] at h
      split
      · next h2 =>
        rw [Int32.lt_iff_toInt_lt, h9m] at h2
        omega
      · rw [h9m]; omega
    · split
      · rw [h9]; omega
      · rw [h9m]; omega
theorem rnh_lt (Q : rQ) (f : Nat → Nat) (i : Nat) : rnh Q f i ≤ 99 := Nat.min_le_left _ _
theorem rnh_e {h : Nat} {x : Int32} (hh : h < 128) (h1 : -9 ≤ x.toInt) (h2 : x.toInt ≤ 9) : ((0 < mw_min (nI 99) (nI h + x)) = (0 < min 99 ((h : Int) + x.toInt).toNat)) ∧ (0 < min 99 ((h : Int) + x.toInt).toNat → mw_min (nI 99) (nI h + x) = nI (min 99 ((h : Int) + x.toInt).toNat)) := by
  have e : (nI h + x).toInt = (h : Int) + x.toInt := by
    rw [Int32.toInt_add, nI_toInt (by omega)]
    exact Int.bmod_eq_of_le (by omega) (by omega)
  have e99 : (nI 99).toInt = 99 := by decide
  have e0 : (0 : Int32).toInt = 0 := by decide
  have key : (mw_min (nI 99) (nI h + x)).toInt = min 99 ((h : Int) + x.toInt) := by
    unfold mw_min
    split
    · next hl => rw [Int32.lt_iff_toInt_lt, e, e99] at hl; rw [e]; omega
    · next hl => rw [Int32.lt_iff_toInt_lt, e, e99] at hl; rw [e99]; omega
  constructor
  · rw [Int32.lt_iff_toInt_lt, key, e0]
    apply propext
    omega
  · intro hp
    rw [← Int32.toInt_inj, key, nI_toInt (by omega)]
    omega
theorem fsh_h {f : Nat → Nat} {i h : Nat} (hh : h < 128) : fh (fsh f i h) i = h := by
  unfold fh fsh; rw [mu_eq]; omega
theorem fsh_c {f : Nat → Nat} {i h : Nat} (hh : h < 128) : fc (fsh f i h) i = fc f i := by
  unfold fc fsh; rw [mu_eq]; omega
theorem rvl_fsh {f : Nat → Nat} {i h : Nat} (hi : i < 28) (hh : h < 128) {j : Nat} : rvl (fsh f i h) i j = if j = 0 then nI h else rvl f i j := by
  have hlg := mn_lg hi
  have e1 : ∀ k, ¬ k = 24 + i → fsh f i h k = f k := fun k hk => mu_ne hk
  unfold rvl
  rw [fsh_h hh, fsh_c hh, e1 _ (by omega), e1 _ (by omega), e1 _ (by omega), e1 _ (by omega), e1 54 (by omega)]
  split <;> rfl
theorem wf_step {Q : rQ} {f : Nat → Nat} {L i : Nat} (hw : wf f L) (hi : i < 28) (h0 : 0 < fh f i) : wf (fstep Q f i) L := by
  have h9 := rnh_lt Q f i
  unfold fstep
  split
  · exact wf_fe hw hi
  · have h2 := wf_fsh (h := rnh Q f i) hw hi h0 (by omega) h9
    split
    · exact wf_fac h2 hi (by rw [fsh_h (by omega)]; omega)
    · exact h2
theorem wf_st1 {Q : rQ} {f : Nat → Nat} {L i : Nat} (hw : wf f L) (hi : i < 28) : wf (fst1 Q f i) L := by
  unfold fst1
  split
  · next h0 => exact wf_step hw hi h0
  · exact hw
theorem wf_wk0 {Q : rQ} {f : Nat → Nat} {L : Nat} (hw : wf f L) : wf (fwk0 Q f) L := mr_it_inv (I := fun _ f => wf f L) hw (fun _ _ hi h => wf_st1 h hi)
theorem fst1_o {Q : rQ} {f : Nat → Nat} {i j : Nat} (hi : i < 28) (hj : j < 24 ∨ (52 ≤ j ∧ j < 56)) : fst1 Q f i j = f j := by
  unfold fst1 fstep
  have e1 : ∀ h, fsh f i h j = f j := fun h => mu_ne (by omega)
  split
  · split
    · rw [fe_j hi (by omega), if_neg (by omega)]
    · split
      · rw [fac_j, if_neg (by omega), e1]
      · rw [e1]
  · rfl
theorem fwk0_o {Q : rQ} {f : Nat → Nat} {j : Nat} (hj : j < 24 ∨ (52 ≤ j ∧ j < 56)) : fwk0 Q f j = f j := mr_it_inv (I := fun _ (f' : Nat → Nat) => f' j = f j) rfl (fun i a hi h => (fst1_o hi hj).trans h)
/-- what stands behind the row stays -/
theorem fe_64 {f : Nat → Nat} {i : Nat} (hi : i < 28) : fe f i 64 = f 64 := by
  have := mn_lg hi
  unfold fe mr_u
  rw [if_neg (by omega), if_neg (by omega), if_neg (by omega)]
theorem fb_64 {f : Nat → Nat} {i h w : Nat} (hi : i < 28) : fb f i h w 64 = f 64 := by
  have := mn_lg hi
  unfold fb mr_u
  rw [if_neg (by omega), if_neg (by omega), if_neg (by omega)]
theorem fsh_64 {f : Nat → Nat} {i h : Nat} (hi : i < 28) : fsh f i h 64 = f 64 := mu_ne (by omega)
theorem fac_64 {f : Nat → Nat} {i : Nat} (hi : i < 28) : fac f i 64 = f 64 := by
  unfold fac
  split
  · exact mu_ne (by omega)
  · rfl
theorem fst1_64 {Q : rQ} {f : Nat → Nat} {i : Nat} (hi : i < 28) : fst1 Q f i 64 = f 64 := by
  unfold fst1 fstep
  split
  · split
    · exact fe_64 hi
    · split
      · rw [fac_64 hi, fsh_64 hi]
      · exact fsh_64 hi
  · rfl
theorem fwk0_64 {Q : rQ} {f : Nat → Nat} : fwk0 Q f 64 = f 64 := mr_it_inv (I := fun _ (f' : Nat → Nat) => f' 64 = f 64) rfl (fun i a hi h => (fst1_64 hi).trans h)
theorem fwk_64 {Q : rQ} {f : Nat → Nat} : fwk Q f 64 = f 64 := by
  unfold fwk
  rw [mu_ne (by omega)]; exact fwk0_64
theorem fwks_64 {Q : rQ} {f : Nat → Nat} (n : Nat) : fwks Q f n 64 = f 64 := mr_it_inv (I := fun _ (f' : Nat → Nat) => f' 64 = f 64) rfl (fun i a hi h => fwk_64.trans h)
/-- the week's number -/
theorem wf_54 {f : Nat → Nat} {L v : Nat} (hw : wf f L) (hv : v < 2147483648) : wf (mr_u f 54 v) L := by
  have e : ∀ j, ¬ j = 54 → mr_u f 54 v j = f j := fun j hj => mu_ne hj
  refine ⟨mu_lt (wf_lt hw) hv, ?_, ?_, ?_, ?_, ?_, ?_⟩
  · rw [e 55 (by omega)]; exact wf_n hw
  · rw [e 55 (by omega), e 52 (by omega), e 53 (by omega)]; exact ⟨wf_L hw, wf_l hw, wf_w hw⟩
  · intro p hp; rw [e p (by omega), e (8 + p) (by omega)]; exact ⟨wf_p hw hp, wf_d hw hp⟩
  · intro p q hp hq
    unfold fs at hq ⊢
    rw [e (16 + p) (by omega)] at hq
    obtain ⟨h1, h2, h3, h4⟩ := wf_s hw hp hq
    rw [e (16 + q) (by omega), e 52 (by omega)]
    exact ⟨h1, h2, h3, h4⟩
  · intro i hi; unfold fh fw fc; rw [e (24 + i) (by omega)]; exact wf_q hw hi
  · intro p hp q
    have : fhp (mr_u f 54 v) p q = fhp f p q ∨ ¬ q < 8 := by
      by_cases hq : q < 8
      · left
        unfold fhp
        by_cases he : p = q
        · rw [if_pos he, if_pos he]
        · rw [if_neg he, if_neg he]
          have := fp_lt hp hq he
          unfold fh
          rw [e _ (by omega)]
      · right; exact hq
    rw [e (56 + p) (by omega), wf_b hw hp]
    rcases this with h | h
    · rw [h]
    · rw [decide_eq_false h]; rfl
theorem wf_wk {Q : rQ} {f : Nat → Nat} {L : Nat} (hw : wf f L) (h54 : f 54 < 2147483647) : wf (fwk Q f) L := wf_54 (wf_wk0 hw) (by rw [fwk0_o (by omega)]; omega)
theorem fwk_54 {Q : rQ} {f : Nat → Nat} : fwk Q f 54 = f 54 + 1 := by
  unfold fwk; rw [mu_eq, fwk0_o (by omega)]
theorem fwk_o {Q : rQ} {f : Nat → Nat} {j : Nat} (hj : j < 24 ∨ j = 52 ∨ j = 53 ∨ j = 55) : fwk Q f j = f j := by
  unfold fwk; rw [mu_ne (by omega), fwk0_o (by omega)]
theorem fwks_54 {Q : rQ} {f : Nat → Nat} : ∀ n, fwks Q f n 54 = f 54 + n
  | 0 => rfl
  | n + 1 => by
    show fwk Q (fwks Q f n) 54 = _
    rw [fwk_54, fwks_54 n]; rfl
theorem fwks_o {Q : rQ} {f : Nat → Nat} {j : Nat} (hj : j < 24 ∨ j = 52 ∨ j = 53 ∨ j = 55) (n : Nat) : fwks Q f n j = f j := mr_it_inv (I := fun _ (f' : Nat → Nat) => f' j = f j) rfl (fun i a hi h => (fwk_o hj).trans h)
theorem wf_wks {Q : rQ} {f : Nat → Nat} {L : Nat} (hw : wf f L) : ∀ n, f 54 + n < 2147483647 → wf (fwks Q f n) L
  | 0, _ => hw
  | n + 1, h => wf_wk (wf_wks hw n (by omega)) (by have := fwks_54 (Q := Q) (f := f) n; unfold fwks at this; omega)
section
variable {X : mj_X} {d k : Nat} {s : mw_S} {f : Nat → Nat} {L : Nat} {Q : rQ}
theorem mr_k (hk : mw_cl k = some 3) : ¬ 20 = k + 1 ∧ ¬ 21 = k + 1 ∧ ¬ 18 = k + 1 ∧ ¬ 19 = k + 1 := by
  rcases mw_is3 hk with h | h | h | h | h <;> subst h <;> decide
theorem c116 (hq : rC s 18 Q) : mj_call X d 116 [.ref 18] (mw_U s) = some (.inl (some (.int (nI (decide (0 < Q.2.1)).toNat))), mw_U s) := by
  have k18 := mw_c_18
  by_cases h : Q.2.1 = 0
  · have e := hq.1 h
    simp (disch := first | assumption | exact hf _ | omega) only [b116, b116_0, b116_8, b116_12, b116_13, nI_add, mn_mul, mn_sub, mn_m1, mn_m8, mn_eq, mn_lt, mn_le, mn_eq0, mn_0eq, mn_lt0, mn_0lt, mn_le0, mn_0le, mn_eqm, mn_meq, mn_ltm, mn_mlt, mn_lem, mn_mle, mn_mm1, mn_mm2, mn_mm3, mn_mm4, mn_mm5, mn_mm6, mn_and, mn_or, mn_an, mn_shl, mn_shr, mn_div, mn_rem, mn_clamp, mn_in, mn_inm, mn_nz, mn_zo, mn_min, mn_max, mn_abs, mn_rfit, mn_cp, mn_les, mn_gre, mn_a127, mn_a15, mn_a1, mn_a255, mn_tn0, mn_tn0e, mn_tnr, mn_tnz, mr_get, mr_ne, mr_put, mu_ne, mu_eq, mj_bk_i, mj_bk_v, mj_bk_x, decide_eq_true_eq, decide_true, decide_false, Bool.false_eq_true, Bool.true_eq_false, reduceCtorEq, mt_le_t, mt_le_f, mt_lt_t, mt_lt_f, mt_eq_t, mt_eq_f, mt_ee, not_true_eq_false, not_false_eq_true, and_true, true_and, and_self, Nat.zero_add, Nat.add_zero, Nat.one_mul, Nat.mul_one, Nat.reduceAdd, Nat.reduceMul, Nat.reduceSub, Nat.reducePow, Nat.reduceDiv, Nat.reduceMod, ↓reduceIte, e, h, Nat.lt_irrefl]
    rfl
  · obtain ⟨a, h1, h2, -⟩ := hq.2.1 (by omega)
    simp (disch := first | assumption | exact hf _ | omega) only [b116, b116_0, b116_8, b116_12, b116_13, nI_add, mn_mul, mn_sub, mn_m1, mn_m8, mn_eq, mn_lt, mn_le, mn_eq0, mn_0eq, mn_lt0, mn_0lt, mn_le0, mn_0le, mn_eqm, mn_meq, mn_ltm, mn_mlt, mn_lem, mn_mle, mn_mm1, mn_mm2, mn_mm3, mn_mm4, mn_mm5, mn_mm6, mn_and, mn_or, mn_an, mn_shl, mn_shr, mn_div, mn_rem, mn_clamp, mn_in, mn_inm, mn_nz, mn_zo, mn_min, mn_max, mn_abs, mn_rfit, mn_cp, mn_les, mn_gre, mn_a127, mn_a15, mn_a1, mn_a255, mn_tn0, mn_tn0e, mn_tnr, mn_tnz, mr_get, mr_ne, mr_put, mu_ne, mu_eq, mj_bk_i, mj_bk_v, mj_bk_x, decide_eq_true_eq, decide_true, decide_false, Bool.false_eq_true, Bool.true_eq_false, reduceCtorEq, mt_le_t, mt_le_f, mt_lt_t, mt_lt_f, mt_eq_t, mt_eq_f, mt_ee, not_true_eq_false, not_false_eq_true, and_true, true_and, and_self, Nat.zero_add, Nat.add_zero, Nat.one_mul, Nat.mul_one, Nat.reduceAdd, Nat.reduceMul, Nat.reduceSub, Nat.reducePow, Nat.reduceDiv, Nat.reduceMod, ↓reduceIte, h2]
    rfl
theorem c120 (hq : rC s 18 Q) : mj_call X d 120 [.ref 18] (mw_U s) = some (.inl (some (.int (nI (decide (0 < Q.2.2.2)).toNat))), mw_U s) := by
  have k18 := mw_c_18
  by_cases h : Q.2.2.2 = 0
  · have e := hq.2.2.1 h
    simp (disch := first | assumption | exact hf _ | omega) only [b120, b120_0, b120_8, b120_12, b120_13, nI_add, mn_mul, mn_sub, mn_m1, mn_m8, mn_eq, mn_lt, mn_le, mn_eq0, mn_0eq, mn_lt0, mn_0lt, mn_le0, mn_0le, mn_eqm, mn_meq, mn_ltm, mn_mlt, mn_lem, mn_mle, mn_mm1, mn_mm2, mn_mm3, mn_mm4, mn_mm5, mn_mm6, mn_and, mn_or, mn_an, mn_shl, mn_shr, mn_div, mn_rem, mn_clamp, mn_in, mn_inm, mn_nz, mn_zo, mn_min, mn_max, mn_abs, mn_rfit, mn_cp, mn_les, mn_gre, mn_a127, mn_a15, mn_a1, mn_a255, mn_tn0, mn_tn0e, mn_tnr, mn_tnz, mr_get, mr_ne, mr_put, mu_ne, mu_eq, mj_bk_i, mj_bk_v, mj_bk_x, decide_eq_true_eq, decide_true, decide_false, Bool.false_eq_true, Bool.true_eq_false, reduceCtorEq, mt_le_t, mt_le_f, mt_lt_t, mt_lt_f, mt_eq_t, mt_eq_f, mt_ee, not_true_eq_false, not_false_eq_true, and_true, true_and, and_self, Nat.zero_add, Nat.add_zero, Nat.one_mul, Nat.mul_one, Nat.reduceAdd, Nat.reduceMul, Nat.reduceSub, Nat.reducePow, Nat.reduceDiv, Nat.reduceMod, ↓reduceIte, e, h, Nat.lt_irrefl]
    rfl
  · obtain ⟨a, h1, h2, -⟩ := hq.2.2.2 (by omega)
    simp (disch := first | assumption | exact hf _ | omega) only [b120, b120_0, b120_8, b120_12, b120_13, nI_add, mn_mul, mn_sub, mn_m1, mn_m8, mn_eq, mn_lt, mn_le, mn_eq0, mn_0eq, mn_lt0, mn_0lt, mn_le0, mn_0le, mn_eqm, mn_meq, mn_ltm, mn_mlt, mn_lem, mn_mle, mn_mm1, mn_mm2, mn_mm3, mn_mm4, mn_mm5, mn_mm6, mn_and, mn_or, mn_an, mn_shl, mn_shr, mn_div, mn_rem, mn_clamp, mn_in, mn_inm, mn_nz, mn_zo, mn_min, mn_max, mn_abs, mn_rfit, mn_cp, mn_les, mn_gre, mn_a127, mn_a15, mn_a1, mn_a255, mn_tn0, mn_tn0e, mn_tnr, mn_tnz, mr_get, mr_ne, mr_put, mu_ne, mu_eq, mj_bk_i, mj_bk_v, mj_bk_x, decide_eq_true_eq, decide_true, decide_false, Bool.false_eq_true, Bool.true_eq_false, reduceCtorEq, mt_le_t, mt_le_f, mt_lt_t, mt_lt_f, mt_eq_t, mt_eq_f, mt_ee, not_true_eq_false, not_false_eq_true, and_true, true_and, and_self, Nat.zero_add, Nat.add_zero, Nat.one_mul, Nat.mul_one, Nat.reduceAdd, Nat.reduceMul, Nat.reduceSub, Nat.reducePow, Nat.reduceDiv, Nat.reduceMod, ↓reduceIte, h2]
    rfl
theorem c115 (hq : rC s 18 Q) (ho : rOK Q) {v : Nat → Int32} (hv : ∀ j, j < 6 → s.1 20 j = v j) : ∃ t, mj_call X (d + 2) 115 [.ref 18] (mw_U s) = some (.inl (some (.int (rch Q v))), mw_U t) ∧ mg s t (fun x => x = 21) := by
  have k18 := mw_c_18
  have v1 := hv 1 (by decide)
  unfold rch
  by_cases h : Q.2.1 = 0
  · refine ⟨s, ?_, mg_refl⟩
    by_cases h2 : v 1 ≤ nI 9
    · simp (disch := first | assumption | exact hf _ | omega) only [b115, b115_0, b115_4, b115_7, b115_18, b115_22, b115_23, b115_24, b115_40, nI_add, mn_mul, mn_sub, mn_m1, mn_m8, mn_eq, mn_lt, mn_le, mn_eq0, mn_0eq, mn_lt0, mn_0lt, mn_le0, mn_0le, mn_eqm, mn_meq, mn_ltm, mn_mlt, mn_lem, mn_mle, mn_mm1, mn_mm2, mn_mm3, mn_mm4, mn_mm5, mn_mm6, mn_and, mn_or, mn_an, mn_shl, mn_shr, mn_div, mn_rem, mn_clamp, mn_in, mn_inm, mn_nz, mn_zo, mn_min, mn_max, mn_abs, mn_rfit, mn_cp, mn_les, mn_gre, mn_a127, mn_a15, mn_a1, mn_a255, mn_tn0, mn_tn0e, mn_tnr, mn_tnz, mr_get, mr_ne, mr_put, mu_ne, mu_eq, mj_bk_i, mj_bk_v, mj_bk_x, decide_eq_true_eq, decide_true, decide_false, Bool.false_eq_true, Bool.true_eq_false, reduceCtorEq, mt_le_t, mt_le_f, mt_lt_t, mt_lt_f, mt_eq_t, mt_eq_f, mt_ee, not_true_eq_false, not_false_eq_true, and_true, true_and, and_self, Nat.zero_add, Nat.add_zero, Nat.one_mul, Nat.mul_one, Nat.reduceAdd, Nat.reduceMul, Nat.reduceSub, Nat.reducePow, Nat.reduceDiv, Nat.reduceMod, ↓reduceIte, c116 hq, h, h2, v1, Nat.lt_irrefl]
    · simp (disch := first | assumption | exact hf _ | omega) only [b115, b115_0, b115_4, b115_7, b115_18, b115_22, b115_23, b115_24, b115_40, nI_add, mn_mul, mn_sub, mn_m1, mn_m8, mn_eq, mn_lt, mn_le, mn_eq0, mn_0eq, mn_lt0, mn_0lt, mn_le0, mn_0le, mn_eqm, mn_meq, mn_ltm, mn_mlt, mn_lem, mn_mle, mn_mm1, mn_mm2, mn_mm3, mn_mm4, mn_mm5, mn_mm6, mn_and, mn_or, mn_an, mn_shl, mn_shr, mn_div, mn_rem, mn_clamp, mn_in, mn_inm, mn_nz, mn_zo, mn_min, mn_max, mn_abs, mn_rfit, mn_cp, mn_les, mn_gre, mn_a127, mn_a15, mn_a1, mn_a255, mn_tn0, mn_tn0e, mn_tnr, mn_tnz, mr_get, mr_ne, mr_put, mu_ne, mu_eq, mj_bk_i, mj_bk_v, mj_bk_x, decide_eq_true_eq, decide_true, decide_false, Bool.false_eq_true, Bool.true_eq_false, reduceCtorEq, mt_le_t, mt_le_f, mt_lt_t, mt_lt_f, mt_eq_t, mt_eq_f, mt_ee, not_true_eq_false, not_false_eq_true, and_true, true_and, and_self, Nat.zero_add, Nat.add_zero, Nat.one_mul, Nat.mul_one, Nat.reduceAdd, Nat.reduceMul, Nat.reduceSub, Nat.reducePow, Nat.reduceDiv, Nat.reduceMod, ↓reduceIte, c116 hq, h, h2, v1, Nat.lt_irrefl]
  · obtain ⟨a, h1, h2, h3, h4⟩ := hq.2.1 (by omega)
    obtain ⟨t, e, hg⟩ := c117 (X := X) (d := d) (v := v) h1 (ho.1 (by omega)) h4 hv
    refine ⟨t, ?_, hg⟩
    simp (disch := first | assumption | exact hf _ | omega) only [b115, b115_0, b115_4, b115_7, b115_18, b115_22, b115_23, b115_24, b115_40, nI_add, mn_mul, mn_sub, mn_m1, mn_m8, mn_eq, mn_lt, mn_le, mn_eq0, mn_0eq, mn_lt0, mn_0lt, mn_le0, mn_0le, mn_eqm, mn_meq, mn_ltm, mn_mlt, mn_lem, mn_mle, mn_mm1, mn_mm2, mn_mm3, mn_mm4, mn_mm5, mn_mm6, mn_and, mn_or, mn_an, mn_shl, mn_shr, mn_div, mn_rem, mn_clamp, mn_in, mn_inm, mn_nz, mn_zo, mn_min, mn_max, mn_abs, mn_rfit, mn_cp, mn_les, mn_gre, mn_a127, mn_a15, mn_a1, mn_a255, mn_tn0, mn_tn0e, mn_tnr, mn_tnz, mr_get, mr_ne, mr_put, mu_ne, mu_eq, mj_bk_i, mj_bk_v, mj_bk_x, decide_eq_true_eq, decide_true, decide_false, Bool.false_eq_true, Bool.true_eq_false, reduceCtorEq, mt_le_t, mt_le_f, mt_lt_t, mt_lt_f, mt_eq_t, mt_eq_f, mt_ee, not_true_eq_false, not_false_eq_true, and_true, true_and, and_self, Nat.zero_add, Nat.add_zero, Nat.one_mul, Nat.mul_one, Nat.reduceAdd, Nat.reduceMul, Nat.reduceSub, Nat.reducePow, Nat.reduceDiv, Nat.reduceMod, ↓reduceIte, c116 hq, h, h2, h3, e, show 0 < Q.2.1 by omega]
theorem c119 (hq : rC s 18 Q) (ho : rOK Q) {v : Nat → Int32} (hv : ∀ j, j < 6 → s.1 20 j = v j) : ∃ t, mj_call X (d + 2) 119 [.ref 18] (mw_U s) = some (.inl (some (.int (nI (rcu Q v).toNat))), mw_U t) ∧ mg s t (fun x => x = 21) := by
  have k18 := mw_c_18
  have v0 := hv 0 (by decide)
  unfold rcu
  by_cases h : Q.2.2.2 = 0
  · refine ⟨s, ?_, mg_refl⟩
    by_cases h2 : v 0 < nI 20
    · simp (disch := first | assumption | exact hf _ | omega) only [b119, b119_0, b119_4, b119_7, b119_19, b119_22, b119_26, b119_30, b119_41, b119_45, b119_46, nI_add, mn_mul, mn_sub, mn_m1, mn_m8, mn_eq, mn_lt, mn_le, mn_eq0, mn_0eq, mn_lt0, mn_0lt, mn_le0, mn_0le, mn_eqm, mn_meq, mn_ltm, mn_mlt, mn_lem, mn_mle, mn_mm1, mn_mm2, mn_mm3, mn_mm4, mn_mm5, mn_mm6, mn_and, mn_or, mn_an, mn_shl, mn_shr, mn_div, mn_rem, mn_clamp, mn_in, mn_inm, mn_nz, mn_zo, mn_min, mn_max, mn_abs, mn_rfit, mn_cp, mn_les, mn_gre, mn_a127, mn_a15, mn_a1, mn_a255, mn_tn0, mn_tn0e, mn_tnr, mn_tnz, mr_get, mr_ne, mr_put, mu_ne, mu_eq, mj_bk_i, mj_bk_v, mj_bk_x, decide_eq_true_eq, decide_true, decide_false, Bool.false_eq_true, Bool.true_eq_false, reduceCtorEq, mt_le_t, mt_le_f, mt_lt_t, mt_lt_f, mt_eq_t, mt_eq_f, mt_ee, not_true_eq_false, not_false_eq_true, and_true, true_and, and_self, Nat.zero_add, Nat.add_zero, Nat.one_mul, Nat.mul_one, Nat.reduceAdd, Nat.reduceMul, Nat.reduceSub, Nat.reducePow, Nat.reduceDiv, Nat.reduceMod, ↓reduceIte, c120 hq, h, h2, v0, Nat.lt_irrefl, Bool.toNat_false]
    · simp (disch := first | assumption | exact hf _ | omega) only [b119, b119_0, b119_4, b119_7, b119_19, b119_22, b119_26, b119_30, b119_41, b119_45, b119_46, nI_add, mn_mul, mn_sub, mn_m1, mn_m8, mn_eq, mn_lt, mn_le, mn_eq0, mn_0eq, mn_lt0, mn_0lt, mn_le0, mn_0le, mn_eqm, mn_meq, mn_ltm, mn_mlt, mn_lem, mn_mle, mn_mm1, mn_mm2, mn_mm3, mn_mm4, mn_mm5, mn_mm6, mn_and, mn_or, mn_an, mn_shl, mn_shr, mn_div, mn_rem, mn_clamp, mn_in, mn_inm, mn_nz, mn_zo, mn_min, mn_max, mn_abs, mn_rfit, mn_cp, mn_les, mn_gre, mn_a127, mn_a15, mn_a1, mn_a255, mn_tn0, mn_tn0e, mn_tnr, mn_tnz, mr_get, mr_ne, mr_put, mu_ne, mu_eq, mj_bk_i, mj_bk_v, mj_bk_x, decide_eq_true_eq, decide_true, decide_false, Bool.false_eq_true, Bool.true_eq_false, reduceCtorEq, mt_le_t, mt_le_f, mt_lt_t, mt_lt_f, mt_eq_t, mt_eq_f, mt_ee, not_true_eq_false, not_false_eq_true, and_true, true_and, and_self, Nat.zero_add, Nat.add_zero, Nat.one_mul, Nat.mul_one, Nat.reduceAdd, Nat.reduceMul, Nat.reduceSub, Nat.reducePow, Nat.reduceDiv, Nat.reduceMod, ↓reduceIte, c120 hq, h, h2, v0, Nat.lt_irrefl, Bool.toNat_true]
  · obtain ⟨a, h1, h2, h3, h4⟩ := hq.2.2.2 (by omega)
    obtain ⟨t, e, hg⟩ := c117 (X := X) (d := d) (v := v) h1 (ho.2 (by omega)) h4 hv
    refine ⟨t, ?_, hg⟩
    by_cases h5 : rv v Q.2.2.1 Q.2.2.2 ≤ 0
    · simp (disch := first | assumption | exact hf _ | omega) only [b119, b119_0, b119_4, b119_7, b119_19, b119_22, b119_26, b119_30, b119_41, b119_45, b119_46, nI_add, mn_mul, mn_sub, mn_m1, mn_m8, mn_eq, mn_lt, mn_le, mn_eq0, mn_0eq, mn_lt0, mn_0lt, mn_le0, mn_0le, mn_eqm, mn_meq, mn_ltm, mn_mlt, mn_lem, mn_mle, mn_mm1, mn_mm2, mn_mm3, mn_mm4, mn_mm5, mn_mm6, mn_and, mn_or, mn_an, mn_shl, mn_shr, mn_div, mn_rem, mn_clamp, mn_in, mn_inm, mn_nz, mn_zo, mn_min, mn_max, mn_abs, mn_rfit, mn_cp, mn_les, mn_gre, mn_a127, mn_a15, mn_a1, mn_a255, mn_tn0, mn_tn0e, mn_tnr, mn_tnz, mr_get, mr_ne, mr_put, mu_ne, mu_eq, mj_bk_i, mj_bk_v, mj_bk_x, decide_eq_true_eq, decide_true, decide_false, Bool.false_eq_true, Bool.true_eq_false, reduceCtorEq, mt_le_t, mt_le_f, mt_lt_t, mt_lt_f, mt_eq_t, mt_eq_f, mt_ee, not_true_eq_false, not_false_eq_true, and_true, true_and, and_self, Nat.zero_add, Nat.add_zero, Nat.one_mul, Nat.mul_one, Nat.reduceAdd, Nat.reduceMul, Nat.reduceSub, Nat.reducePow, Nat.reduceDiv, Nat.reduceMod, ↓reduceIte, c120 hq, h, h2, h3, e, h5, show 0 < Q.2.2.2 by omega, Bool.toNat_false]
    · simp (disch := first | assumption | exact hf _ | omega) only [b119, b119_0, b119_4, b119_7, b119_19, b119_22, b119_26, b119_30, b119_41, b119_45, b119_46, nI_add, mn_mul, mn_sub, mn_m1, mn_m8, mn_eq, mn_lt, mn_le, mn_eq0, mn_0eq, mn_lt0, mn_0lt, mn_le0, mn_0le, mn_eqm, mn_meq, mn_ltm, mn_mlt, mn_lem, mn_mle, mn_mm1, mn_mm2, mn_mm3, mn_mm4, mn_mm5, mn_mm6, mn_and, mn_or, mn_an, mn_shl, mn_shr, mn_div, mn_rem, mn_clamp, mn_in, mn_inm, mn_nz, mn_zo, mn_min, mn_max, mn_abs, mn_rfit, mn_cp, mn_les, mn_gre, mn_a127, mn_a15, mn_a1, mn_a255, mn_tn0, mn_tn0e, mn_tnr, mn_tnz, mr_get, mr_ne, mr_put, mu_ne, mu_eq, mj_bk_i, mj_bk_v, mj_bk_x, decide_eq_true_eq, decide_true, decide_false, Bool.false_eq_true, Bool.true_eq_false, reduceCtorEq, mt_le_t, mt_le_f, mt_lt_t, mt_lt_f, mt_eq_t, mt_eq_f, mt_ee, not_true_eq_false, not_false_eq_true, and_true, true_and, and_self, Nat.zero_add, Nat.add_zero, Nat.one_mul, Nat.mul_one, Nat.reduceAdd, Nat.reduceMul, Nat.reduceSub, Nat.reducePow, Nat.reduceDiv, Nat.reduceMod, ↓reduceIte, c120 hq, h, h2, h3, e, h5, show 0 < Q.2.2.2 by omega, Bool.toNat_true]
theorem c114 (hk : mw_cl k = some 3) (hw : wf f L) {i : Nat} (hi : i < 28) : ∃ t, mj_call X (d + 2) 114 [.ref 18, .ref k, .int (nI i)] (mw_U (mr_set s (k + 1) 64 f)) = some (.inl none, mw_U (mr_set t (k + 1) 64 f)) ∧ mg s t (fun x => x = 20) ∧ ∀ j, j < 6 → t.1 20 j = rvl f i j := by
  have k18 := mw_c_18
  have r20 := mw_r_20
  have hk4 := mr_k hk
  have hf := wf_lt hw
  have hlg := mn_lg hi
  have hn1 := wf_p hw (show mn_l i < 8 by omega)
  have hn2 := wf_p hw (show mn_g i < 8 by omega)
  have ht1 := wf_t hw (show mn_l i < 8 by omega)
  have ht2 := wf_t hw (show mn_g i < 8 by omega)
  have e1 : ∀ {s : mw_S}, mj_call X (d + 1) 348 [.int (nI (f (56 + mn_l i)))] (mw_U s) = some (.inl (some (.int (nI (fn_cnt (f (56 + mn_l i)))))), mw_U s) := c348 (by omega)
  have e2 : ∀ {s : mw_S}, mj_call X (d + 1) 348 [.int (nI (f (56 + mn_g i)))] (mw_U s) = some (.inl (some (.int (nI (fn_cnt (f (56 + mn_g i)))))), mw_U s) := c348 (by omega)
  refine ⟨mw_p (mw_p (mw_p (mw_p (mw_p (mw_p s 20 0 (rvl f i 0)) 20 1 (rvl f i 1)) 20 2 (rvl f i 2)) 20 3 (rvl f i 3)) 20 4 (rvl f i 4)) 20 5 (rvl f i 5), ?_, mg_p (mg_p (mg_p (mg_p (mg_p (mg_p mg_refl rfl) rfl) rfl) rfl) rfl) rfl, ?_⟩
  · simp (disch := first | assumption | exact hf _ | omega) only [b114, b114_0, b114_4, b114_10, b114_11, b114_34, b114_45, b114_51, b114_63, b114_69, b114_84, b114_87, b114_93, b114_96, b114_110, b114_120, nI_add, mn_mul, mn_sub, mn_m1, mn_m8, mn_eq, mn_lt, mn_le, mn_eq0, mn_0eq, mn_lt0, mn_0lt, mn_le0, mn_0le, mn_eqm, mn_meq, mn_ltm, mn_mlt, mn_lem, mn_mle, mn_mm1, mn_mm2, mn_mm3, mn_mm4, mn_mm5, mn_mm6, mn_and, mn_or, mn_an, mn_shl, mn_shr, mn_div, mn_rem, mn_clamp, mn_in, mn_inm, mn_nz, mn_zo, mn_min, mn_max, mn_abs, mn_rfit, mn_cp, mn_les, mn_gre, mn_a127, mn_a15, mn_a1, mn_a255, mn_tn0, mn_tn0e, mn_tnr, mn_tnz, mr_get, mr_ne, mr_put, mu_ne, mu_eq, mj_bk_i, mj_bk_v, mj_bk_x, decide_eq_true_eq, decide_true, decide_false, Bool.false_eq_true, Bool.true_eq_false, reduceCtorEq, mt_le_t, mt_le_f, mt_lt_t, mt_lt_f, mt_eq_t, mt_eq_f, mt_ee, not_true_eq_false, not_false_eq_true, and_true, true_and, and_self, Nat.zero_add, Nat.add_zero, Nat.one_mul, Nat.mul_one, Nat.reduceAdd, Nat.reduceMul, Nat.reduceSub, Nat.reducePow, Nat.reduceDiv, Nat.reduceMod, ↓reduceIte, c37 hk hf hi, c38 hk hf (show mn_l i < 8 by omega), c38 hk hf (show mn_g i < 8 by omega), c40 hk hf (show mn_l i < 8 by omega), c40 hk hf (show mn_g i < 8 by omega), c41 hk hf hi, c34 hk hf, e1, e2, mr_putne hk4.1]
    rfl
  · intro j hj
    have : j = 0 ∨ j = 1 ∨ j = 2 ∨ j = 3 ∨ j = 4 ∨ j = 5 := by omega
    rcases this with rfl | rfl | rfl | rfl | rfl | rfl <;> rfl
theorem mg_un {t1 t2 : mw_S} {P : Nat → Prop} {K n : Nat} {f : Nat → Nat} (h : mg (mr_set t1 K n f) t2 P) (hK : ¬ P K) : ∃ t3, t2 = mr_set t3 K n f ∧ mg t1 t3 P := by
  refine ⟨(fun a b => if a = K then t1.1 a b else t2.1 a b, t2.2), ?_, h.1, ?_⟩
  · refine Prod.ext ?_ rfl
    funext a b
    show t2.1 a b = if a = K ∧ b < n then nI (f b) else if a = K then t1.1 a b else t2.1 a b
    by_cases ha : a = K
    · subst ha
      rw [h.2 a hK]
      show (if a = a ∧ b < n then nI (f b) else t1.1 a b) = _
      by_cases hb : b < n
      · rw [if_pos ⟨rfl, hb⟩, if_pos ⟨rfl, hb⟩]
      · rw [if_neg (fun z => hb z.2), if_neg (fun z => hb z.2), if_pos rfl]
    · rw [if_neg (fun z => ha z.1), if_neg ha]
  · intro a ha
    funext b
    show (if a = K then t1.1 a b else t2.1 a b) = t1.1 a b
    by_cases hk : a = K
    · rw [if_pos hk]
    · rw [if_neg hk, h.2 a ha]
      exact mr_ne hk
theorem c113 (hk : mw_cl k = some 3) (hw : wf f L) (hq : rC s 18 Q) (ho : rOK Q) {i : Nat} (hi : i < 28) (h0 : 0 < fh f i) : ∃ t, mj_call X (d + 3) 113 [.ref 18, .ref k, .int (nI i)] (mw_U (mr_set s (k + 1) 64 f)) = some (.inl none, mw_U (mr_set t (k + 1) 64 (fstep Q f i))) ∧ mg s t (fun x => x = 20 ∨ x = 21) := by
  have k18 := mw_c_18
  have hk4 := mr_k hk
  have hf := wf_lt hw
  obtain ⟨t1, e1, g1, v1⟩ := c114 (X := X) (d := d) (s := s) hk hw hi
  have m1 : mg s t1 (fun x => x = 20 ∨ x = 21) := mg_mono g1 (fun a h => Or.inl h)
  have q0 : ∀ {t : mw_S} {g : Nat → Nat}, mg s t (fun x => x = 20 ∨ x = 21) → rC (mr_set t (k + 1) 64 g) 18 Q := fun h => rC_mg (rC_mg hq h (by decide) (by decide)) (mg_set (P := fun x => x = k + 1) mg_refl rfl) (by omega) (by omega)
  have v1' : ∀ j, j < 6 → (mr_set t1 (k + 1) 64 f).1 20 j = rvl f i j := fun j hj => by rw [mr_ne hk4.1]; exact v1 j hj
  obtain ⟨t2, e2, g2⟩ := c115 (X := X) (d := d) (q0 m1) ho v1'
  obtain ⟨t3, rfl, g3⟩ := mg_un g2 (by omega)
  have m3 : mg s t3 (fun x => x = 20 ∨ x = 21) := mg_trans m1 (mg_mono g3 (fun a h => Or.inr h))
  have v10 : t1.1 20 0 = nI (fh f i) := v1 0 (by decide)
  have hfh := fh_lt f i
  have hr := rch_r Q (rvl f i)
  obtain ⟨n1, n2⟩ := rnh_e (h := fh f i) (x := rch Q (rvl f i)) hfh hr.1 hr.2
  have n3 : min 99 ((fh f i : Int) + (rch Q (rvl f i)).toInt).toNat = rnh Q f i := rfl
  rw [n3] at n1 n2
  have h99 := rnh_lt Q f i
  unfold fstep
  by_cases hz : rnh Q f i = 0
  · refine ⟨t3, ?_, m3⟩
    rw [if_pos hz]
    rw [hz] at n1
    simp (disch := first | assumption | exact hf _ | omega) only [b113, b113_0, b113_6, b113_18, b113_27, b113_32, b113_33, b113_39, b113_50, b113_53, b113_58, nI_add, mn_mul, mn_sub, mn_m1, mn_m8, mn_eq, mn_lt, mn_le, mn_eq0, mn_0eq, mn_lt0, mn_0lt, mn_le0, mn_0le, mn_eqm, mn_meq, mn_ltm, mn_mlt, mn_lem, mn_mle, mn_mm1, mn_mm2, mn_mm3, mn_mm4, mn_mm5, mn_mm6, mn_and, mn_or, mn_an, mn_shl, mn_shr, mn_div, mn_rem, mn_clamp, mn_in, mn_inm, mn_nz, mn_zo, mn_min, mn_max, mn_abs, mn_rfit, mn_cp, mn_les, mn_gre, mn_a127, mn_a15, mn_a1, mn_a255, mn_tn0, mn_tn0e, mn_tnr, mn_tnz, mr_get, mr_ne, mr_put, mu_ne, mu_eq, mj_bk_i, mj_bk_v, mj_bk_x, decide_eq_true_eq, decide_true, decide_false, Bool.false_eq_true, Bool.true_eq_false, reduceCtorEq, mt_le_t, mt_le_f, mt_lt_t, mt_lt_f, mt_eq_t, mt_eq_f, mt_ee, not_true_eq_false, not_false_eq_true, and_true, true_and, and_self, Nat.zero_add, Nat.add_zero, Nat.one_mul, Nat.mul_one, Nat.reduceAdd, Nat.reduceMul, Nat.reduceSub, Nat.reducePow, Nat.reduceDiv, Nat.reduceMod, ↓reduceIte, e1, e2, v10, mr_ne hk4.1, n1, Nat.lt_irrefl, c42 hk hf hi]
  · rw [if_neg hz]
    have n4 := n2 (by omega)
    have n5 : 0 < mw_min (nI 99) (nI (fh f i) + rch Q (rvl f i)) := by rw [n1]; omega
    have hf1 : ∀ j, fsh f i (rnh Q f i) j < 2147483648 := fsh_lt hf (by omega)
    have v4 : ∀ j, j < 6 → (mr_set (mw_p t3 20 0 (nI (rnh Q f i))) (k + 1) 64 (fsh f i (rnh Q f i))).1 20 j = rvl (fsh f i (rnh Q f i)) i j := by
      intro j hj
      rw [mr_ne hk4.1, rvl_fsh hi (by omega), mw_p1]
      by_cases hj0 : j = 0
      · rw [if_pos ⟨rfl, hj0⟩, if_pos hj0]
      · rw [if_neg (fun z => hj0 z.2), if_neg hj0, g3.2 20 (by decide)]
        exact v1 j hj
    have m4 : mg s (mw_p t3 20 0 (nI (rnh Q f i))) (fun x => x = 20 ∨ x = 21) := mg_p m3 (Or.inl rfl)
    obtain ⟨t5, e5, g5⟩ := c119 (X := X) (d := d) (q0 m4) ho v4
    obtain ⟨t6, rfl, g6⟩ := mg_un g5 (by omega)
    refine ⟨t6, ?_, mg_trans m4 (mg_mono g6 (fun a h => Or.inr h))⟩
    cases hc : rcu Q (rvl (fsh f i (rnh Q f i)) i)
    · rw [hc] at e5
      simp (disch := first | assumption | exact hf _ | omega) only [b113, b113_0, b113_6, b113_18, b113_27, b113_32, b113_33, b113_39, b113_50, b113_53, b113_58, nI_add, mn_mul, mn_sub, mn_m1, mn_m8, mn_eq, mn_lt, mn_le, mn_eq0, mn_0eq, mn_lt0, mn_0lt, mn_le0, mn_0le, mn_eqm, mn_meq, mn_ltm, mn_mlt, mn_lem, mn_mle, mn_mm1, mn_mm2, mn_mm3, mn_mm4, mn_mm5, mn_mm6, mn_and, mn_or, mn_an, mn_shl, mn_shr, mn_div, mn_rem, mn_clamp, mn_in, mn_inm, mn_nz, mn_zo, mn_min, mn_max, mn_abs, mn_rfit, mn_cp, mn_les, mn_gre, mn_a127, mn_a15, mn_a1, mn_a255, mn_tn0, mn_tn0e, mn_tnr, mn_tnz, mr_get, mr_ne, mr_put, mu_ne, mu_eq, mj_bk_i, mj_bk_v, mj_bk_x, decide_eq_true_eq, decide_true, decide_false, Bool.false_eq_true, Bool.true_eq_false, reduceCtorEq, mt_le_t, mt_le_f, mt_lt_t, mt_lt_f, mt_eq_t, mt_eq_f, mt_ee, not_true_eq_false, not_false_eq_true, and_true, true_and, and_self, Nat.zero_add, Nat.add_zero, Nat.one_mul, Nat.mul_one, Nat.reduceAdd, Nat.reduceMul, Nat.reduceSub, Nat.reducePow, Nat.reduceDiv, Nat.reduceMod, ↓reduceIte, e1, e2, v10, mr_ne hk4.1, n5, n4, c43 hk hf hi (show rnh Q f i < 128 by omega), mr_putne hk4.1, e5, Bool.toNat_false]
    · rw [hc] at e5
      simp (disch := first | assumption | exact hf _ | omega) only [b113, b113_0, b113_6, b113_18, b113_27, b113_32, b113_33, b113_39, b113_50, b113_53, b113_58, nI_add, mn_mul, mn_sub, mn_m1, mn_m8, mn_eq, mn_lt, mn_le, mn_eq0, mn_0eq, mn_lt0, mn_0lt, mn_le0, mn_0le, mn_eqm, mn_meq, mn_ltm, mn_mlt, mn_lem, mn_mle, mn_mm1, mn_mm2, mn_mm3, mn_mm4, mn_mm5, mn_mm6, mn_and, mn_or, mn_an, mn_shl, mn_shr, mn_div, mn_rem, mn_clamp, mn_in, mn_inm, mn_nz, mn_zo, mn_min, mn_max, mn_abs, mn_rfit, mn_cp, mn_les, mn_gre, mn_a127, mn_a15, mn_a1, mn_a255, mn_tn0, mn_tn0e, mn_tnr, mn_tnz, mr_get, mr_ne, mr_put, mu_ne, mu_eq, mj_bk_i, mj_bk_v, mj_bk_x, decide_eq_true_eq, decide_true, decide_false, Bool.false_eq_true, Bool.true_eq_false, reduceCtorEq, mt_le_t, mt_le_f, mt_lt_t, mt_lt_f, mt_eq_t, mt_eq_f, mt_ee, not_true_eq_false, not_false_eq_true, and_true, true_and, and_self, Nat.zero_add, Nat.add_zero, Nat.one_mul, Nat.mul_one, Nat.reduceAdd, Nat.reduceMul, Nat.reduceSub, Nat.reducePow, Nat.reduceDiv, Nat.reduceMod, ↓reduceIte, e1, e2, v10, mr_ne hk4.1, n5, n4, c43 hk hf hi (show rnh Q f i < 128 by omega), mr_putne hk4.1, e5, Bool.toNat_true, c44 hk hf1 hi]
theorem c112 (hk : mw_cl k = some 3) (hw : wf f L) (hq : rC s 18 Q) (ho : rOK Q) {n : Nat} (hn : f 54 + n < 2147483647) : ∃ t, mj_call X (d + 4) 112 [.ref 18, .ref k, .int (nI n)] (mw_U (mr_set s (k + 1) 64 f)) = some (.inl none, mw_U (mr_set t (k + 1) 64 (fwks Q f n))) ∧ mg s t (fun x => x = 20 ∨ x = 21) := by
  have k18 := mw_c_18
  obtain ⟨g, hg, e⟩ := mr_forg (α := Nat → Nat) (γ := mw_S × Option Value) (E := fun i f' g => mj_exec X (d + 4) 112 2 [some (.ref 18), some (.ref k), some (.int (nI n)), some (.int (nI i)), g.2] [] (mw_U (mr_set g.1 (k + 1) 64 f'))) (F := fun _ f' => fwk Q f') (I := fun i f' g => wf f' L ∧ f' 54 = f 54 + i ∧ mg s g.1 (fun x => x = 20 ∨ x = 21)) (N := n) (by
    intro i f' g hi ⟨hw', h54, hmg⟩
    obtain ⟨g, l4⟩ := g
    dsimp only at hmg ⊢
    obtain ⟨g2, ⟨hw2, hmg2⟩, e2⟩ := mr_forg (α := Nat → Nat) (γ := mw_S) (E := fun j f'' g => mj_exec X (d + 4) 112 10 [some (.ref 18), some (.ref k), some (.int (nI n)), some (.int (nI i)), some (.int (nI j))] [] (mw_U (mr_set g (k + 1) 64 f''))) (F := fun j f'' => fst1 Q f'' j) (I := fun _ f'' g => wf f'' L ∧ mg s g (fun x => x = 20 ∨ x = 21)) (N := 28) (by
      intro j f'' g3 hj ⟨hw3, hmg3⟩
      have hf := wf_lt hw3
      have hb := fh_lt f'' j
      rw [b112_10 mw_c_18 hk]
      unfold fst1
      by_cases h0 : 0 < fh f'' j
      · obtain ⟨t4, e4, g4⟩ := c113 (X := X) (d := d) (s := g3) hk hw3 (rC_mg hq hmg3 (by decide) (by decide)) ho hj h0
        refine ⟨t4, ⟨?_, mg_trans hmg3 g4⟩, ?_⟩
        · rw [if_pos h0]; exact wf_step hw3 hj h0
        · simp (disch := first | assumption | exact hf _ | omega) only [b112, b112_0, b112_7, b112_17, b112_23, b112_26, b112_33, b112_39, b112_43, b112_49, nI_add, mn_mul, mn_sub, mn_m1, mn_m8, mn_eq, mn_lt, mn_le, mn_eq0, mn_0eq, mn_lt0, mn_0lt, mn_le0, mn_0le, mn_eqm, mn_meq, mn_ltm, mn_mlt, mn_lem, mn_mle, mn_mm1, mn_mm2, mn_mm3, mn_mm4, mn_mm5, mn_mm6, mn_and, mn_or, mn_an, mn_shl, mn_shr, mn_div, mn_rem, mn_clamp, mn_in, mn_inm, mn_nz, mn_zo, mn_min, mn_max, mn_abs, mn_rfit, mn_cp, mn_les, mn_gre, mn_a127, mn_a15, mn_a1, mn_a255, mn_tn0, mn_tn0e, mn_tnr, mn_tnz, mr_get, mr_ne, mr_put, mu_ne, mu_eq, mj_bk_i, mj_bk_v, mj_bk_x, decide_eq_true_eq, decide_true, decide_false, Bool.false_eq_true, Bool.true_eq_false, reduceCtorEq, mt_le_t, mt_le_f, mt_lt_t, mt_lt_f, mt_eq_t, mt_eq_f, mt_ee, not_true_eq_false, not_false_eq_true, and_true, true_and, and_self, Nat.zero_add, Nat.add_zero, Nat.one_mul, Nat.mul_one, Nat.reduceAdd, Nat.reduceMul, Nat.reduceSub, Nat.reducePow, Nat.reduceDiv, Nat.reduceMod, ↓reduceIte, c36 hk hf hj, h0, e4]
      · refine ⟨g3, ⟨?_, hmg3⟩, ?_⟩
        · rw [if_neg h0]; exact hw3
        · simp (disch := first | assumption | exact hf _ | omega) only [b112, b112_0, b112_7, b112_17, b112_23, b112_26, b112_33, b112_39, b112_43, b112_49, nI_add, mn_mul, mn_sub, mn_m1, mn_m8, mn_eq, mn_lt, mn_le, mn_eq0, mn_0eq, mn_lt0, mn_0lt, mn_le0, mn_0le, mn_eqm, mn_meq, mn_ltm, mn_mlt, mn_lem, mn_mle, mn_mm1, mn_mm2, mn_mm3, mn_mm4, mn_mm5, mn_mm6, mn_and, mn_or, mn_an, mn_shl, mn_shr, mn_div, mn_rem, mn_clamp, mn_in, mn_inm, mn_nz, mn_zo, mn_min, mn_max, mn_abs, mn_rfit, mn_cp, mn_les, mn_gre, mn_a127, mn_a15, mn_a1, mn_a255, mn_tn0, mn_tn0e, mn_tnr, mn_tnz, mr_get, mr_ne, mr_put, mu_ne, mu_eq, mj_bk_i, mj_bk_v, mj_bk_x, decide_eq_true_eq, decide_true, decide_false, Bool.false_eq_true, Bool.true_eq_false, reduceCtorEq, mt_le_t, mt_le_f, mt_lt_t, mt_lt_f, mt_eq_t, mt_eq_f, mt_ee, not_true_eq_false, not_false_eq_true, and_true, true_and, and_self, Nat.zero_add, Nat.add_zero, Nat.one_mul, Nat.mul_one, Nat.reduceAdd, Nat.reduceMul, Nat.reduceSub, Nat.reducePow, Nat.reduceDiv, Nat.reduceMod, ↓reduceIte, c36 hk hf hj, h0]) (a := f') (g := g) ⟨hw', hmg⟩ 28 (Nat.le_refl 28)
    have hf2 := wf_lt hw2
    refine ⟨(g2, some (.int (nI 28))), ⟨wf_wk hw' (by omega), by rw [fwk_54]; omega, hmg2⟩, ?_⟩
    dsimp only at e2 ⊢
    rw [b112_2 mw_c_18 hk]
    simp (disch := first | assumption | exact hf _ | omega) only [mn_le, mt_le_f, ↓reduceIte, b112_7]
    refine e2.trans ?_
    rw [b112_10 mw_c_18 hk]
    simp (disch := first | assumption | exact hf _ | omega) only [b112, b112_0, b112_7, b112_17, b112_23, b112_26, b112_33, b112_39, b112_43, b112_49, nI_add, mn_mul, mn_sub, mn_m1, mn_m8, mn_eq, mn_lt, mn_le, mn_eq0, mn_0eq, mn_lt0, mn_0lt, mn_le0, mn_0le, mn_eqm, mn_meq, mn_ltm, mn_mlt, mn_lem, mn_mle, mn_mm1, mn_mm2, mn_mm3, mn_mm4, mn_mm5, mn_mm6, mn_and, mn_or, mn_an, mn_shl, mn_shr, mn_div, mn_rem, mn_clamp, mn_in, mn_inm, mn_nz, mn_zo, mn_min, mn_max, mn_abs, mn_rfit, mn_cp, mn_les, mn_gre, mn_a127, mn_a15, mn_a1, mn_a255, mn_tn0, mn_tn0e, mn_tnr, mn_tnz, mr_get, mr_ne, mr_put, mu_ne, mu_eq, mj_bk_i, mj_bk_v, mj_bk_x, decide_eq_true_eq, decide_true, decide_false, Bool.false_eq_true, Bool.true_eq_false, reduceCtorEq, mt_le_t, mt_le_f, mt_lt_t, mt_lt_f, mt_eq_t, mt_eq_f, mt_ee, not_true_eq_false, not_false_eq_true, and_true, true_and, and_self, Nat.zero_add, Nat.add_zero, Nat.one_mul, Nat.mul_one, Nat.reduceAdd, Nat.reduceMul, Nat.reduceSub, Nat.reducePow, Nat.reduceDiv, Nat.reduceMod, ↓reduceIte, c45 hk hf2]
    rfl) (a := f) (g := (s, none)) ⟨hw, rfl, mg_refl⟩ n (Nat.le_refl n)
  obtain ⟨g, l4⟩ := g
  refine ⟨g, ?_, hg.2.2⟩
  rw [b112, b112_0 mw_c_18 hk]
  refine e.trans ?_
  dsimp only
  rw [b112_2 mw_c_18 hk]
  simp (disch := first | assumption | exact hf _ | omega) only [b112, b112_0, b112_7, b112_17, b112_23, b112_26, b112_33, b112_39, b112_43, b112_49, nI_add, mn_mul, mn_sub, mn_m1, mn_m8, mn_eq, mn_lt, mn_le, mn_eq0, mn_0eq, mn_lt0, mn_0lt, mn_le0, mn_0le, mn_eqm, mn_meq, mn_ltm, mn_mlt, mn_lem, mn_mle, mn_mm1, mn_mm2, mn_mm3, mn_mm4, mn_mm5, mn_mm6, mn_and, mn_or, mn_an, mn_shl, mn_shr, mn_div, mn_rem, mn_clamp, mn_in, mn_inm, mn_nz, mn_zo, mn_min, mn_max, mn_abs, mn_rfit, mn_cp, mn_les, mn_gre, mn_a127, mn_a15, mn_a1, mn_a255, mn_tn0, mn_tn0e, mn_tnr, mn_tnz, mr_get, mr_ne, mr_put, mu_ne, mu_eq, mj_bk_i, mj_bk_v, mj_bk_x, decide_eq_true_eq, decide_true, decide_false, Bool.false_eq_true, Bool.true_eq_false, reduceCtorEq, mt_le_t, mt_le_f, mt_lt_t, mt_lt_f, mt_eq_t, mt_eq_f, mt_ee, not_true_eq_false, not_false_eq_true, and_true, true_and, and_self, Nat.zero_add, Nat.add_zero, Nat.one_mul, Nat.mul_one, Nat.reduceAdd, Nat.reduceMul, Nat.reduceSub, Nat.reducePow, Nat.reduceDiv, Nat.reduceMod, ↓reduceIte]
  rfl
theorem c128 (hk : mw_cl k = some 3) (hw : wf f L) (hq : rC s 18 Q) (ho : rOK Q) {i : Nat} (hi : i < 28) : ∃ t, mj_call X (d + 3) 128 [.ref 18, .ref k, .int (nI i)] (mw_U (mr_set s (k + 1) 64 f)) = some (.inl (some (.int (nI (rcu Q (rvl f i)).toNat))), mw_U (mr_set t (k + 1) 64 f)) ∧ mg s t (fun x => x = 20 ∨ x = 21) := by
  have k18 := mw_c_18
  have hk4 := mr_k hk
  have hf := wf_lt hw
  obtain ⟨t1, e1, g1, v1⟩ := c114 (X := X) (d := d) (s := s) hk hw hi
  have m1 : mg s t1 (fun x => x = 20 ∨ x = 21) := mg_mono g1 (fun a h => Or.inl h)
  have q0 : ∀ {t : mw_S} {g : Nat → Nat}, mg s t (fun x => x = 20 ∨ x = 21) → rC (mr_set t (k + 1) 64 g) 18 Q := fun h => rC_mg (rC_mg hq h (by decide) (by decide)) (mg_set (P := fun x => x = k + 1) mg_refl rfl) (by omega) (by omega)
  have v1' : ∀ j, j < 6 → (mr_set t1 (k + 1) 64 f).1 20 j = rvl f i j := fun j hj => by rw [mr_ne hk4.1]; exact v1 j hj
  obtain ⟨t2, e2, g2⟩ := c119 (X := X) (d := d) (q0 m1) ho v1'
  obtain ⟨t3, rfl, g3⟩ := mg_un g2 (by omega)
  refine ⟨t3, ?_, mg_trans m1 (mg_mono g3 (fun a h => Or.inr h))⟩
  cases hc : rcu Q (rvl f i) <;> rw [hc] at e2
  · simp (disch := first | assumption | exact hf _ | omega) only [b128, b128_0, b128_6, b128_10, nI_add, mn_mul, mn_sub, mn_m1, mn_m8, mn_eq, mn_lt, mn_le, mn_eq0, mn_0eq, mn_lt0, mn_0lt, mn_le0, mn_0le, mn_eqm, mn_meq, mn_ltm, mn_mlt, mn_lem, mn_mle, mn_mm1, mn_mm2, mn_mm3, mn_mm4, mn_mm5, mn_mm6, mn_and, mn_or, mn_an, mn_shl, mn_shr, mn_div, mn_rem, mn_clamp, mn_in, mn_inm, mn_nz, mn_zo, mn_min, mn_max, mn_abs, mn_rfit, mn_cp, mn_les, mn_gre, mn_a127, mn_a15, mn_a1, mn_a255, mn_tn0, mn_tn0e, mn_tnr, mn_tnz, mr_get, mr_ne, mr_put, mu_ne, mu_eq, mj_bk_i, mj_bk_v, mj_bk_x, decide_eq_true_eq, decide_true, decide_false, Bool.false_eq_true, Bool.true_eq_false, reduceCtorEq, mt_le_t, mt_le_f, mt_lt_t, mt_lt_f, mt_eq_t, mt_eq_f, mt_ee, not_true_eq_false, not_false_eq_true, and_true, true_and, and_self, Nat.zero_add, Nat.add_zero, Nat.one_mul, Nat.mul_one, Nat.reduceAdd, Nat.reduceMul, Nat.reduceSub, Nat.reducePow, Nat.reduceDiv, Nat.reduceMod, ↓reduceIte, e1, e2, Bool.toNat_false]
  · simp (disch := first | assumption | exact hf _ | omega) only [b128, b128_0, b128_6, b128_10, nI_add, mn_mul, mn_sub, mn_m1, mn_m8, mn_eq, mn_lt, mn_le, mn_eq0, mn_0eq, mn_lt0, mn_0lt, mn_le0, mn_0le, mn_eqm, mn_meq, mn_ltm, mn_mlt, mn_lem, mn_mle, mn_mm1, mn_mm2, mn_mm3, mn_mm4, mn_mm5, mn_mm6, mn_and, mn_or, mn_an, mn_shl, mn_shr, mn_div, mn_rem, mn_clamp, mn_in, mn_inm, mn_nz, mn_zo, mn_min, mn_max, mn_abs, mn_rfit, mn_cp, mn_les, mn_gre, mn_a127, mn_a15, mn_a1, mn_a255, mn_tn0, mn_tn0e, mn_tnr, mn_tnz, mr_get, mr_ne, mr_put, mu_ne, mu_eq, mj_bk_i, mj_bk_v, mj_bk_x, decide_eq_true_eq, decide_true, decide_false, Bool.false_eq_true, Bool.true_eq_false, reduceCtorEq, mt_le_t, mt_le_f, mt_lt_t, mt_lt_f, mt_eq_t, mt_eq_f, mt_ee, not_true_eq_false, not_false_eq_true, and_true, true_and, and_self, Nat.zero_add, Nat.add_zero, Nat.one_mul, Nat.mul_one, Nat.reduceAdd, Nat.reduceMul, Nat.reduceSub, Nat.reducePow, Nat.reduceDiv, Nat.reduceMod, ↓reduceIte, e1, e2, Bool.toNat_true]
end
