/-! rules of the class: worth, change, cutsNow, letWork, letPass -/
abbrev rQ : Type := (Nat → Nat) × Nat × (Nat → Nat) × Nat
def rC (s : mw_S) (K : Nat) (Q : rQ) : Prop :=
  (Q.2.1 = 0 → s.1 K 2 = -1) ∧ (0 < Q.2.1 → ∃ a, a + Q.2.1 ≤ 700 ∧ s.1 K 2 = nI a ∧ s.1 K 3 = nI (a + Q.2.1) ∧ ∀ j, j < Q.2.1 → s.1 (K + 1) (a + j) = rc (Q.1 j)) ∧
  (Q.2.2.2 = 0 → s.1 K 4 = -1) ∧ (0 < Q.2.2.2 → ∃ a, a + Q.2.2.2 ≤ 700 ∧ s.1 K 4 = nI a ∧ s.1 K 5 = nI (a + Q.2.2.2) ∧ ∀ j, j < Q.2.2.2 → s.1 (K + 1) (a + j) = rc (Q.2.2.1 j))
def rOK (Q : rQ) : Prop := (0 < Q.2.1 → rh Q.1 Q.2.1 = some 1) ∧ (0 < Q.2.2.2 → rh Q.2.2.1 Q.2.2.2 = some 1)
theorem rC_mg {s t : mw_S} {K : Nat} {Q : rQ} {P : Nat → Prop} (h : rC s K Q) (hg : mg s t P) (h1 : ¬ P K) (h2 : ¬ P (K + 1)) : rC t K Q := by
  have e1 := hg.2 K h1
  have e2 := hg.2 (K + 1) h2
  unfold rC at h ⊢
  rw [e1, e2]
  exact h
/-- a stack that lies in row K, its top first in l -/
def sk (K : Nat) (t : mw_S) (l : List Int32) : Prop := ∀ m x, l.reverse[m]? = some x → t.1 K m = x
theorem sk_nil {K : Nat} {t : mw_S} : sk K t [] := fun m x h => by simp at h
theorem sk_top {K : Nat} {t : mw_S} {x : Int32} {r : List Int32} (h : sk K t (x :: r)) : t.1 K r.length = x := h _ _ (by rw [List.reverse_cons, List.getElem?_append_right (by simp)]; simp)
theorem sk_pop {K : Nat} {t : mw_S} {x : Int32} {r : List Int32} (h : sk K t (x :: r)) : sk K t r := fun m y hm => h m y (by
  rw [List.reverse_cons, List.getElem?_append_left]
  · exact hm
  · exact (List.getElem?_eq_some_iff.mp hm).1)
theorem sk_push {K : Nat} {t : mw_S} {x : Int32} {r : List Int32} (h : sk K t r) : sk K (mw_p t K r.length x) (x :: r) := by
  intro m y hm
  show (if K = K ∧ m = r.length then x else t.1 K m) = y
  rw [List.reverse_cons] at hm
  by_cases he : m = r.length
  · rw [if_pos ⟨rfl, he⟩]
    subst he
    rw [List.getElem?_append_right (by simp)] at hm
    simpa using hm
  · rw [if_neg (fun z => he z.2)]
    have hl := (List.getElem?_eq_some_iff.mp hm).1
    rw [List.length_append, List.length_reverse, List.length_singleton] at hl
    rw [List.getElem?_append_left (by rw [List.length_reverse]; omega)] at hm
    exact h m y hm
theorem sk_set {K : Nat} {t : mw_S} {x y : Int32} {r : List Int32} (h : sk K t (x :: r)) : sk K (mw_p t K r.length y) (y :: r) := sk_push (sk_pop h)
theorem rc_n {t : Nat} (h : t < 10000) : rc t = nI t := if_pos h
theorem rc_v {t : Nat} (h1 : ¬ t < 10000) (h : t < 10006) : rc t = nI (t - 10000) - nI 6 := by unfold rc; rw [if_neg h1, if_pos h]
theorem rc_o {t : Nat} (h : ¬ t < 10006) : rc t = -(nI (t - 10003)) := by unfold rc; rw [if_neg (by omega), if_neg h]
theorem rc_6n {t : Nat} (h : t < 10000) : (nI t < -6) = False := by
  apply eq_false
  rw [Int32.lt_iff_toInt_lt, nI_toInt (by omega), show (-6 : Int32).toInt = -6 by decide]
  omega
theorem rc_vf : ∀ j, j < 6 → (¬ (nI j - nI 6 < -6)) ∧ nI j - nI 6 < 0 ∧ nI j - nI 6 + nI 6 = nI j := by decide +kernel
theorem rc_of : ∀ m, m < 16 → 7 ≤ m → (-(nI m) < -6) ∧ ((-(nI m) = -7) ↔ m = 7) := by decide +kernel
section
variable {X : mj_X} {d : Nat}
theorem c117 {t : mw_S} {a n : Nat} {c : Nat → Nat} {v : Nat → Int32} (ha : a + n ≤ 700) (hh : rh c n = some 1) (hc : ∀ j, j < n → t.1 19 (a + j) = rc (c j)) (hv : ∀ j, j < 6 → t.1 20 j = v j) : ∃ t', mj_call X (d + 1) 117 [.ref 18, .int (nI a), .int (nI (a + n))] (mw_U t) = some (.inl (some (.int (rv v c n))), mw_U t') ∧ mg t t' (fun x => x = 21) := by
  have k18 := mw_c_18
  have r21 := mw_r_21
  obtain ⟨g, ⟨hsk, hmg⟩, e⟩ := mr_forg (α := Unit) (γ := mw_S × Option Value) (E := fun i _ g => mj_exec X (d + 1) 117 9 [some (.ref 18), some (.int (nI a)), some (.int (nI (a + n))), some (.int (nI (rst v c i).length)), some (.int (nI (a + i))), g.2] [] (mw_U g.1)) (F := fun _ a => a) (I := fun i _ g => sk 21 g.1 (rst v c i) ∧ mg t g.1 (fun x => x = 21)) (N := n) (by
    intro i _ g hi ⟨hsk, hmg⟩
    obtain ⟨g, l5⟩ := g
    obtain ⟨h0, e0⟩ := rh_le hh (show i ≤ n by omega)
    obtain ⟨h1, e1⟩ := rh_le hh (show i + 1 ≤ n by omega)
    have hlen := rst_len (v := v) e0
    rw [rh, e0, Option.bind_some] at e1
    have hst : g.1 19 (a + i) = rc (c i) := by
      rw [hmg.2 19 (by decide)]; exact hc i hi
    have hvv : ∀ j, j < 6 → g.1 20 j = v j := by
      intro j hj
      rw [hmg.2 20 (by decide)]; exact hv j hj
    dsimp only at hsk hmg ⊢
    rw [b117_9 mw_c_18]
    unfold rh1 at e1
    split at e1
    · next h6 =>
      split at e1
      · next h40 =>
        have es : (rst v c (i + 1)) = (if c i < 10000 then nI (c i) else v (c i - 10000)) :: rst v c i := by
          rw [rst]; unfold rs
          split
          · rfl
          · first | rfl | rw [if_pos h6]
        refine ⟨(mw_p g 21 h0 (if c i < 10000 then nI (c i) else v (c i - 10000)), some (.int (rc (c i)))), ⟨?_, mg_p hmg rfl⟩, ?_⟩
        · rw [es, ← hlen]; exact sk_push hsk
        · rw [es, List.length_cons, hlen]
          by_cases hn : c i < 10000
          · simp (disch := first | assumption | exact hf _ | omega) only [b117, b117_0, b117_15, b117_23, b117_39, b117_45, b117_55, b117_60, b117_70, b117_77, b117_84, b117_88, b117_106, b117_110, b117_111, b117_115, b117_120, b117_149, b117_150, b117_156, b117_160, b117_171, b117_172, nI_add, mn_mul, mn_sub, mn_m1, mn_m8, mn_eq, mn_lt, mn_le, mn_eq0, mn_0eq, mn_lt0, mn_0lt, mn_le0, mn_0le, mn_eqm, mn_meq, mn_ltm, mn_mlt, mn_lem, mn_mle, mn_mm1, mn_mm2, mn_mm3, mn_mm4, mn_mm5, mn_mm6, mn_and, mn_or, mn_an, mn_shl, mn_shr, mn_div, mn_rem, mn_clamp, mn_in, mn_inm, mn_nz, mn_zo, mn_min, mn_max, mn_abs, mn_rfit, mn_cp, mn_les, mn_gre, mn_a127, mn_a15, mn_a1, mn_a255, mn_tn0, mn_tn0e, mn_tnr, mn_tnz, mr_get, mr_ne, mr_put, mu_ne, mu_eq, mj_bk_i, mj_bk_v, mj_bk_x, decide_eq_true_eq, decide_true, decide_false, Bool.false_eq_true, Bool.true_eq_false, reduceCtorEq, mt_le_t, mt_le_f, mt_lt_t, mt_lt_f, mt_eq_t, mt_eq_f, mt_ee, not_true_eq_false, not_false_eq_true, and_true, true_and, and_self, Nat.zero_add, Nat.add_zero, Nat.one_mul, Nat.mul_one, Nat.reduceAdd, Nat.reduceMul, Nat.reduceSub, Nat.reducePow, Nat.reduceDiv, Nat.reduceMod, ↓reduceIte, hst, rc_n hn, rc_6n hn, if_pos hn, Nat.add_assoc]
          · obtain ⟨q1, q2, q3⟩ := rc_vf (c i - 10000) (by omega)
            simp (disch := first | assumption | exact hf _ | omega) only [b117, b117_0, b117_15, b117_23, b117_39, b117_45, b117_55, b117_60, b117_70, b117_77, b117_84, b117_88, b117_106, b117_110, b117_111, b117_115, b117_120, b117_149, b117_150, b117_156, b117_160, b117_171, b117_172, nI_add, mn_mul, mn_sub, mn_m1, mn_m8, mn_eq, mn_lt, mn_le, mn_eq0, mn_0eq, mn_lt0, mn_0lt, mn_le0, mn_0le, mn_eqm, mn_meq, mn_ltm, mn_mlt, mn_lem, mn_mle, mn_mm1, mn_mm2, mn_mm3, mn_mm4, mn_mm5, mn_mm6, mn_and, mn_or, mn_an, mn_shl, mn_shr, mn_div, mn_rem, mn_clamp, mn_in, mn_inm, mn_nz, mn_zo, mn_min, mn_max, mn_abs, mn_rfit, mn_cp, mn_les, mn_gre, mn_a127, mn_a15, mn_a1, mn_a255, mn_tn0, mn_tn0e, mn_tnr, mn_tnz, mr_get, mr_ne, mr_put, mu_ne, mu_eq, mj_bk_i, mj_bk_v, mj_bk_x, decide_eq_true_eq, decide_true, decide_false, Bool.false_eq_true, Bool.true_eq_false, reduceCtorEq, mt_le_t, mt_le_f, mt_lt_t, mt_lt_f, mt_eq_t, mt_eq_f, mt_ee, not_true_eq_false, not_false_eq_true, and_true, true_and, and_self, Nat.zero_add, Nat.add_zero, Nat.one_mul, Nat.mul_one, Nat.reduceAdd, Nat.reduceMul, Nat.reduceSub, Nat.reducePow, Nat.reduceDiv, Nat.reduceMod, ↓reduceIte, hst, rc_v hn h6, q1, q2, q3, if_neg hn, hvv _ (show c i - 10000 < 6 by omega), Nat.add_assoc]
      · cases e1
    · next h6 =>
      split at e1
      · next ht =>
        split at e1
        · next h1' =>
          cases hr : rst v c i with
          | nil => rw [hr] at hlen; simp only [List.length_nil] at hlen; omega
          | cons x r =>
            rw [hr] at hlen hsk
            have hl2 : h0 = r.length + 1 := by rw [← hlen, List.length_cons]
            have htop := sk_top hsk
            have es : (rst v c (i + 1)) = (if x = 0 then nI 1 else nI 0) :: r := by
              rw [rst]; unfold rs
              rw [if_neg (by omega), if_neg h6, if_pos ht, hr]
            have hr7 : rc (c i) = -7 := by rw [ht]; decide
            have hb : r.length < 40 := by
              have : h0 ≤ 40 := rh_40 e0
              omega
            refine ⟨(mw_p g 21 r.length (if x = 0 then nI 1 else nI 0), some (.int (-7))), ⟨?_, mg_p hmg rfl⟩, ?_⟩
            · rw [es]; exact sk_set hsk
            · simp only [es, List.length_cons]
              have q1 : ((-7 : Int32) < -6) = True := by decide
              by_cases hx : x = 0
              · simp (disch := first | assumption | exact hf _ | omega) only [b117, b117_0, b117_15, b117_23, b117_39, b117_45, b117_55, b117_60, b117_70, b117_77, b117_84, b117_88, b117_106, b117_110, b117_111, b117_115, b117_120, b117_149, b117_150, b117_156, b117_160, b117_171, b117_172, nI_add, mn_mul, mn_sub, mn_m1, mn_m8, mn_eq, mn_lt, mn_le, mn_eq0, mn_0eq, mn_lt0, mn_0lt, mn_le0, mn_0le, mn_eqm, mn_meq, mn_ltm, mn_mlt, mn_lem, mn_mle, mn_mm1, mn_mm2, mn_mm3, mn_mm4, mn_mm5, mn_mm6, mn_and, mn_or, mn_an, mn_shl, mn_shr, mn_div, mn_rem, mn_clamp, mn_in, mn_inm, mn_nz, mn_zo, mn_min, mn_max, mn_abs, mn_rfit, mn_cp, mn_les, mn_gre, mn_a127, mn_a15, mn_a1, mn_a255, mn_tn0, mn_tn0e, mn_tnr, mn_tnz, mr_get, mr_ne, mr_put, mu_ne, mu_eq, mj_bk_i, mj_bk_v, mj_bk_x, decide_eq_true_eq, decide_true, decide_false, Bool.false_eq_true, Bool.true_eq_false, reduceCtorEq, mt_le_t, mt_le_f, mt_lt_t, mt_lt_f, mt_eq_t, mt_eq_f, mt_ee, not_true_eq_false, not_false_eq_true, and_true, true_and, and_self, Nat.zero_add, Nat.add_zero, Nat.one_mul, Nat.mul_one, Nat.reduceAdd, Nat.reduceMul, Nat.reduceSub, Nat.reducePow, Nat.reduceDiv, Nat.reduceMod, ↓reduceIte, hst, hr7, q1, htop, hx, Nat.add_sub_cancel, Nat.add_assoc]
              · simp (disch := first | assumption | exact hf _ | omega) only [b117, b117_0, b117_15, b117_23, b117_39, b117_45, b117_55, b117_60, b117_70, b117_77, b117_84, b117_88, b117_106, b117_110, b117_111, b117_115, b117_120, b117_149, b117_150, b117_156, b117_160, b117_171, b117_172, nI_add, mn_mul, mn_sub, mn_m1, mn_m8, mn_eq, mn_lt, mn_le, mn_eq0, mn_0eq, mn_lt0, mn_0lt, mn_le0, mn_0le, mn_eqm, mn_meq, mn_ltm, mn_mlt, mn_lem, mn_mle, mn_mm1, mn_mm2, mn_mm3, mn_mm4, mn_mm5, mn_mm6, mn_and, mn_or, mn_an, mn_shl, mn_shr, mn_div, mn_rem, mn_clamp, mn_in, mn_inm, mn_nz, mn_zo, mn_min, mn_max, mn_abs, mn_rfit, mn_cp, mn_les, mn_gre, mn_a127, mn_a15, mn_a1, mn_a255, mn_tn0, mn_tn0e, mn_tnr, mn_tnz, mr_get, mr_ne, mr_put, mu_ne, mu_eq, mj_bk_i, mj_bk_v, mj_bk_x, decide_eq_true_eq, decide_true, decide_false, Bool.false_eq_true, Bool.true_eq_false, reduceCtorEq, mt_le_t, mt_le_f, mt_lt_t, mt_lt_f, mt_eq_t, mt_eq_f, mt_ee, not_true_eq_false, not_false_eq_true, and_true, true_and, and_self, Nat.zero_add, Nat.add_zero, Nat.one_mul, Nat.mul_one, Nat.reduceAdd, Nat.reduceMul, Nat.reduceSub, Nat.reducePow, Nat.reduceDiv, Nat.reduceMod, ↓reduceIte, hst, hr7, q1, htop, hx, Nat.add_sub_cancel, Nat.add_assoc]
        · cases e1
      · next ht =>
        split at e1
        · next h1' =>
          cases hr : rst v c i with
          | nil => rw [hr] at hlen; simp only [List.length_nil] at hlen; omega
          | cons x r' => cases r' with
            | nil => rw [hr] at hlen; simp only [List.length_nil, List.length_cons] at hlen; omega
            | cons y r =>
              rw [hr] at hlen hsk
              have hl2 : h0 = r.length + 2 := by rw [← hlen, List.length_cons, List.length_cons]
              have htop := sk_top hsk
              have htop2 := sk_top (sk_pop hsk)
              rw [List.length_cons] at htop
              have es : (rst v c (i + 1)) = rj (c i) y x :: r := by
                rw [rst]; unfold rs
                rw [if_neg (by omega), if_neg h6, if_neg ht, hr]
              have hb : r.length + 2 ≤ 40 := by
                have : h0 ≤ 40 := rh_40 e0
                omega
              obtain ⟨q1, q2⟩ := rc_of (c i - 10003) (by omega) (by omega)
              rw [← rc_o h6] at q1 q2
              have q3 : ¬ rc (c i) = -7 := fun z => by have := q2.mp z; omega
              refine ⟨(mw_p g 21 r.length (rj (c i) y x), some (.int (rc (c i)))), ⟨?_, mg_p hmg rfl⟩, ?_⟩
              · rw [es]; exact sk_set (sk_pop hsk)
              · simp only [es, List.length_cons]
                have n1 : r.length + 2 - 1 = r.length + 1 := rfl
                have n2 : r.length + 1 - 1 = r.length := rfl
                simp (disch := first | assumption | exact hf _ | omega) only [b117, b117_0, b117_15, b117_23, b117_39, b117_45, b117_55, b117_60, b117_70, b117_77, b117_84, b117_88, b117_106, b117_110, b117_111, b117_115, b117_120, b117_149, b117_150, b117_156, b117_160, b117_171, b117_172, nI_add, mn_mul, mn_sub, mn_m1, mn_m8, mn_eq, mn_lt, mn_le, mn_eq0, mn_0eq, mn_lt0, mn_0lt, mn_le0, mn_0le, mn_eqm, mn_meq, mn_ltm, mn_mlt, mn_lem, mn_mle, mn_mm1, mn_mm2, mn_mm3, mn_mm4, mn_mm5, mn_mm6, mn_and, mn_or, mn_an, mn_shl, mn_shr, mn_div, mn_rem, mn_clamp, mn_in, mn_inm, mn_nz, mn_zo, mn_min, mn_max, mn_abs, mn_rfit, mn_cp, mn_les, mn_gre, mn_a127, mn_a15, mn_a1, mn_a255, mn_tn0, mn_tn0e, mn_tnr, mn_tnz, mr_get, mr_ne, mr_put, mu_ne, mu_eq, mj_bk_i, mj_bk_v, mj_bk_x, decide_eq_true_eq, decide_true, decide_false, Bool.false_eq_true, Bool.true_eq_false, reduceCtorEq, mt_le_t, mt_le_f, mt_lt_t, mt_lt_f, mt_eq_t, mt_eq_f, mt_ee, not_true_eq_false, not_false_eq_true, and_true, true_and, and_self, Nat.zero_add, Nat.add_zero, Nat.one_mul, Nat.mul_one, Nat.reduceAdd, Nat.reduceMul, Nat.reduceSub, Nat.reducePow, Nat.reduceDiv, Nat.reduceMod, ↓reduceIte, hst, q1, q3, htop, htop2, c118 h1'.1 h1'.2.1, n1, n2, Nat.add_assoc]
        · cases e1) (a := ()) (g := (t, none)) ⟨sk_nil, mg_refl⟩ n (Nat.le_refl n)
  obtain ⟨g, l5⟩ := g
  have hlen := rst_len (v := v) hh
  cases hr : rst v c n with
  | nil => rw [hr] at hlen; simp only [List.length_nil] at hlen; omega
  | cons x r =>
    rw [hr] at hlen
    have hr0 : r.length = 0 := by simp only [List.length_cons] at hlen; omega
    dsimp only at hsk hmg e
    rw [hr] at hsk e
    have htop := sk_top hsk
    rw [hr0] at htop
    refine ⟨g, ?_, hmg⟩
    rw [b117, b117_0 mw_c_18]
    have hmax : mw_max (nI 0) (nI a) = nI a := by rw [mn_max (by decide) (by omega), Nat.zero_max]
    rw [hmax]
    refine Eq.trans e ?_
    rw [b117_9 mw_c_18, List.length_cons, hr0]
    unfold rv
    rw [hr]
    simp (disch := first | assumption | exact hf _ | omega) only [b117, b117_0, b117_15, b117_23, b117_39, b117_45, b117_55, b117_60, b117_70, b117_77, b117_84, b117_88, b117_106, b117_110, b117_111, b117_115, b117_120, b117_149, b117_150, b117_156, b117_160, b117_171, b117_172, nI_add, mn_mul, mn_sub, mn_m1, mn_m8, mn_eq, mn_lt, mn_le, mn_eq0, mn_0eq, mn_lt0, mn_0lt, mn_le0, mn_0le, mn_eqm, mn_meq, mn_ltm, mn_mlt, mn_lem, mn_mle, mn_mm1, mn_mm2, mn_mm3, mn_mm4, mn_mm5, mn_mm6, mn_and, mn_or, mn_an, mn_shl, mn_shr, mn_div, mn_rem, mn_clamp, mn_in, mn_inm, mn_nz, mn_zo, mn_min, mn_max, mn_abs, mn_rfit, mn_cp, mn_les, mn_gre, mn_a127, mn_a15, mn_a1, mn_a255, mn_tn0, mn_tn0e, mn_tnr, mn_tnz, mr_get, mr_ne, mr_put, mu_ne, mu_eq, mj_bk_i, mj_bk_v, mj_bk_x, decide_eq_true_eq, decide_true, decide_false, Bool.false_eq_true, Bool.true_eq_false, reduceCtorEq, mt_le_t, mt_le_f, mt_lt_t, mt_lt_f, mt_eq_t, mt_eq_f, mt_ee, not_true_eq_false, not_false_eq_true, and_true, true_and, and_self, Nat.zero_add, Nat.add_zero, Nat.one_mul, Nat.mul_one, Nat.reduceAdd, Nat.reduceMul, Nat.reduceSub, Nat.reducePow, Nat.reduceDiv, Nat.reduceMod, ↓reduceIte, htop, List.headD_cons, Nat.sub_self]
end
