/-! a rule's line in the reference; every line ahead of its ; -/
section
variable {X : mj_X} {d : Nat} {s t t1 t2 t3 : mw_S} {f g : Nat → Nat} {tp : Nat → Nat} {n a : Nat} {σ : YS}
def kR (o : Bool) : Nat := if o then 2 else 1
theorem m203r (o : Bool) (h : YR s tp n a σ) {c : Nat} (hc : c < 4) (h0 : kR o &&& c = 0) (hV : tV tp n a (if o then 14 else 13) = true) (e1 : mj_call X (d + 5) 198 [.ref 42] (mw_U (mp s f)) = some (.inl none, mw_U (mp t1 f))) (e : mj_call X (d + 5) 207 [.ref 42, .int (nI 0)] (mw_U (mp (mw_p t1 42 25 (nI o.toNat)) f)) = some (.inl none, mw_U (mp t2 f))) (e2 : mj_call X (d + 5) 217 [.ref 42, .int (nI 59)] (mw_U (mp t2 f)) = some (.inl none, mw_U (mp t3 f))) : mj_call X (d + 6) 203 [.ref 42, .int (nI c)] (mw_U (mp s f)) = some (.inl (some (.int (nI (c ||| kR o)))), mw_U (mp t3 f)) := by
  have h22 := h.2.1
  obtain ⟨s1, s2, s3, s4⟩ := m205 (X := X) (f := f) h (d + 5) (by omega)
  have s0 := m204 (X := X) (f := f) h (d + 5) (by omega)
  rw [tV_i hV] at s1 s2 s3 s4
  rw [tV_i hV, tV_i hV] at s0
  cases o
  · have h0 : 1 &&& c = 0 := h0
    have s0 : mj_call X (d + 5) 204 [.ref 42, .ref 43] (mw_U (mp s f)) = some (.inl (some (.int (-1))), mw_U (mp s f)) := s0
    have s1 : mj_call X (d + 5) 205 [.ref 42, .ref 1000116] (mw_U (mp s f)) = some (.inl (some (.int (nI 1))), mw_U (mp s f)) := s1
    have e : mj_call X (d + 5) 207 [.ref 42, .int (nI 0)] (mw_U (mp (mw_p t1 42 25 (nI 0)) f)) = some (.inl none, mw_U (mp t2 f)) := e
    show mj_call X (d + 6) 203 [.ref 42, .int (nI c)] (mw_U (mp s f)) = some (.inl (some (.int (nI (c ||| 1)))), mw_U (mp t3 f))
    simp (disch := first | assumption | exact hf _ | omega) only [b203, b203_0, b203_8, b203_16, b203_19, b203_23, b203_30, b203_33, b203_37, b203_38, b203_45, b203_50, b203_54, b203_61, b203_65, b203_71, b203_75, b203_76, b203_84, b203_87, b203_92, b203_97, b203_100, b203_107, b203_110, b203_114, b203_117, b203_124, b203_127, b203_131, b203_134, b203_139, b203_145, nI_add, mn_mul, mn_sub, mn_m1, mn_m8, mn_eq, mn_lt, mn_le, mn_eq0, mn_0eq, mn_lt0, mn_0lt, mn_le0, mn_0le, mn_eqm, mn_meq, mn_ltm, mn_mlt, mn_lem, mn_mle, mn_mm1, mn_mm2, mn_mm3, mn_mm4, mn_mm5, mn_mm6, mn_and, mn_or, mn_an, mn_shl, mn_shr, mn_div, mn_rem, mn_clamp, mn_in, mn_inm, mn_nz, mn_zo, mn_min, mn_max, mn_abs, mn_rfit, mn_cp, mn_les, mn_gre, mn_a127, mn_a15, mn_a1, mn_a255, mn_tn0, mn_tn0e, mn_tnr, mn_tnz, mr_get, mr_ne, mr_put, mu_ne, mu_eq, mj_bk_i, mj_bk_v, mj_bk_x, decide_eq_true_eq, decide_true, decide_false, Bool.false_eq_true, Bool.true_eq_false, reduceCtorEq, mt_le_t, mt_le_f, mt_lt_t, mt_lt_f, mt_eq_t, mt_eq_f, mt_ee, not_true_eq_false, not_false_eq_true, and_true, true_and, and_self, Nat.zero_add, Nat.add_zero, Nat.one_mul, Nat.mul_one, Nat.reduceAdd, Nat.reduceMul, Nat.reduceSub, Nat.reducePow, Nat.reduceDiv, Nat.reduceMod, ↓reduceIte, mp_h, mp_w, mp_c, mp_s, mp_d, mp_n, mp_54, mp_52, mp_55, mp_l, mp_o, mp_42, mp_45, gh_gp, gw_gp, gc_gp, mw_pne, Nat.or_zero, s0, s1, h0, h22, e1, mp_wo, e, e2]
  · have h0 : 2 &&& c = 0 := h0
    have s0 : mj_call X (d + 5) 204 [.ref 42, .ref 43] (mw_U (mp s f)) = some (.inl (some (.int (-1))), mw_U (mp s f)) := s0
    have s1 : mj_call X (d + 5) 205 [.ref 42, .ref 1000116] (mw_U (mp s f)) = some (.inl (some (.int (nI 0))), mw_U (mp s f)) := s1
    have s2 : mj_call X (d + 5) 205 [.ref 42, .ref 1000117] (mw_U (mp s f)) = some (.inl (some (.int (nI 1))), mw_U (mp s f)) := s2
    have e : mj_call X (d + 5) 207 [.ref 42, .int (nI 0)] (mw_U (mp (mw_p t1 42 25 (nI 1)) f)) = some (.inl none, mw_U (mp t2 f)) := e
    show mj_call X (d + 6) 203 [.ref 42, .int (nI c)] (mw_U (mp s f)) = some (.inl (some (.int (nI (c ||| 2)))), mw_U (mp t3 f))
    simp (disch := first | assumption | exact hf _ | omega) only [b203, b203_0, b203_8, b203_16, b203_19, b203_23, b203_30, b203_33, b203_37, b203_38, b203_45, b203_50, b203_54, b203_61, b203_65, b203_71, b203_75, b203_76, b203_84, b203_87, b203_92, b203_97, b203_100, b203_107, b203_110, b203_114, b203_117, b203_124, b203_127, b203_131, b203_134, b203_139, b203_145, nI_add, mn_mul, mn_sub, mn_m1, mn_m8, mn_eq, mn_lt, mn_le, mn_eq0, mn_0eq, mn_lt0, mn_0lt, mn_le0, mn_0le, mn_eqm, mn_meq, mn_ltm, mn_mlt, mn_lem, mn_mle, mn_mm1, mn_mm2, mn_mm3, mn_mm4, mn_mm5, mn_mm6, mn_and, mn_or, mn_an, mn_shl, mn_shr, mn_div, mn_rem, mn_clamp, mn_in, mn_inm, mn_nz, mn_zo, mn_min, mn_max, mn_abs, mn_rfit, mn_cp, mn_les, mn_gre, mn_a127, mn_a15, mn_a1, mn_a255, mn_tn0, mn_tn0e, mn_tnr, mn_tnz, mr_get, mr_ne, mr_put, mu_ne, mu_eq, mj_bk_i, mj_bk_v, mj_bk_x, decide_eq_true_eq, decide_true, decide_false, Bool.false_eq_true, Bool.true_eq_false, reduceCtorEq, mt_le_t, mt_le_f, mt_lt_t, mt_lt_f, mt_eq_t, mt_eq_f, mt_ee, not_true_eq_false, not_false_eq_true, and_true, true_and, and_self, Nat.zero_add, Nat.add_zero, Nat.one_mul, Nat.mul_one, Nat.reduceAdd, Nat.reduceMul, Nat.reduceSub, Nat.reducePow, Nat.reduceDiv, Nat.reduceMod, ↓reduceIte, mp_h, mp_w, mp_c, mp_s, mp_d, mp_n, mp_54, mp_52, mp_55, mp_l, mp_o, mp_42, mp_45, gh_gp, gw_gp, gc_gp, mw_pne, Nat.or_zero, s0, s1, s2, h0, h22, e1, mp_wo, e, e2]
theorem m203t (o : Bool) (h : YR s tp n a σ) {c : Nat} (hc : c < 4) (h0 : ¬ kR o &&& c = 0) (hV : tV tp n a (if o then 14 else 13) = true) (e2 : mj_call X (d + 5) 217 [.ref 42, .int (nI 59)] (mw_U (mp (mw_p (mw_p s 42 22 (nI 5)) 42 23 (nI (tb tp n a))) f)) = some (.inl none, mw_U (mp t2 f))) : mj_call X (d + 6) 203 [.ref 42, .int (nI c)] (mw_U (mp s f)) = some (.inl (some (.int (nI (c ||| kR o)))), mw_U (mp t2 f)) := by
  have h22 := h.2.1
  obtain ⟨s1, s2, s3, s4⟩ := m205 (X := X) (f := f) h (d + 5) (by omega)
  have s0 := m204 (X := X) (f := f) h (d + 5) (by omega)
  rw [tV_i hV] at s1 s2 s3 s4
  rw [tV_i hV, tV_i hV] at s0
  have e := m206 (X := X) (D := d + 5) (f := f) h.1 h.2.1 (k := 5)
  have u1 : mj_call X (d + 5) 205 [.ref 42, .ref 1000121] (mw_U (mp (mw_p (mw_p s 42 22 (nI 5)) 42 23 (nI (tb tp n a))) f)) = some (.inl (some (.int (nI 0))), mw_U (mp (mw_p (mw_p s 42 22 (nI 5)) 42 23 (nI (tb tp n a))) f)) := c205b (X := X) (d := d + 1) (i := 21) (by decide) m42.1 (by decide) (by decide)
  have u2 : mj_call X (d + 5) 205 [.ref 42, .ref 1000122] (mw_U (mp (mw_p (mw_p s 42 22 (nI 5)) 42 23 (nI (tb tp n a))) f)) = some (.inl (some (.int (nI 0))), mw_U (mp (mw_p (mw_p s 42 22 (nI 5)) 42 23 (nI (tb tp n a))) f)) := c205b (X := X) (d := d + 1) (i := 22) (by decide) m42.1 (by decide) (by decide)
  have u3 := c206b (X := X) (d := d + 5) (f := f) (s := mw_p (mw_p s 42 22 (nI 5)) 42 23 (nI (tb tp n a))) (k := 5) (x := nI 1) m42.1 (by decide) (by decide)
  have m5 := (m42 (s := s) (x := nI 5) (y := nI (tb tp n a))).1
  cases o
  · have h0 : ¬ 1 &&& c = 0 := h0
    have hb : 1 &&& c < 2147483648 := Nat.lt_of_le_of_lt Nat.and_le_left (by decide)
    have s0 : mj_call X (d + 5) 204 [.ref 42, .ref 43] (mw_U (mp s f)) = some (.inl (some (.int (-1))), mw_U (mp s f)) := s0
    have s1 : mj_call X (d + 5) 205 [.ref 42, .ref 1000116] (mw_U (mp s f)) = some (.inl (some (.int (nI 1))), mw_U (mp s f)) := s1
    show mj_call X (d + 6) 203 [.ref 42, .int (nI c)] (mw_U (mp s f)) = some (.inl (some (.int (nI (c ||| 1)))), mw_U (mp t2 f))
    simp (disch := first | assumption | exact hf _ | omega) only [b203, b203_0, b203_8, b203_16, b203_19, b203_23, b203_30, b203_33, b203_37, b203_38, b203_45, b203_50, b203_54, b203_61, b203_65, b203_71, b203_75, b203_76, b203_84, b203_87, b203_92, b203_97, b203_100, b203_107, b203_110, b203_114, b203_117, b203_124, b203_127, b203_131, b203_134, b203_139, b203_145, nI_add, mn_mul, mn_sub, mn_m1, mn_m8, mn_eq, mn_lt, mn_le, mn_eq0, mn_0eq, mn_lt0, mn_0lt, mn_le0, mn_0le, mn_eqm, mn_meq, mn_ltm, mn_mlt, mn_lem, mn_mle, mn_mm1, mn_mm2, mn_mm3, mn_mm4, mn_mm5, mn_mm6, mn_and, mn_or, mn_an, mn_shl, mn_shr, mn_div, mn_rem, mn_clamp, mn_in, mn_inm, mn_nz, mn_zo, mn_min, mn_max, mn_abs, mn_rfit, mn_cp, mn_les, mn_gre, mn_a127, mn_a15, mn_a1, mn_a255, mn_tn0, mn_tn0e, mn_tnr, mn_tnz, mr_get, mr_ne, mr_put, mu_ne, mu_eq, mj_bk_i, mj_bk_v, mj_bk_x, decide_eq_true_eq, decide_true, decide_false, Bool.false_eq_true, Bool.true_eq_false, reduceCtorEq, mt_le_t, mt_le_f, mt_lt_t, mt_lt_f, mt_eq_t, mt_eq_f, mt_ee, not_true_eq_false, not_false_eq_true, and_true, true_and, and_self, Nat.zero_add, Nat.add_zero, Nat.one_mul, Nat.mul_one, Nat.reduceAdd, Nat.reduceMul, Nat.reduceSub, Nat.reducePow, Nat.reduceDiv, Nat.reduceMod, ↓reduceIte, mp_h, mp_w, mp_c, mp_s, mp_d, mp_n, mp_54, mp_52, mp_55, mp_l, mp_o, mp_42, mp_45, gh_gp, gw_gp, gc_gp, mw_pne, Nat.or_zero, s0, s1, h0, e, m5, u1, u2, u3, e2]
  · have h0 : ¬ 2 &&& c = 0 := h0
    have hb : 2 &&& c < 2147483648 := Nat.lt_of_le_of_lt Nat.and_le_left (by decide)
    have s0 : mj_call X (d + 5) 204 [.ref 42, .ref 43] (mw_U (mp s f)) = some (.inl (some (.int (-1))), mw_U (mp s f)) := s0
    have s1 : mj_call X (d + 5) 205 [.ref 42, .ref 1000116] (mw_U (mp s f)) = some (.inl (some (.int (nI 0))), mw_U (mp s f)) := s1
    have s2 : mj_call X (d + 5) 205 [.ref 42, .ref 1000117] (mw_U (mp s f)) = some (.inl (some (.int (nI 1))), mw_U (mp s f)) := s2
    show mj_call X (d + 6) 203 [.ref 42, .int (nI c)] (mw_U (mp s f)) = some (.inl (some (.int (nI (c ||| 2)))), mw_U (mp t2 f))
    simp (disch := first | assumption | exact hf _ | omega) only [b203, b203_0, b203_8, b203_16, b203_19, b203_23, b203_30, b203_33, b203_37, b203_38, b203_45, b203_50, b203_54, b203_61, b203_65, b203_71, b203_75, b203_76, b203_84, b203_87, b203_92, b203_97, b203_100, b203_107, b203_110, b203_114, b203_117, b203_124, b203_127, b203_131, b203_134, b203_139, b203_145, nI_add, mn_mul, mn_sub, mn_m1, mn_m8, mn_eq, mn_lt, mn_le, mn_eq0, mn_0eq, mn_lt0, mn_0lt, mn_le0, mn_0le, mn_eqm, mn_meq, mn_ltm, mn_mlt, mn_lem, mn_mle, mn_mm1, mn_mm2, mn_mm3, mn_mm4, mn_mm5, mn_mm6, mn_and, mn_or, mn_an, mn_shl, mn_shr, mn_div, mn_rem, mn_clamp, mn_in, mn_inm, mn_nz, mn_zo, mn_min, mn_max, mn_abs, mn_rfit, mn_cp, mn_les, mn_gre, mn_a127, mn_a15, mn_a1, mn_a255, mn_tn0, mn_tn0e, mn_tnr, mn_tnz, mr_get, mr_ne, mr_put, mu_ne, mu_eq, mj_bk_i, mj_bk_v, mj_bk_x, decide_eq_true_eq, decide_true, decide_false, Bool.false_eq_true, Bool.true_eq_false, reduceCtorEq, mt_le_t, mt_le_f, mt_lt_t, mt_lt_f, mt_eq_t, mt_eq_f, mt_ee, not_true_eq_false, not_false_eq_true, and_true, true_and, and_self, Nat.zero_add, Nat.add_zero, Nat.one_mul, Nat.mul_one, Nat.reduceAdd, Nat.reduceMul, Nat.reduceSub, Nat.reducePow, Nat.reduceDiv, Nat.reduceMod, ↓reduceIte, mp_h, mp_w, mp_c, mp_s, mp_d, mp_n, mp_54, mp_52, mp_55, mp_l, mp_o, mp_42, mp_45, gh_gp, gw_gp, gc_gp, mw_pne, Nat.or_zero, s0, s1, s2, h0, e, m5, u1, u2, u3, e2]
theorem dn_0 (o : Bool) : kR o &&& dn σ = 0 ↔ (sR σ o).length = 0 := by
  cases o
  · show 1 &&& dn σ = 0 ↔ σ.2.2.1.length = 0
    unfold dn
    by_cases h1 : 0 < σ.2.2.1.length
    · rw [if_pos h1]
      by_cases h2 : 0 < σ.2.2.2.length
      · rw [if_pos h2]; exact ⟨fun z => absurd z (by decide), fun z => by omega⟩
      · rw [if_neg h2]; exact ⟨fun z => absurd z (by decide), fun z => by omega⟩
    · rw [if_neg h1]
      by_cases h2 : 0 < σ.2.2.2.length
      · rw [if_pos h2]; exact ⟨fun z => by omega, fun z => by decide⟩
      · rw [if_neg h2]; exact ⟨fun z => by omega, fun z => by decide⟩
  · show 2 &&& dn σ = 0 ↔ σ.2.2.2.length = 0
    unfold dn
    by_cases h2 : 0 < σ.2.2.2.length
    · rw [if_pos h2]
      by_cases h1 : 0 < σ.2.2.1.length
      · rw [if_pos h1]; exact ⟨fun z => absurd z (by decide), fun z => by omega⟩
      · rw [if_neg h1]; exact ⟨fun z => absurd z (by decide), fun z => by omega⟩
    · rw [if_neg h2]
      by_cases h1 : 0 < σ.2.2.1.length
      · rw [if_pos h1]; exact ⟨fun z => by omega, fun z => by decide⟩
      · rw [if_neg h1]; exact ⟨fun z => by omega, fun z => by decide⟩
theorem dn_r (o : Bool) {l : List Nat} (h0 : (sR σ o).length = 0) (hl : 0 < l.length) : dn (sP σ o l) = dn σ ||| kR o := by
  cases o
  · have h0 : σ.2.2.1.length = 0 := h0
    have n0 : ¬ 0 < σ.2.2.1.length := by omega
    show (if 0 < l.length then 1 else 0) + (if 0 < σ.2.2.2.length then 2 else 0) = dn σ ||| 1
    unfold dn
    rw [if_pos hl, if_neg n0]
    by_cases h2 : 0 < σ.2.2.2.length
    · rw [if_pos h2]; decide
    · rw [if_neg h2]; decide
  · have h0 : σ.2.2.2.length = 0 := h0
    have n0 : ¬ 0 < σ.2.2.2.length := by omega
    show (if 0 < σ.2.2.1.length then 1 else 0) + (if 0 < l.length then 2 else 0) = dn σ ||| 2
    unfold dn
    rw [if_pos hl, if_neg n0]
    by_cases h2 : 0 < σ.2.2.1.length
    · rw [if_pos h2]; decide
    · rw [if_neg h2]; decide
end
