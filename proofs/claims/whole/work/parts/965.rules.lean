/-! a line that tells a rule -/
def sR (σ : YS) (o : Bool) : List Nat := if o then σ.2.2.2 else σ.2.2.1
def sP (σ : YS) (o : Bool) (l : List Nat) : YS := if o then (σ.1, σ.2.1 ++ l, σ.2.2.1, l) else (σ.1, σ.2.1 ++ l, l, σ.2.2.2)
def iR (o : Bool) : Nat := if o then 4 else 2
def zR (o : Bool) : Nat := if o then 105 else 97
/-- which rules were told -/
def dn (σ : YS) : Nat := (if 0 < σ.2.2.1.length then 1 else 0) + (if 0 < σ.2.2.2.length then 2 else 0)
section
variable {X : mj_X} {d : Nat} {s t t1 t2 : mw_S} {f g : Nat → Nat} {tp : Nat → Nat} {n a : Nat} {σ : YS}
theorem l97 (o : Bool) {x : Nat} (hx : x < 2) (h2 : s.1 27 (iR o) = -1) (e1 : mj_call X d 131 [.ref 23] (mw_U s) = some (.inl none, mw_U t1)) (e2 : mj_call X d 98 [.ref 22, .int (nI 0)] (mw_U (mw_p t1 27 (iR o) (t1.1 27 1))) = some (.inl (some (.int (nI x))), mw_U t2)) : mj_call X (d + 1) (zR o) [.ref 22] (mw_U s) = some (.inl (some (.int (nI x))), mw_U (mw_p t2 27 (iR o + 1) (t2.1 27 1))) := by
  have k27 := mw_c_27
  have z0 : mj_rfit (some .boolean) (nI 0) = true := by decide
  have z1 : mj_rfit (some .boolean) (nI x) = true := by rcases (show x = 0 ∨ x = 1 by omega) with rfl | rfl <;> decide
  cases o
  · have h2 : s.1 27 2 = -1 := h2
    have e2 : mj_call X d 98 [.ref 22, .int (nI 0)] (mw_U (mw_p t1 27 2 (t1.1 27 1))) = some (.inl (some (.int (nI x))), mw_U t2) := e2
    show mj_call X (d + 1) 97 [.ref 22] (mw_U s) = some (.inl (some (.int (nI x))), mw_U (mw_p t2 27 3 (t2.1 27 1)))
    simp (disch := first | assumption | exact hf _ | omega) only [b97, b97_0, b97_7, b97_10, b97_15, b97_16, b97_23, b97_30, b97_35, b97_43, b116, b116_0, b116_8, b116_12, b116_13, b122, b122_0, b124, b124_0, nI_add, mn_mul, mn_sub, mn_m1, mn_m8, mn_eq, mn_lt, mn_le, mn_eq0, mn_0eq, mn_lt0, mn_0lt, mn_le0, mn_0le, mn_eqm, mn_meq, mn_ltm, mn_mlt, mn_lem, mn_mle, mn_mm1, mn_mm2, mn_mm3, mn_mm4, mn_mm5, mn_mm6, mn_and, mn_or, mn_an, mn_shl, mn_shr, mn_div, mn_rem, mn_clamp, mn_in, mn_inm, mn_nz, mn_zo, mn_min, mn_max, mn_abs, mn_rfit, mn_cp, mn_les, mn_gre, mn_a127, mn_a15, mn_a1, mn_a255, mn_tn0, mn_tn0e, mn_tnr, mn_tnz, mr_get, mr_ne, mr_put, mu_ne, mu_eq, mj_bk_i, mj_bk_v, mj_bk_x, decide_eq_true_eq, decide_true, decide_false, Bool.false_eq_true, Bool.true_eq_false, reduceCtorEq, mt_le_t, mt_le_f, mt_lt_t, mt_lt_f, mt_eq_t, mt_eq_f, mt_ee, not_true_eq_false, not_false_eq_true, and_true, true_and, and_self, Nat.zero_add, Nat.add_zero, Nat.one_mul, Nat.mul_one, Nat.reduceAdd, Nat.reduceMul, Nat.reduceSub, Nat.reducePow, Nat.reduceDiv, Nat.reduceMod, ↓reduceIte, h2, z0, e1, e2, z1]
  · have h2 : s.1 27 4 = -1 := h2
    have e2 : mj_call X d 98 [.ref 22, .int (nI 0)] (mw_U (mw_p t1 27 4 (t1.1 27 1))) = some (.inl (some (.int (nI x))), mw_U t2) := e2
    show mj_call X (d + 1) 105 [.ref 22] (mw_U s) = some (.inl (some (.int (nI x))), mw_U (mw_p t2 27 5 (t2.1 27 1)))
    simp (disch := first | assumption | exact hf _ | omega) only [b105, b105_0, b105_7, b105_10, b105_15, b105_16, b105_23, b105_30, b105_35, b105_43, b120, b120_0, b120_8, b120_12, b120_13, b125, b125_0, b126, b126_0, nI_add, mn_mul, mn_sub, mn_m1, mn_m8, mn_eq, mn_lt, mn_le, mn_eq0, mn_0eq, mn_lt0, mn_0lt, mn_le0, mn_0le, mn_eqm, mn_meq, mn_ltm, mn_mlt, mn_lem, mn_mle, mn_mm1, mn_mm2, mn_mm3, mn_mm4, mn_mm5, mn_mm6, mn_and, mn_or, mn_an, mn_shl, mn_shr, mn_div, mn_rem, mn_clamp, mn_in, mn_inm, mn_nz, mn_zo, mn_min, mn_max, mn_abs, mn_rfit, mn_cp, mn_les, mn_gre, mn_a127, mn_a15, mn_a1, mn_a255, mn_tn0, mn_tn0e, mn_tnr, mn_tnz, mr_get, mr_ne, mr_put, mu_ne, mu_eq, mj_bk_i, mj_bk_v, mj_bk_x, decide_eq_true_eq, decide_true, decide_false, Bool.false_eq_true, Bool.true_eq_false, reduceCtorEq, mt_le_t, mt_le_f, mt_lt_t, mt_lt_f, mt_eq_t, mt_eq_f, mt_ee, not_true_eq_false, not_false_eq_true, and_true, true_and, and_self, Nat.zero_add, Nat.add_zero, Nat.one_mul, Nat.mul_one, Nat.reduceAdd, Nat.reduceMul, Nat.reduceSub, Nat.reducePow, Nat.reduceDiv, Nat.reduceMod, ↓reduceIte, h2, z0, e1, e2, z1]
theorem l97f (o : Bool) {b : Nat} (hb : b < 1000) (h : YC s tp n a σ) (h2 : s.1 27 (iR o) = nI b) : mj_call X (d + 2) (zR o) [.ref 22] (mw_U s) = some (.inl (some (.int (nI 0))), mw_U (mw_p (mw_p s 22 3 (nI 5)) 22 4 (nI (tb tp n a)))) := by
  have k27 := mw_c_27
  have z0 : mj_rfit (some .boolean) (nI 0) = true := by decide
  have z1 : mj_rfit (some .boolean) (nI 1) = true := by decide
  have e := l92 (X := X) (D := d + 1) (by omega) h (k := 5)
  cases o
  · have h2 : s.1 27 2 = nI b := h2
    show mj_call X (d + 2) 97 [.ref 22] (mw_U s) = _
    simp (disch := first | assumption | exact hf _ | omega) only [b97, b97_0, b97_7, b97_10, b97_15, b97_16, b97_23, b97_30, b97_35, b97_43, b116, b116_0, b116_8, b116_12, b116_13, nI_add, mn_mul, mn_sub, mn_m1, mn_m8, mn_eq, mn_lt, mn_le, mn_eq0, mn_0eq, mn_lt0, mn_0lt, mn_le0, mn_0le, mn_eqm, mn_meq, mn_ltm, mn_mlt, mn_lem, mn_mle, mn_mm1, mn_mm2, mn_mm3, mn_mm4, mn_mm5, mn_mm6, mn_and, mn_or, mn_an, mn_shl, mn_shr, mn_div, mn_rem, mn_clamp, mn_in, mn_inm, mn_nz, mn_zo, mn_min, mn_max, mn_abs, mn_rfit, mn_cp, mn_les, mn_gre, mn_a127, mn_a15, mn_a1, mn_a255, mn_tn0, mn_tn0e, mn_tnr, mn_tnz, mr_get, mr_ne, mr_put, mu_ne, mu_eq, mj_bk_i, mj_bk_v, mj_bk_x, decide_eq_true_eq, decide_true, decide_false, Bool.false_eq_true, Bool.true_eq_false, reduceCtorEq, mt_le_t, mt_le_f, mt_lt_t, mt_lt_f, mt_eq_t, mt_eq_f, mt_ee, not_true_eq_false, not_false_eq_true, and_true, true_and, and_self, Nat.zero_add, Nat.add_zero, Nat.one_mul, Nat.mul_one, Nat.reduceAdd, Nat.reduceMul, Nat.reduceSub, Nat.reducePow, Nat.reduceDiv, Nat.reduceMod, ↓reduceIte, h2, z0, z1, e]
  · have h2 : s.1 27 4 = nI b := h2
    show mj_call X (d + 2) 105 [.ref 22] (mw_U s) = _
    simp (disch := first | assumption | exact hf _ | omega) only [b105, b105_0, b105_7, b105_10, b105_15, b105_16, b105_23, b105_30, b105_35, b105_43, b120, b120_0, b120_8, b120_12, b120_13, nI_add, mn_mul, mn_sub, mn_m1, mn_m8, mn_eq, mn_lt, mn_le, mn_eq0, mn_0eq, mn_lt0, mn_0lt, mn_le0, mn_0le, mn_eqm, mn_meq, mn_ltm, mn_mlt, mn_lem, mn_mle, mn_mm1, mn_mm2, mn_mm3, mn_mm4, mn_mm5, mn_mm6, mn_and, mn_or, mn_an, mn_shl, mn_shr, mn_div, mn_rem, mn_clamp, mn_in, mn_inm, mn_nz, mn_zo, mn_min, mn_max, mn_abs, mn_rfit, mn_cp, mn_les, mn_gre, mn_a127, mn_a15, mn_a1, mn_a255, mn_tn0, mn_tn0e, mn_tnr, mn_tnz, mr_get, mr_ne, mr_put, mu_ne, mu_eq, mj_bk_i, mj_bk_v, mj_bk_x, decide_eq_true_eq, decide_true, decide_false, Bool.false_eq_true, Bool.true_eq_false, reduceCtorEq, mt_le_t, mt_le_f, mt_lt_t, mt_lt_f, mt_eq_t, mt_eq_f, mt_ee, not_true_eq_false, not_false_eq_true, and_true, true_and, and_self, Nat.zero_add, Nat.add_zero, Nat.one_mul, Nat.mul_one, Nat.reduceAdd, Nat.reduceMul, Nat.reduceSub, Nat.reducePow, Nat.reduceDiv, Nat.reduceMod, ↓reduceIte, h2, z0, z1, e]
theorem getD_addr {l l' : List Nat} {j : Nat} : (l ++ l').getD (l.length + j) 0 = l'.getD j 0 := by
  rw [List.getD_eq_getElem?_getD, List.getElem?_append_right (by omega), ← List.getD_eq_getElem?_getD, Nat.add_sub_cancel_left]
theorem GC_27 {l : List Nat} (h : GC t tp n a l) {i : Nat} {v : Int32} (hi : ¬ 1 = i) : GC (mw_p t 27 i v) tp n a l := by
  have m : mg t (mw_p t 27 i v) (fun c => c = 27) := mg_p mg_refl rfl
  refine ⟨TC_mg h.1 m (by decide) (by decide), by rw [mw_pnj hi]; exact h.2.1, h.2.2.1, fun j hj => by rw [mw_pne (by decide)]; exact h.2.2.2.1 j hj, by rw [mw_pne (by decide)]; exact h.2.2.2.2⟩
theorem YC_rule (o : Bool) {a' : Nat} {l' : List Nat} (h1 : YC t1 tp n a σ) (hG : GC t2 tp n a' (σ.2.1 ++ l')) (hf : fC (mw_p t1 27 (iR o) (t1.1 27 1)) t2) (hl : 0 < l'.length) : YC (mw_p t2 27 (iR o + 1) (t2.1 27 1)) tp n a' (sP σ o l') := by
  obtain ⟨g1, g2, g3, g4⟩ := h1
  have e1 : t1.1 27 1 = nI σ.2.1.length := g1.2.1
  have e2 : t2.1 27 1 = nI (σ.2.1.length + l'.length) := by rw [hG.2.1, List.length_append]
  have e26 : mr_is (mw_p t2 27 (iR o + 1) (t2.1 27 1)) 26 64 σ.1 := by
    intro j hj
    rw [mw_pne (by decide), hf.1.2 26 (by decide), mw_pne (by decide)]; exact g2 j hj
  have hi : ¬ 1 = iR o + 1 := by cases o <;> decide
  have e27 : ∀ b, ¬ b = 1 → ¬ b = iR o → ¬ b = iR o + 1 → (mw_p t2 27 (iR o + 1) (t2.1 27 1)).1 27 b = t1.1 27 b := fun b b1 b2 b3 => by
    rw [mw_pnj b3, hf.2 b b1, mw_pnj b2]
  have ei : (mw_p t2 27 (iR o + 1) (t2.1 27 1)).1 27 (iR o) = nI σ.2.1.length := by
    rw [mw_pnj (by omega), hf.2 _ (by cases o <;> decide), mw_peq]; exact e1
  have ej : (mw_p t2 27 (iR o + 1) (t2.1 27 1)).1 27 (iR o + 1) = nI (σ.2.1.length + l'.length) := by
    rw [mw_peq]; exact e2
  have hQ : LQ (mw_p t2 27 (iR o + 1) (t2.1 27 1)) (σ.2.1 ++ l') l' (iR o) := by
    refine ⟨fun z => by omega, fun _ => ⟨σ.2.1.length, by rw [List.length_append]; omega, ei, ej, fun j hj => getD_addr⟩⟩
  cases o
  · exact ⟨GC_27 hG hi, e26, hQ, LQ_app (LQ_27 g4 (e27 4 (by decide) (by decide) (by decide)) (e27 5 (by decide) (by decide) (by decide)))⟩
  · exact ⟨GC_27 hG hi, e26, LQ_app (LQ_27 g3 (e27 2 (by decide) (by decide) (by decide)) (e27 3 (by decide) (by decide) (by decide))), hQ⟩
theorem TR_25 (h : TR s tp n a) {v : Int32} : TR (mw_p s 42 25 v) tp n a := by
  obtain ⟨e1, e2, e3, e4, e5, e6, e7, e8, e9⟩ := h
  refine ⟨e1, e2, by rw [mw_pnj (by decide)]; exact e3, by rw [mw_pnj (by decide)]; exact e4, by rw [mw_pnj (by decide)]; exact e5, fun q => by rw [mw_pnj (by decide)]; exact e6 q, by rw [mw_pnj (by decide)]; exact e7, by rw [mw_pnj (by decide)]; exact e8, fun j hj => ?_⟩
  rw [mw_pne (by decide)]; exact e9 j hj
theorem GR_of (o : Bool) (h : YR s tp n a σ) (h0 : (sR σ o).length = 0) : GR o (mw_p s 42 25 (nI o.toNat)) tp n a [] := by
  refine ⟨TR_25 h.1, by rw [mw_pnj (by decide)]; exact h.2.1, mw_peq, ?_, by decide, fun j hj => absurd hj (Nat.not_lt_zero j)⟩
  rw [mw_pne (by decide)]
  cases o
  · have := h.2.2.2.1.1
    rw [show σ.2.2.1.length = 0 from h0] at this
    exact this
  · have := h.2.2.2.2.1
    rw [show σ.2.2.2.length = 0 from h0] at this
    exact this
theorem YR_rule (o : Bool) {a' : Nat} {l' : List Nat} (h : YR s tp n a σ) (hG : GR o t tp n a' ([] ++ l')) (hf : fE o (mw_p s 42 25 (nI o.toNat)) t) : YR t tp n a' (sP σ o l') := by
  obtain ⟨g1, g2, g3, g4, g5, g6⟩ := hG
  have c : ∀ c j, ¬ c = 42 → ¬ c = 45 → ¬ c = kK o → t.1 c j = s.1 c j := fun c j k1 k2 k3 => by
    rw [hf.2.1 c k1 k2 k3, mw_pne k1]
  have c45 : ∀ b, ¬ b = kW o → t.1 45 b = s.1 45 b := fun b hb => by rw [hf.2.2.1 b hb, mw_pne (by decide)]
  have hL : LM t o l' := ⟨g4, g6⟩
  have hT : tRL t σ.1 := by
    obtain ⟨x1, x2, x3, x4⟩ := h.2.2.1
    have k3 : ∀ c, 46 ≤ c → c ≤ 51 → ∀ j, t.1 c j = s.1 c j := fun cc z1 z2 j => c cc j (by omega) (by omega) (by cases o; show ¬ cc = 52; omega; show ¬ cc = 53; omega)
    refine ⟨by rw [c45 3 (by cases o <;> decide)]; exact x1, fun p hp => ?_, fun k hk => ?_, fun k hk h0 => ?_⟩
    · rw [k3 46 (by decide) (by decide), k3 47 (by decide) (by decide), k3 48 (by decide) (by decide), k3 49 (by decide) (by decide)]; exact x2 p hp
    · rw [k3 50 (by decide) (by decide)]; exact x3 k hk
    · rw [k3 51 (by decide) (by decide)]; exact x4 k hk h0
  cases o
  · exact ⟨g1, g2, hT, hL, LM_c h.2.2.2.2 (c45 5 (by decide)) (funext fun j => c 53 j (by decide) (by decide) (by decide))⟩
  · exact ⟨g1, g2, hT, LM_c h.2.2.2.1 (c45 4 (by decide)) (funext fun j => c 52 j (by decide) (by decide) (by decide)), hL⟩
theorem WL_rule (o : Bool) {a' : Nat} {l' : List Nat} (hW : WL n a σ) (ha : a ≤ a') (ha' : a' ≤ n) (hl_ : σ.2.1.length + l'.length ≤ a') (hl2 : l'.length ≤ a') (hh : hl l' 0 = some 1) : WL n a' (sP σ o l') := by
  obtain ⟨x1, x2, x3, x4, x5, x6, x7, x8⟩ := hW
  cases o
  · exact ⟨ha', x2, x3, by show (σ.2.1 ++ l').length ≤ _; rw [List.length_append]; exact hl_, hl2, by show σ.2.2.2.length ≤ _; omega, fun _ => hh, x8⟩
  · exact ⟨ha', x2, x3, by show (σ.2.1 ++ l').length ≤ _; rw [List.length_append]; exact hl_, by show σ.2.2.1.length ≤ _; omega, hl2, x7, fun _ => hh⟩
end
