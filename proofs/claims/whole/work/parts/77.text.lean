/-! the texts that are fixed -/
def slen (i : Nat) : Nat := (mj_str.getD i []).length
def sch (i j : Nat) : Nat := ((mj_str.getD i []).getD j 0).toNatClampNeg
theorem sch_ok : ∀ i, i < 23 → ∀ j, j < slen i → (mj_str.getD i []).getD j 0 = nI (sch i j) ∧ sch i j < 128 ∧ 0 < sch i j := by decide +kernel
theorem slen_ok : ∀ i, i < 23 → slen i < 1000 := by decide +kernel
theorem str_at : ∀ i, i < 23 → mj_str[i]? = some (mj_str.getD i []) := by decide +kernel
section
variable {X : mj_X} {d : Nat} {s : mw_S}
theorem ka_s {i : Nat} (hi : i < 23) : mj_ka X (1000100 + i + 100) = some (.byte, slen i, fun j => (mj_str.getD i []).getD j 0) := by
  unfold mj_ka
  rw [if_neg (by omega), if_neg (by omega), if_neg (by omega), if_neg (by omega), show 1000100 + i + 100 - 1000200 = i by omega, str_at i hi]
  rfl
theorem d337_5 : decode prog_23_method_54_code 5 = .ok (.aload_n 0, 1) := by decide +kernel
theorem d337_6 : decode prog_23_method_54_code 6 = .ok (.invokevirtual 335, 3) := by decide +kernel
theorem mw_p12_335 : mj_pool 12 335 = some (2, 338, 1) := by decide +kernel
theorem b337_0 {k0 n0 : Nat} {f0 : Nat → Int32} (h0 : 1000100 ≤ k0 ∧ k0 < 1000123) (hk : mj_ka X (k0 + 100) = some (.byte, n0, f0)) : mj_exec X (d + 1) 337 0 [some (.ref k0)] [] (mw_U s) = (mj_call X d 338 [.ref k0] (mw_U s)).bind (mj_bk X (d + 1) 337 9 [some (.ref k0)] [.int (nI n0)]) :=
  (mj_q_aload_n mw_m337 d337_0 rfl (mw_neS h0)).trans ((mj_q_getS mw_m337 d337_1 mw_p12_9 h0.1 h0.2).trans ((mj_q_alenk mw_m337 d337_4 (by omega) hk).trans ((mj_q_aload_n mw_m337 d337_5 rfl (mw_neS h0)).trans (mw_q_callv mw_m337 rfl d337_6 mw_p12_335 mw_m338 rfl rfl (Nat.le_of_ble_eq_true rfl) (Nat.le_of_ble_eq_true rfl) rfl (mw_rcvS h0) rfl rfl))))
theorem c338 {i : Nat} (hi : i < 23) : mj_call X d 338 [.ref (1000100 + i)] (mw_U s) = some (.inl (some (.int 0)), mw_U s) := by
  have h0 : 1000100 ≤ 1000100 + i ∧ 1000100 + i < 1000123 := by omega
  have z1 : ¬ nI 1 = 0 := by decide
  have z2 : mj_rfit (some .byte) 0 = true := by decide
  rw [b338, b338_0 h0, if_neg z1, b338_6 h0, b338_14 h0, if_pos z2]
theorem c337 {i : Nat} (hi : i < 23) : mj_call X (d + 1) 337 [.ref (1000100 + i)] (mw_U s) = some (.inl (some (.int (nI (slen i)))), mw_U s) := by
  have h0 : 1000100 ≤ 1000100 + i ∧ 1000100 + i < 1000123 := by omega
  have hl := slen_ok i hi
  have z : nI (slen i) >>> ((0 : Int32) &&& 31) = nI (slen i) := by
    have := mn_shr (a := slen i) (b := 0) (by omega) (by decide)
    rw [Nat.pow_zero, Nat.div_one] at this
    exact this
  rw [b337, b337_0 h0 (ka_s hi), c338 hi, mj_bk_i, b337_9 h0, z]
theorem c340 {i : Nat} (hi : i < 23) : mj_call X d 340 [.ref (1000100 + i)] (mw_U s) = some (.inl (some (.int (nI 1))), mw_U s) := by
  have h0 : 1000100 ≤ 1000100 + i ∧ 1000100 + i < 1000123 := by omega
  have z1 : ¬ nI 1 = 0 := by decide
  have z2 : mj_rfit (some .boolean) (nI 1) = true := by decide
  rw [b340, b340_0 h0, if_neg z1, b340_6 h0, if_pos rfl, b340_13 h0, b340_18 h0, if_pos z2]
theorem c352 {j n : Nat} (hj : j < n) (hn : n < 1000) : mj_call X d 352 [.int (nI j), .int (nI n), .ref 1000300] (mw_U s) = some (.inl (some (.int (nI j))), mw_U s) := by
  simp (disch := first | assumption | exact hf _ | omega) only [b352, b352_0, b352_4, b352_16, nI_add, mn_mul, mn_sub, mn_m1, mn_m8, mn_eq, mn_lt, mn_le, mn_eq0, mn_0eq, mn_lt0, mn_0lt, mn_le0, mn_0le, mn_eqm, mn_meq, mn_ltm, mn_mlt, mn_lem, mn_mle, mn_mm1, mn_mm2, mn_mm3, mn_mm4, mn_mm5, mn_mm6, mn_and, mn_or, mn_an, mn_shl, mn_shr, mn_div, mn_rem, mn_clamp, mn_in, mn_inm, mn_nz, mn_zo, mn_min, mn_max, mn_abs, mn_rfit, mn_cp, mn_les, mn_gre, mn_a127, mn_a15, mn_a1, mn_a255, mn_tn0, mn_tn0e, mn_tnr, mn_tnz, mr_get, mr_ne, mr_put, mu_ne, mu_eq, mj_bk_i, mj_bk_v, mj_bk_x, decide_eq_true_eq, decide_true, decide_false, Bool.false_eq_true, Bool.true_eq_false, reduceCtorEq, mt_le_t, mt_le_f, mt_lt_t, mt_lt_f, mt_eq_t, mt_eq_f, mt_ee, not_true_eq_false, not_false_eq_true, and_true, true_and, and_self, Nat.zero_add, Nat.add_zero, Nat.one_mul, Nat.mul_one, Nat.reduceAdd, Nat.reduceMul, Nat.reduceSub, Nat.reducePow, Nat.reduceDiv, Nat.reduceMod, ↓reduceIte]
theorem c341 {j n : Nat} (hj : j < n) (hn : n < 1000) : mj_call X (d + 1) 341 [.int (nI j), .int (nI n)] (mw_U s) = some (.inl none, mw_U s) := by
  simp (disch := first | assumption | exact hf _ | omega) only [b341, b341_0, b341_8, nI_add, mn_mul, mn_sub, mn_m1, mn_m8, mn_eq, mn_lt, mn_le, mn_eq0, mn_0eq, mn_lt0, mn_0lt, mn_le0, mn_0le, mn_eqm, mn_meq, mn_ltm, mn_mlt, mn_lem, mn_mle, mn_mm1, mn_mm2, mn_mm3, mn_mm4, mn_mm5, mn_mm6, mn_and, mn_or, mn_an, mn_shl, mn_shr, mn_div, mn_rem, mn_clamp, mn_in, mn_inm, mn_nz, mn_zo, mn_min, mn_max, mn_abs, mn_rfit, mn_cp, mn_les, mn_gre, mn_a127, mn_a15, mn_a1, mn_a255, mn_tn0, mn_tn0e, mn_tnr, mn_tnz, mr_get, mr_ne, mr_put, mu_ne, mu_eq, mj_bk_i, mj_bk_v, mj_bk_x, decide_eq_true_eq, decide_true, decide_false, Bool.false_eq_true, Bool.true_eq_false, reduceCtorEq, mt_le_t, mt_le_f, mt_lt_t, mt_lt_f, mt_eq_t, mt_eq_f, mt_ee, not_true_eq_false, not_false_eq_true, and_true, true_and, and_self, Nat.zero_add, Nat.add_zero, Nat.one_mul, Nat.mul_one, Nat.reduceAdd, Nat.reduceMul, Nat.reduceSub, Nat.reducePow, Nat.reduceDiv, Nat.reduceMod, ↓reduceIte, c352 hj hn]
theorem ch_ok : ∀ b, b < 128 → (((nI b &&& nI 255)).toUInt32 % 65536).toInt32 = nI b ∧ mj_rfit (some .char) (nI b) = true := by decide +kernel
theorem c339 {i j : Nat} (hi : i < 23) (hj : j < slen i) : mj_call X (d + 3) 339 [.ref (1000100 + i), .int (nI j)] (mw_U s) = some (.inl (some (.int (nI (sch i j)))), mw_U s) := by
  have h0 : 1000100 ≤ 1000100 + i ∧ 1000100 + i < 1000123 := by omega
  have hl := slen_ok i hi
  obtain ⟨e1, e2, e3⟩ := sch_ok i hi j hj
  obtain ⟨e4, e5⟩ := ch_ok _ e2
  have z1 : ¬ nI 1 = 0 := by decide
  have hin : mw_in (slen i) (nI j) = true := by rw [mn_in (by omega)]; exact decide_eq_true hj
  have e344 : mj_call X (d + 2) 344 [.ref (1000100 + i + 100), .int (nI j)] (mw_U s) = some (.inl (some (.int (nI (sch i j)))), mw_U s) := by
    rw [b344, b344_0 (ka_s hi) (by omega) (by omega), c341 hj hl, mj_bk_v, b344_6 (ka_s hi) (by omega) (by omega), if_pos hin, mn_clamp (by omega), e1, e4, if_pos e5]
  rw [b339, b339_0 h0, c340 hi, mj_bk_i, b339_4 h0, if_neg z1, b339_7 h0, e344, mj_bk_i, b339_15 h0, if_pos e5]
theorem sgn_ok : ∀ b, b < 256 → (Int8.toInt32 (Int32.toInt8 (nI b)) = sby b) ∧ ∀ j, j < 9 → ((mj_str.getD 2 []).getD j 0 = sby b ↔ sch 2 j = b) := by decide +kernel
theorem c342 {b : Nat} (hb : b < 256) : mj_call X (d + 4) 342 [.ref 1000102, .int (nI b)] (mw_U s) = some (.inl (some (.int (mo ((List.range 9).find? (fun j => decide (sch 2 j = b)))))), mw_U s) := by
  have h0 : 1000100 ≤ 1000102 ∧ 1000102 < 1000123 := by decide
  have hk : mj_ka X 1000202 = some (.byte, 9, fun j => (mj_str.getD 2 []).getD j 0) := ka_s (i := 2) (by decide)
  have i0 : ¬ 1000202 < 1000000 := by decide
  have u0 : 1000202 ≠ 1000300 := by decide
  obtain ⟨s1, s2⟩ := sgn_ok b hb
  have z1 : ¬ nI 1 = 0 := by decide
  have srch := mr_srch (γ := Unit) (E := fun k _ => mj_exec X (d + 1) 347 7 [some (.ref 1000202), some (.int (nI b)), some (.int (nI 0)), some (.int (nI 9)), some (.int (sby b)), some (.int (nI k))] [] (mw_U s)) (P := fun j => decide (sch 2 j = b)) (I := fun _ _ => True) (N := 9) (by
    intro k _ hk9 hP _
    have hP : ¬ sch 2 k = b := of_decide_eq_false hP
    have hne : ¬ (mj_str.getD 2 []).getD k 0 = sby b := fun z => hP ((s2 k hk9).1 z)
    have hle : ¬ nI 9 ≤ nI k := by rw [mn_le (by omega) (by omega)]; omega
    have hin : mw_in 9 (nI k) = true := by rw [mn_in (by omega)]; exact decide_eq_true hk9
    refine ⟨(), trivial, ?_⟩
    rw [b347_7 hk i0 u0, if_neg hle, b347_13 hk i0 u0, if_pos hin, mn_clamp (by omega), if_neg hne, b347_25 hk i0 u0, nI_add]) (g := ()) trivial
  have e347 : mj_call X (d + 1) 347 [.ref 1000202, .int (nI b), .int (nI 0), .int (nI 9)] (mw_U s) = some (.inl (some (.int (mo ((List.range 9).find? (fun j => decide (sch 2 j = b)))))), mw_U s) := by
    rw [b347, b347_0 hk i0 u0, s1]
    rcases first_or (fun j => decide (sch 2 j = b)) 9 with ⟨k, hk9, hP, hmin⟩ | hall
    · obtain ⟨_, -, e⟩ := srch k (by omega) hmin
      rw [find_range hmin hk9 hP]
      refine e.trans ?_
      have hP' : sch 2 k = b := of_decide_eq_true hP
      have hle : ¬ nI 9 ≤ nI k := by rw [mn_le (by omega) (by omega)]; omega
      have hin : mw_in 9 (nI k) = true := by rw [mn_in (by omega)]; exact decide_eq_true hk9
      rw [b347_7 hk i0 u0, if_neg hle, b347_13 hk i0 u0, if_pos hin, mn_clamp (by omega), if_pos ((s2 k hk9).2 hP'), b347_22 hk i0 u0]
      rfl
    · obtain ⟨_, -, e⟩ := srch 9 (Nat.le_refl _) hall
      rw [find_none hall]
      refine e.trans ?_
      rw [b347_7 hk i0 u0, if_pos (by decide), b347_31 hk i0 u0]
      rfl
  have e346 : mj_call X (d + 1) 346 [.int (nI b)] (mw_U s) = some (.inl (some (.int (nI 1))), mw_U s) := by
    simp (disch := first | assumption | exact hf _ | omega) only [b346, b346_0, b346_4, b346_11, b346_15, b346_16, nI_add, mn_mul, mn_sub, mn_m1, mn_m8, mn_eq, mn_lt, mn_le, mn_eq0, mn_0eq, mn_lt0, mn_0lt, mn_le0, mn_0le, mn_eqm, mn_meq, mn_ltm, mn_mlt, mn_lem, mn_mle, mn_mm1, mn_mm2, mn_mm3, mn_mm4, mn_mm5, mn_mm6, mn_and, mn_or, mn_an, mn_shl, mn_shr, mn_div, mn_rem, mn_clamp, mn_in, mn_inm, mn_nz, mn_zo, mn_min, mn_max, mn_abs, mn_rfit, mn_cp, mn_les, mn_gre, mn_a127, mn_a15, mn_a1, mn_a255, mn_tn0, mn_tn0e, mn_tnr, mn_tnz, mr_get, mr_ne, mr_put, mu_ne, mu_eq, mj_bk_i, mj_bk_v, mj_bk_x, decide_eq_true_eq, decide_true, decide_false, Bool.false_eq_true, Bool.true_eq_false, reduceCtorEq, mt_le_t, mt_le_f, mt_lt_t, mt_lt_f, mt_eq_t, mt_eq_f, mt_ee, not_true_eq_false, not_false_eq_true, and_true, true_and, and_self, Nat.zero_add, Nat.add_zero, Nat.one_mul, Nat.mul_one, Nat.reduceAdd, Nat.reduceMul, Nat.reduceSub, Nat.reducePow, Nat.reduceDiv, Nat.reduceMod, ↓reduceIte]
  have m1 : mw_max (nI 0) (nI 0) = nI 0 := by decide
  have m2 : mw_min (nI 9) (nI 9) = nI 9 := by decide
  have m3 : nI 0 < nI 9 := by decide
  have e345 : mj_call X (d + 2) 345 [.ref 1000202, .int (nI b), .int (nI 0), .int (nI 9)] (mw_U s) = some (.inl (some (.int (mo ((List.range 9).find? (fun j => decide (sch 2 j = b)))))), mw_U s) := by
    rw [b345, b345_0 hk i0 u0, e346, mj_bk_i, b345_4 hk i0 u0, if_neg z1, b345_9 hk i0 u0, m1, m2, if_pos m3, b345_29 hk i0 u0, e347, mj_bk_i, b345_36 hk i0 u0]
  have e337 : mj_call X (d + 2) 337 [.ref 1000102] (mw_U s) = some (.inl (some (.int (nI 9))), mw_U s) := c337 (i := 2) (by decide)
  have e340 : mj_call X (d + 2) 340 [.ref 1000102] (mw_U s) = some (.inl (some (.int (nI 1))), mw_U s) := c340 (i := 2) (by decide)
  rw [b342, b342_0 h0, b343, b343_0 h0, e340, mj_bk_i, b343_4 h0, if_neg z1, b343_7 h0, e337, mj_bk_i, b343_17 h0 hk i0 u0, e345, mj_bk_i, b343_20 h0, b343_36 h0, mj_bk_i, b342_6 h0]
end
