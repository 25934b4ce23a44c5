/-! the tape of both -/
def ub (y : Int32) : Nat := y.toBitVec.toNat % 256
def sby (b : Nat) : Int32 := Int8.toInt32 (Int8.ofNat b)
theorem ub_lt (y : Int32) : ub y < 256 := Nat.mod_lt _ (by decide)
theorem ub_ref (y : Int32) : y &&& nI 255 = nI (ub y) := by
  apply Int32.toBitVec_inj.1
  rw [Int32.toBitVec_and]
  apply BitVec.eq_of_toNat_eq
  rw [BitVec.toNat_and, show (nI 255).toBitVec.toNat = 2 ^ 8 - 1 by decide, Nat.and_two_pow_sub_one_eq_mod]
  show _ = (BitVec.ofNat 32 (ub y)).toNat
  have := ub_lt y
  rw [BitVec.toNat_ofNat]
  exact (Nat.mod_eq_of_lt (by omega : ub y < 2 ^ 32)).symm
theorem sby_nar : ∀ b, b < 256 → vp_nar .byte (sby b) = sby b := by decide +kernel
theorem ub_cls (y : Int32) : vp_nar .byte (Int8.toInt32 (Int32.toInt8 y)) = sby (ub y) := by
  have e : Int32.toInt8 y = Int8.ofNat (ub y) := by
    apply Int8.toBitVec_inj.1
    show BitVec.signExtend 8 y.toBitVec = BitVec.ofNat 8 (ub y)
    rw [BitVec.signExtend_eq_setWidth_of_le _ (by decide)]
    apply BitVec.eq_of_toNat_eq
    rw [BitVec.toNat_setWidth, BitVec.toNat_ofNat]
    unfold ub
    omega
  rw [e]
  exact sby_nar _ (ub_lt y)
def fby (x1 x2 x3 x4 x5 : Int32) (i : Nat) : Nat := ub ((if i < 4 then x1 else if i < 8 then x2 else if i < 12 then x3 else if i < 16 then x4 else x5) >>> (nI (24 - 8 * (i % 4)) &&& 31))
def CT (s : mw_S) (tp : Nat → Nat) (tl : Nat) : Prop := tl ≤ 700 ∧ s.1 0 9 = nI tl ∧ ∀ j, j < tl → s.1 1 j = sby (tp j)
def RT (s : mw_S) (tp : Nat → Nat) (tl : Nat) : Prop := tl ≤ 700 ∧ s.1 42 15 = nI tl ∧ ∀ j, j < tl → s.1 56 j = nI (tp j)
def tpf (tp : Nat → Nat) (tl : Nat) (g : Nat → Nat) (n : Nat) : Nat → Nat := fun j => if tl ≤ j ∧ j < tl + n then g (j - tl) else tp j
theorem tpf_s {tp g : Nat → Nat} {tl n : Nat} : mr_u (tpf tp tl g n) (tl + n) (g n) = tpf tp tl g (n + 1) := by
  funext j
  unfold mr_u tpf
  by_cases h : j = tl + n
  · subst h
    rw [if_pos rfl, if_pos (by omega), show tl + n - tl = n by omega]
  · rw [if_neg h]
    by_cases h2 : tl ≤ j ∧ j < tl + n
    · rw [if_pos h2, if_pos (by omega)]
    · rw [if_neg h2, if_neg (by omega)]
section
variable {X : mj_X} {d : Nat} {s t : mw_S} {f : Nat → Nat} {tp : Nat → Nat} {tl : Nat} {x x1 x2 x3 x4 x5 : Int32}
theorem w143 (h : CT s tp tl) (h7 : tl < 700) {sh : Nat} (hsh : sh ≤ 24) : ∃ t, mj_exec X d 143 7 [some (.ref 0), some (.int x), some (.int (nI sh))] [] (mw_U s) = mj_exec X d 143 3 [some (.ref 0), some (.int x), some (.int (nI sh + (-8)))] [] (mw_U t) ∧ CT t (mr_u tp tl (ub (x >>> (nI sh &&& 31)))) (tl + 1) ∧ t.2 = s.2 ∧ (∀ c, ¬ c = 0 → ¬ c = 1 → t.1 c = s.1 c) ∧ (∀ b, ¬ b = 9 → t.1 0 b = s.1 0 b) := by
  obtain ⟨h1, h2, h3⟩ := h
  have e2 : ∀ v, (mw_p s 1 tl v).1 0 9 = nI tl := fun v => by rw [mw_pne (by decide)]; exact h2
  refine ⟨mw_p (mw_p s 1 tl (sby (ub (x >>> (nI sh &&& 31))))) 0 9 (nI (tl + 1)), ?_, ⟨by omega, mw_peq, fun j hj => ?_⟩, rfl, fun c h0 h1 => ?_, fun b hb => ?_⟩
  · rw [b143_7, h2]
    simp (disch := first | assumption | exact hf _ | omega) only [mn_le, mt_le_f, ↓reduceIte, b143_17, h2, mn_in, decide_eq_true_eq, mt_lt_t, mn_clamp, ub_cls, e2, nI_add, b143_40]
  · rw [mw_pne (by decide)]
    unfold mr_u
    by_cases he : j = tl
    · rw [if_pos he, he, mw_peq]
    · rw [if_neg he, mw_pnj he]; exact h3 j (by omega)
  · funext b; rw [mw_pne h0, mw_pne h1]
  · rw [mw_pnj hb, mw_pne (by decide)]
theorem c143 (h : CT s tp tl) (h7 : tl + 4 ≤ 700) {g : Nat → Nat} (hg : ∀ k, k < 4 → g k = ub (x >>> (nI (24 - 8 * k) &&& 31))) : ∃ t, mj_call X d 143 [.ref 0, .int x] (mw_U s) = some (.inl none, mw_U t) ∧ CT t (tpf tp tl g 4) (tl + 4) ∧ t.2 = s.2 ∧ (∀ c, ¬ c = 0 → ¬ c = 1 → t.1 c = s.1 c) ∧ (∀ b, ¬ b = 9 → t.1 0 b = s.1 0 b) := by
  obtain ⟨t1, e1, c1', a1, b1', d1⟩ := w143 (X := X) (d := d) (x := x) (sh := 24) h (by omega) (by decide)
  obtain ⟨t2, e2, c2', a2, b2', d2⟩ := w143 (X := X) (d := d) (x := x) (sh := 16) c1' (by omega) (by decide)
  obtain ⟨t3, e3, c3', a3, b3', d3⟩ := w143 (X := X) (d := d) (x := x) (sh := 8) c2' (by omega) (by decide)
  obtain ⟨t4, e4, c4', a4, b4', d4⟩ := w143 (X := X) (d := d) (x := x) (sh := 0) c3' (by omega) (by decide)
  have g0 := hg 0 (by decide)
  have g1 := hg 1 (by decide)
  have g2 := hg 2 (by decide)
  have g3 := hg 3 (by decide)
  have z : tpf tp tl g 0 = tp := by funext j; unfold tpf; rw [if_neg (by omega)]
  refine ⟨t4, ?_, ?_, by rw [a4, a3, a2, a1], fun c h0 h1 => by rw [b4' c h0 h1, b3' c h0 h1, b2' c h0 h1, b1' c h0 h1], fun b hb => by rw [d4 b hb, d3 b hb, d2 b hb, d1 b hb]⟩
  · have m0 : nI 24 + (-8) = nI 16 := by decide
    have m1 : nI 16 + (-8) = nI 8 := by decide
    have m2 : nI 8 + (-8) = nI 0 := by decide
    have m3 : nI 0 + (-8) = -8 := by decide
    have n0 : ¬ nI 24 < 0 := by decide
    have n1 : ¬ nI 16 < 0 := by decide
    have n2 : ¬ nI 8 < 0 := by decide
    have n3 : ¬ nI 0 < 0 := by decide
    have n4 : (-8 : Int32) < 0 := by decide
    rw [b143, b143_0, b143_3, if_neg n0, e1, m0, b143_3, if_neg n1, e2, m1, b143_3, if_neg n2, e3, m2, b143_3, if_neg n3, e4, m3, b143_3, if_pos n4, b143_46]
  · rw [← tpf_s, ← tpf_s, ← tpf_s, ← tpf_s, z, g0, g1, g2, g3]
    exact c4'
theorem tpf_add {g : Nat → Nat} {n m : Nat} : tpf (tpf tp tl g n) (tl + n) (fun k => g (n + k)) m = tpf tp tl g (n + m) := by
  funext j
  unfold tpf
  by_cases h : tl + n ≤ j ∧ j < tl + n + m
  · rw [if_pos h, if_pos (by omega)]
    dsimp only
    rw [show n + (j - (tl + n)) = j - tl by omega]
  · rw [if_neg h]
    by_cases h2 : tl ≤ j ∧ j < tl + n
    · rw [if_pos h2, if_pos (by omega)]
    · rw [if_neg h2, if_neg (by omega)]
theorem q142 (h : CT s tp tl) (h7 : tl + 20 ≤ 700) : ∃ t, mj_call X (d + 1) 142 [.ref 0, .int x1, .int x2, .int x3, .int x4, .int x5] (mw_U s) = some (.inl (some (.int (nI (tl + 20)))), mw_U t) ∧ CT t (tpf tp tl (fby x1 x2 x3 x4 x5) 20) (tl + 20) ∧ t.2 = s.2 ∧ (∀ c, ¬ c = 0 → ¬ c = 1 → t.1 c = s.1 c) ∧ (∀ b, ¬ b = 9 → t.1 0 b = s.1 0 b) := by
  obtain ⟨G, hG⟩ : ∃ G, G = fby x1 x2 x3 x4 x5 := ⟨_, rfl⟩
  have lem : ∀ i, i < 20 → i % 4 < 4 := fun i _ => Nat.mod_lt _ (by decide)
  obtain ⟨t1, e1, c1', a1, b1', d1⟩ := c143 (X := X) (d := d) (x := x1) (g := G) h (by omega) (fun k hk => by rw [hG]; unfold fby; rw [if_pos hk, Nat.mod_eq_of_lt hk])
  obtain ⟨t2, e2, c2', a2, b2', d2⟩ := c143 (X := X) (d := d) (x := x2) (g := fun k => G (4 + k)) c1' (by omega) (fun k hk => by rw [hG]; unfold fby; rw [if_neg (by omega), if_pos (by omega), show (4 + k) % 4 = k by omega])
  have q2 : CT t2 (tpf tp tl G 8) (tl + 8) := by
    rw [tpf_add] at c2'
    exact c2'
  obtain ⟨t3, e3, c3', a3, b3', d3⟩ := c143 (X := X) (d := d) (x := x3) (g := fun k => G (8 + k)) q2 (by omega) (fun k hk => by rw [hG]; unfold fby; rw [if_neg (by omega), if_neg (by omega), if_pos (by omega), show (8 + k) % 4 = k by omega])
  have q3 : CT t3 (tpf tp tl G 12) (tl + 12) := by
    rw [tpf_add] at c3'
    exact c3'
  obtain ⟨t4, e4, c4', a4, b4', d4⟩ := c143 (X := X) (d := d) (x := x4) (g := fun k => G (12 + k)) q3 (by omega) (fun k hk => by rw [hG]; unfold fby; rw [if_neg (by omega), if_neg (by omega), if_neg (by omega), if_pos (by omega), show (12 + k) % 4 = k by omega])
  have q4 : CT t4 (tpf tp tl G 16) (tl + 16) := by
    rw [tpf_add] at c4'
    exact c4'
  obtain ⟨t5, e5, c5', a5, b5', d5⟩ := c143 (X := X) (d := d) (x := x5) (g := fun k => G (16 + k)) q4 (by omega) (fun k hk => by rw [hG]; unfold fby; rw [if_neg (by omega), if_neg (by omega), if_neg (by omega), if_neg (by omega), show (16 + k) % 4 = k by omega])
  have q5 : CT t5 (tpf tp tl G 20) (tl + 20) := by
    rw [tpf_add] at c5'
    exact c5'
  have hh := q5
  rw [hG] at hh
  refine ⟨t5, ?_, hh, by rw [a5, a4, a3, a2, a1], fun c h0 h1 => by rw [b5' c h0 h1, b4' c h0 h1, b3' c h0 h1, b2' c h0 h1, b1' c h0 h1], fun b hb => by rw [d5 b hb, d4 b hb, d3 b hb, d2 b hb, d1 b hb]⟩
  have h2 := h.2.1
  have h9 := hh.2.1
  simp (disch := first | assumption | exact hf _ | omega) only [b142, b142_0, b142_13, b142_15, b142_20, b142_25, b142_30, b142_36, b142_42, nI_add, mn_mul, mn_sub, mn_m1, mn_m8, mn_eq, mn_lt, mn_le, mn_eq0, mn_0eq, mn_lt0, mn_0lt, mn_le0, mn_0le, mn_eqm, mn_meq, mn_ltm, mn_mlt, mn_lem, mn_mle, mn_mm1, mn_mm2, mn_mm3, mn_mm4, mn_mm5, mn_mm6, mn_and, mn_or, mn_an, mn_shl, mn_shr, mn_div, mn_rem, mn_clamp, mn_in, mn_inm, mn_nz, mn_zo, mn_min, mn_max, mn_abs, mn_rfit, mn_cp, mn_les, mn_gre, mn_a127, mn_a15, mn_a1, mn_a255, mn_tn0, mn_tn0e, mn_tnr, mn_tnz, mr_get, mr_ne, mr_put, mu_ne, mu_eq, mj_bk_i, mj_bk_v, mj_bk_x, decide_eq_true_eq, decide_true, decide_false, Bool.false_eq_true, Bool.true_eq_false, reduceCtorEq, mt_le_t, mt_le_f, mt_lt_t, mt_lt_f, mt_eq_t, mt_eq_f, mt_ee, not_true_eq_false, not_false_eq_true, and_true, true_and, and_self, Nat.zero_add, Nat.add_zero, Nat.one_mul, Nat.mul_one, Nat.reduceAdd, Nat.reduceMul, Nat.reduceSub, Nat.reducePow, Nat.reduceDiv, Nat.reduceMod, ↓reduceIte, h2, e1, e2, e3, e4, e5, h9]
theorem n142 (h : CT s tp tl) (h7 : ¬ tl + 20 ≤ 700) : mj_call X (d + 1) 142 [.ref 0, .int x1, .int x2, .int x3, .int x4, .int x5] (mw_U s) = some (.inl (some (.int (-1))), mw_U s) := by
  have h2 := h.2.1
  have h1 := h.1
  simp (disch := first | assumption | exact hf _ | omega) only [b142, b142_0, b142_13, b142_15, b142_20, b142_25, b142_30, b142_36, b142_42, nI_add, mn_mul, mn_sub, mn_m1, mn_m8, mn_eq, mn_lt, mn_le, mn_eq0, mn_0eq, mn_lt0, mn_0lt, mn_le0, mn_0le, mn_eqm, mn_meq, mn_ltm, mn_mlt, mn_lem, mn_mle, mn_mm1, mn_mm2, mn_mm3, mn_mm4, mn_mm5, mn_mm6, mn_and, mn_or, mn_an, mn_shl, mn_shr, mn_div, mn_rem, mn_clamp, mn_in, mn_inm, mn_nz, mn_zo, mn_min, mn_max, mn_abs, mn_rfit, mn_cp, mn_les, mn_gre, mn_a127, mn_a15, mn_a1, mn_a255, mn_tn0, mn_tn0e, mn_tnr, mn_tnz, mr_get, mr_ne, mr_put, mu_ne, mu_eq, mj_bk_i, mj_bk_v, mj_bk_x, decide_eq_true_eq, decide_true, decide_false, Bool.false_eq_true, Bool.true_eq_false, reduceCtorEq, mt_le_t, mt_le_f, mt_lt_t, mt_lt_f, mt_eq_t, mt_eq_f, mt_ee, not_true_eq_false, not_false_eq_true, and_true, true_and, and_self, Nat.zero_add, Nat.add_zero, Nat.one_mul, Nat.mul_one, Nat.reduceAdd, Nat.reduceMul, Nat.reduceSub, Nat.reducePow, Nat.reduceDiv, Nat.reduceMod, ↓reduceIte, h2, h7]
theorem mod4 {x : Nat} : x - x / 4 * 4 = x % 4 := by omega
theorem m195 (h : RT s tp tl) (h7 : tl + 20 ≤ 700) : ∃ t, mj_call X d 195 [.ref 42, .int x1, .int x2, .int x3, .int x4, .int x5] (mw_U (mp s f)) = some (.inl (some (.int (nI (tl + 20)))), mw_U (mp t f)) ∧ RT t (tpf tp tl (fby x1 x2 x3 x4 x5) 20) (tl + 20) ∧ t.1 42 2 = nI 0 ∧ t.2 = s.2 ∧ (∀ c, ¬ c = 42 → ¬ c = 56 → t.1 c = s.1 c) ∧ (∀ b, ¬ b = 2 → ¬ b = 15 → t.1 42 b = s.1 42 b) := by
  obtain ⟨h1, h2, h3⟩ := h
  have e0 : (mw_p s 42 2 (nI 0)).1 42 15 = nI tl := by rw [mw_pnj (by decide)]; exact h2
  have start : mj_call X d 195 [.ref 42, .int x1, .int x2, .int x3, .int x4, .int x5] (mw_U (mp s f)) = mj_exec X d 195 23 [some (.ref 42), some (.int x1), some (.int x2), some (.int x3), some (.int x4), some (.int x5), some (.int (nI 0)), none] [] (mw_U (mp (mw_p s 42 2 (nI 0)) f)) := by
    rw [b195, b195_0]
    simp (disch := first | assumption | exact hf _ | omega) only [b195, b195_0, b195_18, b195_20, b195_30, b195_36, b195_40, b195_47, b195_51, b195_58, b195_62, b195_69, b195_74, b195_76, b195_120, nI_add, mn_mul, mn_sub, mn_m1, mn_m8, mn_eq, mn_lt, mn_le, mn_eq0, mn_0eq, mn_lt0, mn_0lt, mn_le0, mn_0le, mn_eqm, mn_meq, mn_ltm, mn_mlt, mn_lem, mn_mle, mn_mm1, mn_mm2, mn_mm3, mn_mm4, mn_mm5, mn_mm6, mn_and, mn_or, mn_an, mn_shl, mn_shr, mn_div, mn_rem, mn_clamp, mn_in, mn_inm, mn_nz, mn_zo, mn_min, mn_max, mn_abs, mn_rfit, mn_cp, mn_les, mn_gre, mn_a127, mn_a15, mn_a1, mn_a255, mn_tn0, mn_tn0e, mn_tnr, mn_tnz, mr_get, mr_ne, mr_put, mu_ne, mu_eq, mj_bk_i, mj_bk_v, mj_bk_x, decide_eq_true_eq, decide_true, decide_false, Bool.false_eq_true, Bool.true_eq_false, reduceCtorEq, mt_le_t, mt_le_f, mt_lt_t, mt_lt_f, mt_eq_t, mt_eq_f, mt_ee, not_true_eq_false, not_false_eq_true, and_true, true_and, and_self, Nat.zero_add, Nat.add_zero, Nat.one_mul, Nat.mul_one, Nat.reduceAdd, Nat.reduceMul, Nat.reduceSub, Nat.reducePow, Nat.reduceDiv, Nat.reduceMod, ↓reduceIte, mp_h, mp_w, mp_c, mp_s, mp_d, mp_n, mp_54, mp_52, mp_55, mp_l, mp_o, mp_42, mp_45, gh_gp, gw_gp, gc_gp, mw_pne, Nat.or_zero, mp_wo, e0]
  rw [start]
  obtain ⟨⟨t, l⟩, ⟨g1, g2, g3, g4, g5⟩, e⟩ := mr_forg (α := Unit) (γ := mw_S × Option Value) (E := fun i _ z => mj_exec X d 195 23 [some (.ref 42), some (.int x1), some (.int x2), some (.int x3), some (.int x4), some (.int x5), some (.int (nI i)), z.2] [] (mw_U (mp z.1 f))) (F := fun _ a => a) (I := fun i _ z => RT z.1 (tpf tp tl (fby x1 x2 x3 x4 x5) i) (tl + i) ∧ z.1.1 42 2 = nI 0 ∧ z.1.2 = s.2 ∧ (∀ c, ¬ c = 42 → ¬ c = 56 → z.1.1 c = s.1 c) ∧ (∀ b, ¬ b = 2 → ¬ b = 15 → z.1.1 42 b = s.1 42 b)) (N := 20) (by
    intro i _ z hi ⟨⟨j1, j2, j3⟩, g2, g3, g4, g5⟩
    obtain ⟨t, l⟩ := z
    dsimp only at j2 j3 g2 g3 g4 g5 ⊢
    have hm : i % 4 < 4 := Nat.mod_lt _ (by decide)
    have hlt : tl + i < 700 := by omega
    have e2 : ∀ v, (mw_p t 56 (tl + i) v).1 42 15 = nI (tl + i) := fun v => by rw [mw_pne (by decide)]; exact j2
    obtain ⟨w, hw⟩ : ∃ w : Int32, w = (if i < 4 then x1 else if i < 8 then x2 else if i < 12 then x3 else if i < 16 then x4 else x5) := ⟨_, rfl⟩
    have hb : fby x1 x2 x3 x4 x5 i = ub (w >>> (nI (24 - 8 * (i % 4)) &&& 31)) := by rw [hw]; rfl
    refine ⟨(mw_p (mw_p t 56 (tl + i) (nI (fby x1 x2 x3 x4 x5 i))) 42 15 (nI (tl + i + 1)), some (.int w)), ⟨⟨by omega, mw_peq, fun j hj => ?_⟩, ?_, g3, fun c h0 h1 => ?_, fun b b2 b15 => ?_⟩, ?_⟩
    · dsimp only
      rw [mw_pne (by decide), ← tpf_s]
      unfold mr_u
      by_cases he : j = tl + i
      · rw [if_pos he, he, mw_peq]
      · rw [if_neg he, mw_pnj he]; exact j3 j (by omega)
    · dsimp only
      rw [mw_pnj (by decide), mw_pne (by decide)]; exact g2
    · dsimp only
      rw [← g4 c h0 h1]
      funext b; rw [mw_pne h0, mw_pne h1]
    · dsimp only
      rw [mw_pnj b15, mw_pne (by decide)]; exact g5 b b2 b15
    · have s1 : mj_exec X d 195 23 [some (.ref 42), some (.int x1), some (.int x2), some (.int x3), some (.int x4), some (.int x5), some (.int (nI i)), l] [] (mw_U (mp t f)) = mj_exec X d 195 76 [some (.ref 42), some (.int x1), some (.int x2), some (.int x3), some (.int x4), some (.int x5), some (.int (nI i)), l] [.int w] (mw_U (mp t f)) := by
        rw [b195_23, hw]
        by_cases q1 : i < 4
        · have p1 : ¬ 4 ≤ i := by omega
          simp (disch := first | assumption | exact hf _ | omega) only [nI_add, mn_mul, mn_sub, mn_m1, mn_m8, mn_eq, mn_lt, mn_le, mn_eq0, mn_0eq, mn_lt0, mn_0lt, mn_le0, mn_0le, mn_eqm, mn_meq, mn_ltm, mn_mlt, mn_lem, mn_mle, mn_mm1, mn_mm2, mn_mm3, mn_mm4, mn_mm5, mn_mm6, mn_and, mn_or, mn_an, mn_shl, mn_shr, mn_div, mn_rem, mn_clamp, mn_in, mn_inm, mn_nz, mn_zo, mn_min, mn_max, mn_abs, mn_rfit, mn_cp, mn_les, mn_gre, mn_a127, mn_a15, mn_a1, mn_a255, mn_tn0, mn_tn0e, mn_tnr, mn_tnz, mr_get, mr_ne, mr_put, mu_ne, mu_eq, mj_bk_i, mj_bk_v, mj_bk_x, decide_eq_true_eq, decide_true, decide_false, Bool.false_eq_true, Bool.true_eq_false, reduceCtorEq, mt_le_t, mt_le_f, mt_lt_t, mt_lt_f, mt_eq_t, mt_eq_f, mt_ee, not_true_eq_false, not_false_eq_true, and_true, true_and, and_self, Nat.zero_add, Nat.add_zero, Nat.one_mul, Nat.mul_one, Nat.reduceAdd, Nat.reduceMul, Nat.reduceSub, Nat.reducePow, Nat.reduceDiv, Nat.reduceMod, ↓reduceIte, b195_30, b195_36, p1, q1]
        · have p1 : 4 ≤ i := by omega
          by_cases q2 : i < 8
          · have p2 : ¬ 8 ≤ i := by omega
            simp (disch := first | assumption | exact hf _ | omega) only [nI_add, mn_mul, mn_sub, mn_m1, mn_m8, mn_eq, mn_lt, mn_le, mn_eq0, mn_0eq, mn_lt0, mn_0lt, mn_le0, mn_0le, mn_eqm, mn_meq, mn_ltm, mn_mlt, mn_lem, mn_mle, mn_mm1, mn_mm2, mn_mm3, mn_mm4, mn_mm5, mn_mm6, mn_and, mn_or, mn_an, mn_shl, mn_shr, mn_div, mn_rem, mn_clamp, mn_in, mn_inm, mn_nz, mn_zo, mn_min, mn_max, mn_abs, mn_rfit, mn_cp, mn_les, mn_gre, mn_a127, mn_a15, mn_a1, mn_a255, mn_tn0, mn_tn0e, mn_tnr, mn_tnz, mr_get, mr_ne, mr_put, mu_ne, mu_eq, mj_bk_i, mj_bk_v, mj_bk_x, decide_eq_true_eq, decide_true, decide_false, Bool.false_eq_true, Bool.true_eq_false, reduceCtorEq, mt_le_t, mt_le_f, mt_lt_t, mt_lt_f, mt_eq_t, mt_eq_f, mt_ee, not_true_eq_false, not_false_eq_true, and_true, true_and, and_self, Nat.zero_add, Nat.add_zero, Nat.one_mul, Nat.mul_one, Nat.reduceAdd, Nat.reduceMul, Nat.reduceSub, Nat.reducePow, Nat.reduceDiv, Nat.reduceMod, ↓reduceIte, b195_30, b195_40, b195_47, p1, p2, q1, q2]
          · have p2 : 8 ≤ i := by omega
            by_cases q3 : i < 12
            · have p3 : ¬ 12 ≤ i := by omega
              simp (disch := first | assumption | exact hf _ | omega) only [nI_add, mn_mul, mn_sub, mn_m1, mn_m8, mn_eq, mn_lt, mn_le, mn_eq0, mn_0eq, mn_lt0, mn_0lt, mn_le0, mn_0le, mn_eqm, mn_meq, mn_ltm, mn_mlt, mn_lem, mn_mle, mn_mm1, mn_mm2, mn_mm3, mn_mm4, mn_mm5, mn_mm6, mn_and, mn_or, mn_an, mn_shl, mn_shr, mn_div, mn_rem, mn_clamp, mn_in, mn_inm, mn_nz, mn_zo, mn_min, mn_max, mn_abs, mn_rfit, mn_cp, mn_les, mn_gre, mn_a127, mn_a15, mn_a1, mn_a255, mn_tn0, mn_tn0e, mn_tnr, mn_tnz, mr_get, mr_ne, mr_put, mu_ne, mu_eq, mj_bk_i, mj_bk_v, mj_bk_x, decide_eq_true_eq, decide_true, decide_false, Bool.false_eq_true, Bool.true_eq_false, reduceCtorEq, mt_le_t, mt_le_f, mt_lt_t, mt_lt_f, mt_eq_t, mt_eq_f, mt_ee, not_true_eq_false, not_false_eq_true, and_true, true_and, and_self, Nat.zero_add, Nat.add_zero, Nat.one_mul, Nat.mul_one, Nat.reduceAdd, Nat.reduceMul, Nat.reduceSub, Nat.reducePow, Nat.reduceDiv, Nat.reduceMod, ↓reduceIte, b195_30, b195_40, b195_51, b195_58, p1, p2, p3, q1, q2, q3]
            · have p3 : 12 ≤ i := by omega
              by_cases q4 : i < 16
              · have p4 : ¬ 16 ≤ i := by omega
                simp (disch := first | assumption | exact hf _ | omega) only [nI_add, mn_mul, mn_sub, mn_m1, mn_m8, mn_eq, mn_lt, mn_le, mn_eq0, mn_0eq, mn_lt0, mn_0lt, mn_le0, mn_0le, mn_eqm, mn_meq, mn_ltm, mn_mlt, mn_lem, mn_mle, mn_mm1, mn_mm2, mn_mm3, mn_mm4, mn_mm5, mn_mm6, mn_and, mn_or, mn_an, mn_shl, mn_shr, mn_div, mn_rem, mn_clamp, mn_in, mn_inm, mn_nz, mn_zo, mn_min, mn_max, mn_abs, mn_rfit, mn_cp, mn_les, mn_gre, mn_a127, mn_a15, mn_a1, mn_a255, mn_tn0, mn_tn0e, mn_tnr, mn_tnz, mr_get, mr_ne, mr_put, mu_ne, mu_eq, mj_bk_i, mj_bk_v, mj_bk_x, decide_eq_true_eq, decide_true, decide_false, Bool.false_eq_true, Bool.true_eq_false, reduceCtorEq, mt_le_t, mt_le_f, mt_lt_t, mt_lt_f, mt_eq_t, mt_eq_f, mt_ee, not_true_eq_false, not_false_eq_true, and_true, true_and, and_self, Nat.zero_add, Nat.add_zero, Nat.one_mul, Nat.mul_one, Nat.reduceAdd, Nat.reduceMul, Nat.reduceSub, Nat.reducePow, Nat.reduceDiv, Nat.reduceMod, ↓reduceIte, b195_30, b195_40, b195_51, b195_62, b195_69, p1, p2, p3, p4, q1, q2, q3, q4]
              · have p4 : 16 ≤ i := by omega
                simp (disch := first | assumption | exact hf _ | omega) only [nI_add, mn_mul, mn_sub, mn_m1, mn_m8, mn_eq, mn_lt, mn_le, mn_eq0, mn_0eq, mn_lt0, mn_0lt, mn_le0, mn_0le, mn_eqm, mn_meq, mn_ltm, mn_mlt, mn_lem, mn_mle, mn_mm1, mn_mm2, mn_mm3, mn_mm4, mn_mm5, mn_mm6, mn_and, mn_or, mn_an, mn_shl, mn_shr, mn_div, mn_rem, mn_clamp, mn_in, mn_inm, mn_nz, mn_zo, mn_min, mn_max, mn_abs, mn_rfit, mn_cp, mn_les, mn_gre, mn_a127, mn_a15, mn_a1, mn_a255, mn_tn0, mn_tn0e, mn_tnr, mn_tnz, mr_get, mr_ne, mr_put, mu_ne, mu_eq, mj_bk_i, mj_bk_v, mj_bk_x, decide_eq_true_eq, decide_true, decide_false, Bool.false_eq_true, Bool.true_eq_false, reduceCtorEq, mt_le_t, mt_le_f, mt_lt_t, mt_lt_f, mt_eq_t, mt_eq_f, mt_ee, not_true_eq_false, not_false_eq_true, and_true, true_and, and_self, Nat.zero_add, Nat.add_zero, Nat.one_mul, Nat.mul_one, Nat.reduceAdd, Nat.reduceMul, Nat.reduceSub, Nat.reducePow, Nat.reduceDiv, Nat.reduceMod, ↓reduceIte, b195_30, b195_40, b195_51, b195_62, b195_74, p1, p2, p3, p4, q1, q2, q3, q4]
      rw [s1]
      have h56 : mpx 56 := by unfold mpx; omega
      simp (disch := first | assumption | exact hf _ | omega) only [b195_76, mn_nz, mt_eq_f, mp_42, j2, mn_in, decide_eq_true_eq, mt_lt_t, ↓reduceIte, mn_clamp, mn_div, mn_mul, mn_sub, mod4, ub_ref, ← hb, mp_wo, e2, nI_add, not_false_eq_true]) (a := ()) (g := (mw_p s 42 2 (nI 0), none)) ⟨⟨h1, e0, fun j hj => by
        have z : tpf tp tl (fby x1 x2 x3 x4 x5) 0 = tp := by funext j; unfold tpf; rw [if_neg (by omega)]
        dsimp only
        rw [z, mw_pne (by decide)]; exact h3 j hj⟩, mw_peq, rfl, fun c h0 _ => by funext b; exact mw_pne h0, fun b b2 _ => mw_pnj b2⟩ 20 (Nat.le_refl 20)
  refine ⟨t, ?_, g1, g2, g3, g4, g5⟩
  refine e.trans ?_
  have h9 := g1.2.1
  dsimp only at h9
  rw [b195_23]
  simp (disch := first | assumption | exact hf _ | omega) only [b195, b195_0, b195_18, b195_20, b195_30, b195_36, b195_40, b195_47, b195_51, b195_58, b195_62, b195_69, b195_74, b195_76, b195_120, nI_add, mn_mul, mn_sub, mn_m1, mn_m8, mn_eq, mn_lt, mn_le, mn_eq0, mn_0eq, mn_lt0, mn_0lt, mn_le0, mn_0le, mn_eqm, mn_meq, mn_ltm, mn_mlt, mn_lem, mn_mle, mn_mm1, mn_mm2, mn_mm3, mn_mm4, mn_mm5, mn_mm6, mn_and, mn_or, mn_an, mn_shl, mn_shr, mn_div, mn_rem, mn_clamp, mn_in, mn_inm, mn_nz, mn_zo, mn_min, mn_max, mn_abs, mn_rfit, mn_cp, mn_les, mn_gre, mn_a127, mn_a15, mn_a1, mn_a255, mn_tn0, mn_tn0e, mn_tnr, mn_tnz, mr_get, mr_ne, mr_put, mu_ne, mu_eq, mj_bk_i, mj_bk_v, mj_bk_x, decide_eq_true_eq, decide_true, decide_false, Bool.false_eq_true, Bool.true_eq_false, reduceCtorEq, mt_le_t, mt_le_f, mt_lt_t, mt_lt_f, mt_eq_t, mt_eq_f, mt_ee, not_true_eq_false, not_false_eq_true, and_true, true_and, and_self, Nat.zero_add, Nat.add_zero, Nat.one_mul, Nat.mul_one, Nat.reduceAdd, Nat.reduceMul, Nat.reduceSub, Nat.reducePow, Nat.reduceDiv, Nat.reduceMod, ↓reduceIte, mp_h, mp_w, mp_c, mp_s, mp_d, mp_n, mp_54, mp_52, mp_55, mp_l, mp_o, mp_42, mp_45, gh_gp, gw_gp, gc_gp, mw_pne, Nat.or_zero, h9]
theorem n195 (h : RT s tp tl) (h7 : ¬ tl + 20 ≤ 700) : mj_call X d 195 [.ref 42, .int x1, .int x2, .int x3, .int x4, .int x5] (mw_U (mp s f)) = some (.inl (some (.int (-1))), mw_U (mp (mw_p s 42 2 (nI 0)) f)) := by
  have h1 := h.1
  have e0 : (mw_p s 42 2 (nI 0)).1 42 15 = nI tl := by rw [mw_pnj (by decide)]; exact h.2.1
  rw [b195, b195_0]
  simp (disch := first | assumption | exact hf _ | omega) only [b195, b195_0, b195_18, b195_20, b195_30, b195_36, b195_40, b195_47, b195_51, b195_58, b195_62, b195_69, b195_74, b195_76, b195_120, nI_add, mn_mul, mn_sub, mn_m1, mn_m8, mn_eq, mn_lt, mn_le, mn_eq0, mn_0eq, mn_lt0, mn_0lt, mn_le0, mn_0le, mn_eqm, mn_meq, mn_ltm, mn_mlt, mn_lem, mn_mle, mn_mm1, mn_mm2, mn_mm3, mn_mm4, mn_mm5, mn_mm6, mn_and, mn_or, mn_an, mn_shl, mn_shr, mn_div, mn_rem, mn_clamp, mn_in, mn_inm, mn_nz, mn_zo, mn_min, mn_max, mn_abs, mn_rfit, mn_cp, mn_les, mn_gre, mn_a127, mn_a15, mn_a1, mn_a255, mn_tn0, mn_tn0e, mn_tnr, mn_tnz, mr_get, mr_ne, mr_put, mu_ne, mu_eq, mj_bk_i, mj_bk_v, mj_bk_x, decide_eq_true_eq, decide_true, decide_false, Bool.false_eq_true, Bool.true_eq_false, reduceCtorEq, mt_le_t, mt_le_f, mt_lt_t, mt_lt_f, mt_eq_t, mt_eq_f, mt_ee, not_true_eq_false, not_false_eq_true, and_true, true_and, and_self, Nat.zero_add, Nat.add_zero, Nat.one_mul, Nat.mul_one, Nat.reduceAdd, Nat.reduceMul, Nat.reduceSub, Nat.reducePow, Nat.reduceDiv, Nat.reduceMod, ↓reduceIte, mp_h, mp_w, mp_c, mp_s, mp_d, mp_n, mp_54, mp_52, mp_55, mp_l, mp_o, mp_42, mp_45, gh_gp, gw_gp, gc_gp, mw_pne, Nat.or_zero, mp_wo, e0, h7]
end
